/-! ===== what gather finds: all relabellings that bring one permutation to another, in order ===== -/
theorem hx_first {f g : Nat → Nat} (hf : B7 f) (hg : B7 g) {x : Nat} (h1 : 1 ≤ x) (h2 : x ≤ 7) (he : ∀ z, 1 ≤ z → z < x → f z = g z) (hl : f x < g x) : hx f < hx g := by
  have a1 := hf 1 (by omega) (by omega)
  have a2 := hf 2 (by omega) (by omega)
  have a3 := hf 3 (by omega) (by omega)
  have a4 := hf 4 (by omega) (by omega)
  have a5 := hf 5 (by omega) (by omega)
  have a6 := hf 6 (by omega) (by omega)
  have a7 := hf 7 (by omega) (by omega)
  rw [hx_eq, hx_eq]
  rcases (show x = 1 ∨ x = 2 ∨ x = 3 ∨ x = 4 ∨ x = 5 ∨ x = 6 ∨ x = 7 by omega) with rfl | rfl | rfl | rfl | rfl | rfl | rfl
  · omega
  · rw [he 1 (by omega) (by omega)]; omega
  · rw [he 1 (by omega) (by omega), he 2 (by omega) (by omega)]; omega
  · rw [he 1 (by omega) (by omega), he 2 (by omega) (by omega), he 3 (by omega) (by omega)]; omega
  · rw [he 1 (by omega) (by omega), he 2 (by omega) (by omega), he 3 (by omega) (by omega), he 4 (by omega) (by omega)]; omega
  · rw [he 1 (by omega) (by omega), he 2 (by omega) (by omega), he 3 (by omega) (by omega), he 4 (by omega) (by omega), he 5 (by omega) (by omega)]; omega
  · rw [he 1 (by omega) (by omega), he 2 (by omega) (by omega), he 3 (by omega) (by omega), he 4 (by omega) (by omega), he 5 (by omega) (by omega), he 6 (by omega) (by omega)]; omega
theorem catY_mem {α : Type} {F : Nat → List α} {a : α} : ∀ n, a ∈ catY F n ↔ ∃ y, 1 ≤ y ∧ y ≤ n ∧ a ∈ F y
  | 0 => by simp only [catY, List.not_mem_nil]; exact ⟨fun h => h.elim, fun ⟨y, h1, h2, _⟩ => by omega⟩
  | n + 1 => by
    simp only [catY, List.mem_append, catY_mem n]
    constructor
    · rintro (⟨y, a, b, c⟩ | h)
      · exact ⟨y, a, by omega, c⟩
      · exact ⟨n + 1, by omega, by omega, h⟩
    · rintro ⟨y, a, b, c⟩
      by_cases q : y = n + 1
      · subst q; exact Or.inr c
      · exact Or.inl ⟨y, a, by omega, c⟩
theorem catY_pw {α : Type} {F : Nat → List α} {R : α → α → Prop} : ∀ n, (∀ y, 1 ≤ y → y ≤ n → (F y).Pairwise R) → (∀ y z a b, 1 ≤ y → y < z → z ≤ n → a ∈ F y → b ∈ F z → R a b) → (catY F n).Pairwise R
  | 0, _, _ => List.Pairwise.nil
  | n + 1, h1, h2 => by
    simp only [catY, List.pairwise_append]
    refine ⟨catY_pw n (fun y a b => h1 y a (by omega)) (fun y z a b p q r s u => h2 y z a b p q (by omega) s u), h1 (n + 1) (by omega) (Nat.le_refl _), fun a ha b hb => ?_⟩
    obtain ⟨y, p, q, r⟩ := (catY_mem n).mp ha
    exact h2 y (n + 1) a b p (by omega) (Nat.le_refl _) r hb
def Part (n : Nat) (f t g : Nat → Nat) (left free : Nat) : Prop :=
  LeftOK f g left ∧ free < 128 ∧ (∀ y, 1 ≤ y → y ≤ 7 → (hasb free y ↔ y ≤ n ∧ ∀ z, 1 ≤ z → z ≤ n → ¬ hasb left z → g z ≠ y)) ∧ (∀ z, 1 ≤ z → z ≤ 7 → hasb left z → z ≤ n) ∧ (∀ z, (z = 0 ∨ n < z) → g z = z) ∧ (∀ z, 1 ≤ z → z ≤ n → ¬ hasb left z → 1 ≤ g z ∧ g z ≤ n) ∧ (∀ z u, 1 ≤ z → z ≤ n → ¬ hasb left z → 1 ≤ u → u ≤ n → ¬ hasb left u → g z = g u → z = u) ∧ (∀ z, 1 ≤ z → z ≤ n → ¬ hasb left z → t (g z) = g (f z))
section GA
variable {n : Nat} {f t g : Nat → Nat} {left free : Nat}
theorem left_back (hf : Pm 7 f) (h : LeftOK f g left) {z : Nat} (h1 : 1 ≤ z) (h2 : z ≤ 7) (hz : hasb left (f z)) : hasb left z := by
  have h7 := hf.b7 (by decide) z h1 h2
  have c := ring_cyc hf h7.1 h7.2
  obtain ⟨L, hL⟩ : ∃ q, popc (ringN f (f z)) = q + 1 := ⟨popc (ringN f (f z)) - 1, by have := c.1; omega⟩
  have d := c.2.2.2.1
  rw [hL, pstep_s] at d
  rw [← hf.inj d]
  exact h.ring hf h7.1 h7.2 hz L
theorem psteps_map {r : Nat → Nat} (hr : ∀ z, t (r z) = r (f z)) (x : Nat) : ∀ i, pstep t i (r x) = r (pstep f i x)
  | 0 => rfl
  | i + 1 => by rw [pstep_s, pstep_s, psteps_map hr x i, hr]
theorem ring_size {r : Nat → Nat} (hf : Pm 7 f) (ht : Pm 7 t) (hr7 : Pm 7 r) (hr : ∀ z, t (r z) = r (f z)) {x : Nat} (h1 : 1 ≤ x) (h2 : x ≤ 7) : popc (ringN t (r x)) = popc (ringN f x) := by
  have y := hr7.b7 (by decide) x h1 h2
  have c := ring_cyc hf h1 h2
  have d := ring_cyc ht y.1 y.2
  have e1 := c.2.2.2.1
  have e2 := d.2.2.2.1
  have e3 : pstep f (popc (ringN t (r x))) x = x := hr7.inj (by rw [← psteps_map hr, e2])
  have e4 : pstep t (popc (ringN f x)) (r x) = r x := by rw [psteps_map hr, e1]
  rcases Nat.lt_trichotomy (popc (ringN t (r x))) (popc (ringN f x)) with q | q | q
  · exact absurd e3.symm (c.2.2.2.2.1 0 _ (by have := d.1; omega) q)
  · exact q
  · exact absurd e4.symm (d.2.2.2.2.1 0 _ (by have := c.1; omega) q)
theorem Part.step (hn : n ≤ 7) (hf : Pm n f) (ht : Pm n t) (h : Part n f t g left free) (h0 : left ≠ 0) {y : Nat} (hy1 : 1 ≤ y) (hyn : y ≤ n) (hfr : hasb free y) (hsz : popc (ringN t y) = popc (ringN f (lowN left))) : Part n f t (lay f t (lowN left) y g (popc (ringN f (lowN left)))) (andn left (ringN f (lowN left))) (andn free (ringN t y)) := by
  obtain ⟨hok, hfl, hF, hLn, hT, hR, hI, hC⟩ := h
  have hf7 := hf.mono hn
  have ht7 := ht.mono hn
  have hl := low_in left hok.1 h0
  have hb := low_has left hok.1 h0
  have c := ring_cyc hf7 hl.1 hl.2
  have d := ring_cyc ht7 hy1 (by omega : y ≤ 7)
  have rl := ringN_lt (hf7.b7 (by decide)) hl.1 hl.2
  have rt := ringN_lt (ht7.b7 (by decide)) hy1 (by omega : y ≤ 7)
  have hst := hok.step hf7 ht7 h0 hy1 (by omega : y ≤ 7)
  have hring : ∀ z, 1 ≤ z → z ≤ 7 → hasb (ringN f (lowN left)) z → hasb left z := fun z a b q => by
    obtain ⟨i, hi, e⟩ := (ring_has hf7 hl.1 hl.2 a b).mp q
    rw [← e]; exact hok.ring hf7 hl.1 hl.2 hb i
  have hoff : ∀ z, ¬ hasb (ringN f (lowN left)) z → 1 ≤ z → z ≤ 7 → lay f t (lowN left) y g (popc (ringN f (lowN left))) z = g z := fun z q a b => lay_off _ (fun i hi e => q (by rw [← e]; exact ring_step hf7 hl.1 hl.2 i))
  have hon : ∀ i, i < popc (ringN f (lowN left)) → lay f t (lowN left) y g (popc (ringN f (lowN left))) (pstep f i (lowN left)) = pstep t i y := lay_on _ c.2.2.2.2.1
  -- free is closed under t
  have hfc : ∀ v, 1 ≤ v → v ≤ 7 → hasb free v → hasb free (t v) := fun v a b q => by
    have q' := (hF v a b).mp q
    have tv := ht.1 v a q'.1
    rw [hF (t v) tv.1 (by omega)]
    refine ⟨tv.2, fun z a2 b2 c2 e => ?_⟩
    obtain ⟨z', p1, p2, p3⟩ := hf.onto a2 b2
    have hz' : ¬ hasb left z' := fun s => c2 (by rw [← p3]; exact (hok.2.2 z' p1 (by omega) s).2)
    have := hC z' p1 p2 hz'
    rw [p3, e] at this
    exact q'.2 z' p1 p2 hz' (ht.inj this)
  have hft : ∀ i, hasb free (pstep t i y) := fun i => by
    induction i with
    | zero => exact hfr
    | succ i ih => have p := pm_step ht7 hy1 (by omega : y ≤ 7) i; rw [pstep_s]; exact hfc _ p.1 p.2 ih
  have hD : ∀ z, 1 ≤ z → z ≤ 7 → (¬ hasb (andn left (ringN f (lowN left))) z ↔ ¬ hasb left z ∨ hasb (ringN f (lowN left)) z) := fun z a b => by
    rw [hasb_andn hok.1 rl a b]
    constructor
    · intro q
      by_cases r : hasb left z
      · right
        by_cases s : hasb (ringN f (lowN left)) z
        · exact s
        · exact absurd ⟨r, s⟩ q
      · exact Or.inl r
    · rintro (q | q) ⟨r, s⟩
      · exact q r
      · exact s q
  -- the labels that are given now
  have hnew : ∀ z, 1 ≤ z → z ≤ 7 → hasb (ringN f (lowN left)) z → ∃ i, i < popc (ringN f (lowN left)) ∧ pstep f i (lowN left) = z ∧ lay f t (lowN left) y g (popc (ringN f (lowN left))) z = pstep t i y := fun z a b q => by
    obtain ⟨i, hi, e⟩ := (ring_has hf7 hl.1 hl.2 a b).mp q
    exact ⟨i, hi, e, by rw [← e]; exact hon i hi⟩
  have hval : ∀ i, 1 ≤ pstep t i y ∧ pstep t i y ≤ n := fun i => by
    have p := pm_step ht7 hy1 (by omega : y ≤ 7) i
    exact ⟨p.1, ((hF _ p.1 p.2).mp (hft i)).1⟩
  refine ⟨hst.1, andn_lt7 hfl, fun v a b => ?_, fun z a b q => ?_, fun z q => ?_, fun z a b q => ?_, fun z u a b q a2 b2 q2 e => ?_, fun z a b q => ?_⟩
  · rw [hasb_andn hfl rt a b, hF v a b]
    constructor
    · rintro ⟨⟨p, q⟩, r⟩
      refine ⟨p, fun z a2 b2 s e => ?_⟩
      rcases (hD z a2 (by omega)).mp s with s | s
      · rw [hoff z (fun x => s (hring z a2 (by omega) x)) a2 (by omega)] at e
        exact q z a2 b2 s e
      · obtain ⟨i, hi, e1, e2⟩ := hnew z a2 (by omega) s
        rw [e2] at e
        exact r (by rw [← e]; exact ring_step ht7 hy1 (by omega) i)
    · rintro ⟨p, q⟩
      refine ⟨⟨p, fun z a2 b2 s e => ?_⟩, fun r => ?_⟩
      · refine q z a2 b2 ((hD z a2 (by omega)).mpr (Or.inl s)) ?_
        rw [hoff z (fun x => s (hring z a2 (by omega) x)) a2 (by omega)]; exact e
      · obtain ⟨i, hi, e⟩ := (ring_has ht7 hy1 (by omega) a b).mp r
        have p2 := pm_step hf7 hl.1 hl.2 i
        have hs := ring_step hf7 hl.1 hl.2 i
        refine q (pstep f i (lowN left)) p2.1 (hLn _ p2.1 p2.2 (hring _ p2.1 p2.2 hs)) ((hD _ p2.1 p2.2).mpr (Or.inr hs)) ?_
        rw [hon i (by omega), e]
  · rw [hasb_andn hok.1 rl a b] at q
    exact hLn z a b q.1
  · have : lay f t (lowN left) y g (popc (ringN f (lowN left))) z = g z := lay_off _ (fun i hi e => by
      have p2 := pm_step hf7 hl.1 hl.2 i
      have := hLn _ p2.1 p2.2 (hok.ring hf7 hl.1 hl.2 hb i)
      omega)
    rw [this]; exact hT z q
  · rcases (hD z a (by omega)).mp q with s | s
    · rw [hoff z (fun x => s (hring z a (by omega) x)) a (by omega)]; exact hR z a b s
    · obtain ⟨i, hi, e1, e2⟩ := hnew z a (by omega) s
      rw [e2]; exact hval i
  · rcases (hD z a (by omega)).mp q with s | s
    · rw [hoff z (fun x => s (hring z a (by omega) x)) a (by omega)] at e
      rcases (hD u a2 (by omega)).mp q2 with s2 | s2
      · rw [hoff u (fun x => s2 (hring u a2 (by omega) x)) a2 (by omega)] at e
        exact hI z u a b s a2 b2 s2 e
      · obtain ⟨i, hi, e1, e2⟩ := hnew u a2 (by omega) s2
        rw [e2] at e
        have p := pm_step ht7 hy1 (by omega : y ≤ 7) i
        exact absurd e (((hF _ p.1 p.2).mp (hft i)).2 z a b s)
    · obtain ⟨i, hi, e1, e2⟩ := hnew z a (by omega) s
      rw [e2] at e
      rcases (hD u a2 (by omega)).mp q2 with s2 | s2
      · rw [hoff u (fun x => s2 (hring u a2 (by omega) x)) a2 (by omega)] at e
        have p := pm_step ht7 hy1 (by omega : y ≤ 7) i
        exact absurd e.symm (((hF _ p.1 p.2).mp (hft i)).2 u a2 b2 s2)
      · obtain ⟨j, hj, f1, f2⟩ := hnew u a2 (by omega) s2
        rw [f2] at e
        rcases Nat.lt_trichotomy i j with r | r | r
        · exact absurd e (d.2.2.2.2.1 i j r (by omega))
        · rw [← e1, ← f1, r]
        · exact absurd e.symm (d.2.2.2.2.1 j i r (by omega))
  · rcases (hD z a (by omega)).mp q with s | s
    · have hz : ¬ hasb (ringN f (lowN left)) z := fun x => s (hring z a (by omega) x)
      have fz := hf.1 z a b
      have hfz : ¬ hasb (ringN f (lowN left)) (f z) := fun x => hz ((ring_f hf7 hl.1 hl.2 a (by omega)).mpr x)
      rw [hoff z hz a (by omega), hoff (f z) hfz fz.1 (by omega)]
      exact hC z a b s
    · obtain ⟨i, hi, e1, e2⟩ := hnew z a (by omega) s
      rw [e2, ← e1, ← pstep_s f, ← pstep_s t]
      by_cases r : i + 1 = popc (ringN f (lowN left))
      · rw [r, c.2.2.2.1]
        have := hon 0 (by omega)
        rw [show pstep f 0 (lowN left) = lowN left from rfl] at this
        rw [this, ← hsz, d.2.2.2.1]; rfl
      · rw [hon (i + 1) (by omega)]
theorem Part.init (hn : n ≤ 7) (hf : Pm n f) : Part n f t (tl n) (full n) (full n) := by
  refine ⟨LeftOK.init hn hf, full_lt hn, fun y a b => ?_, fun z a b q => (hasb_full hn a b).mp q, fun z q => ?_, fun z a b q => ?_, fun z u a b q => ?_, fun z a b q => ?_⟩
  · rw [hasb_full hn a b]
    exact ⟨fun h => ⟨h, fun z p q r => absurd ((hasb_full hn p (by omega)).mpr q) r⟩, fun h => h.1⟩
  · unfold tl; split <;> omega
  · exact absurd ((hasb_full hn a (by omega)).mpr b) q
  · exact absurd ((hasb_full hn a (by omega)).mpr b) q
  · exact absurd ((hasb_full hn a (by omega)).mpr b) q
theorem Part.done (h : Part n f t g 0 free) : Pm n g ∧ ∀ z, 1 ≤ z → z ≤ n → t (g z) = g (f z) := by
  obtain ⟨hok, hfl, hF, hLn, hT, hR, hI, hC⟩ := h
  have z0 : ∀ z, ¬ hasb 0 z := fun z q => q (Nat.zero_and _)
  exact ⟨⟨fun x a b => hR x a b (z0 x), fun x y a b c d e => hI x y a b (z0 x) c d (z0 y) e, hT⟩, fun z a b => hC z a b (z0 z)⟩
theorem growL_sound (hn : n ≤ 7) (hf : Pm n f) (ht : Pm n t) : ∀ k g left free, Part n f t g left free → popc left ≤ k → ∀ r, r ∈ growL n f t k g left free → Pm n r ∧ (∀ z, t (r z) = r (f z)) ∧ ∀ z, 1 ≤ z → z ≤ n → ¬ hasb left z → r z = g z := by
  have all : ∀ {r : Nat → Nat}, Pm n r → (∀ z, 1 ≤ z → z ≤ n → t (r z) = r (f z)) → ∀ z, t (r z) = r (f z) := fun {r} hr h z => by
    by_cases q : 1 ≤ z ∧ z ≤ n
    · exact h z q.1 q.2
    · rw [hr.2.2 z (by omega), hf.2.2 z (by omega), hr.2.2 z (by omega), ht.2.2 z (by omega)]
  intro k
  induction k with
  | zero =>
    intro g left free h hp r hr
    have e := popc_0 left h.1.1 hp
    subst e
    simp [growL] at hr
    subst hr
    have d := h.done
    exact ⟨d.1, all d.1 d.2, fun z _ _ _ => rfl⟩
  | succ k ih =>
    intro g left free h hp r hr
    rw [growL_s] at hr
    by_cases h0 : left = 0
    · rw [if_pos h0] at hr
      simp at hr
      subst hr
      subst h0
      have d := h.done
      exact ⟨d.1, all d.1 d.2, fun z _ _ _ => rfl⟩
    · rw [if_neg h0] at hr
      obtain ⟨y, a, b, hr⟩ := (catY_mem n).mp hr
      unfold growF at hr
      by_cases hc : free &&& bt y ≠ 0 ∧ popc (ringN t y) = popc (ringN f (lowN left))
      · rw [if_pos hc] at hr
        have hst := h.1.step (hf.mono hn) (ht.mono hn) h0 a (by omega : y ≤ 7)
        obtain ⟨p1, p2, p3⟩ := ih _ _ _ (h.step hn hf ht h0 a b hc.1 hc.2) (by omega) r hr
        refine ⟨p1, p2, fun z a2 b2 q => ?_⟩
        have hl := low_in left h.1.1 h0
        have rl := ringN_lt ((hf.mono hn).b7 (by decide)) hl.1 hl.2
        rw [p3 z a2 b2 (fun s => q ((hasb_andn h.1.1 rl a2 (by omega)).mp s).1)]
        refine lay_off _ (fun i hi e => q ?_)
        rw [← e]; exact h.1.ring (hf.mono hn) hl.1 hl.2 (low_has left h.1.1 h0) i
      · rw [if_neg hc] at hr; exact absurd hr List.not_mem_nil
theorem growL_all (hn : n ≤ 7) (hf : Pm n f) (ht : Pm n t) {r : Nat → Nat} (hr : Pm n r) (hrt : ∀ z, t (r z) = r (f z)) : ∀ k g left free, Part n f t g left free → popc left ≤ k → (∀ z, 1 ≤ z → z ≤ n → ¬ hasb left z → r z = g z) → r ∈ growL n f t k g left free := by
  have fin : ∀ g free, Part n f t g 0 free → (∀ z, 1 ≤ z → z ≤ n → ¬ hasb 0 z → r z = g z) → r = g := fun g free h hg => hr.ext h.done.1 (fun z a b => hg z a b (fun q => q (Nat.zero_and _)))
  intro k
  induction k with
  | zero =>
    intro g left free h hp hg
    have e := popc_0 left h.1.1 hp
    subst e
    rw [fin g free h hg]; simp [growL]
  | succ k ih =>
    intro g left free h hp hg
    rw [growL_s]
    by_cases h0 : left = 0
    · rw [if_pos h0]
      subst h0
      rw [fin g free h hg]; simp
    · rw [if_neg h0, catY_mem]
      have hf7 := hf.mono hn
      have hl := low_in left h.1.1 h0
      have hlh := low_has left h.1.1 h0
      have hln := h.2.2.2.1 _ hl.1 hl.2 hlh
      have ry := hr.1 _ hl.1 hln
      have rl := ringN_lt (hf7.b7 (by decide)) hl.1 hl.2
      refine ⟨r (lowN left), ry.1, ry.2, ?_⟩
      have hc : free &&& bt (r (lowN left)) ≠ 0 ∧ popc (ringN t (r (lowN left))) = popc (ringN f (lowN left)) := by
        refine ⟨?_, ring_size hf7 (ht.mono hn) (hr.mono hn) hrt hl.1 hl.2⟩
        show hasb free _
        rw [h.2.2.1 _ ry.1 (by omega)]
        refine ⟨ry.2, fun z a b q e => q ?_⟩
        rw [← hg z a b q] at e
        rw [hr.inj e]; exact hlh
      unfold growF
      rw [if_pos hc]
      have hst := h.1.step hf7 (ht.mono hn) h0 ry.1 (by omega : r (lowN left) ≤ 7)
      refine ih _ _ _ (h.step hn hf ht h0 ry.1 ry.2 hc.1 hc.2) (by omega) (fun z a b q => ?_)
      rw [hasb_andn h.1.1 rl a (by omega)] at q
      by_cases s : hasb (ringN f (lowN left)) z
      · obtain ⟨i, hi, e⟩ := (ring_has hf7 hl.1 hl.2 a (by omega)).mp s
        rw [← e, lay_on _ (ring_cyc hf7 hl.1 hl.2).2.2.2.2.1 i hi, psteps_map hrt]
      · have s2 : ¬ hasb left z := fun s2 => q ⟨s2, s⟩
        rw [hg z a b s2, lay_off _ (fun i hi e => s (by rw [← e]; exact ring_step hf7 hl.1 hl.2 i))]
theorem growL_sorted (hn : n ≤ 7) (hf : Pm n f) (ht : Pm n t) : ∀ k g left free, Part n f t g left free → popc left ≤ k → (growL n f t k g left free).Pairwise (fun a b => hx a < hx b) := by
  intro k
  induction k with
  | zero => intro g left free h hp; simp [growL]
  | succ k ih =>
    intro g left free h hp
    rw [growL_s]
    by_cases h0 : left = 0
    · rw [if_pos h0]; simp
    · rw [if_neg h0]
      have hf7 := hf.mono hn
      have hl := low_in left h.1.1 h0
      have hlh := low_has left h.1.1 h0
      have hln := h.2.2.2.1 _ hl.1 hl.2 hlh
      have rl := ringN_lt (hf7.b7 (by decide)) hl.1 hl.2
      have val : ∀ y r, 1 ≤ y → y ≤ n → r ∈ growF n f t k g left free y → Pm n r ∧ r (lowN left) = y ∧ ∀ z, 1 ≤ z → z ≤ n → ¬ hasb left z → r z = g z := by
        intro y r a b hr
        unfold growF at hr
        by_cases hc : free &&& bt y ≠ 0 ∧ popc (ringN t y) = popc (ringN f (lowN left))
        · rw [if_pos hc] at hr
          have hst := h.1.step hf7 (ht.mono hn) h0 a (by omega : y ≤ 7)
          obtain ⟨p1, p2, p3⟩ := growL_sound hn hf ht k _ _ _ (h.step hn hf ht h0 a b hc.1 hc.2) (by omega) r hr
          refine ⟨p1, ?_, fun z a2 b2 q => ?_⟩
          · rw [p3 _ hl.1 hln (fun s => ((hasb_andn h.1.1 rl hl.1 hl.2).mp s).2 (ring_self hf7 hl.1 hl.2))]
            have c := ring_cyc hf7 hl.1 hl.2
            exact lay_on _ c.2.2.2.2.1 0 (by have := c.1; omega)
          · rw [p3 z a2 b2 (fun s => q ((hasb_andn h.1.1 rl a2 (by omega)).mp s).1)]
            refine lay_off _ (fun i hi e => q ?_)
            rw [← e]; exact h.1.ring hf7 hl.1 hl.2 hlh i
        · rw [if_neg hc] at hr; exact absurd hr List.not_mem_nil
      have lowmin : ∀ s : Nat, s < 128 → ∀ z : Nat, z < 7 → s &&& bt (z + 1) ≠ 0 → lowN s ≤ z + 1 := by decide +kernel
      refine catY_pw n (fun y a b => ?_) (fun y z r1 r2 a b c hr1 hr2 => ?_)
      · unfold growF
        by_cases hc : free &&& bt y ≠ 0 ∧ popc (ringN t y) = popc (ringN f (lowN left))
        · rw [if_pos hc]
          have hst := h.1.step hf7 (ht.mono hn) h0 a (by omega : y ≤ 7)
          exact ih _ _ _ (h.step hn hf ht h0 a b hc.1 hc.2) (by omega)
        · rw [if_neg hc]; exact List.Pairwise.nil
      · obtain ⟨p1, p2, p3⟩ := val y r1 a (by omega) hr1
        obtain ⟨q1, q2, q3⟩ := val z r2 (by omega) c hr2
        refine hx_first (p1.B hn) (q1.B hn) hl.1 hl.2 (fun v a2 b2 => ?_) (by omega)
        have : ¬ hasb left v := fun s => by
          have := lowmin left h.1.1 (v - 1) (by omega) (by rw [show v - 1 + 1 = v by omega]; exact s)
          omega
        rw [p3 v a2 (by omega) this, q3 v a2 (by omega) this]
/-- the relabellings that bring f to t -/
theorem gathL_mem (hn : n ≤ 7) (hf : Pm n f) (ht : Pm n t) (r : Nat → Nat) : r ∈ gathL n f t ↔ Pm n r ∧ pconj f r = t := by
  constructor
  · intro h
    obtain ⟨a, b, c⟩ := growL_sound hn hf ht 7 _ _ _ (Part.init hn hf) (full_popc n (by omega)) r h
    exact ⟨a, (conj_iff hn a).mpr b⟩
  · rintro ⟨a, b⟩
    exact growL_all hn hf ht a ((conj_iff hn a).mp b) 7 _ _ _ (Part.init hn hf) (full_popc n (by omega)) (fun z p q r => absurd ((hasb_full hn p (by omega)).mpr q) r)
theorem gathL_sorted (hn : n ≤ 7) (hf : Pm n f) (ht : Pm n t) : (gathL n f t).Pairwise (fun a b => hx a < hx b) := growL_sorted hn hf ht 7 _ _ _ (Part.init hn hf) (full_popc n (by omega))
theorem gathL_len (h1 : 1 ≤ n) (hn : n ≤ 7) (hf : Pm n f) (ht : Pm n t) : (gathL n f t).length ≤ facN n :=
  few h1 hn (fun g hg => ((gathL_mem hn hf ht g).mp hg).1) ((gathL_sorted hn hf ht).imp (fun h e => by rw [e] at h; exact Nat.lt_irrefl _ h))
end GA

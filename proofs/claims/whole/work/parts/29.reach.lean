/-! ===== what comes of a dart by s and a ===== -/
theorem hasb_bt {x y : Nat} (h1 : 1 ≤ x) (h2 : x ≤ 7) (h3 : 1 ≤ y) (h4 : y ≤ 7) : hasb (bt x) y ↔ y = x := by
  have := hasb_or (u := 0) (v := x) (y := y) (by decide) h1 h2 h3 h4
  rw [Nat.zero_or] at this
  rw [this]
  unfold hasb
  rw [Nat.zero_and]
  simp
theorem hasb_or8 : ∀ u : Nat, u < 128 → ∀ v : Nat, v < 128 → ∀ y : Nat, y < 7 → (((u ||| v) &&& bt (y + 1)) == 0) = ((u &&& bt (y + 1)) == 0 && (v &&& bt (y + 1)) == 0) := by decide +kernel
theorem hasb_or2 {u v y : Nat} (hu : u < 128) (hv : v < 128) (h1 : 1 ≤ y) (h2 : y ≤ 7) : hasb (u ||| v) y ↔ hasb u y ∨ hasb v y := by
  have o := hasb_or8 u hu v hv (y - 1) (by omega)
  rw [show y - 1 + 1 = y by omega] at o
  have : ((u ||| v) &&& bt y = 0) ↔ (u &&& bt y = 0 ∧ v &&& bt y = 0) := by
    have q : (((u ||| v) &&& bt y) == 0) = true ↔ ((u &&& bt y) == 0 && (v &&& bt y) == 0) = true := by rw [o]
    simpa using q
  unfold hasb
  rw [ne_eq, this]
  constructor
  · intro h
    by_cases q : u &&& bt y = 0
    · exact Or.inr (fun r => h ⟨q, r⟩)
    · exact Or.inl q
  · rintro (h | h) ⟨p, q⟩
    · exact h p
    · exact h q
theorem mask_ext : ∀ u : Nat, u < 128 → (∀ y, 1 ≤ y → y ≤ 7 → ¬ hasb u y) → u = 0 := fun u hu h => by
  rcases Nat.eq_zero_or_pos u with q | q
  · exact q
  · have a := low_in u hu (by omega)
    exact absurd (low_has u hu (by omega)) (h _ a.1 a.2)
theorem popc_mono8 : ∀ s : Nat, s < 128 → 7 ≤ popc s → ∀ y : Nat, y < 7 → s &&& bt (y + 1) ≠ 0 := by decide +kernel
theorem popc_andn_add : ∀ a : Nat, a < 128 → ∀ b : Nat, b < 128 → a &&& b = b → popc (andn a b) + popc b = popc a := by decide +kernel
theorem mask_sub {a b : Nat} (ha : a < 128) (hb : b < 128) (h : ∀ y, 1 ≤ y → y ≤ 7 → hasb b y → hasb a y) : a &&& b = b := by
  have e : andn b a = 0 := mask_ext _ (andn_lt7 hb) (fun y p q r => by
    rw [hasb_andn hb ha p q] at r
    exact r.2 (h y p q r.1))
  have key : ∀ b : Nat, b < 128 → ∀ a : Nat, a < 128 → andn b a = 0 → a &&& b = b := by decide +kernel
  exact key b hb a ha e
section RE
variable {s a : Nat → Nat}
theorem reachL_spec (hs : P7 s) (ha : P7 a) (X : Nat → Prop) (hX : ∀ y, 1 ≤ y → y ≤ 7 → X y → X (s y) ∧ X (a y)) : ∀ k left r, left < 128 → r < 128 → (∀ y, 1 ≤ y → y ≤ 7 → hasb left y → hasb r y) → (∀ y, 1 ≤ y → y ≤ 7 → hasb r y → X y) → (∀ y, 1 ≤ y → y ≤ 7 → hasb r y → ¬ hasb left y → hasb r (s y) ∧ hasb r (a y)) → 7 ≤ k + popc (andn r left) →
    (∀ y, 1 ≤ y → y ≤ 7 → hasb r y → hasb (reachL s a k left r) y) ∧ (∀ y, 1 ≤ y → y ≤ 7 → hasb (reachL s a k left r) y → X y ∧ hasb (reachL s a k left r) (s y) ∧ hasb (reachL s a k left r) (a y))
  | 0, left, r, hl, hr, h1, h2, h3, h4 => by
    have hno : ∀ y, 1 ≤ y → y ≤ 7 → ¬ hasb left y := fun y p q t => by
      have := popc_mono8 _ (andn_lt7 (b := left) hr) (by omega) (y - 1) (by omega)
      rw [show y - 1 + 1 = y by omega] at this
      exact ((hasb_andn hr hl p q).mp this).2 t
    exact ⟨fun y _ _ t => t, fun y p q t => ⟨h2 y p q t, h3 y p q t (hno y p q)⟩⟩
  | k + 1, left, r, hl, hr, h1, h2, h3, h4 => by
    simp only [reachL]
    by_cases h0 : left = 0
    · rw [if_pos h0]
      exact ⟨fun y _ _ t => t, fun y p q t => ⟨h2 y p q t, h3 y p q t (fun u => u (by rw [h0, Nat.zero_and]))⟩⟩
    · rw [if_neg h0]
      have hx := low_in left hl h0
      have hxl := low_has left hl h0
      generalize lowN left = x at hx hxl ⊢
      have sx := hs x hx.1 hx.2
      have ax := ha x hx.1 hx.2
      have bx := bt_lt hx.1 hx.2
      have bor := or_lt7 (bt_lt sx.1 sx.2) (bt_lt ax.1 ax.2)
      have hB : ∀ y, 1 ≤ y → y ≤ 7 → (hasb (bt (s x) ||| bt (a x)) y ↔ (y = s x ∨ y = a x)) := fun y p q => by
        rw [hasb_or2 (bt_lt sx.1 sx.2) (bt_lt ax.1 ax.2) p q, hasb_bt sx.1 sx.2 p q, hasb_bt ax.1 ax.2 p q]
      have hF : ∀ y, 1 ≤ y → y ≤ 7 → (hasb (andn (bt (s x) ||| bt (a x)) r) y ↔ ((y = s x ∨ y = a x) ∧ ¬ hasb r y)) := fun y p q => by
        rw [hasb_andn bor hr p q, hB y p q]
      have fl := andn_lt7 (b := r) bor
      have hR : ∀ y, 1 ≤ y → y ≤ 7 → (hasb (r ||| andn (bt (s x) ||| bt (a x)) r) y ↔ (hasb r y ∨ y = s x ∨ y = a x)) := fun y p q => by
        rw [hasb_or2 hr fl p q, hF y p q]
        by_cases t : hasb r y
        · exact ⟨fun _ => Or.inl t, fun _ => Or.inl t⟩
        · exact ⟨fun u => u.elim (fun v => Or.inl v) (fun v => Or.inr v.1), fun u => u.elim (fun v => Or.inl v) (fun v => Or.inr ⟨v, t⟩)⟩
      have hL : ∀ y, 1 ≤ y → y ≤ 7 → (hasb (andn left (bt x) ||| andn (bt (s x) ||| bt (a x)) r) y ↔ ((hasb left y ∧ y ≠ x) ∨ ((y = s x ∨ y = a x) ∧ ¬ hasb r y))) := fun y p q => by
        rw [hasb_or2 (andn_lt7 hl) fl p q, hF y p q, hasb_andn hl bx p q, hasb_bt hx.1 hx.2 p q]
      have hrx := h1 x hx.1 hx.2 hxl
      obtain ⟨c1, c2⟩ := reachL_spec hs ha X hX k _ _ (or_lt7 (andn_lt7 (b := bt x) hl) fl) (or_lt7 hr fl) (fun y p q t => by
        rw [hR y p q]
        rcases (hL y p q).mp t with u | u
        · exact Or.inl (h1 y p q u.1)
        · exact Or.inr u.1) (fun y p q t => by
        rcases (hR y p q).mp t with u | u | u
        · exact h2 y p q u
        · rw [u]; exact (hX x hx.1 hx.2 (h2 x hx.1 hx.2 hrx)).1
        · rw [u]; exact (hX x hx.1 hx.2 (h2 x hx.1 hx.2 hrx)).2) (fun y p q t u => by
        have sy := hs y p q
        have ay := ha y p q
        rw [hR _ sy.1 sy.2, hR _ ay.1 ay.2]
        by_cases v : y = x
        · subst v; exact ⟨Or.inr (Or.inl rfl), Or.inr (Or.inr rfl)⟩
        · have hry : hasb r y := by
            rcases (hR y p q).mp t with w | w
            · exact w
            · by_cases z : hasb r y
              · exact z
              · exact absurd ((hL y p q).mpr (Or.inr ⟨w, z⟩)) u
          have hly : ¬ hasb left y := fun w => u ((hL y p q).mpr (Or.inl ⟨w, v⟩))
          exact ⟨Or.inl (h3 y p q hry hly).1, Or.inl (h3 y p q hry hly).2⟩) (by
        have e1 : andn (r ||| andn (bt (s x) ||| bt (a x)) r) (andn left (bt x) ||| andn (bt (s x) ||| bt (a x)) r) &&& (andn r left ||| bt x) = (andn r left ||| bt x) := by
          refine mask_sub (andn_lt7 (or_lt7 hr fl)) (or_lt7 (andn_lt7 hr) bx) (fun y p q t => ?_)
          rw [hasb_andn (or_lt7 hr fl) (or_lt7 (andn_lt7 hl) fl) p q, hR y p q, hL y p q]
          rw [hasb_or2 (andn_lt7 hr) bx p q, hasb_andn hr hl p q, hasb_bt hx.1 hx.2 p q] at t
          rcases t with ⟨t1, t2⟩ | t
          · exact ⟨Or.inl t1, fun u => u.elim (fun v => t2 v.1) (fun v => v.2 t1)⟩
          · subst t
            exact ⟨Or.inl hrx, fun u => u.elim (fun v => v.2 rfl) (fun v => v.2 hrx)⟩
        have e2 := popc_andn_add _ (andn_lt7 (b := andn left (bt x) ||| andn (bt (s x) ||| bt (a x)) r) (or_lt7 hr fl)) _ (or_lt7 (andn_lt7 (b := left) hr) bx) e1
        have e3 : popc (andn r left ||| bt x) = popc (andn r left) + 1 := by
          have := popc_or (andn r left) (andn_lt7 hr) (x - 1) (by omega)
          rw [show x - 1 + 1 = x by omega] at this
          apply this
          by_cases z : andn r left &&& bt x = 0
          · exact z
          · exact absurd hxl ((hasb_andn hr hl hx.1 hx.2).mp z).2
        omega)
      exact ⟨fun y p q t => c1 y p q ((hR y p q).mpr (Or.inl t)), c2⟩
theorem reach_spec (hs : P7 s) (ha : P7 a) {x : Nat} (h1 : 1 ≤ x) (h2 : x ≤ 7) : hasb (reachN s a x) x ∧ (∀ y, 1 ≤ y → y ≤ 7 → hasb (reachN s a x) y → hasb (reachN s a x) (s y) ∧ hasb (reachN s a x) (a y)) ∧ ∀ X : Nat → Prop, X x → (∀ y, 1 ≤ y → y ≤ 7 → X y → X (s y) ∧ X (a y)) → ∀ y, 1 ≤ y → y ≤ 7 → hasb (reachN s a x) y → X y := by
  have bx := bt_lt h1 h2
  have go : ∀ X : Nat → Prop, X x → (∀ y, 1 ≤ y → y ≤ 7 → X y → X (s y) ∧ X (a y)) → _ := fun X hx hX => reachL_spec hs ha X hX 7 (bt x) (bt x) bx bx (fun _ _ _ t => t) (fun y p q t => by rw [(hasb_bt h1 h2 p q).mp t]; exact hx) (fun y p q t u => absurd t u) (by omega)
  have g := go (fun _ => True) trivial (fun _ _ _ _ => ⟨trivial, trivial⟩)
  refine ⟨g.1 x h1 h2 ((hasb_bt h1 h2 h1 h2).mpr rfl), fun y p q t => (g.2 y p q t).2, fun X hx hX y p q t => ((go X hx hX).2 y p q t).1⟩
end RE
section RE2
variable {n : Nat} {s a : Nat → Nat}
theorem reach_pow (hs : P7 s) (ha : P7 a) {x y : Nat} (h1 : 1 ≤ x) (h2 : x ≤ 7) (h3 : 1 ≤ y) (h4 : y ≤ 7) (h : hasb (reachN s a x) y) : (∀ k, hasb (reachN s a x) (pstep s k y)) ∧ ∀ k, hasb (reachN s a x) (pstep a k y) := by
  have r := (reach_spec hs ha h1 h2).2.1
  constructor
  · intro k
    induction k with
    | zero => exact h
    | succ k ih => have p := pstep_7 hs k y h3 h4; rw [pstep_s]; exact (r _ p.1 p.2 ih).1
  · intro k
    induction k with
    | zero => exact h
    | succ k ih => have p := pstep_7 ha k y h3 h4; rw [pstep_s]; exact (r _ p.1 p.2 ih).2
theorem pm_back {f : Nat → Nat} (hf : Pm 7 f) {y : Nat} (h3 : 1 ≤ y) (h4 : y ≤ 7) : ∃ k, pstep f k (f y) = y := by
  have c := ring_cyc hf h3 h4
  obtain ⟨L, hL⟩ : ∃ q, popc (ringN f y) = q + 1 := ⟨popc (ringN f y) - 1, by have := c.1; omega⟩
  have d := c.2.2.2.1
  rw [hL] at d
  exact ⟨L, d⟩
theorem reach_tr (hs : P7 s) (ha : P7 a) {x y z : Nat} (h1 : 1 ≤ x) (h2 : x ≤ 7) (h3 : 1 ≤ y) (h4 : y ≤ 7) (h5 : 1 ≤ z) (h6 : z ≤ 7) (h : hasb (reachN s a x) y) (h' : hasb (reachN s a y) z) : hasb (reachN s a x) z :=
  (reach_spec hs ha h3 h4).2.2 (fun v => hasb (reachN s a x) v) h (reach_spec hs ha h1 h2).2.1 z h5 h6 h'
theorem reach_sym (hs : Pm 7 s) (ha : Pm 7 a) {x y : Nat} (h1 : 1 ≤ x) (h2 : x ≤ 7) (h3 : 1 ≤ y) (h4 : y ≤ 7) (h : hasb (reachN s a x) y) : hasb (reachN s a y) x := by
  have s7 := hs.b7 (by decide)
  have a7 := ha.b7 (by decide)
  refine ((reach_spec s7 a7 h1 h2).2.2 (fun v => (1 ≤ v ∧ v ≤ 7) ∧ hasb (reachN s a v) x) ⟨⟨h1, h2⟩, (reach_spec s7 a7 h1 h2).1⟩ (fun v p q t => ?_) y h3 h4 h).2
  have sv := s7 v p q
  have av := a7 v p q
  have S := reach_spec s7 a7 sv.1 sv.2
  have A := reach_spec s7 a7 av.1 av.2
  refine ⟨⟨sv, ?_⟩, ⟨av, ?_⟩⟩
  · obtain ⟨k, e⟩ := pm_back hs p q
    have := (reach_pow s7 a7 sv.1 sv.2 sv.1 sv.2 S.1).1 k
    rw [e] at this
    exact reach_tr s7 a7 sv.1 sv.2 p q h1 h2 this t.2
  · obtain ⟨k, e⟩ := pm_back ha p q
    have := (reach_pow s7 a7 av.1 av.2 av.1 av.2 A.1).2 k
    rw [e] at this
    exact reach_tr s7 a7 av.1 av.2 p q h1 h2 this t.2
theorem reach_in (hs : Pm n s) (ha : Pm n a) (h7 : n ≤ 7) {x : Nat} (h1 : 1 ≤ x) (h2 : x ≤ n) {y : Nat} (h3 : 1 ≤ y) (h4 : y ≤ 7) (h : hasb (reachN s a x) y) : y ≤ n :=
  ((reach_spec (hs.b7 h7) (ha.b7 h7) h1 (by omega)).2.2 (fun v => 1 ≤ v ∧ v ≤ n) ⟨h1, h2⟩ (fun v _ _ t => ⟨hs.1 v t.1 t.2, ha.1 v t.1 t.2⟩) y h3 h4 h).2
theorem full_ext {n u : Nat} (h7 : n ≤ 7) (hu : u < 128) (h : ∀ y, 1 ≤ y → y ≤ 7 → (hasb u y ↔ y ≤ n)) : u = full n := by
  have key : ∀ u : Nat, u < 128 → ∀ v : Nat, v < 128 → andn u v = 0 → andn v u = 0 → u = v := by decide +kernel
  have fl := full_lt h7
  refine key u hu _ fl (mask_ext _ (andn_lt7 hu) (fun y p q r => ?_)) (mask_ext _ (andn_lt7 fl) (fun y p q r => ?_))
  · rw [hasb_andn hu fl p q, hasb_full h7 p q, h y p q] at r; exact r.2 r.1
  · rw [hasb_andn fl hu p q, hasb_full h7 p q, h y p q] at r; exact r.2 r.1
theorem joinB_iff (h1 : 1 ≤ n) (h7 : n ≤ 7) (hs : Pm n s) (ha : Pm n a) : joinB s a n = true ↔ ∀ y, 1 ≤ y → y ≤ n → hasb (reachN s a 1) y := by
  rw [joinB_eq]
  constructor
  · intro h y p q
    rw [h, hasb_full h7 p (by omega)]; exact q
  · intro h
    exact full_ext h7 (reachN_lt (hs.b7 h7) (ha.b7 h7) (by omega) (by omega)) (fun y p q => ⟨fun t => reach_in hs ha h7 (by omega) h1 p q t, fun t => h y p t⟩)
theorem joinB_conj (h1 : 1 ≤ n) (h7 : n ≤ 7) (hs : Pm n s) (ha : Pm n a) {r : Nat → Nat} (hr : Pm n r) (h : joinB s a n = true) : joinB (pconj s r) (pconj a r) n = true := by
  have s7 := hs.b7 h7
  have a7 := ha.b7 h7
  have hs' := Pm.conj h7 hs hr
  have ha' := Pm.conj h7 ha hr
  have s7' := hs'.b7 h7
  have a7' := ha'.b7 h7
  have r7 := hr.b7 h7
  rw [joinB_iff h1 h7 hs ha] at h
  rw [joinB_iff h1 h7 hs' ha']
  have r1 := r7 1 (by omega) (by omega)
  -- all come of r 1
  have all : ∀ y, 1 ≤ y → y ≤ 7 → hasb (reachN s a 1) y → hasb (reachN (pconj s r) (pconj a r) (r 1)) (r y) := fun y p q t =>
    ((reach_spec s7 a7 (by omega) (by omega)).2.2 (fun v => (1 ≤ v ∧ v ≤ 7) ∧ hasb (reachN (pconj s r) (pconj a r) (r 1)) (r v)) ⟨⟨by omega, by omega⟩, (reach_spec s7' a7' r1.1 r1.2).1⟩ (fun v p q t => by
      have rv := r7 v p q
      have := (reach_spec s7' a7' r1.1 r1.2).2.1 (r v) rv.1 rv.2 t.2
      rw [conj_at h7 hr, conj_at h7 hr] at this
      exact ⟨⟨s7 v p q, this.1⟩, ⟨a7 v p q, this.2⟩⟩) y p q t).2
  intro y p q
  have one := hr.onto (y := 1) (by omega) h1
  obtain ⟨v1, b1, b2, b3⟩ := one
  obtain ⟨v2, c1, c2, c3⟩ := hr.onto p q
  have e1 := all v1 b1 (by omega) (h v1 b1 b2)
  have e2 := all v2 c1 (by omega) (h v2 c1 c2)
  rw [b3] at e1
  rw [c3] at e2
  exact reach_tr s7' a7' (by omega) (by omega) r1.1 r1.2 p (by omega) (reach_sym (hs'.mono h7) (ha'.mono h7) r1.1 r1.2 (by omega) (by omega) e1) e2
end RE2

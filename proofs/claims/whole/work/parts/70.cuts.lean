/-! ===== classes of darts, counted by their least ones ===== -/
theorem mask_eq7 : ∀ u : Nat, u < 128 → ∀ v : Nat, v < 128 → ([1, 2, 3, 4, 5, 6, 7].all (fun y => (u &&& bt y == 0) == (v &&& bt y == 0))) = true → u = v := by decide +kernel
theorem mask_eq {u v : Nat} (hu : u < 128) (hv : v < 128) (h : ∀ y, 1 ≤ y → y ≤ 7 → (hasb u y ↔ hasb v y)) : u = v := mask_eq7 u hu v hv (by
  rw [List.all_eq_true]
  intro y hy
  have hy' : 1 ≤ y ∧ y ≤ 7 := by simp at hy; omega
  have := h y hy'.1 hy'.2
  by_cases a : u &&& bt y = 0
  · have b : v &&& bt y = 0 := Classical.byContradiction (fun q => (this.mpr q) a)
    rw [a, b]; rfl
  · have b : ¬ v &&& bt y = 0 := fun q => (this.mp a) q
    rw [beq_false_of_ne a, beq_false_of_ne b]; rfl)
theorem low_min7 : ∀ s : Nat, s < 128 → ∀ y : Nat, y < 7 → s &&& bt (y + 1) ≠ 0 → lowN s ≤ y + 1 := by decide +kernel
theorem low_min {s y : Nat} (hs : s < 128) (h1 : 1 ≤ y) (h2 : y ≤ 7) (h : hasb s y) : lowN s ≤ y := by
  have := low_min7 s hs (y - 1) (by omega)
  rw [show y - 1 + 1 = y by omega] at this
  exact this h
theorem hasb_nz {s y : Nat} (h : hasb s y) : s ≠ 0 := fun e => h (by rw [e]; exact Nat.zero_and _)
theorem sumN_add (a b : Nat → Nat) : ∀ k, sumN (fun x => a x + b x) k = sumN a k + sumN b k
  | 0 => rfl
  | k + 1 => by simp only [sumN]; rw [sumN_add a b k]; omega
theorem sumN_one (l v : Nat) : ∀ k, 1 ≤ l → sumN (fun x => if x = l then v else 0) k = if l ≤ k then v else 0
  | 0, h => by simp only [sumN]; rw [if_neg (by omega)]
  | k + 1, h => by
    simp only [sumN]
    rw [sumN_one l v k h]
    by_cases a : k + 1 = l
    · rw [if_pos a, if_neg (by omega), if_pos (by omega)]; omega
    · rw [if_neg a]
      by_cases b : l ≤ k
      · rw [if_pos b, if_pos (by omega)]; rfl
      · rw [if_neg b, if_neg (by omega)]
theorem sumN_cut (h : Nat → Nat) (n : Nat) : ∀ k, sumN (fun x => if x ≤ n then h x else 0) k = sumN h (min k n)
  | 0 => by simp [sumN]
  | k + 1 => by
    simp only [sumN]
    rw [sumN_cut h n k]
    by_cases a : k + 1 ≤ n
    · rw [if_pos a, show min k n = k by omega, show min (k + 1) n = k + 1 by omega]; rfl
    · rw [if_neg a, show min (k + 1) n = min k n by omega]; rfl
/-- R cuts the set left in classes -/
def Cut (R : Nat → Nat) (left : Nat) : Prop := left < 128 ∧ ∀ x, 1 ≤ x → x ≤ 7 → hasb left x → (R x < 128 ∧ hasb (R x) x) ∧ ∀ y, 1 ≤ y → y ≤ 7 → hasb (R x) y → hasb left y ∧ R y = R x
def lcnt (R φ : Nat → Nat) (left : Nat) : Nat := sumN (fun x => if left &&& bt x = 0 then 0 else if lowN (R x) = x then φ x else 0) 7
theorem Cut.step {R : Nat → Nat} {left : Nat} (h : Cut R left) (h0 : left ≠ 0) : Cut R (andn left (R (lowN left))) ∧ popc (andn left (R (lowN left))) < popc left := by
  have hl := low_in left h.1 h0
  have hh := low_has left h.1 h0
  have hc := h.2 _ hl.1 hl.2 hh
  refine ⟨⟨andn_lt7 h.1, fun x a b hx => ?_⟩, popc_andn left h.1 _ hc.1.1 (both_has left (R (lowN left)) h.1 hc.1.1 hl.1 hl.2 hh hc.1.2)⟩
  have hx2 := (hasb_andn h.1 hc.1.1 a b).mp hx
  have k := h.2 x a b hx2.1
  refine ⟨k.1, fun y c d hy => ⟨(hasb_andn h.1 hc.1.1 c d).mpr ⟨(k.2 y c d hy).1, fun q => hx2.2 ?_⟩, (k.2 y c d hy).2⟩⟩
  have e1 := (hc.2 y c d q).2
  have e2 := (k.2 y c d hy).2
  rw [← e1, e2]; exact k.1.2
theorem lcnt_step {R : Nat → Nat} (φ : Nat → Nat) {left : Nat} (h : Cut R left) (h0 : left ≠ 0) : lcnt R φ left = φ (lowN left) + lcnt R φ (andn left (R (lowN left))) := by
  have hl := low_in left h.1 h0
  have hh := low_has left h.1 h0
  have hc := h.2 _ hl.1 hl.2 hh
  have hlow : lowN (R (lowN left)) = lowN left := by
    have a := low_min hc.1.1 hl.1 hl.2 hc.1.2
    have n0 := hasb_nz hc.1.2
    have li := low_in _ hc.1.1 n0
    have b := (hc.2 _ li.1 li.2 (low_has _ hc.1.1 n0)).1
    have c := low_min h.1 li.1 li.2 b
    omega
  have e : sumN (fun x => (if x = lowN left then φ (lowN left) else 0) + (if andn left (R (lowN left)) &&& bt x = 0 then 0 else if lowN (R x) = x then φ x else 0)) 7 = φ (lowN left) + lcnt R φ (andn left (R (lowN left))) := by
    rw [sumN_add, sumN_one _ _ 7 hl.1, if_pos hl.2]; rfl
  rw [← e]
  unfold lcnt
  refine sumN_congr 7 (fun x a b => ?_)
  have ha := hasb_andn h.1 hc.1.1 a b
  by_cases q : x = lowN left
  · subst q
    have z : andn left (R (lowN left)) &&& bt (lowN left) = 0 := Classical.byContradiction (fun k => (ha.mp k).2 hc.1.2)
    rw [if_neg hh, if_pos hlow, if_pos rfl, if_pos z]; rfl
  · rw [if_neg q, Nat.zero_add]
    by_cases p : left &&& bt x = 0
    · have z : andn left (R (lowN left)) &&& bt x = 0 := Classical.byContradiction (fun k => (ha.mp k).1 p)
      rw [if_pos p, if_pos z]
    · rw [if_neg p]
      by_cases r : hasb (R (lowN left)) x
      · have z : andn left (R (lowN left)) &&& bt x = 0 := Classical.byContradiction (fun k => (ha.mp k).2 r)
        have e2 := (hc.2 x a b r).2
        rw [if_pos z, e2, hlow, if_neg (fun t => q t.symm)]
      · rw [if_neg (ha.mpr ⟨p, r⟩)]
theorem lcnt_0 (R φ : Nat → Nat) : lcnt R φ 0 = 0 := by
  unfold lcnt
  have : ∀ k, sumN (fun x => if 0 &&& bt x = 0 then 0 else if lowN (R x) = x then φ x else 0) k = 0 := by
    intro k
    induction k with
    | zero => rfl
    | succ k ih => simp only [sumN]; rw [ih, if_pos (Nat.zero_and _)]
  exact this 7
theorem ringsL_cnt (f : Nat → Nat) : ∀ k left m, Cut (ringN f) left → popc left ≤ k → ringsL f k left m = m + lcnt (ringN f) (fun _ => 1) left
  | 0, left, m, h, hp => by
    have : left = 0 := popc_0 left h.1 hp
    rw [this, lcnt_0]; rfl
  | k + 1, left, m, h, hp => by
    simp only [ringsL]
    by_cases q : left = 0
    · rw [if_pos q, q, lcnt_0]; rfl
    · have s := h.step q
      rw [if_neg q, ringsL_cnt f k _ _ s.1 (by omega), lcnt_step _ h q]; omega
theorem partsL_cnt (s a : Nat → Nat) : ∀ k left m, Cut (reachN s a) left → popc left ≤ k → partsL s a k left m = m + lcnt (reachN s a) (fun _ => 1) left
  | 0, left, m, h, hp => by
    have : left = 0 := popc_0 left h.1 hp
    rw [this, lcnt_0]; rfl
  | k + 1, left, m, h, hp => by
    simp only [partsL]
    by_cases q : left = 0
    · rw [if_pos q, q, lcnt_0]; rfl
    · have st := h.step q
      rw [if_neg q, partsL_cnt s a k _ _ st.1 (by omega), lcnt_step _ h q]; omega
theorem ring_same {f : Nat → Nat} (hf : Pm 7 f) {x y : Nat} (h1 : 1 ≤ x) (h2 : x ≤ 7) (h3 : 1 ≤ y) (h4 : y ≤ 7) (h : hasb (ringN f x) y) : ringN f y = ringN f x := by
  have hb := hf.b7 (by decide)
  have hy : ∀ i, hasb (ringN f x) (pstep f i y) := fun i => by
    induction i with
    | zero => exact h
    | succ i ih =>
      have q := pstep_7 hb i y h3 h4
      rw [pstep_s]; exact (ring_f hf h1 h2 q.1 q.2).mp ih
  have hx : ∀ i, hasb (ringN f y) (pstep f i x) := fun i => by
    obtain ⟨j, -, e⟩ := (ring_has hf h1 h2 h3 h4).mp h
    have cy := ring_cyc hf h1 h2
    -- from y onward to x again, then i steps
    have back : ∃ t, pstep f t y = x := ⟨popc (ringN f x) * (j + 1) - j, by
      have hge : j ≤ popc (ringN f x) * (j + 1) := Nat.le_trans (Nat.le_succ j) (Nat.le_mul_of_pos_left (j + 1) cy.1)
      rw [← e]
      have := pstep_add f j (popc (ringN f x) * (j + 1) - j) x
      rw [show j + (popc (ringN f x) * (j + 1) - j) = popc (ringN f x) * (j + 1) by omega] at this
      rw [← this, pstep_mod cy.2.2.2.1 cy.1, Nat.mul_mod_right]; rfl⟩
    obtain ⟨t, ht⟩ := back
    have := pstep_add f t i y
    rw [ht] at this
    rw [← this]
    exact ring_step hf h3 h4 _
  refine mask_eq (ringN_lt hb h3 h4) (ringN_lt hb h1 h2) (fun z a b => ⟨fun q => ?_, fun q => ?_⟩)
  · obtain ⟨i, -, e⟩ := (ring_has hf h3 h4 a b).mp q
    rw [← e]; exact hy i
  · obtain ⟨i, -, e⟩ := (ring_has hf h1 h2 a b).mp q
    rw [← e]; exact hx i
theorem ring_cut {f : Nat → Nat} (hf : Pm 7 f) {left : Nat} (hl : left < 128) (hc : ∀ y, 1 ≤ y → y ≤ 7 → hasb left y → hasb left (f y)) : Cut (ringN f) left := ⟨hl, fun x a b h => ⟨⟨ringN_lt (hf.b7 (by decide)) a b, ring_self hf a b⟩, fun y c d hy => ⟨by
  obtain ⟨i, -, e⟩ := (ring_has hf a b c d).mp hy
  rw [← e]
  have : ∀ i, hasb left (pstep f i x) := fun i => by
    induction i with
    | zero => exact h
    | succ i ih =>
      have q := pstep_7 (hf.b7 (by decide)) i x a b
      rw [pstep_s]; exact hc _ q.1 q.2 ih
  exact this i, ring_same hf a b c d hy⟩⟩⟩
theorem reach_cut {s a : Nat → Nat} {n : Nat} (h7 : n ≤ 7) (hs : Pm n s) (ha : Pm n a) : Cut (reachN s a) (full n) := ⟨full_lt h7, fun x p q h => by
  have hx := (hasb_full h7 p q).mp h
  have s7 := hs.mono h7
  have a7 := ha.mono h7
  have sb := hs.b7 h7
  have ab := ha.b7 h7
  refine ⟨⟨reachN_lt sb ab p q, (reach_spec sb ab p q).1⟩, fun y c d hy => ⟨(hasb_full h7 c d).mpr (reach_in hs ha h7 p hx c d hy), ?_⟩⟩
  have hyx := reach_sym s7 a7 p q c d hy
  exact mask_eq (reachN_lt sb ab c d) (reachN_lt sb ab p q) (fun z e g => ⟨fun k => reach_tr sb ab p q c d e g hy k, fun k => reach_tr sb ab c d p q e g hyx k⟩)⟩
theorem least_low {n : Nat} {f : Nat → Nat} (hf : Pm n f) (h7 : n ≤ 7) {x : Nat} (h1 : 1 ≤ x) (h2 : x ≤ n) : leastB f x = true ↔ lowN (ringN f x) = x := by
  have f7 := hf.mono h7
  have lt := ringN_lt (f := f) (x := x) (hf.b7 h7) h1 (by omega)
  have self := ring_self f7 h1 (show x ≤ 7 by omega)
  have n0 := hasb_nz self
  have li := low_in _ lt n0
  have lh := low_has _ lt n0
  rw [leastB_iff hf h7 h1 h2]
  constructor
  · intro h
    obtain ⟨i, -, e⟩ := (ring_has f7 h1 (by omega) li.1 li.2).mp lh
    have a := h i
    have b := low_min lt h1 (by omega) self
    omega
  · intro h i
    have q := pstep_in hf h1 h2 i
    have := low_min lt q.1 (by omega) (ring_step f7 h1 (by omega) i)
    omega
/-- the cycles of a set that holds each of its cycles whole, by their least darts -/
def lstS (f : Nat → Nat) (set : Nat) : Nat → Nat := sumN (fun x => if set &&& bt x = 0 then 0 else if leastB f x then 1 else 0)
theorem hasb_hi7 : ∀ n : Nat, n < 8 → ∀ u : Nat, u < 128 → u &&& full n = u → ∀ x : Nat, x < 7 → n < x + 1 → u &&& bt (x + 1) = 0 := by decide +kernel
theorem rings_lst {n : Nat} {f : Nat → Nat} (hf : Pm n f) (h7 : n ≤ 7) {set : Nat} (hset : set < 128) (hin : ∀ y, 1 ≤ y → y ≤ 7 → hasb set y → y ≤ n) (hc : ∀ y, 1 ≤ y → y ≤ 7 → hasb set y → hasb set (f y)) : ringsN f set = lstS f set n := by
  have f7 := hf.mono h7
  unfold ringsN
  rw [ringsL_cnt f 7 set 0 (ring_cut f7 hset hc) (popc_le set hset), Nat.zero_add]
  unfold lcnt lstS
  have : sumN (fun x => if set &&& bt x = 0 then 0 else if lowN (ringN f x) = x then 1 else 0) 7 = sumN (fun x => if x ≤ n then (if set &&& bt x = 0 then 0 else if leastB f x then 1 else 0) else 0) 7 := sumN_congr 7 (fun x a b => by
    by_cases q : x ≤ n
    · rw [if_pos q]
      have e := least_low hf h7 a q
      by_cases r : leastB f x = true
      · rw [if_pos (e.mp r), if_pos r]
      · rw [if_neg (fun t => r (e.mpr t)), if_neg r]
    · rw [if_neg q, if_pos (Classical.byContradiction (fun t => q (hin x a b t)))])
  rw [this, sumN_cut, show min 7 n = n by omega]
theorem rings_full {n : Nat} {f : Nat → Nat} (hf : Pm n f) (h7 : n ≤ 7) : ringsN f (full n) = lstN f n := by
  rw [rings_lst hf h7 (full_lt h7) (fun y a b h => (hasb_full h7 a b).mp h) (fun y a b h => (by
    have hy := (hasb_full h7 a b).mp h
    have := hf.1 y a hy
    exact (hasb_full h7 this.1 (by omega)).mpr this.2))]
  unfold lstS lstN
  exact sumN_congr n (fun x a b => by rw [if_neg ((hasb_full h7 a (by omega)).mpr b)])
def prtN (s a : Nat → Nat) : Nat → Nat := sumN (fun x => if lowN (reachN s a x) = x then 1 else 0)
theorem parts_prt {n : Nat} {s a : Nat → Nat} (h7 : n ≤ 7) (hs : Pm n s) (ha : Pm n a) : partsN s a n = prtN s a n := by
  unfold partsN
  rw [partsL_cnt s a 7 (full n) 0 (reach_cut h7 hs ha) (popc_le _ (full_lt h7)), Nat.zero_add]
  unfold lcnt prtN
  have : sumN (fun x => if full n &&& bt x = 0 then 0 else if lowN (reachN s a x) = x then 1 else 0) 7 = sumN (fun x => if x ≤ n then (if lowN (reachN s a x) = x then 1 else 0) else 0) 7 := sumN_congr 7 (fun x p q => by
    by_cases r : x ≤ n
    · rw [if_pos r, if_neg ((hasb_full h7 p q).mpr r)]
    · rw [if_neg r, if_pos (Classical.byContradiction (fun t => r ((hasb_full h7 p q).mp t)))])
  rw [this, sumN_cut, show min 7 n = n by omega]

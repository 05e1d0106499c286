/-! the sign, the parts of a type, genera; cycles of the two sides -/
theorem xfac {n : Nat} {f : Nat → Nat} (h1 : 1 ≤ n) (h7 : n ≤ 7) (hf : Pm n f) : xchk n (hx f) = true := List.all_eq_true.mp (xall n (by omega) h1) _ (PH_mem hf h7)
theorem lst_parts {n : Nat} {f : Nat → Nat} (h1 : 1 ≤ n) (h7 : n ≤ 7) (hf : Pm n f) : lstN f n = partsT (kindN f n) := by
  have h := xfac h1 h7 hf
  unfold xchk at h
  rw [dg_hx hf h7] at h
  simp only [Bool.and_eq_true, beq_iff_eq] at h
  exact h.1.symm
theorem lst_sgn {n : Nat} {f : Nat → Nat} (h1 : 1 ≤ n) (h7 : n ≤ 7) (hf : Pm n f) : (n - lstN f n) % 2 = invN f % 2 := by
  have h := xfac h1 h7 hf
  unfold xchk at h
  rw [dg_hx hf h7] at h
  simp only [Bool.and_eq_true, beq_iff_eq] at h
  exact h.2.2
def tsp (k : Nat) : Nat → Nat := fun x => if x = k then k + 1 else if x = k + 1 then k else x
theorem b01_flip {p q : Nat} (h : p ≠ q) : b01 p q + b01 q p = 1 := by
  unfold b01
  split <;> split <;> omega
theorem inv_tsp1 (f : Nat → Nat) (hb : b01 (f 1) (f 2) + b01 (f 2) (f 1) = 1) : (invN (pcomp (tsp 1) f) + invN f) % 2 = 1 := by
  have e1 : invN (pcomp (tsp 1) f) = b01 (f 2) (f 1) + b01 (f 2) (f 3) + b01 (f 2) (f 4) + b01 (f 2) (f 5) + b01 (f 2) (f 6) + b01 (f 2) (f 7) + b01 (f 1) (f 3) + b01 (f 1) (f 4) + b01 (f 1) (f 5) + b01 (f 1) (f 6) + b01 (f 1) (f 7) + b01 (f 3) (f 4) + b01 (f 3) (f 5) + b01 (f 3) (f 6) + b01 (f 3) (f 7) + b01 (f 4) (f 5) + b01 (f 4) (f 6) + b01 (f 4) (f 7) + b01 (f 5) (f 6) + b01 (f 5) (f 7) + b01 (f 6) (f 7) := rfl
  have e2 : invN f = b01 (f 1) (f 2) + b01 (f 1) (f 3) + b01 (f 1) (f 4) + b01 (f 1) (f 5) + b01 (f 1) (f 6) + b01 (f 1) (f 7) + b01 (f 2) (f 3) + b01 (f 2) (f 4) + b01 (f 2) (f 5) + b01 (f 2) (f 6) + b01 (f 2) (f 7) + b01 (f 3) (f 4) + b01 (f 3) (f 5) + b01 (f 3) (f 6) + b01 (f 3) (f 7) + b01 (f 4) (f 5) + b01 (f 4) (f 6) + b01 (f 4) (f 7) + b01 (f 5) (f 6) + b01 (f 5) (f 7) + b01 (f 6) (f 7) := rfl
  rw [e1, e2]
  generalize b01 (f 1) (f 2) = x12 at *
  generalize b01 (f 1) (f 3) = x13 at *
  generalize b01 (f 1) (f 4) = x14 at *
  generalize b01 (f 1) (f 5) = x15 at *
  generalize b01 (f 1) (f 6) = x16 at *
  generalize b01 (f 1) (f 7) = x17 at *
  generalize b01 (f 2) (f 3) = x23 at *
  generalize b01 (f 2) (f 4) = x24 at *
  generalize b01 (f 2) (f 5) = x25 at *
  generalize b01 (f 2) (f 6) = x26 at *
  generalize b01 (f 2) (f 7) = x27 at *
  generalize b01 (f 3) (f 4) = x34 at *
  generalize b01 (f 3) (f 5) = x35 at *
  generalize b01 (f 3) (f 6) = x36 at *
  generalize b01 (f 3) (f 7) = x37 at *
  generalize b01 (f 4) (f 5) = x45 at *
  generalize b01 (f 4) (f 6) = x46 at *
  generalize b01 (f 4) (f 7) = x47 at *
  generalize b01 (f 5) (f 6) = x56 at *
  generalize b01 (f 5) (f 7) = x57 at *
  generalize b01 (f 6) (f 7) = x67 at *
  generalize b01 (f 2) (f 1) = y at *
  omega
theorem inv_tsp2 (f : Nat → Nat) (hb : b01 (f 2) (f 3) + b01 (f 3) (f 2) = 1) : (invN (pcomp (tsp 2) f) + invN f) % 2 = 1 := by
  have e1 : invN (pcomp (tsp 2) f) = b01 (f 1) (f 3) + b01 (f 1) (f 2) + b01 (f 1) (f 4) + b01 (f 1) (f 5) + b01 (f 1) (f 6) + b01 (f 1) (f 7) + b01 (f 3) (f 2) + b01 (f 3) (f 4) + b01 (f 3) (f 5) + b01 (f 3) (f 6) + b01 (f 3) (f 7) + b01 (f 2) (f 4) + b01 (f 2) (f 5) + b01 (f 2) (f 6) + b01 (f 2) (f 7) + b01 (f 4) (f 5) + b01 (f 4) (f 6) + b01 (f 4) (f 7) + b01 (f 5) (f 6) + b01 (f 5) (f 7) + b01 (f 6) (f 7) := rfl
  have e2 : invN f = b01 (f 1) (f 2) + b01 (f 1) (f 3) + b01 (f 1) (f 4) + b01 (f 1) (f 5) + b01 (f 1) (f 6) + b01 (f 1) (f 7) + b01 (f 2) (f 3) + b01 (f 2) (f 4) + b01 (f 2) (f 5) + b01 (f 2) (f 6) + b01 (f 2) (f 7) + b01 (f 3) (f 4) + b01 (f 3) (f 5) + b01 (f 3) (f 6) + b01 (f 3) (f 7) + b01 (f 4) (f 5) + b01 (f 4) (f 6) + b01 (f 4) (f 7) + b01 (f 5) (f 6) + b01 (f 5) (f 7) + b01 (f 6) (f 7) := rfl
  rw [e1, e2]
  generalize b01 (f 1) (f 2) = x12 at *
  generalize b01 (f 1) (f 3) = x13 at *
  generalize b01 (f 1) (f 4) = x14 at *
  generalize b01 (f 1) (f 5) = x15 at *
  generalize b01 (f 1) (f 6) = x16 at *
  generalize b01 (f 1) (f 7) = x17 at *
  generalize b01 (f 2) (f 3) = x23 at *
  generalize b01 (f 2) (f 4) = x24 at *
  generalize b01 (f 2) (f 5) = x25 at *
  generalize b01 (f 2) (f 6) = x26 at *
  generalize b01 (f 2) (f 7) = x27 at *
  generalize b01 (f 3) (f 4) = x34 at *
  generalize b01 (f 3) (f 5) = x35 at *
  generalize b01 (f 3) (f 6) = x36 at *
  generalize b01 (f 3) (f 7) = x37 at *
  generalize b01 (f 4) (f 5) = x45 at *
  generalize b01 (f 4) (f 6) = x46 at *
  generalize b01 (f 4) (f 7) = x47 at *
  generalize b01 (f 5) (f 6) = x56 at *
  generalize b01 (f 5) (f 7) = x57 at *
  generalize b01 (f 6) (f 7) = x67 at *
  generalize b01 (f 3) (f 2) = y at *
  omega
theorem inv_tsp3 (f : Nat → Nat) (hb : b01 (f 3) (f 4) + b01 (f 4) (f 3) = 1) : (invN (pcomp (tsp 3) f) + invN f) % 2 = 1 := by
  have e1 : invN (pcomp (tsp 3) f) = b01 (f 1) (f 2) + b01 (f 1) (f 4) + b01 (f 1) (f 3) + b01 (f 1) (f 5) + b01 (f 1) (f 6) + b01 (f 1) (f 7) + b01 (f 2) (f 4) + b01 (f 2) (f 3) + b01 (f 2) (f 5) + b01 (f 2) (f 6) + b01 (f 2) (f 7) + b01 (f 4) (f 3) + b01 (f 4) (f 5) + b01 (f 4) (f 6) + b01 (f 4) (f 7) + b01 (f 3) (f 5) + b01 (f 3) (f 6) + b01 (f 3) (f 7) + b01 (f 5) (f 6) + b01 (f 5) (f 7) + b01 (f 6) (f 7) := rfl
  have e2 : invN f = b01 (f 1) (f 2) + b01 (f 1) (f 3) + b01 (f 1) (f 4) + b01 (f 1) (f 5) + b01 (f 1) (f 6) + b01 (f 1) (f 7) + b01 (f 2) (f 3) + b01 (f 2) (f 4) + b01 (f 2) (f 5) + b01 (f 2) (f 6) + b01 (f 2) (f 7) + b01 (f 3) (f 4) + b01 (f 3) (f 5) + b01 (f 3) (f 6) + b01 (f 3) (f 7) + b01 (f 4) (f 5) + b01 (f 4) (f 6) + b01 (f 4) (f 7) + b01 (f 5) (f 6) + b01 (f 5) (f 7) + b01 (f 6) (f 7) := rfl
  rw [e1, e2]
  generalize b01 (f 1) (f 2) = x12 at *
  generalize b01 (f 1) (f 3) = x13 at *
  generalize b01 (f 1) (f 4) = x14 at *
  generalize b01 (f 1) (f 5) = x15 at *
  generalize b01 (f 1) (f 6) = x16 at *
  generalize b01 (f 1) (f 7) = x17 at *
  generalize b01 (f 2) (f 3) = x23 at *
  generalize b01 (f 2) (f 4) = x24 at *
  generalize b01 (f 2) (f 5) = x25 at *
  generalize b01 (f 2) (f 6) = x26 at *
  generalize b01 (f 2) (f 7) = x27 at *
  generalize b01 (f 3) (f 4) = x34 at *
  generalize b01 (f 3) (f 5) = x35 at *
  generalize b01 (f 3) (f 6) = x36 at *
  generalize b01 (f 3) (f 7) = x37 at *
  generalize b01 (f 4) (f 5) = x45 at *
  generalize b01 (f 4) (f 6) = x46 at *
  generalize b01 (f 4) (f 7) = x47 at *
  generalize b01 (f 5) (f 6) = x56 at *
  generalize b01 (f 5) (f 7) = x57 at *
  generalize b01 (f 6) (f 7) = x67 at *
  generalize b01 (f 4) (f 3) = y at *
  omega
theorem inv_tsp4 (f : Nat → Nat) (hb : b01 (f 4) (f 5) + b01 (f 5) (f 4) = 1) : (invN (pcomp (tsp 4) f) + invN f) % 2 = 1 := by
  have e1 : invN (pcomp (tsp 4) f) = b01 (f 1) (f 2) + b01 (f 1) (f 3) + b01 (f 1) (f 5) + b01 (f 1) (f 4) + b01 (f 1) (f 6) + b01 (f 1) (f 7) + b01 (f 2) (f 3) + b01 (f 2) (f 5) + b01 (f 2) (f 4) + b01 (f 2) (f 6) + b01 (f 2) (f 7) + b01 (f 3) (f 5) + b01 (f 3) (f 4) + b01 (f 3) (f 6) + b01 (f 3) (f 7) + b01 (f 5) (f 4) + b01 (f 5) (f 6) + b01 (f 5) (f 7) + b01 (f 4) (f 6) + b01 (f 4) (f 7) + b01 (f 6) (f 7) := rfl
  have e2 : invN f = b01 (f 1) (f 2) + b01 (f 1) (f 3) + b01 (f 1) (f 4) + b01 (f 1) (f 5) + b01 (f 1) (f 6) + b01 (f 1) (f 7) + b01 (f 2) (f 3) + b01 (f 2) (f 4) + b01 (f 2) (f 5) + b01 (f 2) (f 6) + b01 (f 2) (f 7) + b01 (f 3) (f 4) + b01 (f 3) (f 5) + b01 (f 3) (f 6) + b01 (f 3) (f 7) + b01 (f 4) (f 5) + b01 (f 4) (f 6) + b01 (f 4) (f 7) + b01 (f 5) (f 6) + b01 (f 5) (f 7) + b01 (f 6) (f 7) := rfl
  rw [e1, e2]
  generalize b01 (f 1) (f 2) = x12 at *
  generalize b01 (f 1) (f 3) = x13 at *
  generalize b01 (f 1) (f 4) = x14 at *
  generalize b01 (f 1) (f 5) = x15 at *
  generalize b01 (f 1) (f 6) = x16 at *
  generalize b01 (f 1) (f 7) = x17 at *
  generalize b01 (f 2) (f 3) = x23 at *
  generalize b01 (f 2) (f 4) = x24 at *
  generalize b01 (f 2) (f 5) = x25 at *
  generalize b01 (f 2) (f 6) = x26 at *
  generalize b01 (f 2) (f 7) = x27 at *
  generalize b01 (f 3) (f 4) = x34 at *
  generalize b01 (f 3) (f 5) = x35 at *
  generalize b01 (f 3) (f 6) = x36 at *
  generalize b01 (f 3) (f 7) = x37 at *
  generalize b01 (f 4) (f 5) = x45 at *
  generalize b01 (f 4) (f 6) = x46 at *
  generalize b01 (f 4) (f 7) = x47 at *
  generalize b01 (f 5) (f 6) = x56 at *
  generalize b01 (f 5) (f 7) = x57 at *
  generalize b01 (f 6) (f 7) = x67 at *
  generalize b01 (f 5) (f 4) = y at *
  omega
theorem inv_tsp5 (f : Nat → Nat) (hb : b01 (f 5) (f 6) + b01 (f 6) (f 5) = 1) : (invN (pcomp (tsp 5) f) + invN f) % 2 = 1 := by
  have e1 : invN (pcomp (tsp 5) f) = b01 (f 1) (f 2) + b01 (f 1) (f 3) + b01 (f 1) (f 4) + b01 (f 1) (f 6) + b01 (f 1) (f 5) + b01 (f 1) (f 7) + b01 (f 2) (f 3) + b01 (f 2) (f 4) + b01 (f 2) (f 6) + b01 (f 2) (f 5) + b01 (f 2) (f 7) + b01 (f 3) (f 4) + b01 (f 3) (f 6) + b01 (f 3) (f 5) + b01 (f 3) (f 7) + b01 (f 4) (f 6) + b01 (f 4) (f 5) + b01 (f 4) (f 7) + b01 (f 6) (f 5) + b01 (f 6) (f 7) + b01 (f 5) (f 7) := rfl
  have e2 : invN f = b01 (f 1) (f 2) + b01 (f 1) (f 3) + b01 (f 1) (f 4) + b01 (f 1) (f 5) + b01 (f 1) (f 6) + b01 (f 1) (f 7) + b01 (f 2) (f 3) + b01 (f 2) (f 4) + b01 (f 2) (f 5) + b01 (f 2) (f 6) + b01 (f 2) (f 7) + b01 (f 3) (f 4) + b01 (f 3) (f 5) + b01 (f 3) (f 6) + b01 (f 3) (f 7) + b01 (f 4) (f 5) + b01 (f 4) (f 6) + b01 (f 4) (f 7) + b01 (f 5) (f 6) + b01 (f 5) (f 7) + b01 (f 6) (f 7) := rfl
  rw [e1, e2]
  generalize b01 (f 1) (f 2) = x12 at *
  generalize b01 (f 1) (f 3) = x13 at *
  generalize b01 (f 1) (f 4) = x14 at *
  generalize b01 (f 1) (f 5) = x15 at *
  generalize b01 (f 1) (f 6) = x16 at *
  generalize b01 (f 1) (f 7) = x17 at *
  generalize b01 (f 2) (f 3) = x23 at *
  generalize b01 (f 2) (f 4) = x24 at *
  generalize b01 (f 2) (f 5) = x25 at *
  generalize b01 (f 2) (f 6) = x26 at *
  generalize b01 (f 2) (f 7) = x27 at *
  generalize b01 (f 3) (f 4) = x34 at *
  generalize b01 (f 3) (f 5) = x35 at *
  generalize b01 (f 3) (f 6) = x36 at *
  generalize b01 (f 3) (f 7) = x37 at *
  generalize b01 (f 4) (f 5) = x45 at *
  generalize b01 (f 4) (f 6) = x46 at *
  generalize b01 (f 4) (f 7) = x47 at *
  generalize b01 (f 5) (f 6) = x56 at *
  generalize b01 (f 5) (f 7) = x57 at *
  generalize b01 (f 6) (f 7) = x67 at *
  generalize b01 (f 6) (f 5) = y at *
  omega
theorem inv_tsp6 (f : Nat → Nat) (hb : b01 (f 6) (f 7) + b01 (f 7) (f 6) = 1) : (invN (pcomp (tsp 6) f) + invN f) % 2 = 1 := by
  have e1 : invN (pcomp (tsp 6) f) = b01 (f 1) (f 2) + b01 (f 1) (f 3) + b01 (f 1) (f 4) + b01 (f 1) (f 5) + b01 (f 1) (f 7) + b01 (f 1) (f 6) + b01 (f 2) (f 3) + b01 (f 2) (f 4) + b01 (f 2) (f 5) + b01 (f 2) (f 7) + b01 (f 2) (f 6) + b01 (f 3) (f 4) + b01 (f 3) (f 5) + b01 (f 3) (f 7) + b01 (f 3) (f 6) + b01 (f 4) (f 5) + b01 (f 4) (f 7) + b01 (f 4) (f 6) + b01 (f 5) (f 7) + b01 (f 5) (f 6) + b01 (f 7) (f 6) := rfl
  have e2 : invN f = b01 (f 1) (f 2) + b01 (f 1) (f 3) + b01 (f 1) (f 4) + b01 (f 1) (f 5) + b01 (f 1) (f 6) + b01 (f 1) (f 7) + b01 (f 2) (f 3) + b01 (f 2) (f 4) + b01 (f 2) (f 5) + b01 (f 2) (f 6) + b01 (f 2) (f 7) + b01 (f 3) (f 4) + b01 (f 3) (f 5) + b01 (f 3) (f 6) + b01 (f 3) (f 7) + b01 (f 4) (f 5) + b01 (f 4) (f 6) + b01 (f 4) (f 7) + b01 (f 5) (f 6) + b01 (f 5) (f 7) + b01 (f 6) (f 7) := rfl
  rw [e1, e2]
  generalize b01 (f 1) (f 2) = x12 at *
  generalize b01 (f 1) (f 3) = x13 at *
  generalize b01 (f 1) (f 4) = x14 at *
  generalize b01 (f 1) (f 5) = x15 at *
  generalize b01 (f 1) (f 6) = x16 at *
  generalize b01 (f 1) (f 7) = x17 at *
  generalize b01 (f 2) (f 3) = x23 at *
  generalize b01 (f 2) (f 4) = x24 at *
  generalize b01 (f 2) (f 5) = x25 at *
  generalize b01 (f 2) (f 6) = x26 at *
  generalize b01 (f 2) (f 7) = x27 at *
  generalize b01 (f 3) (f 4) = x34 at *
  generalize b01 (f 3) (f 5) = x35 at *
  generalize b01 (f 3) (f 6) = x36 at *
  generalize b01 (f 3) (f 7) = x37 at *
  generalize b01 (f 4) (f 5) = x45 at *
  generalize b01 (f 4) (f 6) = x46 at *
  generalize b01 (f 4) (f 7) = x47 at *
  generalize b01 (f 5) (f 6) = x56 at *
  generalize b01 (f 5) (f 7) = x57 at *
  generalize b01 (f 6) (f 7) = x67 at *
  generalize b01 (f 7) (f 6) = y at *
  omega
theorem inv_tsp {f : Nat → Nat} {k : Nat} (h1 : 1 ≤ k) (h2 : k ≤ 6) (hne : f k ≠ f (k + 1)) : (invN (pcomp (tsp k) f) + invN f) % 2 = 1 := by
  have hb := b01_flip hne
  rcases (show k = 1 ∨ k = 2 ∨ k = 3 ∨ k = 4 ∨ k = 5 ∨ k = 6 by omega) with rfl | rfl | rfl | rfl | rfl | rfl
  · exact inv_tsp1 f hb
  · exact inv_tsp2 f hb
  · exact inv_tsp3 f hb
  · exact inv_tsp4 f hb
  · exact inv_tsp5 f hb
  · exact inv_tsp6 f hb
theorem tsp_tsp (k x : Nat) : tsp k (tsp k x) = x := by
  unfold tsp
  by_cases h : x = k
  · subst h; simp
  · by_cases h2 : x = k + 1
    · subst h2; simp
    · simp [h, h2]
theorem comp_tsp2 (k : Nat) (f : Nat → Nat) : pcomp (tsp k) (pcomp (tsp k) f) = f := by
  funext x
  show f (tsp k (tsp k x)) = f x
  rw [tsp_tsp]
theorem comp_as (f g h : Nat → Nat) : pcomp (pcomp f g) h = pcomp f (pcomp g h) := rfl
theorem tsp_pm {k : Nat} (h1 : 1 ≤ k) (h2 : k ≤ 6) : Pm 7 (tsp k) := by
  refine ⟨fun x a b => ?_, fun x y _ _ _ _ e => ?_, fun x hx => ?_⟩
  · unfold tsp; split
    · omega
    · split <;> omega
  · have := congrArg (tsp k) e
    rw [tsp_tsp, tsp_tsp] at this
    exact this
  · unfold tsp
    rw [if_neg (by omega), if_neg (by omega)]
def msN (f : Nat → Nat) : Nat := 7 * f 1 + 6 * f 2 + 5 * f 3 + 4 * f 4 + 3 * f 5 + 2 * f 6 + f 7
theorem ms_tsp1 (f : Nat → Nat) (hd : f 2 < f 1) : msN (pcomp (tsp 1) f) < msN f := by
  have e1 : msN (pcomp (tsp 1) f) = 7 * f 2 + 6 * f 1 + 5 * f 3 + 4 * f 4 + 3 * f 5 + 2 * f 6 + f 7 := rfl
  have e2 : msN f = 7 * f 1 + 6 * f 2 + 5 * f 3 + 4 * f 4 + 3 * f 5 + 2 * f 6 + f 7 := rfl
  rw [e1, e2]
  omega
theorem ms_tsp2 (f : Nat → Nat) (hd : f 3 < f 2) : msN (pcomp (tsp 2) f) < msN f := by
  have e1 : msN (pcomp (tsp 2) f) = 7 * f 1 + 6 * f 3 + 5 * f 2 + 4 * f 4 + 3 * f 5 + 2 * f 6 + f 7 := rfl
  have e2 : msN f = 7 * f 1 + 6 * f 2 + 5 * f 3 + 4 * f 4 + 3 * f 5 + 2 * f 6 + f 7 := rfl
  rw [e1, e2]
  omega
theorem ms_tsp3 (f : Nat → Nat) (hd : f 4 < f 3) : msN (pcomp (tsp 3) f) < msN f := by
  have e1 : msN (pcomp (tsp 3) f) = 7 * f 1 + 6 * f 2 + 5 * f 4 + 4 * f 3 + 3 * f 5 + 2 * f 6 + f 7 := rfl
  have e2 : msN f = 7 * f 1 + 6 * f 2 + 5 * f 3 + 4 * f 4 + 3 * f 5 + 2 * f 6 + f 7 := rfl
  rw [e1, e2]
  omega
theorem ms_tsp4 (f : Nat → Nat) (hd : f 5 < f 4) : msN (pcomp (tsp 4) f) < msN f := by
  have e1 : msN (pcomp (tsp 4) f) = 7 * f 1 + 6 * f 2 + 5 * f 3 + 4 * f 5 + 3 * f 4 + 2 * f 6 + f 7 := rfl
  have e2 : msN f = 7 * f 1 + 6 * f 2 + 5 * f 3 + 4 * f 4 + 3 * f 5 + 2 * f 6 + f 7 := rfl
  rw [e1, e2]
  omega
theorem ms_tsp5 (f : Nat → Nat) (hd : f 6 < f 5) : msN (pcomp (tsp 5) f) < msN f := by
  have e1 : msN (pcomp (tsp 5) f) = 7 * f 1 + 6 * f 2 + 5 * f 3 + 4 * f 4 + 3 * f 6 + 2 * f 5 + f 7 := rfl
  have e2 : msN f = 7 * f 1 + 6 * f 2 + 5 * f 3 + 4 * f 4 + 3 * f 5 + 2 * f 6 + f 7 := rfl
  rw [e1, e2]
  omega
theorem ms_tsp6 (f : Nat → Nat) (hd : f 7 < f 6) : msN (pcomp (tsp 6) f) < msN f := by
  have e1 : msN (pcomp (tsp 6) f) = 7 * f 1 + 6 * f 2 + 5 * f 3 + 4 * f 4 + 3 * f 5 + 2 * f 7 + f 6 := rfl
  have e2 : msN f = 7 * f 1 + 6 * f 2 + 5 * f 3 + 4 * f 4 + 3 * f 5 + 2 * f 6 + f 7 := rfl
  rw [e1, e2]
  omega
theorem ms_tsp {f : Nat → Nat} {k : Nat} (h1 : 1 ≤ k) (h2 : k ≤ 6) (hd : f (k + 1) < f k) : msN (pcomp (tsp k) f) < msN f := by
  rcases (show k = 1 ∨ k = 2 ∨ k = 3 ∨ k = 4 ∨ k = 5 ∨ k = 6 by omega) with rfl | rfl | rfl | rfl | rfl | rfl
  · exact ms_tsp1 f hd
  · exact ms_tsp2 f hd
  · exact ms_tsp3 f hd
  · exact ms_tsp4 f hd
  · exact ms_tsp5 f hd
  · exact ms_tsp6 f hd
theorem no_desc {f : Nat → Nat} (hf : Pm 7 f) (h : ∀ k, 1 ≤ k → k ≤ 6 → ¬ f (k + 1) < f k) : f = pid := by
  have b := hf.b7 (Nat.le_refl 7)
  have ne : ∀ k, 1 ≤ k → k ≤ 6 → f k ≠ f (k + 1) := fun k _ _ e => by have := hf.inj e; omega
  have q : ∀ k, 1 ≤ k → k ≤ 6 → f k < f (k + 1) := fun k u1 u2 => by
    have := h k u1 u2
    have := ne k u1 u2
    omega
  have q1 : f 1 < f 2 := q 1 (by decide) (by decide)
  have q2 : f 2 < f 3 := q 2 (by decide) (by decide)
  have q3 : f 3 < f 4 := q 3 (by decide) (by decide)
  have q4 : f 4 < f 5 := q 4 (by decide) (by decide)
  have q5 : f 5 < f 6 := q 5 (by decide) (by decide)
  have q6 : f 6 < f 7 := q 6 (by decide) (by decide)
  have b1 := b 1 (by decide) (by decide)
  have b7 := b 7 (by decide) (by decide)
  clear ne h q b
  refine hf.ext (pm_id 7) (fun x h1 h2 => ?_)
  show f x = x
  rcases (show x = 1 ∨ x = 2 ∨ x = 3 ∨ x = 4 ∨ x = 5 ∨ x = 6 ∨ x = 7 by omega) with rfl | rfl | rfl | rfl | rfl | rfl | rfl <;> omega
theorem inv_comp7 (g : Nat → Nat) (hg : Pm 7 g) : ∀ (m : Nat) (f : Nat → Nat), msN f ≤ m → Pm 7 f → invN (pcomp f g) % 2 = (invN f + invN g) % 2
  | 0, f, hm, hf => by
    have b1 := hf.b7 (Nat.le_refl 7) 1 (by omega) (by omega)
    unfold msN at hm
    omega
  | m + 1, f, hm, hf => by
    by_cases h : ∃ k, (1 ≤ k ∧ k ≤ 6) ∧ f (k + 1) < f k
    · obtain ⟨k, ⟨h1, h2⟩, hd⟩ := h
      have hlt := ms_tsp h1 h2 hd
      have hp : Pm 7 (pcomp (tsp k) f) := (tsp_pm h1 h2).comp hf
      have ih := inv_comp7 g hg m (pcomp (tsp k) f) (by omega) hp
      have e1 := inv_tsp (f := f) h1 h2 (by omega)
      have e2 := inv_tsp (f := pcomp f g) h1 h2 (fun e => by
        have e3 : g (f k) = g (f (k + 1)) := e
        have := hf.inj (hg.inj e3)
        omega)
      rw [← comp_as] at e2
      omega
    · have e := no_desc hf (fun k h1 h2 hd => h ⟨k, ⟨h1, h2⟩, hd⟩)
      subst e
      have e2 : invN pid = 0 := by decide +kernel
      rw [e2, Nat.zero_add]
      rfl
theorem sgn_comp {n : Nat} {f g : Nat → Nat} (h7 : n ≤ 7) (hf : Pm n f) (hg : Pm n g) : invN (pcomp f g) % 2 = (invN f + invN g) % 2 := inv_comp7 g (hg.mono h7) _ f (Nat.le_refl _) (hf.mono h7)
theorem lst_even {n : Nat} {f g : Nat → Nat} (h1 : 1 ≤ n) (h7 : n ≤ 7) (hf : Pm n f) (hg : Pm n g) : (n + lstN f n + lstN g n + lstN (pcomp f g) n) % 2 = 0 := by
  have a := lst_sgn h1 h7 hf
  have b := lst_sgn h1 h7 hg
  have c := lst_sgn h1 h7 (hf.comp hg)
  have d := sgn_comp h7 hf hg
  obtain ⟨d1, e1⟩ := Nat.exists_eq_add_of_le (lst_le f n)
  obtain ⟨d2, e2⟩ := Nat.exists_eq_add_of_le (lst_le g n)
  obtain ⟨d3, e3⟩ := Nat.exists_eq_add_of_le (lst_le (pcomp f g) n)
  rw [show n - lstN f n = d1 by omega] at a
  rw [show n - lstN g n = d2 by omega] at b
  rw [show n - lstN (pcomp f g) n = d3 by omega] at c
  rw [Nat.add_mod] at d
  have hD : (d1 + d2 + d3) % 2 = 0 := by
    rw [d, ← a, ← b] at c
    clear a b d e1 e2 e3
    omega
  clear a b c d
  generalize lstN f n = l1 at *
  generalize lstN g n = l2 at *
  generalize lstN (pcomp f g) n = l3 at *
  omega
theorem gen_k {n : Nat} {f g : Nat → Nat} (h1 : 1 ≤ n) (h7 : n ≤ 7) (hf : Pm n f) (hg : Pm n g) : ∃ q : Int, genusI f g (full n) = q ∧ (n : Int) + 2 - (partsT (kindN f n) : Int) - (partsT (kindN g n) : Int) - (partsT (kindN (pcomp f g) n) : Int) = 2 * q := by
  have e := lst_even h1 h7 hf hg
  have l1 := lst_parts h1 h7 hf
  have l2 := lst_parts h1 h7 hg
  have l3 := lst_parts h1 h7 (hf.comp hg)
  have l4 := lst_parts h1 h7 (hf.face h7 hg)
  rw [kind_face h1 h7 hf hg] at l4
  refine ⟨genusI f g (full n), rfl, ?_⟩
  unfold genusI
  rw [rings_full hf h7, rings_full hg h7, rings_full (hf.face h7 hg) h7, popc_full n (by omega)]
  obtain ⟨t, ht⟩ : ∃ t : Int, (n : Int) + 2 - ((lstN f n : Int) + (lstN g n : Int) + (lstN (pface f g) n : Int)) = 2 * t := ⟨((n : Int) + 2 - ((lstN f n : Int) + (lstN g n : Int) + (lstN (pface f g) n : Int))) / 2, by omega⟩
  rw [ht, Int.mul_tdiv_cancel_left _ (by decide)]
  omega
theorem hyp_GCON : GCON := by
  intro n s a h1 h7 hs ha
  obtain ⟨r, hr, e1, e2, -⟩ := canA_ok h1 h7 hs ha
  have hp := Pm.conj h7 ha hr
  have e3 : canA n s a = pconj a r := by unfold canA; rw [e2, dg_hx hp h7]
  rw [e3, ← e1]
  obtain ⟨q, g1, g2⟩ := gen_k h1 h7 (Pm.conj h7 hs hr) hp
  obtain ⟨q', g3, g4⟩ := gen_k h1 h7 hs ha
  rw [conj_comp h7 hr, kind_conj h1 h7 hs hr, kind_conj h1 h7 ha hr, kind_conj h1 h7 (hs.comp ha) hr] at g2
  omega
theorem hyp_CYCE : CYCE := by
  intro n f what h1 h7 hf
  unfold cycM cycI
  rw [rings_full hf h7]
  split
  · rfl
  · split
    · rfl
    · split
      · rfl
      · split
        · have hl := lst_le f n
          have hp := kf_par h1 h7 hf
          unfold band
          rw [show (n : Int) - (lstN f n : Int) = ((n - lstN f n : Nat) : Int) by omega, show (1 : Int) = ((1 : Nat) : Int) from rfl, iz_and, Nat.and_one_is_mod, hp, iz_toInt (by have := Nat.mod_lt (evnN f n) (show 0 < 2 by decide); omega)]
        · rfl
/-! genera: told by the third type -/
def gsm (n : Nat) (S : Nat → Nat) (t2 : Nat) (third : Int) (m : Nat) : Nat → Int
  | 0 => 0
  | K + 1 => gsm n S t2 third m K + (if (partsT (kT n K) : Int) = third then ((cntI (tPC n S t2 (kT n K)) m : Nat) : Int) else 0)
theorem gsm_gen (n i1 i2 : Nat) (third : Int) : ∀ K, gsm n (leastF (kT n i1) n) (kT n i2) third (facN n) K = genS n i1 i2 third K
  | 0 => rfl
  | K + 1 => by
    show gsm n (leastF (kT n i1) n) (kT n i2) third (facN n) K + _ = genS n i1 i2 third K + _
    rw [gsm_gen n i1 i2 third K]
theorem gsm_0 (n : Nat) (S : Nat → Nat) (t2 : Nat) (third : Int) : ∀ K, gsm n S t2 third 0 K = 0
  | 0 => rfl
  | K + 1 => by
    show gsm n S t2 third 0 K + _ = 0
    rw [gsm_0 n S t2 third K]
    split <;> rfl
theorem gsm_s {n : Nat} {S : Nat → Nat} {t2 : Nat} {third : Int} {m : Nat} (h7 : n ≤ 7) {k0 : Nat} (hk : k0 < kmany n) (e : kindN (pcomp S (pn n m)) n = kT n k0) : ∀ K, K ≤ kmany n → gsm n S t2 third (m + 1) K = gsm n S t2 third m K + (if k0 < K ∧ (partsT (kT n k0) : Int) = third ∧ kindN (pn n m) n = t2 ∧ joinB S (pn n m) n = true then 1 else 0)
  | 0, _ => by
    show (0 : Int) = 0 + _
    rw [if_neg (by omega)]; rfl
  | K + 1, hK => by
    have ih := gsm_s (S := S) (t2 := t2) (third := third) h7 hk e K (by omega)
    show gsm n S t2 third (m + 1) K + _ = gsm n S t2 third m K + _ + _
    rw [ih, cntI_s]
    have ht : tPC n S t2 (kT n K) m = true ↔ (kindN (pn n m) n = t2 ∧ kT n k0 = kT n K) ∧ joinB S (pn n m) n = true := by
      unfold tPC tPA
      rw [e]
      simp [Bool.and_eq_true, beq_iff_eq]
    have hu : kT n k0 = kT n K ↔ k0 = K := ⟨fun h => kT_inj n (by omega) k0 hk K (by omega) h, fun h => by rw [h]⟩
    by_cases a : k0 = K
    · subst a
      by_cases b : (partsT (kT n k0) : Int) = third
      · by_cases c : kindN (pn n m) n = t2 ∧ joinB S (pn n m) n = true
        · rw [if_pos b, if_pos b, if_pos (ht.mpr ⟨⟨c.1, rfl⟩, c.2⟩), if_neg (by omega), if_pos ⟨by omega, b, c.1, c.2⟩]; omega
        · rw [if_pos b, if_pos b, if_neg (fun h => c ⟨(ht.mp h).1.1, (ht.mp h).2⟩), if_neg (by omega), if_neg (fun h => c ⟨h.2.2.1, h.2.2.2⟩)]; omega
      · rw [if_neg b, if_neg b, if_neg (by omega), if_neg (fun h => b h.2.1)]
    · have hn : ¬ tPC n S t2 (kT n K) m = true := fun h => a (hu.mp (ht.mp h).1.2)
      rw [if_neg hn, Nat.add_zero]
      have hiff : (k0 < K + 1 ∧ (partsT (kT n k0) : Int) = third ∧ kindN (pn n m) n = t2 ∧ joinB S (pn n m) n = true) ↔ (k0 < K ∧ (partsT (kT n k0) : Int) = third ∧ kindN (pn n m) n = t2 ∧ joinB S (pn n m) n = true) := ⟨fun h => ⟨by have := h.1; omega, h.2⟩, fun h => ⟨by have := h.1; omega, h.2⟩⟩
      simp only [hiff]
      generalize (if k0 < K ∧ (partsT (kT n k0) : Int) = third ∧ kindN (pn n m) n = t2 ∧ joinB S (pn n m) n = true then (1 : Int) else 0) = u
      generalize (if (partsT (kT n K) : Int) = third then ((cntI (tPC n S t2 (kT n K)) m : Nat) : Int) else 0) = v
      omega
theorem gen_cnt {n i1 i2 : Nat} {g : Int} (h1 : 1 ≤ n) (h7 : n ≤ 7) (hi1 : i1 < kmany n) (hi2 : i2 < kmany n) : ∀ m, m ≤ facN n → ((cntI (genB n i1 i2 g) m : Nat) : Int) = gsm n (leastF (kT n i1) n) (kT n i2) ((n : Int) + 2 - 2 * g - (partsT (kT n i1) : Int) - (partsT (kT n i2) : Int)) m (kmany n)
  | 0, _ => (gsm_0 _ _ _ _ _).symm
  | m + 1, hm => by
    have ih := gen_cnt (g := g) h1 h7 hi1 hi2 m (by omega)
    have hp := (pn_at h1 h7 (show m < facN n by omega)).1
    have hS := lp_pm h7 hi1
    have hSk : kindN (leastF (kT n i1) n) n = kT n i1 := (lp_ok n (by omega) i1 hi1).2.2
    obtain ⟨k0, hk0, e0⟩ := kf_type h1 h7 (hS.comp hp)
    rw [cntI_s, gsm_s h7 hk0 e0 (kmany n) (Nat.le_refl _), ← ih]
    obtain ⟨q, g1, g2⟩ := gen_k h1 h7 hS hp
    rw [hSk, e0] at g2
    by_cases hb : genB n i1 i2 g m = true
    · obtain ⟨b1, b2, b3⟩ := genB_at hb
      rw [b1] at g2
      rw [if_pos hb, if_pos ⟨hk0, by omega, b1, b2⟩]
      omega
    · rw [if_neg hb, if_neg (fun h => hb (genB_m h.2.2.1 h.2.2.2 (by
        have e2 := h.2.2.1
        rw [e2] at g2
        have e3 := h.2.1
        omega)))]
      omega
theorem hyp_GENH : GENH := by
  intro n i1 i2 g h1 h7 hi1 hi2 _ _
  rw [gen_cnt h1 h7 hi1 hi2 (facN n) (Nat.le_refl _), gsm_gen]
  rfl

/-! numbers: bits of small numbers -/
theorem iz_nat (n : Nat) : (iz (n : Int)).toBitVec = BitVec.ofNat 32 n := by
  show (Int32.ofInt (n : Int)).toBitVec = _
  rw [Int32.toBitVec_ofInt]
  rfl
theorem iz_and (m n : Nat) : iz (m : Int) &&& iz (n : Int) = iz ((m &&& n : Nat) : Int) := by
  apply Int32.toBitVec_inj.mp
  rw [Int32.toBitVec_and, iz_nat, iz_nat, iz_nat]
  exact (BitVec.ofNat_and).symm
theorem iz_or (m n : Nat) : iz (m : Int) ||| iz (n : Int) = iz ((m ||| n : Nat) : Int) := by
  apply Int32.toBitVec_inj.mp
  rw [Int32.toBitVec_or, iz_nat, iz_nat, iz_nat]
  exact (BitVec.ofNat_or).symm
theorem iz_xor (m n : Nat) : iz (m : Int) ^^^ iz (n : Int) = iz ((m ^^^ n : Nat) : Int) := by
  apply Int32.toBitVec_inj.mp
  rw [Int32.toBitVec_xor, iz_nat, iz_nat, iz_nat]
  exact (BitVec.ofNat_xor).symm
theorem iz_amt : ∀ k : Nat, k < 32 → ((iz (k : Int) &&& 31).toBitVec.smod 32).toNat = k := by decide +kernel
theorem iz_bvn {n : Nat} (h : n < 4294967296) : (iz (n : Int)).toBitVec.toNat = n := by
  rw [iz_nat, BitVec.toNat_ofNat]; exact Nat.mod_eq_of_lt (by simpa using h)
theorem iz_shl (n k : Nat) (hk : k < 32) : iz (n : Int) <<< (iz (k : Int) &&& 31) = iz ((n * 2 ^ k : Nat) : Int) := by
  apply Int32.toBitVec_inj.mp
  apply BitVec.eq_of_toNat_eq
  rw [pk_shl _ _ k (iz_amt k hk), iz_nat, iz_nat, BitVec.toNat_ofNat, BitVec.toNat_ofNat]
  rw [Nat.mod_mul_mod]
theorem iz_shr (n k : Nat) (hn : n < 2147483648) (hk : k < 32) : iz (n : Int) >>> (iz (k : Int) &&& 31) = iz ((n / 2 ^ k : Nat) : Int) := by
  apply Int32.toInt_inj.mp
  have h2 : n / 2 ^ k ≤ n := Nat.div_le_self _ _
  rw [pk_shr _ _ k (iz_amt k hk), iz_toInt ⟨by omega, by omega⟩, Int.shiftRight_eq_div_pow]
  rw [show ((n : Int) / ((2 ^ k : Nat) : Int)) = ((n / 2 ^ k : Nat) : Int) from (Int.natCast_ediv _ _).symm]
  generalize n / 2 ^ k = q at h2
  rw [iz_toInt ⟨by omega, by omega⟩]
theorem iz_andE {a b : Int} {m n : Nat} (ha : a = m) (hb : b = n) : iz a &&& iz b = iz ((m &&& n : Nat) : Int) := by rw [ha, hb, iz_and]
theorem iz_orE {a b : Int} {m n : Nat} (ha : a = m) (hb : b = n) : iz a ||| iz b = iz ((m ||| n : Nat) : Int) := by rw [ha, hb, iz_or]
theorem iz_xorE {a b : Int} {m n : Nat} (ha : a = m) (hb : b = n) : iz a ^^^ iz b = iz ((m ^^^ n : Nat) : Int) := by rw [ha, hb, iz_xor]
theorem iz_shlE {a b : Int} {n k : Nat} (ha : a = n) (hb : b = k) (hk : k < 32) : iz a <<< (iz b &&& 31) = iz ((n * 2 ^ k : Nat) : Int) := by rw [ha, hb, iz_shl _ _ hk]
theorem iz_shrE {a b : Int} {n k : Nat} (ha : a = n) (hb : b = k) (hn : n < 2147483648) (hk : k < 32) : iz a >>> (iz b &&& 31) = iz ((n / 2 ^ k : Nat) : Int) := by rw [ha, hb, iz_shr _ _ hn hk]
theorem iz_and7 (n : Nat) : n &&& 7 = n % 8 := Nat.and_two_pow_sub_one_eq_mod n 3
theorem iz_div {a b : Int} (ha : rg a) (hb : rg b) (h : b ≠ 0) (h2 : ¬ (a = -2147483648 ∧ b = -1)) : iz a / iz b = iz (a.tdiv b) := by
  apply Int32.toInt_inj.mp
  rw [Int32.toInt_div, iz_toInt ha, iz_toInt hb]
  have hb1 : a.tdiv b ≤ a.natAbs ∧ -(a.natAbs : Int) ≤ a.tdiv b := by
    have h3 : (a.tdiv b).natAbs = a.natAbs / b.natAbs := Int.natAbs_tdiv a b
    have h4 : a.natAbs / b.natAbs ≤ a.natAbs := Nat.div_le_self _ _
    generalize a.natAbs / b.natAbs = q at h3 h4
    omega
  have hb2 : a.tdiv b ≤ 2147483647 := by
    rcases Int.lt_or_le (a.tdiv b) 2147483648 with q | q
    · omega
    · exfalso
      have h5 : a = -2147483648 := by omega
      apply h2
      refine ⟨h5, ?_⟩
      subst h5
      have h3 : ((-2147483648 : Int).tdiv b).natAbs = (-2147483648 : Int).natAbs / b.natAbs := Int.natAbs_tdiv (-2147483648) b
      have h6 : b.natAbs = 1 := by
        rcases Nat.lt_or_ge b.natAbs 2 with q2 | q2
        · omega
        · have h8 : (-2147483648 : Int).natAbs / b.natAbs ≤ (-2147483648 : Int).natAbs / 2 := Nat.div_le_div_left q2 (by decide)
          have h9 : (-2147483648 : Int).natAbs / 2 = 1073741824 := by decide
          generalize (-2147483648 : Int).natAbs / b.natAbs = z at h3 h8
          omega
      rcases Int.natAbs_eq b with h7 | h7
      · rw [h6] at h7
        subst h7
        exact absurd q (by decide)
      · rw [h6] at h7; exact h7
  have hs : ((Int32.size : Nat) : Int) = 4294967296 := rfl
  rw [iz_toInt ⟨by omega, hb2⟩]
  exact Int.bmod_eq_of_le_mul_two (by omega) (by omega)
theorem iz_rem {a b : Int} (ha : rg a) (hb : rg b) (h : b ≠ 0) (h2 : ¬ (a = -2147483648 ∧ b = -1)) : iz a - iz a / iz b * iz b = iz (a.tmod b) := by
  rw [iz_div ha hb h h2, iz_mul, iz_sub]
  congr 1
  have := Int.tmod_add_mul_tdiv a b
  rw [Int.mul_comm] at this
  omega
theorem iz_ne {b : Int} (hb : rg b) (h : b ≠ 0) : ¬ iz b = 0 := by
  have h0 : (0 : Int32) = iz 0 := rfl
  rw [h0, iz_eq hb ⟨by omega, by omega⟩]; exact h
theorem iz_divN {a b : Int} (ha : 0 ≤ a) (ha2 : a ≤ 2147483647) (hb : 0 < b) (hb2 : b ≤ 2147483647) : iz a / iz b = iz (a / b) := by
  rw [iz_div ⟨by omega, by omega⟩ ⟨by omega, by omega⟩ (by omega) (by omega), Int.tdiv_eq_ediv_of_nonneg ha]
theorem iz_remN {a b : Int} (ha : 0 ≤ a) (ha2 : a ≤ 2147483647) (hb : 0 < b) (hb2 : b ≤ 2147483647) : iz a - iz a / iz b * iz b = iz (a % b) := by
  rw [iz_rem ⟨by omega, by omega⟩ ⟨by omega, by omega⟩ (by omega) (by omega), Int.tmod_eq_emod_of_nonneg ha]
/-! permutations as functions; their two numbers -/
def hxk (f : Nat → Nat) : Nat → Nat
  | 0 => 0
  | k + 1 => 16 * hxk f k + f (k + 1)
def cdk (f : Nat → Nat) : Nat → Nat
  | 0 => 0
  | k + 1 => 10 * cdk f k + f (k + 1)
def hx (f : Nat → Nat) : Nat := hxk f 7
abbrev B7 (f : Nat → Nat) : Prop := ∀ x, 1 ≤ x → x ≤ 7 → f x ≤ 7
theorem hx_eq (f : Nat → Nat) : hx f = 16 * (16 * (16 * (16 * (16 * (16 * (16 * 0 + f 1) + f 2) + f 3) + f 4) + f 5) + f 6) + f 7 := rfl
theorem hx_at {f : Nat → Nat} (hf : B7 f) {x : Nat} (h1 : 1 ≤ x) (h2 : x ≤ 7) : hx f / 2 ^ (28 - 4 * x) % 8 = f x := by
  have a1 := hf 1 (by omega) (by omega)
  have a2 := hf 2 (by omega) (by omega)
  have a3 := hf 3 (by omega) (by omega)
  have a4 := hf 4 (by omega) (by omega)
  have a5 := hf 5 (by omega) (by omega)
  have a6 := hf 6 (by omega) (by omega)
  have a7 := hf 7 (by omega) (by omega)
  rw [hx_eq]
  rcases (show x = 1 ∨ x = 2 ∨ x = 3 ∨ x = 4 ∨ x = 5 ∨ x = 6 ∨ x = 7 by omega) with rfl | rfl | rfl | rfl | rfl | rfl | rfl <;> (simp only [Nat.reduceMul, Nat.reduceSub, Nat.reducePow]; omega)
theorem hx_lt {f : Nat → Nat} (hf : B7 f) : hx f < 134217728 := by
  have a1 := hf 1 (by omega) (by omega)
  have a2 := hf 2 (by omega) (by omega)
  have a3 := hf 3 (by omega) (by omega)
  have a4 := hf 4 (by omega) (by omega)
  have a5 := hf 5 (by omega) (by omega)
  have a6 := hf 6 (by omega) (by omega)
  have a7 := hf 7 (by omega) (by omega)
  rw [hx_eq]
  omega
theorem or_lo {a b : Nat} (k : Nat) (h : b < 2 ^ k) : (a * 2 ^ k) ||| b = a * 2 ^ k + b := by
  rw [Nat.mul_comm, ← Nat.two_pow_add_eq_or_of_lt h]
theorem hxk_lt {f : Nat → Nat} (hf : B7 f) : ∀ k, k ≤ 7 → hxk f k < 16 ^ k
  | 0, _ => by simp [hxk]
  | k + 1, h => by
    have a := hxk_lt hf k (by omega)
    have b := hf (k + 1) (by omega) h
    simp only [hxk, Nat.pow_succ]
    omega
theorem hxk_le {f : Nat → Nat} (hf : B7 f) {k : Nat} (h : k ≤ 7) : hxk f k < 268435456 := by
  have a := hxk_lt hf k h
  have b : 16 ^ k ≤ 16 ^ 7 := Nat.pow_le_pow_right (by decide) h
  have : (16 : Nat) ^ 7 = 268435456 := by decide
  omega
theorem fb_holes : ∀ (m n : Nat) (f : Nat → Nat), (∀ i, i < n → f i < m) → (∀ i j, i < j → j < n → f i ≠ f j) → n ≤ m := by
  intro m
  induction m with
  | zero =>
    intro n f h1 _
    rcases Nat.eq_zero_or_pos n with h | h
    · omega
    · exact absurd (h1 0 h) (Nat.not_lt_zero _)
  | succ m ih =>
    intro n f h1 h2
    by_cases hx : ∃ i, i < n ∧ f i = m
    · obtain ⟨a, ha, hfa⟩ := hx
      have hg := ih (n - 1) (fun i => if i < a then f i else f (i + 1)) (by
        intro i hi
        by_cases q : i < a
        · simp only [if_pos q]
          have b1 := h1 i (by omega)
          have b2 := h2 i a q ha
          omega
        · simp only [if_neg q]
          have b1 := h1 (i + 1) (by omega)
          have b2 := h2 a (i + 1) (by omega) (by omega)
          omega) (by
        intro i j hij hj
        by_cases q : i < a
        · by_cases r : j < a
          · simp only [if_pos q, if_pos r]
            exact h2 i j hij (by omega)
          · simp only [if_pos q, if_neg r]
            exact h2 i (j + 1) (by omega) (by omega)
        · have r : ¬ j < a := by omega
          simp only [if_neg q, if_neg r]
          exact h2 (i + 1) (j + 1) (by omega) (by omega))
      omega
    · have hg := ih n f (fun i hi => by
        have b1 := h1 i hi
        have b2 : f i ≠ m := fun e => hx ⟨i, hi, e⟩
        omega) h2
      omega
/-- two of them in one place -/
theorem fb_twice {m n : Nat} {f : Nat → Nat} (h : ∀ i, i < n → f i < m) (hm : m < n) : ∃ i j, i < j ∧ j < n ∧ f i = f j := by
  refine Classical.byContradiction fun hx => ?_
  have := fb_holes m n f h (fun i j hij hj e => hx ⟨i, j, hij, hj, e⟩)
  omega
/-- as many as places, none twice: each place is taken -/
theorem fb_onto {n : Nat} {f : Nat → Nat} (h : ∀ i, i < n → f i < n) (h2 : ∀ i j, i < j → j < n → f i ≠ f j) {y : Nat} (hy : y < n) : ∃ i, i < n ∧ f i = y := by
  refine Classical.byContradiction fun hx => ?_
  have hne : ∀ i, i < n → f i ≠ y := fun i hi e => hx ⟨i, hi, e⟩
  have := fb_holes (n - 1) n (fun i => if f i < y then f i else f i - 1) (by
    intro i hi
    have b1 := h i hi
    have b2 := hne i hi
    by_cases q : f i < y
    · simp only [if_pos q]; omega
    · simp only [if_neg q]; omega) (by
    intro i j hij hj
    have b1 := hne i (by omega)
    have b2 := hne j hj
    have b3 := h2 i j hij hj
    by_cases q : f i < y
    · by_cases r : f j < y
      · simp only [if_pos q, if_pos r]; exact b3
      · simp only [if_pos q, if_neg r]; omega
    · by_cases r : f j < y
      · simp only [if_neg q, if_pos r]; omega
      · simp only [if_neg q, if_neg r]; omega)
  omega
/-! ===== how many places have a property ===== -/
/-! permutations of 1 .. n as functions -/
def Pm (n : Nat) (f : Nat → Nat) : Prop := (∀ x, 1 ≤ x → x ≤ n → 1 ≤ f x ∧ f x ≤ n) ∧ (∀ x y, 1 ≤ x → x ≤ n → 1 ≤ y → y ≤ n → f x = f y → x = y) ∧ ∀ x, (x = 0 ∨ n < x) → f x = x
def pinv (f : Nat → Nat) (y : Nat) : Nat := if f 1 = y then 1 else if f 2 = y then 2 else if f 3 = y then 3 else if f 4 = y then 4 else if f 5 = y then 5 else if f 6 = y then 6 else if f 7 = y then 7 else y
def pcomp (f g : Nat → Nat) : Nat → Nat := fun x => g (f x)
def pconj (p r : Nat → Nat) : Nat → Nat := fun x => r (p (pinv r x))
def pid : Nat → Nat := fun x => x
theorem pinv_spec {f : Nat → Nat} {y : Nat} (h : ∃ x, 1 ≤ x ∧ x ≤ 7 ∧ f x = y) : 1 ≤ pinv f y ∧ pinv f y ≤ 7 ∧ f (pinv f y) = y := by
  obtain ⟨x, h1, h2, h3⟩ := h
  unfold pinv
  split
  · exact ⟨by omega, by omega, by assumption⟩
  split
  · exact ⟨by omega, by omega, by assumption⟩
  split
  · exact ⟨by omega, by omega, by assumption⟩
  split
  · exact ⟨by omega, by omega, by assumption⟩
  split
  · exact ⟨by omega, by omega, by assumption⟩
  split
  · exact ⟨by omega, by omega, by assumption⟩
  split
  · exact ⟨by omega, by omega, by assumption⟩
  exfalso
  rcases (show x = 1 ∨ x = 2 ∨ x = 3 ∨ x = 4 ∨ x = 5 ∨ x = 6 ∨ x = 7 by omega) with rfl | rfl | rfl | rfl | rfl | rfl | rfl <;> contradiction
theorem pinv_none {f : Nat → Nat} {y : Nat} (h : ∀ x, 1 ≤ x → x ≤ 7 → f x ≠ y) : pinv f y = y := by
  unfold pinv
  rw [if_neg (h 1 (by omega) (by omega)), if_neg (h 2 (by omega) (by omega)), if_neg (h 3 (by omega) (by omega)), if_neg (h 4 (by omega) (by omega)), if_neg (h 5 (by omega) (by omega)), if_neg (h 6 (by omega) (by omega)), if_neg (h 7 (by omega) (by omega))]
section PmF
variable {n : Nat} {f g p q r : Nat → Nat}
theorem Pm.b7 (h : Pm n f) (hn : n ≤ 7) : ∀ x, 1 ≤ x → x ≤ 7 → 1 ≤ f x ∧ f x ≤ 7 := by
  intro x h1 h2
  rcases Nat.lt_or_ge n x with q | q
  · rw [h.2.2 x (Or.inr q)]; omega
  · have := h.1 x h1 q; omega
theorem Pm.B (h : Pm n f) (hn : n ≤ 7) : B7 f := fun x h1 h2 => (h.b7 hn x h1 h2).2
theorem Pm.in (h : Pm n f) {x : Nat} (h1 : 1 ≤ x) (h2 : x ≤ n) : 1 ≤ f x ∧ f x ≤ n := h.1 x h1 h2
theorem Pm.inj (h : Pm n f) {x y : Nat} (e : f x = f y) : x = y := by
  by_cases hx : x = 0 ∨ n < x
  · by_cases hy : y = 0 ∨ n < y
    · rw [h.2.2 x hx, h.2.2 y hy] at e; exact e
    · have := h.1 y (by omega) (by omega)
      rw [h.2.2 x hx] at e
      omega
  · by_cases hy : y = 0 ∨ n < y
    · have := h.1 x (by omega) (by omega)
      rw [h.2.2 y hy] at e
      omega
    · exact h.2.1 x y (by omega) (by omega) (by omega) (by omega) e
theorem Pm.onto (h : Pm n f) {y : Nat} (h1 : 1 ≤ y) (h2 : y ≤ n) : ∃ x, 1 ≤ x ∧ x ≤ n ∧ f x = y := by
  obtain ⟨i, hi, e⟩ := fb_onto (n := n) (f := fun i => f (i + 1) - 1) (fun i hi => by have := h.1 (i + 1) (by omega) (by omega); show f (i + 1) - 1 < n; omega) (fun i j hij hj e => by
    have a := h.1 (i + 1) (by omega) (by omega)
    have b := h.1 (j + 1) (by omega) (by omega)
    have := h.2.1 (i + 1) (j + 1) (by omega) (by omega) (by omega) (by omega) (by have e' : f (i + 1) - 1 = f (j + 1) - 1 := e; omega)
    omega) (y := y - 1) (by omega)
  have a := h.1 (i + 1) (by omega) (by omega)
  exact ⟨i + 1, by omega, by omega, by have e' : f (i + 1) - 1 = y - 1 := e; omega⟩
theorem Pm.mono {m : Nat} (h : Pm n f) (hm : n ≤ m) : Pm m f := by
  refine ⟨fun x h1 h2 => ?_, fun x y _ _ _ _ e => h.inj e, fun x hx => h.2.2 x (by omega)⟩
  rcases Nat.lt_or_ge n x with q | q
  · rw [h.2.2 x (Or.inr q)]; omega
  · have := h.1 x h1 q; omega
theorem Pm.f_inv (h : Pm n f) (hn : n ≤ 7) (y : Nat) : f (pinv f y) = y := by
  by_cases hy : 1 ≤ y ∧ y ≤ 7
  · obtain ⟨x, a, b, c⟩ := (h.mono hn).onto hy.1 hy.2
    exact (pinv_spec ⟨x, a, b, c⟩).2.2
  · have h7 := h.mono hn
    rw [pinv_none (fun x a b e => by have := h7.1 x a b; omega)]
    exact h7.2.2 y (by omega)
theorem Pm.inv_f (h : Pm n f) (hn : n ≤ 7) (x : Nat) : pinv f (f x) = x := h.inj (h.f_inv hn (f x))
theorem Pm.inv (h : Pm n f) (hn : n ≤ 7) : Pm n (pinv f) := by
  refine ⟨fun x h1 h2 => ?_, fun x y _ _ _ _ e => ?_, fun x hx => ?_⟩
  · have e := h.f_inv hn x
    rcases Nat.lt_or_ge (pinv f x) 1 with q | q
    · rw [h.2.2 (pinv f x) (by omega)] at e; omega
    · rcases Nat.lt_or_ge n (pinv f x) with q2 | q2
      · rw [h.2.2 (pinv f x) (by omega)] at e; omega
      · exact ⟨q, q2⟩
  · rw [← h.f_inv hn x, e, h.f_inv hn y]
  · apply h.inj
    rw [h.f_inv hn x, h.2.2 x hx]
theorem Pm.comp (hf : Pm n f) (hg : Pm n g) : Pm n (pcomp f g) :=
  ⟨fun x h1 h2 => by have a := hf.1 x h1 h2; exact hg.1 _ a.1 a.2, fun x y _ _ _ _ e => hf.inj (hg.inj e), fun x hx => by show g (f x) = x; rw [hf.2.2 x hx, hg.2.2 x hx]⟩
theorem Pm.conj (hn : n ≤ 7) (hp : Pm n p) (hr : Pm n r) : Pm n (pconj p r) := ((hr.inv hn).comp hp).comp hr
theorem pm_id (n : Nat) : Pm n pid := ⟨fun x h1 h2 => ⟨h1, h2⟩, fun x y _ _ _ _ e => e, fun x _ => rfl⟩
theorem conj_at (hn : n ≤ 7) (hr : Pm n r) (x : Nat) : pconj p r (r x) = r (p x) := by unfold pconj; rw [hr.inv_f hn]
theorem conj_iff (hn : n ≤ 7) (hr : Pm n r) : pconj p r = q ↔ ∀ x, q (r x) = r (p x) := by
  constructor
  · intro h x; rw [← h, conj_at hn hr]
  · intro h; funext x
    have := h (pinv r x)
    rw [hr.f_inv hn] at this
    exact this.symm
theorem inv_inv (hn : n ≤ 7) (hf : Pm n f) : pinv (pinv f) = f := by
  funext x
  apply (hf.inv hn).inj
  rw [(hf.inv hn).f_inv hn, hf.inv_f hn]
theorem inv_comp (hn : n ≤ 7) (hf : Pm n f) (hg : Pm n g) : pinv (pcomp f g) = pcomp (pinv g) (pinv f) := by
  funext x
  apply (hf.comp hg).inj
  rw [(hf.comp hg).f_inv hn]
  show x = g (f (pinv f (pinv g x)))
  rw [hf.f_inv hn, hg.f_inv hn]
theorem Pm.ext7 {m : Nat} (hf : Pm n f) (hg : Pm m g) (hn : n ≤ 7) (hm : m ≤ 7) (h : ∀ x, 1 ≤ x → x ≤ 7 → f x = g x) : f = g := by
  funext x
  by_cases hx : x = 0 ∨ 7 < x
  · rw [hf.2.2 x (by omega), hg.2.2 x (by omega)]
  · exact h x (by omega) (by omega)
theorem Pm.ext (hf : Pm n f) (hg : Pm n g) (h : ∀ x, 1 ≤ x → x ≤ n → f x = g x) : f = g := by
  funext x
  by_cases hx : x = 0 ∨ n < x
  · rw [hf.2.2 x hx, hg.2.2 x hx]
  · exact h x (by omega) (by omega)
theorem hx_inj {m : Nat} (hf : Pm n f) (hg : Pm m g) (hn : n ≤ 7) (hm : m ≤ 7) : hx f = hx g ↔ f = g := by
  constructor
  · intro e
    refine hf.ext7 hg hn hm (fun x h1 h2 => ?_)
    rw [← hx_at (hf.B hn) h1 h2, ← hx_at (hg.B hm) h1 h2, e]
  · intro e; rw [e]
end PmF
theorem lex2 (b c : Nat) (f g : Nat → Nat) (hb : c < b) : ∀ k, (∀ x, 1 ≤ x → x ≤ k → f x ≤ c ∧ g x ≤ c) →
    ∀ F : (Nat → Nat) → Nat → Nat, (∀ h, F h 0 = 0) → (∀ h j, F h (j + 1) = b * F h j + h (j + 1)) →
    ((F f k < F g k ↔ hxk f k < hxk g k) ∨ 15 < c) ∧ ((F f k = F g k ↔ hxk f k = hxk g k) ∨ 15 < c) := by
  intro k
  induction k with
  | zero => intro _ F h0 _; rw [h0, h0]; simp [hxk]
  | succ k ih =>
    intro hk F h0 hs
    rcases Nat.lt_or_ge 15 c with q | q
    · exact ⟨Or.inr q, Or.inr q⟩
    obtain ⟨i1, i2⟩ := ih (fun x a b => hk x a (by omega)) F h0 hs
    have i1 := i1.resolve_right (by omega)
    have i2 := i2.resolve_right (by omega)
    obtain ⟨a, d⟩ := hk (k + 1) (by omega) (by omega)
    rw [hs, hs]
    simp only [hxk]
    rcases Nat.lt_trichotomy (hxk f k) (hxk g k) with t | t | t
    · have t2 := i1.mpr t
      have : b * (F f k + 1) ≤ b * F g k := Nat.mul_le_mul_left b t2
      rw [Nat.mul_add] at this
      exact ⟨Or.inl ⟨fun _ => by omega, fun _ => by omega⟩, Or.inl ⟨fun _ => by omega, fun _ => by omega⟩⟩
    · have t2 := i2.mpr t
      rw [t2, t]
      exact ⟨Or.inl ⟨fun _ => by omega, fun _ => by omega⟩, Or.inl ⟨fun _ => by omega, fun _ => by omega⟩⟩
    · have t2 : F g k < F f k := by
        rcases Nat.lt_trichotomy (F f k) (F g k) with u | u | u
        · have := i1.mp u; omega
        · have := i2.mp u; omega
        · exact u
      have : b * (F g k + 1) ≤ b * F f k := Nat.mul_le_mul_left b t2
      rw [Nat.mul_add] at this
      exact ⟨Or.inl ⟨fun _ => by omega, fun _ => by omega⟩, Or.inl ⟨fun _ => by omega, fun _ => by omega⟩⟩
theorem cd_hxk {f g : Nat → Nat} {k : Nat} (h : ∀ x, 1 ≤ x → x ≤ k → f x ≤ 9 ∧ g x ≤ 9) : (cdk f k < cdk g k ↔ hxk f k < hxk g k) ∧ (cdk f k = cdk g k ↔ hxk f k = hxk g k) := by
  obtain ⟨a, b⟩ := lex2 10 9 f g (by decide) k h cdk (fun _ => rfl) (fun _ _ => rfl)
  exact ⟨a.resolve_right (by decide), b.resolve_right (by decide)⟩
theorem hxk_tail {f g : Nat → Nat} {n : Nat} : ∀ k, (∀ x, n < x → x ≤ n + k → f x = g x) → (hxk f (n + k) < hxk g (n + k) ↔ hxk f n < hxk g n) ∧ (hxk f (n + k) = hxk g (n + k) ↔ hxk f n = hxk g n) := by
  intro k
  induction k with
  | zero => intro _; exact ⟨Iff.rfl, Iff.rfl⟩
  | succ k ih =>
    intro h
    obtain ⟨a, b⟩ := ih (fun x p q => h x p (by omega))
    have e := h (n + (k + 1)) (by omega) (by omega)
    rw [show n + (k + 1) = (n + k) + 1 from by omega] at e ⊢
    simp only [hxk, e]
    exact ⟨by rw [← a]; omega, by rw [← b]; omega⟩
/-- the two numbers of permutations of n are ordered alike -/
theorem cd_hx {n : Nat} {f g : Nat → Nat} (hf : Pm n f) (hg : Pm n g) (hn : n ≤ 7) : (cdk f n < cdk g n ↔ hx f < hx g) ∧ (cdk f n = cdk g n ↔ hx f = hx g) := by
  have a := cd_hxk (k := n) (f := f) (g := g) (fun x h1 h2 => by have := hf.1 x h1 h2; have := hg.1 x h1 h2; omega)
  have b := hxk_tail (f := f) (g := g) (n := n) (7 - n) (fun x h1 h2 => by rw [hf.2.2 x (by omega), hg.2.2 x (by omega)])
  rw [show n + (7 - n) = 7 from by omega] at b
  exact ⟨a.1.trans b.1.symm, a.2.trans b.2.symm⟩
theorem cd_inj {n : Nat} {f g : Nat → Nat} (hf : Pm n f) (hg : Pm n g) (hn : n ≤ 7) : cdk f n = cdk g n ↔ f = g := (cd_hx hf hg hn).2.trans (hx_inj hf hg hn hn)
/-! a digit put where there is none -/
def gset (g : Nat → Nat) (y d : Nat) : Nat → Nat := fun z => if z = y then d else g z
theorem or_mid (A B d j : Nat) (hB : B < 2 ^ j) (hd : d < 16) : (A * 2 ^ (j + 4) + B) ||| (d * 2 ^ j) = A * 2 ^ (j + 4) + d * 2 ^ j + B := by
  have h4 : (2 : Nat) ^ (j + 4) = 16 * 2 ^ j := by rw [Nat.pow_add, Nat.mul_comm]
  have hp := Nat.two_pow_pos j
  have e1 : d * 2 ^ j + B < 2 ^ (j + 4) := by
    rw [h4]
    have : (d + 1) * 2 ^ j ≤ 16 * 2 ^ j := Nat.mul_le_mul_right _ (by omega)
    rw [Nat.add_mul] at this
    omega
  have e0 : B < 2 ^ (j + 4) := by rw [h4]; omega
  rw [← or_lo (j + 4) e0, Nat.or_assoc, Nat.or_comm B, or_lo j hB, or_lo (j + 4) e1, Nat.add_assoc]
theorem hx_or_aux {X A B d j R : Nat} (hX : X = A * 2 ^ (j + 4) + B) (hB : B < 2 ^ j) (hd : d < 16) (hR : R = A * 2 ^ (j + 4) + d * 2 ^ j + B) : X ||| (d * 2 ^ j) = R := by rw [hX, or_mid A B d j hB hd, hR]
theorem hx_or {g : Nat → Nat} {y d : Nat} (hg : ∀ x, 1 ≤ x → x ≤ 7 → g x ≤ 15) (h1 : 1 ≤ y) (h2 : y ≤ 7) (h0 : g y = 0) (hd : d ≤ 15) : hx g ||| (d * 2 ^ (28 - 4 * y)) = hx (gset g y d) := by
  have a1 := hg 1 (by omega) (by omega)
  have a2 := hg 2 (by omega) (by omega)
  have a3 := hg 3 (by omega) (by omega)
  have a4 := hg 4 (by omega) (by omega)
  have a5 := hg 5 (by omega) (by omega)
  have a6 := hg 6 (by omega) (by omega)
  have a7 := hg 7 (by omega) (by omega)
  rw [hx_eq, hx_eq]
  rcases (show y = 1 ∨ y = 2 ∨ y = 3 ∨ y = 4 ∨ y = 5 ∨ y = 6 ∨ y = 7 by omega) with rfl | rfl | rfl | rfl | rfl | rfl | rfl
  · have e1 : gset g 1 d 1 = d := if_pos rfl
    have f2 : gset g 1 d 2 = g 2 := if_neg (by decide)
    have f3 : gset g 1 d 3 = g 3 := if_neg (by decide)
    have f4 : gset g 1 d 4 = g 4 := if_neg (by decide)
    have f5 : gset g 1 d 5 = g 5 := if_neg (by decide)
    have f6 : gset g 1 d 6 = g 6 := if_neg (by decide)
    have f7 : gset g 1 d 7 = g 7 := if_neg (by decide)
    rw [e1, f2, f3, f4, f5, f6, f7, h0]
    exact hx_or_aux (A := 0) (B := (16 * (16 * (16 * (16 * (16 * g 2 + g 3) + g 4) + g 5) + g 6) + g 7)) (j := 24) (by simp only [Nat.reducePow, Nat.reduceAdd]; omega) (by simp only [Nat.reducePow]; omega) (by omega) (by simp only [Nat.reducePow, Nat.reduceAdd]; omega)
  · have e1 : gset g 2 d 2 = d := if_pos rfl
    have f1 : gset g 2 d 1 = g 1 := if_neg (by decide)
    have f3 : gset g 2 d 3 = g 3 := if_neg (by decide)
    have f4 : gset g 2 d 4 = g 4 := if_neg (by decide)
    have f5 : gset g 2 d 5 = g 5 := if_neg (by decide)
    have f6 : gset g 2 d 6 = g 6 := if_neg (by decide)
    have f7 : gset g 2 d 7 = g 7 := if_neg (by decide)
    rw [e1, f1, f3, f4, f5, f6, f7, h0]
    exact hx_or_aux (A := g 1) (B := (16 * (16 * (16 * (16 * g 3 + g 4) + g 5) + g 6) + g 7)) (j := 20) (by simp only [Nat.reducePow, Nat.reduceAdd]; omega) (by simp only [Nat.reducePow]; omega) (by omega) (by simp only [Nat.reducePow, Nat.reduceAdd]; omega)
  · have e1 : gset g 3 d 3 = d := if_pos rfl
    have f1 : gset g 3 d 1 = g 1 := if_neg (by decide)
    have f2 : gset g 3 d 2 = g 2 := if_neg (by decide)
    have f4 : gset g 3 d 4 = g 4 := if_neg (by decide)
    have f5 : gset g 3 d 5 = g 5 := if_neg (by decide)
    have f6 : gset g 3 d 6 = g 6 := if_neg (by decide)
    have f7 : gset g 3 d 7 = g 7 := if_neg (by decide)
    rw [e1, f1, f2, f4, f5, f6, f7, h0]
    exact hx_or_aux (A := (16 * g 1 + g 2)) (B := (16 * (16 * (16 * g 4 + g 5) + g 6) + g 7)) (j := 16) (by simp only [Nat.reducePow, Nat.reduceAdd]; omega) (by simp only [Nat.reducePow]; omega) (by omega) (by simp only [Nat.reducePow, Nat.reduceAdd]; omega)
  · have e1 : gset g 4 d 4 = d := if_pos rfl
    have f1 : gset g 4 d 1 = g 1 := if_neg (by decide)
    have f2 : gset g 4 d 2 = g 2 := if_neg (by decide)
    have f3 : gset g 4 d 3 = g 3 := if_neg (by decide)
    have f5 : gset g 4 d 5 = g 5 := if_neg (by decide)
    have f6 : gset g 4 d 6 = g 6 := if_neg (by decide)
    have f7 : gset g 4 d 7 = g 7 := if_neg (by decide)
    rw [e1, f1, f2, f3, f5, f6, f7, h0]
    exact hx_or_aux (A := (16 * (16 * g 1 + g 2) + g 3)) (B := (16 * (16 * g 5 + g 6) + g 7)) (j := 12) (by simp only [Nat.reducePow, Nat.reduceAdd]; omega) (by simp only [Nat.reducePow]; omega) (by omega) (by simp only [Nat.reducePow, Nat.reduceAdd]; omega)
  · have e1 : gset g 5 d 5 = d := if_pos rfl
    have f1 : gset g 5 d 1 = g 1 := if_neg (by decide)
    have f2 : gset g 5 d 2 = g 2 := if_neg (by decide)
    have f3 : gset g 5 d 3 = g 3 := if_neg (by decide)
    have f4 : gset g 5 d 4 = g 4 := if_neg (by decide)
    have f6 : gset g 5 d 6 = g 6 := if_neg (by decide)
    have f7 : gset g 5 d 7 = g 7 := if_neg (by decide)
    rw [e1, f1, f2, f3, f4, f6, f7, h0]
    exact hx_or_aux (A := (16 * (16 * (16 * g 1 + g 2) + g 3) + g 4)) (B := (16 * g 6 + g 7)) (j := 8) (by simp only [Nat.reducePow, Nat.reduceAdd]; omega) (by simp only [Nat.reducePow]; omega) (by omega) (by simp only [Nat.reducePow, Nat.reduceAdd]; omega)
  · have e1 : gset g 6 d 6 = d := if_pos rfl
    have f1 : gset g 6 d 1 = g 1 := if_neg (by decide)
    have f2 : gset g 6 d 2 = g 2 := if_neg (by decide)
    have f3 : gset g 6 d 3 = g 3 := if_neg (by decide)
    have f4 : gset g 6 d 4 = g 4 := if_neg (by decide)
    have f5 : gset g 6 d 5 = g 5 := if_neg (by decide)
    have f7 : gset g 6 d 7 = g 7 := if_neg (by decide)
    rw [e1, f1, f2, f3, f4, f5, f7, h0]
    exact hx_or_aux (A := (16 * (16 * (16 * (16 * g 1 + g 2) + g 3) + g 4) + g 5)) (B := g 7) (j := 4) (by simp only [Nat.reducePow, Nat.reduceAdd]; omega) (by simp only [Nat.reducePow]; omega) (by omega) (by simp only [Nat.reducePow, Nat.reduceAdd]; omega)
  · have e1 : gset g 7 d 7 = d := if_pos rfl
    have f1 : gset g 7 d 1 = g 1 := if_neg (by decide)
    have f2 : gset g 7 d 2 = g 2 := if_neg (by decide)
    have f3 : gset g 7 d 3 = g 3 := if_neg (by decide)
    have f4 : gset g 7 d 4 = g 4 := if_neg (by decide)
    have f5 : gset g 7 d 5 = g 5 := if_neg (by decide)
    have f6 : gset g 7 d 6 = g 6 := if_neg (by decide)
    rw [e1, f1, f2, f3, f4, f5, f6, h0]
    exact hx_or_aux (A := (16 * (16 * (16 * (16 * (16 * g 1 + g 2) + g 3) + g 4) + g 5) + g 6)) (B := 0) (j := 0) (by simp only [Nat.reducePow, Nat.reduceAdd]; omega) (by simp only [Nat.reducePow]; omega) (by omega) (by simp only [Nat.reducePow, Nat.reduceAdd]; omega)
/-! sets of darts as bits -/
def bt (x : Nat) : Nat := 2 ^ (x - 1)
def popcF : Nat → Nat → Nat
  | 0, _ => 0
  | k + 1, n => n % 2 + popcF k (n / 2)
def popc (n : Nat) : Nat := popcF 14 n
def lowF : Nat → Nat → Nat → Nat
  | 0, _, x => x
  | k + 1, s, x => if s % 2 = 1 then x else lowF k (s / 2) (x + 1)
def lowN (s : Nat) : Nat := lowF 7 s 1
def andn (a b : Nat) : Nat := a ^^^ (a &&& b)
def full (n : Nat) : Nat := 2 ^ n - 1
def ringL (f : Nat → Nat) : Nat → Nat → Nat → Nat
  | 0, s, _ => s
  | k + 1, s, y => if s &&& bt y = 0 then ringL f k (s ||| bt y) (f y) else s
def ringN (f : Nat → Nat) (x : Nat) : Nat := ringL f 7 0 x
def ringsL (f : Nat → Nat) : Nat → Nat → Nat → Nat
  | 0, _, m => m
  | k + 1, left, m => if left = 0 then m else ringsL f k (andn left (ringN f (lowN left))) (m + 1)
def ringsN (f : Nat → Nat) (s : Nat) : Nat := ringsL f 7 s 0
abbrev P7 (f : Nat → Nat) : Prop := ∀ x, 1 ≤ x → x ≤ 7 → 1 ≤ f x ∧ f x ≤ 7
theorem P7.B {f : Nat → Nat} (h : P7 f) : B7 f := fun x a b => (h x a b).2
theorem or_lt7 {a b : Nat} (ha : a < 128) (hb : b < 128) : a ||| b < 128 := Nat.or_lt_two_pow (n := 7) ha hb
theorem and_lt7 {a b : Nat} (ha : a < 128) : a &&& b < 128 := Nat.lt_of_le_of_lt Nat.and_le_left ha
theorem andn_lt7 {a b : Nat} (ha : a < 128) : andn a b < 128 := Nat.xor_lt_two_pow (n := 7) ha (and_lt7 ha)
theorem bt_lt {x : Nat} (h1 : 1 ≤ x) (h : x ≤ 7) : bt x < 128 := by
  unfold bt
  have : 2 ^ (x - 1) ≤ 2 ^ 6 := Nat.pow_le_pow_right (by decide) (by omega)
  have : (2 : Nat) ^ 6 = 64 := by decide
  omega
theorem full_lt {n : Nat} (h : n ≤ 7) : full n < 128 := by
  unfold full
  have : 2 ^ n ≤ 2 ^ 7 := Nat.pow_le_pow_right (by decide) h
  have : (2 : Nat) ^ 7 = 128 := by decide
  omega
theorem ringL_lt {f : Nat → Nat} (hf : P7 f) : ∀ k s y, s < 128 → 1 ≤ y → y ≤ 7 → ringL f k s y < 128
  | 0, s, y, h, _, _ => h
  | k + 1, s, y, h, a, b => by
    simp only [ringL]
    split
    · exact ringL_lt hf k _ _ (or_lt7 h (bt_lt a b)) (hf y a b).1 (hf y a b).2
    · exact h
theorem ringN_lt {f : Nat → Nat} (hf : P7 f) {x : Nat} (h1 : 1 ≤ x) (h2 : x ≤ 7) : ringN f x < 128 := ringL_lt hf 7 0 x (by decide) h1 h2
theorem low_in : ∀ s, s < 128 → s ≠ 0 → 1 ≤ lowN s ∧ lowN s ≤ 7 := by decide +kernel
theorem low_bits : ∀ s : Nat, s < 128 → s ≠ 0 → iz (s : Int) &&& iz (-(s : Int)) = iz ((bt (lowN s) : Nat) : Int) := by decide +kernel
theorem low_pop : ∀ s : Nat, s < 128 → s ≠ 0 → popc (bt (lowN s) - 1) + 1 = lowN s ∧ 1 ≤ bt (lowN s) ∧ bt (lowN s) < 128 := by decide +kernel
theorem andn_bits : ∀ a : Nat, a < 128 → ∀ b : Nat, b < 128 → iz (a : Int) &&& iz (iz (b : Int) ^^^ iz (-1)).toInt = iz ((andn a b : Nat) : Int) := by decide +kernel
theorem popc_le : ∀ s : Nat, s < 128 → popc s ≤ 7 := by decide +kernel
theorem popc_pos : ∀ s : Nat, s < 128 → s ≠ 0 → 1 ≤ popc s := by decide +kernel
theorem iz_ushrE {a b : Int} {n k : Nat} (ha : a = n) (hb : b = k) (hn : n < 4294967296) (hk : ((iz (k : Int)).toUInt32 &&& Int32.toUInt32 31).toBitVec % 32 = BitVec.ofNat 32 k) (hk2 : k < 32) : ((iz a).toUInt32 >>> ((iz b).toUInt32 &&& Int32.toUInt32 31)).toInt32 = iz ((n / 2 ^ k : Nat) : Int) := by
  subst ha; subst hb
  apply Int32.toBitVec_inj.mp
  apply BitVec.eq_of_toNat_eq
  have h := pk_ushr (iz (n : Int)) (iz (k : Int)) k (by rw [hk]; rw [BitVec.toNat_ofNat]; exact Nat.mod_eq_of_lt (by omega))
  rw [h, iz_bvn hn, iz_bvn (Nat.lt_of_le_of_lt (Nat.div_le_self _ _) hn)]
def bcN (n : Nat) : Nat :=
  let a := n - (n / 2 &&& 1431655765)
  let b := (a &&& 858993459) + (a / 4 &&& 858993459)
  let c := b + b / 16 &&& 252645135
  let d := c + c / 256
  let e := d + d / 65536
  e &&& 63
theorem bcN_ok2 : ∀ a : Nat, a < 128 → ∀ b : Nat, b < 128 → bcN (128 * a + b) = popc (128 * a + b) := by decide +kernel
theorem bcN_ok {n : Nat} (h : n < 16384) : bcN n = popc n := by
  have := bcN_ok2 (n / 128) (by omega) (n % 128) (by omega)
  rw [show 128 * (n / 128) + n % 128 = n from by omega] at this
  exact this

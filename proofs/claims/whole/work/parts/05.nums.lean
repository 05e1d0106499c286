/-! numbers: bits of small numbers -/
theorem iz_nat (n : Nat) : (iz (n : Int)).toBitVec = BitVec.ofNat 32 n := by
  show (Int32.ofInt (n : Int)).toBitVec = _
  rw [Int32.toBitVec_ofInt]
  rfl
theorem iz_and (m n : Nat) : iz (m : Int) &&& iz (n : Int) = iz ((m &&& n : Nat) : Int) := by
  apply Int32.toBitVec_inj.mp
  rw [Int32.toBitVec_and, iz_nat, iz_nat, iz_nat]
  exact (BitVec.ofNat_and).symm
theorem iz_or (m n : Nat) : iz (m : Int) ||| iz (n : Int) = iz ((m ||| n : Nat) : Int) := by
  apply Int32.toBitVec_inj.mp
  rw [Int32.toBitVec_or, iz_nat, iz_nat, iz_nat]
  exact (BitVec.ofNat_or).symm
theorem iz_xor (m n : Nat) : iz (m : Int) ^^^ iz (n : Int) = iz ((m ^^^ n : Nat) : Int) := by
  apply Int32.toBitVec_inj.mp
  rw [Int32.toBitVec_xor, iz_nat, iz_nat, iz_nat]
  exact (BitVec.ofNat_xor).symm
theorem iz_amt : ∀ k : Nat, k < 32 → ((iz (k : Int) &&& 31).toBitVec.smod 32).toNat = k := by decide +kernel
theorem iz_bvn {n : Nat} (h : n < 4294967296) : (iz (n : Int)).toBitVec.toNat = n := by
  rw [iz_nat, BitVec.toNat_ofNat]; exact Nat.mod_eq_of_lt (by simpa using h)
theorem iz_shl (n k : Nat) (hk : k < 32) : iz (n : Int) <<< (iz (k : Int) &&& 31) = iz ((n * 2 ^ k : Nat) : Int) := by
  apply Int32.toBitVec_inj.mp
  apply BitVec.eq_of_toNat_eq
  rw [pk_shl _ _ k (iz_amt k hk), iz_nat, iz_nat, BitVec.toNat_ofNat, BitVec.toNat_ofNat]
  rw [Nat.mod_mul_mod]
theorem iz_shr (n k : Nat) (hn : n < 2147483648) (hk : k < 32) : iz (n : Int) >>> (iz (k : Int) &&& 31) = iz ((n / 2 ^ k : Nat) : Int) := by
  apply Int32.toInt_inj.mp
  have h2 : n / 2 ^ k ≤ n := Nat.div_le_self _ _
  rw [pk_shr _ _ k (iz_amt k hk), iz_toInt ⟨by omega, by omega⟩, Int.shiftRight_eq_div_pow]
  rw [show ((n : Int) / ((2 ^ k : Nat) : Int)) = ((n / 2 ^ k : Nat) : Int) from (Int.natCast_ediv _ _).symm]
  generalize n / 2 ^ k = q at h2
  rw [iz_toInt ⟨by omega, by omega⟩]
theorem iz_andE {a b : Int} {m n : Nat} (ha : a = m) (hb : b = n) : iz a &&& iz b = iz ((m &&& n : Nat) : Int) := by rw [ha, hb, iz_and]
theorem iz_orE {a b : Int} {m n : Nat} (ha : a = m) (hb : b = n) : iz a ||| iz b = iz ((m ||| n : Nat) : Int) := by rw [ha, hb, iz_or]
theorem iz_xorE {a b : Int} {m n : Nat} (ha : a = m) (hb : b = n) : iz a ^^^ iz b = iz ((m ^^^ n : Nat) : Int) := by rw [ha, hb, iz_xor]
theorem iz_shlE {a b : Int} {n k : Nat} (ha : a = n) (hb : b = k) (hk : k < 32) : iz a <<< (iz b &&& 31) = iz ((n * 2 ^ k : Nat) : Int) := by rw [ha, hb, iz_shl _ _ hk]
theorem iz_shrE {a b : Int} {n k : Nat} (ha : a = n) (hb : b = k) (hn : n < 2147483648) (hk : k < 32) : iz a >>> (iz b &&& 31) = iz ((n / 2 ^ k : Nat) : Int) := by rw [ha, hb, iz_shr _ _ hn hk]
theorem iz_and7 (n : Nat) : n &&& 7 = n % 8 := Nat.and_two_pow_sub_one_eq_mod n 3
theorem iz_div {a b : Int} (ha : rg a) (hb : rg b) (h : b ≠ 0) (h2 : ¬ (a = -2147483648 ∧ b = -1)) : iz a / iz b = iz (a.tdiv b) := by
  apply Int32.toInt_inj.mp
  rw [Int32.toInt_div, iz_toInt ha, iz_toInt hb]
  have hb1 : a.tdiv b ≤ a.natAbs ∧ -(a.natAbs : Int) ≤ a.tdiv b := by
    have h3 : (a.tdiv b).natAbs = a.natAbs / b.natAbs := Int.natAbs_tdiv a b
    have h4 : a.natAbs / b.natAbs ≤ a.natAbs := Nat.div_le_self _ _
    generalize a.natAbs / b.natAbs = q at h3 h4
    omega
  have hb2 : a.tdiv b ≤ 2147483647 := by
    rcases Int.lt_or_le (a.tdiv b) 2147483648 with q | q
    · omega
    · exfalso
      have h5 : a = -2147483648 := by omega
      apply h2
      refine ⟨h5, ?_⟩
      subst h5
      have h3 : ((-2147483648 : Int).tdiv b).natAbs = (-2147483648 : Int).natAbs / b.natAbs := Int.natAbs_tdiv (-2147483648) b
      have h6 : b.natAbs = 1 := by
        rcases Nat.lt_or_ge b.natAbs 2 with q2 | q2
        · omega
        · have h8 : (-2147483648 : Int).natAbs / b.natAbs ≤ (-2147483648 : Int).natAbs / 2 := Nat.div_le_div_left q2 (by decide)
          have h9 : (-2147483648 : Int).natAbs / 2 = 1073741824 := by decide
          generalize (-2147483648 : Int).natAbs / b.natAbs = z at h3 h8
          omega
      rcases Int.natAbs_eq b with h7 | h7
      · rw [h6] at h7
        subst h7
        exact absurd q (by decide)
      · rw [h6] at h7; exact h7
  have hs : ((Int32.size : Nat) : Int) = 4294967296 := rfl
  rw [iz_toInt ⟨by omega, hb2⟩]
  exact Int.bmod_eq_of_le_mul_two (by omega) (by omega)
theorem iz_rem {a b : Int} (ha : rg a) (hb : rg b) (h : b ≠ 0) (h2 : ¬ (a = -2147483648 ∧ b = -1)) : iz a - iz a / iz b * iz b = iz (a.tmod b) := by
  rw [iz_div ha hb h h2, iz_mul, iz_sub]
  congr 1
  have := Int.tmod_add_mul_tdiv a b
  rw [Int.mul_comm] at this
  omega
theorem iz_ne {b : Int} (hb : rg b) (h : b ≠ 0) : ¬ iz b = 0 := by
  have h0 : (0 : Int32) = iz 0 := rfl
  rw [h0, iz_eq hb ⟨by omega, by omega⟩]; exact h
theorem iz_divN {a b : Int} (ha : 0 ≤ a) (ha2 : a ≤ 2147483647) (hb : 0 < b) (hb2 : b ≤ 2147483647) : iz a / iz b = iz (a / b) := by
  rw [iz_div ⟨by omega, by omega⟩ ⟨by omega, by omega⟩ (by omega) (by omega), Int.tdiv_eq_ediv_of_nonneg ha]
theorem iz_remN {a b : Int} (ha : 0 ≤ a) (ha2 : a ≤ 2147483647) (hb : 0 < b) (hb2 : b ≤ 2147483647) : iz a - iz a / iz b * iz b = iz (a % b) := by
  rw [iz_rem ⟨by omega, by omega⟩ ⟨by omega, by omega⟩ (by omega) (by omega), Int.tmod_eq_emod_of_nonneg ha]
/-! permutations as functions; their two numbers -/
def hxk (f : Nat → Nat) : Nat → Nat
  | 0 => 0
  | k + 1 => 16 * hxk f k + f (k + 1)
def cdk (f : Nat → Nat) : Nat → Nat
  | 0 => 0
  | k + 1 => 10 * cdk f k + f (k + 1)
def hx (f : Nat → Nat) : Nat := hxk f 7
abbrev B7 (f : Nat → Nat) : Prop := ∀ x, 1 ≤ x → x ≤ 7 → f x ≤ 7
theorem hx_eq (f : Nat → Nat) : hx f = 16 * (16 * (16 * (16 * (16 * (16 * (16 * 0 + f 1) + f 2) + f 3) + f 4) + f 5) + f 6) + f 7 := rfl
theorem hx_at {f : Nat → Nat} (hf : B7 f) {x : Nat} (h1 : 1 ≤ x) (h2 : x ≤ 7) : hx f / 2 ^ (28 - 4 * x) % 8 = f x := by
  have a1 := hf 1 (by omega) (by omega)
  have a2 := hf 2 (by omega) (by omega)
  have a3 := hf 3 (by omega) (by omega)
  have a4 := hf 4 (by omega) (by omega)
  have a5 := hf 5 (by omega) (by omega)
  have a6 := hf 6 (by omega) (by omega)
  have a7 := hf 7 (by omega) (by omega)
  rw [hx_eq]
  rcases (show x = 1 ∨ x = 2 ∨ x = 3 ∨ x = 4 ∨ x = 5 ∨ x = 6 ∨ x = 7 by omega) with rfl | rfl | rfl | rfl | rfl | rfl | rfl <;> (simp only [Nat.reduceMul, Nat.reduceSub, Nat.reducePow]; omega)
theorem hx_lt {f : Nat → Nat} (hf : B7 f) : hx f < 134217728 := by
  have a1 := hf 1 (by omega) (by omega)
  have a2 := hf 2 (by omega) (by omega)
  have a3 := hf 3 (by omega) (by omega)
  have a4 := hf 4 (by omega) (by omega)
  have a5 := hf 5 (by omega) (by omega)
  have a6 := hf 6 (by omega) (by omega)
  have a7 := hf 7 (by omega) (by omega)
  rw [hx_eq]
  omega

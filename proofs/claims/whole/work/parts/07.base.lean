/-! naming rows, bits as numbers, frames -/
section VN
variable {x : CX} {own : String} {cc : ByteArray} {pc : Nat} {ls : List (Nat × AV)} {st : List AV} {w : Wd} {a b : Int} {i : Nat}
theorem v_nm (k : ∀ y : Int, y = a → V x own cc pc ls (aI y :: st) w) : V x own cc pc ls (aI a :: st) w := k a rfl
theorem v_nmL (k : ∀ y : Int, y = a → V x own cc pc ls (aL y :: st) w) : V x own cc pc ls (aL a :: st) w := k a rfl
theorem v_nl (k : ∀ y : Int, y = a → V x own cc pc ((i, aI y) :: ls) st w) : V x own cc pc ((i, aI a) :: ls) st w := k a rfl
theorem v_nmw (k : ∀ w' : Wd, w' = w → V x own cc pc ls st w') : V x own cc pc ls st w := k w rfl
theorem v_eqI (h : a = b) (k : V x own cc pc ls (aI b :: st) w) : V x own cc pc ls (aI a :: st) w := by subst h; exact k
end VN
def band (a b : Int) : Int := (iz a &&& iz b).toInt
def bor (a b : Int) : Int := (iz a ||| iz b).toInt
def bxor (a b : Int) : Int := (iz a ^^^ iz b).toInt
def bshl (a b : Int) : Int := (iz a <<< (iz b &&& 31)).toInt
def bshr (a b : Int) : Int := (iz a >>> (iz b &&& 31)).toInt
def bushr (a b : Int) : Int := (((iz a).toUInt32 >>> ((iz b).toUInt32 &&& Int32.toUInt32 31)).toInt32).toInt
theorem band_iz (a b : Int) : iz a &&& iz b = iz (band a b) := (iz_of _).symm
theorem bor_iz (a b : Int) : iz a ||| iz b = iz (bor a b) := (iz_of _).symm
theorem bxor_iz (a b : Int) : iz a ^^^ iz b = iz (bxor a b) := (iz_of _).symm
theorem bshl_iz (a b : Int) : iz a <<< (iz b &&& 31) = iz (bshl a b) := (iz_of _).symm
theorem bshr_iz (a b : Int) : iz a >>> (iz b &&& 31) = iz (bshr a b) := (iz_of _).symm
theorem bushr_iz (a b : Int) : ((iz a).toUInt32 >>> ((iz b).toUInt32 &&& Int32.toUInt32 31)).toInt32 = iz (bushr a b) := (iz_of _).symm
theorem rg_band (a b : Int) : rg (band a b) := rg_toInt _
theorem rg_bor (a b : Int) : rg (bor a b) := rg_toInt _
theorem rg_bxor (a b : Int) : rg (bxor a b) := rg_toInt _
theorem rg_bshl (a b : Int) : rg (bshl a b) := rg_toInt _
theorem rg_bshr (a b : Int) : rg (bshr a b) := rg_toInt _
theorem lz_ne {b : Int} (h1 : -9223372036854775808 ≤ b) (h2 : b ≤ 9223372036854775807) (h : b ≠ 0) : ¬ lz b = 0 := by
  intro e
  have h0 : (0 : Int64) = lz 0 := rfl
  rw [h0, ← Int64.toInt_inj, lz_toInt h1 h2, lz_toInt (by omega) (by omega)] at e
  exact h e
/-- all but the cells cs stays -/
def Fr (cs : List Nat) (w w' : Wd) : Prop := ∀ o j, cs.contains o = false → w' o j = w o j
theorem Fr.rf (cs : List Nat) (w : Wd) : Fr cs w w := fun _ _ _ => rfl
theorem Fr.up {cs : List Nat} {w w' : Wd} (h : Fr cs w w') {o j : Nat} {v : Int} (hc : cs.contains o = true) : Fr cs w (up w' o j v) := fun o' j' h' => by
  rw [up_ne _ _ (fun q => by rw [q.1, hc] at h'; exact absurd h' (by decide))]; exact h o' j' h'
theorem Fr.tr {cs ds es : List Nat} {w w' w'' : Wd} (h1 : Fr cs w w') (h2 : Fr ds w' w'') (hc : cs.all (fun o => es.contains o) = true) (hd : ds.all (fun o => es.contains o) = true) : Fr es w w'' := fun o j h => by
  have key : ∀ l : List Nat, l.all (fun o => es.contains o) = true → l.contains o = false := fun l hl => by
    rw [Bool.eq_false_iff]
    intro q
    rw [List.contains_iff_mem] at q
    have := List.all_eq_true.mp hl o q
    rw [h] at this
    exact absurd this (by decide)
  rw [h2 o j (key ds hd), h1 o j (key cs hc)]
theorem Fr.mono {cs es : List Nat} {w w' : Wd} (h1 : Fr cs w w') (hc : cs.all (fun o => es.contains o) = true) : Fr es w w' := h1.tr (Fr.rf es w') hc (by
  rw [List.all_eq_true]; intro o h; rw [List.contains_iff_mem]; exact h)

def SpR (l : Launch) (G : Gx) (d : Nat) (Y : MI) (as : List AV) (w : Wd) (R : Int → Prop) : Prop := Sp l G d Y as w (fun z w' => R z ∧ w' = w)
section VR2
variable {x : CX} {own : String} {cc : ByteArray} {pc pc' idx n d : Nat} {ls : List (Nat × AV)} {st as st0 : List AV} {w : Wd} {R : Int → Prop} {Y : MI} {o ci : Nat} {fs : List (Option Nat)}
theorem v_cSR (hp : pc + 3 = pc') (hd : decode cc pc = .ok (.invokestatic idx, 3)) (hL : LKs own idx Y n) (hr : notLong Y.2.2.2 = true) (h : SpR x.1 x.2.2.2.2.1 d Y as w R) (hs0 : st0 = as.reverse ++ st) (hn : as.length = n) (hk : rok x d Y.2.2.1 st = true)
    (k : ∀ z, R z → V x own cc pc' ls (aI z :: st) w) : V x own cc pc ls st0 w :=
  v_cSi hp hd hL hr h hs0 hn hk (fun z w' hq => by obtain ⟨hR, rfl⟩ := hq; exact k z hR)
theorem v_cVR (hp : pc + 3 = pc') (hd : decode cc pc = .ok (.invokevirtual idx, 3)) (hL : LKv own idx Y n ci) (ho : LAYL[o]? = some (.inl (ci, fs))) (hr : notLong Y.2.2.2 = true) (h : SpR x.1 x.2.2.2.2.1 d Y (aR o :: as) w R) (hs0 : st0 = as.reverse ++ aR o :: st) (hn : as.length = n) (hk : rok x d Y.2.2.1 st = true)
    (k : ∀ z, R z → V x own cc pc' ls (aI z :: st) w) : V x own cc pc ls st0 w :=
  v_cVi hp hd hL ho hr h hs0 hn hk (fun z w' hq => by obtain ⟨hR, rfl⟩ := hq; exact k z hR)
end VR2
theorem iz_mask {a b : Int} {m k : Nat} (ha : a = m) (hb : b = -((2 ^ k : Nat) : Int)) (hm : m < 16384) (hk : k < 14) : iz a &&& iz b = iz ((m / 2 ^ k * 2 ^ k : Nat) : Int) := by
  have h2 : (2 : Nat) ^ k ≤ 2 ^ 13 := Nat.pow_le_pow_right (by decide) (by omega)
  have h3 : (2 : Nat) ^ 13 = 8192 := by decide
  have h4 := Nat.two_pow_pos k
  have e : iz b = iz ((4294967296 - 2 ^ k : Nat) : Int) := by
    rw [hb]
    apply Int32.toInt_inj.mp
    unfold iz
    rw [Int32.toInt_ofInt, Int32.toInt_ofInt]
    have : ((Int32.size : Nat) : Int) = 4294967296 := rfl
    rw [show ((4294967296 - 2 ^ k : Nat) : Int) = -((2 ^ k : Nat) : Int) + 4294967296 by omega]
    have hs : Int32.size = 4294967296 := rfl
    rw [hs]
    simp [Int.bmod_def]
  rw [e, ha, iz_and]
  congr 2
  apply Nat.eq_of_testBit_eq
  intro i
  rw [Nat.testBit_and, show (4294967296 - 2 ^ k : Nat) = 2 ^ 32 - ((2 ^ k - 1) + 1) by omega, Nat.testBit_two_pow_sub_succ (by omega), Nat.testBit_two_pow_sub_one, Nat.mul_comm, Nat.testBit_two_pow_mul]
  by_cases h : i < 32
  · by_cases h5 : k ≤ i
    · have : ¬ i < k := by omega
      simp only [h, h5, this, decide_true, decide_false, Bool.not_false, Bool.and_true, Bool.true_and, Nat.testBit_div_two_pow, ge_iff_le]
      rw [show i - k + k = i by omega]
    · have : i < k := by omega
      simp [h, h5, this]
  · have h6 : m.testBit i = false := Nat.testBit_lt_two_pow (Nat.lt_of_lt_of_le (Nat.lt_of_lt_of_le hm (show 16384 ≤ 2 ^ 14 by decide)) (Nat.pow_le_pow_right (by decide) (by omega)))
    rw [h6, Bool.false_and]
    by_cases h5 : k ≤ i
    · simp only [h5, decide_true, Bool.true_and, Nat.testBit_div_two_pow, ge_iff_le]
      rw [show i - k + k = i by omega, h6]
    · simp [h5]
theorem lz_div {a b : Int} (ha : -9223372036854775807 ≤ a) (ha2 : a ≤ 9223372036854775807) (hb : -9223372036854775807 ≤ b) (hb2 : b ≤ 9223372036854775807) (h : b ≠ 0) : lz a / lz b = lz (a.tdiv b) := by
  apply Int64.toInt_inj.mp
  rw [Int64.toInt_div, lz_toInt (by omega) ha2, lz_toInt (by omega) hb2]
  have h3 : (a.tdiv b).natAbs = a.natAbs / b.natAbs := Int.natAbs_tdiv a b
  have h4 : a.natAbs / b.natAbs ≤ a.natAbs := Nat.div_le_self _ _
  generalize a.natAbs / b.natAbs = q at h3 h4
  rw [lz_toInt (by omega) (by omega)]
  have hs : ((Int64.size : Nat) : Int) = 18446744073709551616 := rfl
  exact Int.bmod_eq_of_le_mul_two (by omega) (by omega)
theorem lz_rem {a b : Int} (ha : -9223372036854775807 ≤ a) (ha2 : a ≤ 9223372036854775807) (hb : -9223372036854775807 ≤ b) (hb2 : b ≤ 9223372036854775807) (h : b ≠ 0) : lz a - lz a / lz b * lz b = lz (a.tmod b) := by
  rw [lz_div ha ha2 hb hb2 h, lz_mul]
  have hsub : ∀ x y : Int, lz x - lz y = lz (x - y) := fun x y => (Int64.ofInt_sub x y).symm
  rw [hsub]
  congr 1
  have := Int.tmod_add_mul_tdiv a b
  rw [Int.mul_comm] at this
  omega
theorem lz_divN {a b : Int} (ha : 0 ≤ a) (ha2 : a ≤ 9223372036854775807) (hb : 0 < b) (hb2 : b ≤ 9223372036854775807) : lz a / lz b = lz (a / b) := by
  rw [lz_div (by omega) ha2 (by omega) hb2 (by omega), Int.tdiv_eq_ediv_of_nonneg ha]
theorem lz_remN {a b : Int} (ha : 0 ≤ a) (ha2 : a ≤ 9223372036854775807) (hb : 0 < b) (hb2 : b ≤ 9223372036854775807) : lz a - lz a / lz b * lz b = lz (a % b) := by
  rw [lz_rem (by omega) ha2 (by omega) hb2 (by omega), Int.tmod_eq_emod_of_nonneg ha]
def lcmpI (a b : Int) : Int := if b < a then 1 else if a = b then 0 else -1
theorem lcmp_iz {a b : Int} (ha : -9223372036854775808 ≤ a ∧ a ≤ 9223372036854775807) (hb : -9223372036854775808 ≤ b ∧ b ≤ 9223372036854775807) : lg_cmp (lz a) (lz b) = iz (lcmpI a b) := by
  have h1 : lz a > lz b ↔ b < a := by rw [gt_iff_lt, Int64.lt_iff_toInt_lt, lz_toInt ha.1 ha.2, lz_toInt hb.1 hb.2]
  have h2 : lz a = lz b ↔ a = b := by rw [← Int64.toInt_inj, lz_toInt ha.1 ha.2, lz_toInt hb.1 hb.2]
  unfold lg_cmp lcmpI
  simp only [h1, h2]
  split
  · rfl
  · split <;> rfl

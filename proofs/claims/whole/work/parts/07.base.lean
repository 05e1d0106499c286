/-! naming rows, bits as numbers, frames -/
section VN
variable {x : CX} {own : String} {cc : ByteArray} {pc : Nat} {ls : List (Nat × AV)} {st : List AV} {w : Wd} {a b : Int} {i : Nat}
theorem v_nm (k : ∀ y : Int, y = a → V x own cc pc ls (aI y :: st) w) : V x own cc pc ls (aI a :: st) w := k a rfl
theorem v_nmL (k : ∀ y : Int, y = a → V x own cc pc ls (aL y :: st) w) : V x own cc pc ls (aL a :: st) w := k a rfl
theorem v_nl (k : ∀ y : Int, y = a → V x own cc pc ((i, aI y) :: ls) st w) : V x own cc pc ((i, aI a) :: ls) st w := k a rfl
theorem v_nmw (k : ∀ w' : Wd, w' = w → V x own cc pc ls st w') : V x own cc pc ls st w := k w rfl
theorem v_eqI (h : a = b) (k : V x own cc pc ls (aI b :: st) w) : V x own cc pc ls (aI a :: st) w := by subst h; exact k
end VN
def band (a b : Int) : Int := (iz a &&& iz b).toInt
def bor (a b : Int) : Int := (iz a ||| iz b).toInt
def bxor (a b : Int) : Int := (iz a ^^^ iz b).toInt
def bshl (a b : Int) : Int := (iz a <<< (iz b &&& 31)).toInt
def bshr (a b : Int) : Int := (iz a >>> (iz b &&& 31)).toInt
def bushr (a b : Int) : Int := (((iz a).toUInt32 >>> ((iz b).toUInt32 &&& Int32.toUInt32 31)).toInt32).toInt
theorem band_iz (a b : Int) : iz a &&& iz b = iz (band a b) := (iz_of _).symm
theorem bor_iz (a b : Int) : iz a ||| iz b = iz (bor a b) := (iz_of _).symm
theorem bxor_iz (a b : Int) : iz a ^^^ iz b = iz (bxor a b) := (iz_of _).symm
theorem bshl_iz (a b : Int) : iz a <<< (iz b &&& 31) = iz (bshl a b) := (iz_of _).symm
theorem bshr_iz (a b : Int) : iz a >>> (iz b &&& 31) = iz (bshr a b) := (iz_of _).symm
theorem bushr_iz (a b : Int) : ((iz a).toUInt32 >>> ((iz b).toUInt32 &&& Int32.toUInt32 31)).toInt32 = iz (bushr a b) := (iz_of _).symm
theorem rg_band (a b : Int) : rg (band a b) := rg_toInt _
theorem rg_bor (a b : Int) : rg (bor a b) := rg_toInt _
theorem rg_bxor (a b : Int) : rg (bxor a b) := rg_toInt _
theorem rg_bshl (a b : Int) : rg (bshl a b) := rg_toInt _
theorem rg_bshr (a b : Int) : rg (bshr a b) := rg_toInt _
theorem lz_ne {b : Int} (h1 : -9223372036854775808 ≤ b) (h2 : b ≤ 9223372036854775807) (h : b ≠ 0) : ¬ lz b = 0 := by
  intro e
  have h0 : (0 : Int64) = lz 0 := rfl
  rw [h0, ← Int64.toInt_inj, lz_toInt h1 h2, lz_toInt (by omega) (by omega)] at e
  exact h e
/-- all but the cells cs stays -/
def Fr (cs : List Nat) (w w' : Wd) : Prop := ∀ o j, cs.contains o = false → w' o j = w o j
theorem Fr.rf (cs : List Nat) (w : Wd) : Fr cs w w := fun _ _ _ => rfl
theorem Fr.up {cs : List Nat} {w w' : Wd} (h : Fr cs w w') {o j : Nat} {v : Int} (hc : cs.contains o = true) : Fr cs w (up w' o j v) := fun o' j' h' => by
  rw [up_ne _ _ (fun q => by rw [q.1, hc] at h'; exact absurd h' (by decide))]; exact h o' j' h'
theorem Fr.tr {cs ds es : List Nat} {w w' w'' : Wd} (h1 : Fr cs w w') (h2 : Fr ds w' w'') (hc : cs.all (fun o => es.contains o) = true) (hd : ds.all (fun o => es.contains o) = true) : Fr es w w'' := fun o j h => by
  have key : ∀ l : List Nat, l.all (fun o => es.contains o) = true → l.contains o = false := fun l hl => by
    rw [Bool.eq_false_iff]
    intro q
    rw [List.contains_iff_mem] at q
    have := List.all_eq_true.mp hl o q
    rw [h] at this
    exact absurd this (by decide)
  rw [h2 o j (key ds hd), h1 o j (key cs hc)]
theorem Fr.mono {cs es : List Nat} {w w' : Wd} (h1 : Fr cs w w') (hc : cs.all (fun o => es.contains o) = true) : Fr es w w' := h1.tr (Fr.rf es w') hc (by
  rw [List.all_eq_true]; intro o h; rw [List.contains_iff_mem]; exact h)

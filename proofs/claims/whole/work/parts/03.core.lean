/-! the cells of the two systems: a class number and its fields (none: a number, some k: cell k), or an array (kind, length), or a row of references -/
abbrev LYT : Type := (Nat × List (Option Nat)) ⊕ ((Nat × Nat) ⊕ List Nat)
def LAYL : List LYT := [.inl (8, [some 1, none, none, some 2, some 6, none, some 7, some 11, some 14, some 17, some 19, some 27, some 30]),
  .inr (.inl (0, 120)),
  .inl (7, [none, none, none, none, some 3, some 4, some 5]),
  .inr (.inl (0, 12)),
  .inr (.inl (0, 12)),
  .inr (.inl (0, 12)),
  .inr (.inr [31, 35, 39, 43, 47, 51, 55, 59]),
  .inl (6, [some 8, some 9, some 10, none, none, none, none, none, none, none]),
  .inr (.inl (0, 5040)),
  .inr (.inl (0, 8)),
  .inr (.inl (0, 8)),
  .inl (2, [some 12, some 13, none]),
  .inr (.inl (0, 64)),
  .inr (.inl (0, 21)),
  .inl (4, [some 15, some 16, none, none, none, none]),
  .inr (.inl (0, 5040)),
  .inr (.inl (0, 5040)),
  .inl (0, [some 18, none]),
  .inr (.inl (0, 7)),
  .inl (1, [some 20, some 21, none, none, some 22, some 23, none, none, some 24, some 25, some 26, none, none, none, none, none]),
  .inr (.inl (0, 5040)),
  .inr (.inl (0, 5040)),
  .inr (.inl (0, 15)),
  .inr (.inl (0, 15)),
  .inr (.inl (2, 5040)),
  .inr (.inl (0, 64)),
  .inr (.inl (0, 64)),
  .inl (3, [some 28, some 29, none]),
  .inr (.inl (0, 12)),
  .inr (.inl (0, 12)),
  .inl (5, [none, none, none, none, none, none]),
  .inl (7, [none, none, none, none, some 32, some 33, some 34]),
  .inr (.inl (0, 12)),
  .inr (.inl (0, 12)),
  .inr (.inl (0, 12)),
  .inl (7, [none, none, none, none, some 36, some 37, some 38]),
  .inr (.inl (0, 12)),
  .inr (.inl (0, 12)),
  .inr (.inl (0, 12)),
  .inl (7, [none, none, none, none, some 40, some 41, some 42]),
  .inr (.inl (0, 12)),
  .inr (.inl (0, 12)),
  .inr (.inl (0, 12)),
  .inl (7, [none, none, none, none, some 44, some 45, some 46]),
  .inr (.inl (0, 12)),
  .inr (.inl (0, 12)),
  .inr (.inl (0, 12)),
  .inl (7, [none, none, none, none, some 48, some 49, some 50]),
  .inr (.inl (0, 12)),
  .inr (.inl (0, 12)),
  .inr (.inl (0, 12)),
  .inl (7, [none, none, none, none, some 52, some 53, some 54]),
  .inr (.inl (0, 12)),
  .inr (.inl (0, 12)),
  .inr (.inl (0, 12)),
  .inl (7, [none, none, none, none, some 56, some 57, some 58]),
  .inr (.inl (0, 12)),
  .inr (.inl (0, 12)),
  .inr (.inl (0, 12)),
  .inl (7, [none, none, none, none, some 60, some 61, some 62]),
  .inr (.inl (0, 12)),
  .inr (.inl (0, 12)),
  .inr (.inl (0, 12)),
  .inl (9, [none, none, none, none, none, some 64, some 65, some 66, some 67, some 68, some 69, some 70, some 71, some 72, some 73, some 74, none, none, none, none, some 75, none, none, none, none, none, some 76, some 77, some 78, some 79, some 80, none, some 81, none, none, none, some 82, none, some 83, some 84, some 85, some 86, none, some 87, some 88, some 89, none, some 90, some 91, some 92, none, some 93, none, none, some 94, some 95, some 96, some 97, some 98]),
  .inr (.inl (0, 5040)),
  .inr (.inl (0, 5040)),
  .inr (.inl (0, 16)),
  .inr (.inl (0, 16)),
  .inr (.inl (0, 16)),
  .inr (.inl (0, 8)),
  .inr (.inl (0, 8)),
  .inr (.inl (0, 8)),
  .inr (.inl (0, 8)),
  .inr (.inl (0, 8)),
  .inr (.inl (1, 120)),
  .inr (.inl (0, 8)),
  .inr (.inl (0, 8)),
  .inr (.inl (0, 8)),
  .inr (.inl (0, 5040)),
  .inr (.inl (0, 5040)),
  .inr (.inl (0, 4)),
  .inr (.inl (0, 8)),
  .inr (.inl (0, 8)),
  .inr (.inl (0, 64)),
  .inr (.inl (0, 64)),
  .inr (.inl (0, 64)),
  .inr (.inl (0, 64)),
  .inr (.inl (0, 5040)),
  .inr (.inl (0, 840)),
  .inr (.inl (0, 840)),
  .inr (.inl (2, 16)),
  .inr (.inl (0, 32)),
  .inr (.inl (0, 32)),
  .inr (.inl (0, 8)),
  .inr (.inl (0, 12)),
  .inr (.inl (0, 12)),
  .inr (.inl (0, 12)),
  .inr (.inl (0, 12)),
  .inr (.inl (0, 416))]
abbrev NC : Nat := 99
theorem layLen : LAYL.length = NC := by decide +kernel
theorem ly_0 : LAYL[0]? = some (.inl (8, [some 1, none, none, some 2, some 6, none, some 7, some 11, some 14, some 17, some 19, some 27, some 30])) := rfl
theorem ly_1 : LAYL[1]? = some (.inr (.inl (0, 120))) := rfl
theorem ly_2 : LAYL[2]? = some (.inl (7, [none, none, none, none, some 3, some 4, some 5])) := rfl
theorem ly_3 : LAYL[3]? = some (.inr (.inl (0, 12))) := rfl
theorem ly_4 : LAYL[4]? = some (.inr (.inl (0, 12))) := rfl
theorem ly_5 : LAYL[5]? = some (.inr (.inl (0, 12))) := rfl
theorem ly_6 : LAYL[6]? = some (.inr (.inr [31, 35, 39, 43, 47, 51, 55, 59])) := rfl
theorem ly_7 : LAYL[7]? = some (.inl (6, [some 8, some 9, some 10, none, none, none, none, none, none, none])) := rfl
theorem ly_8 : LAYL[8]? = some (.inr (.inl (0, 5040))) := rfl
theorem ly_9 : LAYL[9]? = some (.inr (.inl (0, 8))) := rfl
theorem ly_10 : LAYL[10]? = some (.inr (.inl (0, 8))) := rfl
theorem ly_11 : LAYL[11]? = some (.inl (2, [some 12, some 13, none])) := rfl
theorem ly_12 : LAYL[12]? = some (.inr (.inl (0, 64))) := rfl
theorem ly_13 : LAYL[13]? = some (.inr (.inl (0, 21))) := rfl
theorem ly_14 : LAYL[14]? = some (.inl (4, [some 15, some 16, none, none, none, none])) := rfl
theorem ly_15 : LAYL[15]? = some (.inr (.inl (0, 5040))) := rfl
theorem ly_16 : LAYL[16]? = some (.inr (.inl (0, 5040))) := rfl
theorem ly_17 : LAYL[17]? = some (.inl (0, [some 18, none])) := rfl
theorem ly_18 : LAYL[18]? = some (.inr (.inl (0, 7))) := rfl
theorem ly_19 : LAYL[19]? = some (.inl (1, [some 20, some 21, none, none, some 22, some 23, none, none, some 24, some 25, some 26, none, none, none, none, none])) := rfl
theorem ly_20 : LAYL[20]? = some (.inr (.inl (0, 5040))) := rfl
theorem ly_21 : LAYL[21]? = some (.inr (.inl (0, 5040))) := rfl
theorem ly_22 : LAYL[22]? = some (.inr (.inl (0, 15))) := rfl
theorem ly_23 : LAYL[23]? = some (.inr (.inl (0, 15))) := rfl
theorem ly_24 : LAYL[24]? = some (.inr (.inl (2, 5040))) := rfl
theorem ly_25 : LAYL[25]? = some (.inr (.inl (0, 64))) := rfl
theorem ly_26 : LAYL[26]? = some (.inr (.inl (0, 64))) := rfl
theorem ly_27 : LAYL[27]? = some (.inl (3, [some 28, some 29, none])) := rfl
theorem ly_28 : LAYL[28]? = some (.inr (.inl (0, 12))) := rfl
theorem ly_29 : LAYL[29]? = some (.inr (.inl (0, 12))) := rfl
theorem ly_30 : LAYL[30]? = some (.inl (5, [none, none, none, none, none, none])) := rfl
theorem ly_31 : LAYL[31]? = some (.inl (7, [none, none, none, none, some 32, some 33, some 34])) := rfl
theorem ly_32 : LAYL[32]? = some (.inr (.inl (0, 12))) := rfl
theorem ly_33 : LAYL[33]? = some (.inr (.inl (0, 12))) := rfl
theorem ly_34 : LAYL[34]? = some (.inr (.inl (0, 12))) := rfl
theorem ly_35 : LAYL[35]? = some (.inl (7, [none, none, none, none, some 36, some 37, some 38])) := rfl
theorem ly_36 : LAYL[36]? = some (.inr (.inl (0, 12))) := rfl
theorem ly_37 : LAYL[37]? = some (.inr (.inl (0, 12))) := rfl
theorem ly_38 : LAYL[38]? = some (.inr (.inl (0, 12))) := rfl
theorem ly_39 : LAYL[39]? = some (.inl (7, [none, none, none, none, some 40, some 41, some 42])) := rfl
theorem ly_40 : LAYL[40]? = some (.inr (.inl (0, 12))) := rfl
theorem ly_41 : LAYL[41]? = some (.inr (.inl (0, 12))) := rfl
theorem ly_42 : LAYL[42]? = some (.inr (.inl (0, 12))) := rfl
theorem ly_43 : LAYL[43]? = some (.inl (7, [none, none, none, none, some 44, some 45, some 46])) := rfl
theorem ly_44 : LAYL[44]? = some (.inr (.inl (0, 12))) := rfl
theorem ly_45 : LAYL[45]? = some (.inr (.inl (0, 12))) := rfl
theorem ly_46 : LAYL[46]? = some (.inr (.inl (0, 12))) := rfl
theorem ly_47 : LAYL[47]? = some (.inl (7, [none, none, none, none, some 48, some 49, some 50])) := rfl
theorem ly_48 : LAYL[48]? = some (.inr (.inl (0, 12))) := rfl
theorem ly_49 : LAYL[49]? = some (.inr (.inl (0, 12))) := rfl
theorem ly_50 : LAYL[50]? = some (.inr (.inl (0, 12))) := rfl
theorem ly_51 : LAYL[51]? = some (.inl (7, [none, none, none, none, some 52, some 53, some 54])) := rfl
theorem ly_52 : LAYL[52]? = some (.inr (.inl (0, 12))) := rfl
theorem ly_53 : LAYL[53]? = some (.inr (.inl (0, 12))) := rfl
theorem ly_54 : LAYL[54]? = some (.inr (.inl (0, 12))) := rfl
theorem ly_55 : LAYL[55]? = some (.inl (7, [none, none, none, none, some 56, some 57, some 58])) := rfl
theorem ly_56 : LAYL[56]? = some (.inr (.inl (0, 12))) := rfl
theorem ly_57 : LAYL[57]? = some (.inr (.inl (0, 12))) := rfl
theorem ly_58 : LAYL[58]? = some (.inr (.inl (0, 12))) := rfl
theorem ly_59 : LAYL[59]? = some (.inl (7, [none, none, none, none, some 60, some 61, some 62])) := rfl
theorem ly_60 : LAYL[60]? = some (.inr (.inl (0, 12))) := rfl
theorem ly_61 : LAYL[61]? = some (.inr (.inl (0, 12))) := rfl
theorem ly_62 : LAYL[62]? = some (.inr (.inl (0, 12))) := rfl
theorem ly_63 : LAYL[63]? = some (.inl (9, [none, none, none, none, none, some 64, some 65, some 66, some 67, some 68, some 69, some 70, some 71, some 72, some 73, some 74, none, none, none, none, some 75, none, none, none, none, none, some 76, some 77, some 78, some 79, some 80, none, some 81, none, none, none, some 82, none, some 83, some 84, some 85, some 86, none, some 87, some 88, some 89, none, some 90, some 91, some 92, none, some 93, none, none, some 94, some 95, some 96, some 97, some 98])) := rfl
theorem ly_64 : LAYL[64]? = some (.inr (.inl (0, 5040))) := rfl
theorem ly_65 : LAYL[65]? = some (.inr (.inl (0, 5040))) := rfl
theorem ly_66 : LAYL[66]? = some (.inr (.inl (0, 16))) := rfl
theorem ly_67 : LAYL[67]? = some (.inr (.inl (0, 16))) := rfl
theorem ly_68 : LAYL[68]? = some (.inr (.inl (0, 16))) := rfl
theorem ly_69 : LAYL[69]? = some (.inr (.inl (0, 8))) := rfl
theorem ly_70 : LAYL[70]? = some (.inr (.inl (0, 8))) := rfl
theorem ly_71 : LAYL[71]? = some (.inr (.inl (0, 8))) := rfl
theorem ly_72 : LAYL[72]? = some (.inr (.inl (0, 8))) := rfl
theorem ly_73 : LAYL[73]? = some (.inr (.inl (0, 8))) := rfl
theorem ly_74 : LAYL[74]? = some (.inr (.inl (1, 120))) := rfl
theorem ly_75 : LAYL[75]? = some (.inr (.inl (0, 8))) := rfl
theorem ly_76 : LAYL[76]? = some (.inr (.inl (0, 8))) := rfl
theorem ly_77 : LAYL[77]? = some (.inr (.inl (0, 8))) := rfl
theorem ly_78 : LAYL[78]? = some (.inr (.inl (0, 5040))) := rfl
theorem ly_79 : LAYL[79]? = some (.inr (.inl (0, 5040))) := rfl
theorem ly_80 : LAYL[80]? = some (.inr (.inl (0, 4))) := rfl
theorem ly_81 : LAYL[81]? = some (.inr (.inl (0, 8))) := rfl
theorem ly_82 : LAYL[82]? = some (.inr (.inl (0, 8))) := rfl
theorem ly_83 : LAYL[83]? = some (.inr (.inl (0, 64))) := rfl
theorem ly_84 : LAYL[84]? = some (.inr (.inl (0, 64))) := rfl
theorem ly_85 : LAYL[85]? = some (.inr (.inl (0, 64))) := rfl
theorem ly_86 : LAYL[86]? = some (.inr (.inl (0, 64))) := rfl
theorem ly_87 : LAYL[87]? = some (.inr (.inl (0, 5040))) := rfl
theorem ly_88 : LAYL[88]? = some (.inr (.inl (0, 840))) := rfl
theorem ly_89 : LAYL[89]? = some (.inr (.inl (0, 840))) := rfl
theorem ly_90 : LAYL[90]? = some (.inr (.inl (2, 16))) := rfl
theorem ly_91 : LAYL[91]? = some (.inr (.inl (0, 32))) := rfl
theorem ly_92 : LAYL[92]? = some (.inr (.inl (0, 32))) := rfl
theorem ly_93 : LAYL[93]? = some (.inr (.inl (0, 8))) := rfl
theorem ly_94 : LAYL[94]? = some (.inr (.inl (0, 12))) := rfl
theorem ly_95 : LAYL[95]? = some (.inr (.inl (0, 12))) := rfl
theorem ly_96 : LAYL[96]? = some (.inr (.inl (0, 12))) := rfl
theorem ly_97 : LAYL[97]? = some (.inr (.inl (0, 12))) := rfl
theorem ly_98 : LAYL[98]? = some (.inr (.inl (0, 416))) := rfl
/-! numbers and values -/
def iz (z : Int) : Int32 := Int32.ofInt z
def lz (z : Int) : Int64 := Int64.ofInt z
abbrev AV : Type := Int ⊕ (Int ⊕ Nat)
abbrev aI (z : Int) : AV := .inl z
abbrev aL (z : Int) : AV := .inr (.inl z)
abbrev aR (k : Nat) : AV := .inr (.inr k)
abbrev Wd : Type := Nat → Nat → Int
def up (w : Wd) (a j : Nat) (v : Int) : Wd := fun a' j' => bif (a'.beq a) && (j'.beq j) then v else w a' j'
abbrev rg (z : Int) : Prop := -2147483648 ≤ z ∧ z ≤ 2147483647
/-- launch-independent data of a walk: slots of the classes, addresses, classes of the arrays -/
abbrev Gx : Type := va_G × (Nat → Nat) × (ClassId × ClassId × ClassId × ClassId)
def tv (ad : Nat → Nat) : AV → Value
  | .inl z => .int (iz z)
  | .inr (.inl z) => .long (lz z)
  | .inr (.inr k) => .ref (ad k)
def tvp (ad : Nat → Nat) (q : Nat × AV) : Nat × Value := (q.1, tv ad q.2)
theorem iz_add (a b : Int) : iz a + iz b = iz (a + b) := (Int32.ofInt_add a b).symm
theorem iz_sub (a b : Int) : iz a - iz b = iz (a - b) := (Int32.ofInt_sub a b).symm
theorem iz_mul (a b : Int) : iz a * iz b = iz (a * b) := (Int32.ofInt_mul a b).symm
theorem iz_neg (a : Int) : - iz a = iz (- a) := (Int32.ofInt_neg a).symm
theorem lz_add (a b : Int) : lz a + lz b = lz (a + b) := (Int64.ofInt_add a b).symm
theorem lz_mul (a b : Int) : lz a * lz b = lz (a * b) := (Int64.ofInt_mul a b).symm
theorem iz_toInt {z : Int} (h : rg z) : (iz z).toInt = z := by
  unfold iz
  rw [Int32.toInt_ofInt]
  have hs : ((Int32.size : Nat) : Int) = 4294967296 := rfl
  exact Int.bmod_eq_of_le_mul_two (by omega) (by omega)
theorem lz_toInt {z : Int} (h : -9223372036854775808 ≤ z) (h2 : z ≤ 9223372036854775807) : (lz z).toInt = z := by
  unfold lz
  rw [Int64.toInt_ofInt]
  have hs : ((Int64.size : Nat) : Int) = 18446744073709551616 := rfl
  exact Int.bmod_eq_of_le_mul_two (by omega) (by omega)
theorem iz_of (x : Int32) : iz x.toInt = x := Int32.ofInt_toInt x
theorem lz_of (x : Int64) : lz x.toInt = x := Int64.ofInt_toInt x
theorem rg_toInt (x : Int32) : rg x.toInt := ⟨by have := Int32.le_toInt x; omega, by have := Int32.toInt_lt x; omega⟩
theorem iz_lt {a b : Int} (ha : rg a) (hb : rg b) : iz a < iz b ↔ a < b := by rw [Int32.lt_iff_toInt_lt, iz_toInt ha, iz_toInt hb]
theorem iz_le {a b : Int} (ha : rg a) (hb : rg b) : iz a ≤ iz b ↔ a ≤ b := by rw [Int32.le_iff_toInt_le, iz_toInt ha, iz_toInt hb]
theorem iz_eq {a b : Int} (ha : rg a) (hb : rg b) : iz a = iz b ↔ a = b := by rw [← Int32.toInt_inj, iz_toInt ha, iz_toInt hb]
theorem iz_clamp {z : Int} (h0 : 0 ≤ z) (h : z ≤ 2147483647) : (iz z).toNatClampNeg = z.toNat := by
  show (iz z).toInt.toNat = z.toNat
  rw [iz_toInt ⟨by omega, h⟩]
theorem iz_in {z : Int} {n : Nat} (h0 : 0 ≤ z) (h : z < n) (hn : n < 2147483648) : vp_in (iz z) n := by
  unfold vp_in
  rw [iz_clamp h0 (by omega), show (0 : Int32) = iz 0 from rfl, iz_lt ⟨by omega, by omega⟩ ⟨by omega, by omega⟩]
  omega
theorem up_eq (w : Wd) (a j : Nat) (v : Int) : up w a j v a j = v := by simp [up]
theorem up_ne (w : Wd) {a j a' j' : Nat} (v : Int) (h : ¬ (a' = a ∧ j' = j)) : up w a j v a' j' = w a' j' := by
  unfold up
  have : ((a'.beq a) && (j'.beq j)) = false := by
    rw [Bool.and_eq_false_iff]
    by_cases h1 : a' = a
    · right; rw [Bool.eq_false_iff, Ne, Nat.beq_eq]; exact fun e => h ⟨h1, e⟩
    · left; rw [Bool.eq_false_iff, Ne, Nat.beq_eq]; exact h1
  rw [this]; rfl
theorem up_at (w : Wd) (a j : Nat) (v : Int) (a' j' : Nat) : up w a j v a' j' = if a' = a ∧ j' = j then v else w a' j' := by
  by_cases h : a' = a ∧ j' = j
  · rw [if_pos h, h.1, h.2, up_eq]
  · rw [if_neg h, up_ne _ _ h]
/-! the cells as the kit's list -/
def fvals (G : Gx) (w : Nat → Int) : Nat → List (Option Nat) → List Value
  | _, [] => []
  | j, f :: fs => (match f with | none => Value.int (iz (w j)) | some r => .ref (G.2.1 r)) :: fvals G w (j + 1) fs
def acls (G : Gx) (t : Nat) : ClassId := if t = 0 then G.2.2.1 else if t = 1 then G.2.2.2.1 else G.2.2.2.2.1
def entry (G : Gx) (w : Nat → Int) : LYT → va_E
  | .inl q => .inr (q.1, fvals G w 0 q.2)
  | .inr (.inl q) => .inl (acls G q.1, q.2, .inl (fun j => iz (w j)))
  | .inr (.inr L) => .inl (G.2.2.2.2.2, L.length, .inr (.inr (.inr (.inr (fun j => (L[j]?).map G.2.1)))))
def cellsK (G : Gx) (w : Wd) : Nat → List LYT → va_W
  | _, [] => []
  | k, c :: cs => (G.2.1 k, entry G (w k) c) :: cellsK G w (k + 1) cs
def cls (G : Gx) (w : Wd) : va_W := cellsK G w 0 LAYL
theorem fvals_get (G : Gx) (w : Nat → Int) (fs : List (Option Nat)) : ∀ (i j : Nat), (fvals G w i fs)[j]? = (fs[j]?).map (fun f => match f with | none => Value.int (iz (w (i + j))) | some r => .ref (G.2.1 r)) := by
  induction fs with
  | nil => intro i j; simp [fvals]
  | cons f fs ih =>
    intro i j
    cases j with
    | zero => simp [fvals]
    | succ j => simp [fvals, ih]; congr 1; funext f; cases f <;> simp; congr 2; omega
theorem cellsK_get (G : Gx) (w : Wd) (cs : List LYT) : ∀ (i j : Nat), (cellsK G w i cs)[j]? = (cs[j]?).map (fun c => (G.2.1 (i + j), entry G (w (i + j)) c)) := by
  induction cs with
  | nil => intro i j; simp [cellsK]
  | cons f fs ih =>
    intro i j
    cases j with
    | zero => simp [cellsK]
    | succ j => simp [cellsK, ih]; congr 1; funext f; rw [show i + 1 + j = i + (j + 1) from by omega]
theorem cls_get (G : Gx) (w : Wd) {k : Nat} {c : LYT} (h : LAYL[k]? = some c) : (cls G w)[k]? = some (G.2.1 k, entry G (w k) c) := by
  unfold cls; rw [cellsK_get, h]; simp
theorem fvals_len (G : Gx) (w : Nat → Int) (fs : List (Option Nat)) : ∀ i, (fvals G w i fs).length = fs.length := by
  induction fs with
  | nil => intro i; rfl
  | cons f fs ih => intro i; simp [fvals, ih]
theorem cellsK_len (G : Gx) (w : Wd) (cs : List LYT) : ∀ i, (cellsK G w i cs).length = cs.length := by
  induction cs with
  | nil => intro i; rfl
  | cons f fs ih => intro i; simp [cellsK, ih]
theorem list_ext' {α : Type} {a b : List α} (h : ∀ i : Nat, a[i]? = b[i]?) : a = b := List.ext_getElem? h
theorem fvals_set (G : Gx) (w : Wd) (k j : Nat) (z : Int) (fs : List (Option Nat)) (h : fs[j]? = some none) : (fvals G (w k) 0 fs).set j (.int (iz z)) = fvals G (up w k j z k) 0 fs := by
  apply list_ext'
  intro i
  rw [List.getElem?_set, fvals_get, fvals_get, fvals_len]
  by_cases hij : j = i
  · subst hij
    have hl : j < fs.length := (List.getElem?_eq_some_iff.mp h).1
    rw [h]; simp [hl, up_eq]
  · rw [if_neg hij]
    congr 1
    funext f
    cases f with
    | none => simp only [Nat.zero_add]; rw [up_ne _ _ (by omega)]
    | some r => rfl
theorem cls_set (G : Gx) (w : Wd) {k j : Nat} (z : Int) {c : LYT} (h : LAYL[k]? = some c) {e : va_E} (he : e = entry G (up w k j z k) c) : (cls G w).set k (G.2.1 k, e) = cls G (up w k j z) := by
  apply list_ext'
  intro i
  unfold cls
  rw [List.getElem?_set, cellsK_get, cellsK_get, cellsK_len]
  by_cases hij : k = i
  · subst hij
    have hl : k < LAYL.length := (List.getElem?_eq_some_iff.mp h).1
    rw [h]; simp [hl, he]
  · rw [if_neg hij]
    congr 1
    funext c'
    rw [show entry G (w (0 + i)) c' = entry G (up w k j z (0 + i)) c' from by congr 1; funext j'; rw [up_ne _ _ (by omega)]]
theorem cls_addr (G : Gx) (w : Wd) {k : Nat} {q : Nat × va_E} (h : (cls G w)[k]? = some q) : k < NC ∧ q.1 = G.2.1 k := by
  unfold cls at h
  rw [cellsK_get] at h
  cases hk : LAYL[k]? with
  | none => rw [hk] at h; simp at h
  | some c =>
    rw [hk] at h
    simp at h
    exact ⟨by rw [← layLen]; exact (List.getElem?_eq_some_iff.mp hk).1, by rw [← h]⟩
abbrev Inj (G : Gx) : Prop := ∀ i j : Nat, i < NC → j < NC → G.2.1 i = G.2.1 j → i = j
/-- the places that a call may write: the cells, and all that came since -/
def Af (G : Gx) (sz : Nat) : Nat → Prop := fun q => (∃ k, k < NC ∧ q = G.2.1 k) ∨ sz ≤ q
theorem cls_D {G : Gx} {w : Wd} (hI : Inj G) {A : Nat → Prop} (hA : ∀ k, k < NC → A (G.2.1 k)) : va_D A (cls G w) := by
  refine ⟨fun i j p q hp hq e => ?_, fun k q h => ?_⟩
  · obtain ⟨a1, a2⟩ := cls_addr G w hp
    obtain ⟨b1, b2⟩ := cls_addr G w hq
    exact hI i j a1 b1 (by rw [← a2, ← b2]; exact e)
  · obtain ⟨a1, a2⟩ := cls_addr G w h
    rw [a2]; exact hA k a1
def tysG (G : Gx) : List (ClassId × FieldType) := [(G.2.2.1, .int), (G.2.2.2.1, .byte), (G.2.2.2.2.1, .boolean), (G.2.2.2.2.2, .object "DrawnMaps$State")]
/-! statics of Kind -/
def SLIST : List Int := [1, 11, 2, 111, 21, 3, 1111, 211, 31, 22, 4, 11111, 2111, 311, 221, 41, 32, 5, 111111, 21111, 3111, 2211, 411, 321, 222, 51, 42, 33, 6, 1111111, 211111, 31111, 22111, 4111, 3211, 2221, 511, 421, 331, 322, 61, 52, 43, 7]
def SFIRST : List Int := [0, 0, 1, 3, 6, 11, 18, 29, 44]
def SFACT : List Int := [1, 1, 2, 6, 24, 120, 720, 5040]
def sarr (k : Nat) : List Int := if k = 1000 then SLIST else if k = 1001 then SFIRST else SFACT
def sname (k : Nat) : String := if k = 1000 then "LIST" else if k = 1001 then "FIRST" else "FACTORIAL"
def Sta1 (G : Gx) (A : Nat → Prop) (k : Nat) (U : State) (H : Heap) : Prop := va_Z "DrawnMaps$Kind" (sname k) "[I" (.ref (G.2.1 k)) A U H ∧ va_T .int (G.2.1 k) (sarr k).length (fun j => .int (iz ((sarr k).getD j 0))) A U H
def Sta (G : Gx) (A : Nat → Prop) (U : State) (H : Heap) : Prop := ∀ k, (k = 1000 ∨ k = 1001 ∨ k = 1002) → Sta1 G A k U H
theorem Sta.moved {G : Gx} {A : Nat → Prop} {u U : State} {H : Heap} (hvm : u.vm.Alike U.vm) (h : Sta G A u H) : Sta G A U H := fun k hk => ⟨va_Z.moved hvm (h k hk).1, va_T.moved hvm (h k hk).2⟩
theorem Sta.kept {G : Gx} {A : Nat → Prop} {U : State} {H H1 : Heap} (h : Sta G A U H) (hq : ∀ a : Nat, a < H.size → ¬ A a → H1[a]? = H[a]?) : Sta G A U H1 := fun k hk => ⟨(h k hk).1.kept hq, (h k hk).2.kept hq⟩
theorem Sta.narrow {G : Gx} {A B : Nat → Prop} {U : State} {H : Heap} (h : Sta G A U H) (hAB : ∀ q, B q → A q) : Sta G B U H := fun k hk => ⟨(h k hk).1.narrow hAB, (h k hk).2.narrow hAB⟩
/-! the words -/
def WS : List Cond := lw_tbl.filter goodWord
theorem ws_of {u : Cond} (h : u ∈ lw_tbl) (g : goodWord u = true) : u ∈ WS := List.mem_filter.mpr ⟨h, g⟩
theorem ws_in {u : Cond} (h : u ∈ WS) : u ∈ lw_tbl := (List.mem_filter.mp h).1
theorem ws_good {u : Cond} (h : u ∈ WS) : (u.onTables && u.keeps) = true ∨ ∃ ty, u = .arrayClass ty := good_of_word (List.mem_filter.mp h).2
/-! a walk -/
abbrev CX : Type := Launch × Room × (Nat × Nat) × (List Frame → Array Value → State → State → Prop) × Gx × (Nat × Option FieldType) × (Array Value → State → Prop)
def Cc (x : CX) (own : String) (cc : ByteArray) (p : Program) (s : State) (m : MethodId) (args : Array Value) (meth : Method) (c : Code) : Prop :=
  p.tables.exec = Jvm.exec ∧ c.code = cc ∧ c.maxLocals = x.2.2.2.2.2.1.1 ∧ meth.sig.returnType = x.2.2.2.2.2.1.2 ∧ meth.locks = false ∧ s.vm.findClass own = some m.cls ∧ (∀ u ∈ WS, u.before args s = true) ∧ va_K x.2.2.2.2.1.1 vwCl (tysG x.2.2.2.2.1) s ∧ Inj x.2.2.2.2.1 ∧ Sta x.2.2.2.2.1 (Af x.2.2.2.2.1 s.heap.size) s s.heap ∧ x.2.2.2.2.2.2 args s
def V (x : CX) (own : String) (cc : ByteArray) (pc : Nat) (ls : List (Nat × AV)) (st : List AV) (w : Wd) : Prop :=
  ∀ (p : Program) (e : Env) (s : State) (m : MethodId) (args : Array Value) (below : List Frame) (meth : Method) (c : Code) (H : Heap) (locs : List Loc) (lsA : Array Slot),
    Cc x own cc p s m args meth c → va_P x.2.2.2.2.1.1 vwCl (cls x.2.2.2.2.1 w) H → va_S (Af x.2.2.2.2.1 s.heap.size) s.heap H locs → lv_has lsA x.2.2.2.2.2.1.1 (ls.map (tvp x.2.2.2.2.1.2.1)) →
    W p x.1 e x.2.1 s m args below meth c H locs x.2.2.1.1 x.2.2.1.2 (x.2.2.2.1 below args s) (F0 m pc lsA (st.map (tv x.2.2.2.2.1.2.1)))
theorem Af_k (G : Gx) (sz : Nat) (k : Nat) (hk : k < NC) : Af G sz (G.2.1 k) := Or.inl ⟨k, hk, rfl⟩
theorem blt_of {a b : Nat} (h : Nat.blt a b = true) : a < b := Nat.le_of_ble_eq_true h
section VR
variable {x : CX} {own : String} {cc : ByteArray} {pc : Nat} {ls : List (Nat × AV)} {st : List AV} {w : Wd} {a b : Int}
theorem v_iconst {pc' : Nat} {n : Int} (hp : pc + 1 = pc') (hd : decode cc pc = .ok (.iconst n, 1)) (k : V x own cc pc' ls (aI n :: st) w) : V x own cc pc ls st w := by
  subst hp
  exact fun p e s m args below meth c H locs lsA C hP hS hl => lv_iconst C.1 C.2.1 hd rfl (k p e s m args below meth c H locs lsA C hP hS hl)
theorem v_bipush {pc' : Nat} {n : Int} (hp : pc + 2 = pc') (hd : decode cc pc = .ok (.bipush n, 2)) (hn : (Int8.ofInt n).toInt32 = iz n) (k : V x own cc pc' ls (aI n :: st) w) : V x own cc pc ls st w := by
  subst hp
  exact fun p e s m args below meth c H locs lsA C hP hS hl => lv_bipush C.1 C.2.1 hd hn (k p e s m args below meth c H locs lsA C hP hS hl)
theorem v_sipush {pc' : Nat} {n : Int} (hp : pc + 3 = pc') (hd : decode cc pc = .ok (.sipush n, 3)) (hn : (Int16.ofInt n).toInt32 = iz n) (k : V x own cc pc' ls (aI n :: st) w) : V x own cc pc ls st w := by
  subst hp
  exact fun p e s m args below meth c H locs lsA C hP hS hl => lv_sipush C.1 C.2.1 hd hn (k p e s m args below meth c H locs lsA C hP hS hl)
theorem v_lconst {pc' : Nat} {n : Fin 2} {z : Int} (hp : pc + 1 = pc') (hd : decode cc pc = .ok (.lconst n, 1)) (hn : Int64.ofNat (n : Nat) = lz z) (k : V x own cc pc' ls (aL z :: st) w) : V x own cc pc ls st w := by
  subst hp
  exact fun p e s m args below meth c H locs lsA C hP hS hl => lv_lconst C.1 C.2.1 hd hn (k p e s m args below meth c H locs lsA C hP hS hl)
theorem v_ldc {pc' : Nat} {idx : Nat} {z : Int} (hp : pc + 2 = pc') (hd : decode cc pc = .ok (.ldc idx, 2)) (hc : Cond.constant own idx (iz z) ∈ WS) (k : V x own cc pc' ls (aI z :: st) w) : V x own cc pc ls st w := by
  subst hp
  exact fun p e s m args below meth c H locs lsA C hP hS hl => lv_ldc C.1 C.2.1 C.2.2.2.2.2.1 (C.2.2.2.2.2.2.1 _ hc) hd (k p e s m args below meth c H locs lsA C hP hS hl)
theorem v_ldcw {pc' : Nat} {idx : Nat} {z : Int} (hp : pc + 3 = pc') (hd : decode cc pc = .ok (.ldc_w idx, 3)) (hc : Cond.constant own idx (iz z) ∈ WS) (k : V x own cc pc' ls (aI z :: st) w) : V x own cc pc ls st w := by
  subst hp
  exact fun p e s m args below meth c H locs lsA C hP hS hl => lv_ldcw C.1 C.2.1 C.2.2.2.2.2.1 (C.2.2.2.2.2.2.1 _ hc) hd (k p e s m args below meth c H locs lsA C hP hS hl)
theorem v_ldc2 {pc' : Nat} {idx : Nat} {z : Int} (hp : pc + 3 = pc') (hd : decode cc pc = .ok (.ldc2_w idx, 3)) (hc : Cond.constantLong own idx (lz z) ∈ WS) (k : V x own cc pc' ls (aL z :: st) w) : V x own cc pc ls st w := by
  subst hp
  exact fun p e s m args below meth c H locs lsA C hP hS hl => lv_ldc2 C.1 C.2.1 C.2.2.2.2.2.1 (C.2.2.2.2.2.2.1 _ hc) hd (k p e s m args below meth c H locs lsA C hP hS hl)
theorem ls_at {G : Gx} {nL : Nat} {lsA : Array Slot} {i : Nat} {v : AV} (hl : lv_has lsA nL (ls.map (tvp G.2.1))) (j : Nat) (h : ls[j]? = some (i, v)) : lsA[i]? = some (.val (tv G.2.1 v)) :=
  lv_at hl j (by rw [List.getElem?_map, h]; rfl)
theorem v_iload_n {pc' : Nat} (j : Nat) {k : Fin 4} {i : Nat} (hp : pc + 1 = pc') (hd : decode cc pc = .ok (.iload_n k, 1)) (hi : (k : Nat) = i) (h : ls[j]? = some (i, aI a)) (kk : V x own cc pc' ls (aI a :: st) w) : V x own cc pc ls st w := by
  subst hp
  exact fun p e s m args below meth c H locs lsA C hP hS hl => lv_iload_n C.1 C.2.1 hd hi (ls_at (G := x.2.2.2.2.1) hl j h) (kk p e s m args below meth c H locs lsA C hP hS hl)
theorem v_iload {pc' : Nat} (j : Nat) {i : Nat} (hp : pc + 2 = pc') (hd : decode cc pc = .ok (.iload i, 2)) (h : ls[j]? = some (i, aI a)) (kk : V x own cc pc' ls (aI a :: st) w) : V x own cc pc ls st w := by
  subst hp
  exact fun p e s m args below meth c H locs lsA C hP hS hl => lv_iload C.1 C.2.1 hd (ls_at (G := x.2.2.2.2.1) hl j h) (kk p e s m args below meth c H locs lsA C hP hS hl)
theorem v_lload_n {pc' : Nat} (j : Nat) {k : Fin 4} {i : Nat} (hp : pc + 1 = pc') (hd : decode cc pc = .ok (.lload_n k, 1)) (hi : (k : Nat) = i) (h : ls[j]? = some (i, aL a)) (kk : V x own cc pc' ls (aL a :: st) w) : V x own cc pc ls st w := by
  subst hp
  exact fun p e s m args below meth c H locs lsA C hP hS hl => lv_lload_n C.1 C.2.1 hd hi (ls_at (G := x.2.2.2.2.1) hl j h) (kk p e s m args below meth c H locs lsA C hP hS hl)
theorem v_lload {pc' : Nat} (j : Nat) {i : Nat} (hp : pc + 2 = pc') (hd : decode cc pc = .ok (.lload i, 2)) (h : ls[j]? = some (i, aL a)) (kk : V x own cc pc' ls (aL a :: st) w) : V x own cc pc ls st w := by
  subst hp
  exact fun p e s m args below meth c H locs lsA C hP hS hl => lv_lload C.1 C.2.1 hd (ls_at (G := x.2.2.2.2.1) hl j h) (kk p e s m args below meth c H locs lsA C hP hS hl)
theorem v_aload_n {pc' : Nat} (j : Nat) {k : Fin 4} {i r : Nat} (hp : pc + 1 = pc') (hd : decode cc pc = .ok (.aload_n k, 1)) (hi : (k : Nat) = i) (h : ls[j]? = some (i, aR r)) (kk : V x own cc pc' ls (aR r :: st) w) : V x own cc pc ls st w := by
  subst hp
  exact fun p e s m args below meth c H locs lsA C hP hS hl => lv_aload_n C.1 C.2.1 hd hi (ls_at (G := x.2.2.2.2.1) hl j h) (kk p e s m args below meth c H locs lsA C hP hS hl)
theorem v_aload {pc' : Nat} (j : Nat) {i r : Nat} (hp : pc + 2 = pc') (hd : decode cc pc = .ok (.aload i, 2)) (h : ls[j]? = some (i, aR r)) (kk : V x own cc pc' ls (aR r :: st) w) : V x own cc pc ls st w := by
  subst hp
  exact fun p e s m args below meth c H locs lsA C hP hS hl => lv_aload C.1 C.2.1 hd (ls_at (G := x.2.2.2.2.1) hl j h) (kk p e s m args below meth c H locs lsA C hP hS hl)
def acat : AV → Nat
  | .inl _ => 1
  | .inr (.inl _) => 2
  | .inr (.inr _) => 1
theorem acat_tv (ad : Nat → Nat) (v : AV) : (tv ad v).category = acat v := by
  rcases v with z | z | k <;> rfl
def lset1 (ls : List (Nat × AV)) (i : Nat) (v : AV) : List (Nat × AV) := (i, v) :: ls.filter (fun q => !(q.1 == i) && !(q.1 + 1 == i && acat q.2 == 2))
def lset2 (ls : List (Nat × AV)) (i : Nat) (v : AV) : List (Nat × AV) := (i, v) :: ls.filter (fun q => !(q.1 == i) && (!(q.1 == i + 1) && !(q.1 + 1 == i && acat q.2 == 2)))
theorem lset1_map (ad : Nat → Nat) (ls : List (Nat × AV)) (i : Nat) (v : AV) : (i, tv ad v) :: (ls.map (tvp ad)).filter (fun q => !(q.1 == i) && !(q.1 + 1 == i && q.2.category == 2)) = (lset1 ls i v).map (tvp ad) := by
  simp only [lset1, List.map_cons, List.filter_map]
  congr 2
  apply List.filter_congr
  intro q _
  simp [tvp, acat_tv]
theorem lset2_map (ad : Nat → Nat) (ls : List (Nat × AV)) (i : Nat) (v : AV) : (i, tv ad v) :: (ls.map (tvp ad)).filter (fun q => !(q.1 == i) && (!(q.1 == i + 1) && !(q.1 + 1 == i && q.2.category == 2))) = (lset2 ls i v).map (tvp ad) := by
  simp only [lset2, List.map_cons, List.filter_map]
  congr 2
  apply List.filter_congr
  intro q _
  simp [tvp, acat_tv]
/-- a change of the list of locals: any part of it, in any order -/
theorem v_ls {ls' : List (Nat × AV)} (ks : List Nat) (h : ks.filterMap (fun k => ls[k]?) = ls') (k : V x own cc pc ls' st w) : V x own cc pc ls st w := by
  intro p e s m args below meth c H locs lsA C hP hS hl
  refine k p e s m args below meth c H locs lsA C hP hS ⟨hl.1, hl.2.1, fun q hq => hl.2.2 q ?_⟩
  obtain ⟨q', h1, h2⟩ := List.mem_map.mp hq
  rw [← h] at h1
  obtain ⟨i, -, hi⟩ := List.mem_filterMap.mp h1
  exact List.mem_map.mpr ⟨q', List.mem_of_getElem? hi, h2⟩
theorem v_istore_n {pc' : Nat} {k : Fin 4} {i : Nat} {ls' : List (Nat × AV)} (hp : pc + 1 = pc') (hd : decode cc pc = .ok (.istore_n k, 1)) (hi : (k : Nat) = i) (hn : Nat.blt i x.2.2.2.2.2.1.1 = true) (hl : lset1 ls i (aI a) = ls') (kk : V x own cc pc' ls' st w) : V x own cc pc ls (aI a :: st) w := by
  subst hp
  intro p e s m args below meth c H locs lsA C hP hS hls
  refine lv_istore_n C.1 C.2.1 hd hi hls (blt_of hn) rfl (fun lsA' h' => kk p e s m args below meth c H locs lsA' C hP hS ?_)
  rw [← hl, ← lset1_map]; exact h'
theorem v_istore {pc' : Nat} {i : Nat} {ls' : List (Nat × AV)} (hp : pc + 2 = pc') (hd : decode cc pc = .ok (.istore i, 2)) (hn : Nat.blt i x.2.2.2.2.2.1.1 = true) (hl : lset1 ls i (aI a) = ls') (kk : V x own cc pc' ls' st w) : V x own cc pc ls (aI a :: st) w := by
  subst hp
  intro p e s m args below meth c H locs lsA C hP hS hls
  refine lv_istore C.1 C.2.1 hd hls (blt_of hn) rfl (fun lsA' h' => kk p e s m args below meth c H locs lsA' C hP hS ?_)
  rw [← hl, ← lset1_map]; exact h'
theorem v_lstore_n {pc' : Nat} {k : Fin 4} {i : Nat} {ls' : List (Nat × AV)} (hp : pc + 1 = pc') (hd : decode cc pc = .ok (.lstore_n k, 1)) (hi : (k : Nat) = i) (hn : Nat.blt (i + 1) x.2.2.2.2.2.1.1 = true) (hl : lset2 ls i (aL a) = ls') (kk : V x own cc pc' ls' st w) : V x own cc pc ls (aL a :: st) w := by
  subst hp
  intro p e s m args below meth c H locs lsA C hP hS hls
  refine lv_lstore_n C.1 C.2.1 hd hi hls (blt_of hn) rfl (fun lsA' h' => kk p e s m args below meth c H locs lsA' C hP hS ?_)
  rw [← hl, ← lset2_map]; exact h'
theorem v_lstore {pc' : Nat} {i : Nat} {ls' : List (Nat × AV)} (hp : pc + 2 = pc') (hd : decode cc pc = .ok (.lstore i, 2)) (hn : Nat.blt (i + 1) x.2.2.2.2.2.1.1 = true) (hl : lset2 ls i (aL a) = ls') (kk : V x own cc pc' ls' st w) : V x own cc pc ls (aL a :: st) w := by
  subst hp
  intro p e s m args below meth c H locs lsA C hP hS hls
  refine lv_lstore C.1 C.2.1 hd hls (blt_of hn) rfl (fun lsA' h' => kk p e s m args below meth c H locs lsA' C hP hS ?_)
  rw [← hl, ← lset2_map]; exact h'
theorem v_astore_n {pc' : Nat} {k : Fin 4} {i r : Nat} {ls' : List (Nat × AV)} (hp : pc + 1 = pc') (hd : decode cc pc = .ok (.astore_n k, 1)) (hi : (k : Nat) = i) (hn : Nat.blt i x.2.2.2.2.2.1.1 = true) (hl : lset1 ls i (aR r) = ls') (kk : V x own cc pc' ls' st w) : V x own cc pc ls (aR r :: st) w := by
  subst hp
  intro p e s m args below meth c H locs lsA C hP hS hls
  refine lv_astore_n C.1 C.2.1 hd hi hls (blt_of hn) rfl (fun lsA' h' => kk p e s m args below meth c H locs lsA' C hP hS ?_)
  rw [← hl, ← lset1_map]; exact h'
theorem v_iinc {pc' : Nat} (j : Nat) {i : Nat} {n : Int} {ls' : List (Nat × AV)} (hp : pc + 3 = pc') (hd : decode cc pc = .ok (.iinc i n, 3)) (h : ls[j]? = some (i, aI a)) (hn : Nat.blt i x.2.2.2.2.2.1.1 = true) (hl : lset1 ls i (aI (a + n)) = ls') (kk : V x own cc pc' ls' st w) : V x own cc pc ls st w := by
  subst hp
  intro p e s m args below meth c H locs lsA C hP hS hls
  refine lv_iinc (k := j) C.1 C.2.1 hd hls (by rw [List.getElem?_map, h]; rfl) (iz_add a n) (blt_of hn) rfl (fun lsA' h' => kk p e s m args below meth c H locs lsA' C hP hS ?_)
  rw [← hl, ← lset1_map]; exact h'
theorem v_iadd {pc' : Nat} (hp : pc + 1 = pc') (hd : decode cc pc = .ok (.iadd, 1)) (k : V x own cc pc' ls (aI (a + b) :: st) w) : V x own cc pc ls (aI b :: aI a :: st) w := by
  subst hp
  exact fun p e s m args below meth c H locs lsA C hP hS hl => lv_iadd C.1 C.2.1 hd (by rw [iz_add]; exact k p e s m args below meth c H locs lsA C hP hS hl)
theorem v_isub {pc' : Nat} (hp : pc + 1 = pc') (hd : decode cc pc = .ok (.isub, 1)) (k : V x own cc pc' ls (aI (a - b) :: st) w) : V x own cc pc ls (aI b :: aI a :: st) w := by
  subst hp
  exact fun p e s m args below meth c H locs lsA C hP hS hl => lv_isub C.1 C.2.1 hd (by rw [iz_sub]; exact k p e s m args below meth c H locs lsA C hP hS hl)
theorem v_imul {pc' : Nat} (hp : pc + 1 = pc') (hd : decode cc pc = .ok (.imul, 1)) (k : V x own cc pc' ls (aI (a * b) :: st) w) : V x own cc pc ls (aI b :: aI a :: st) w := by
  subst hp
  exact fun p e s m args below meth c H locs lsA C hP hS hl => lv_imul C.1 C.2.1 hd (by rw [iz_mul]; exact k p e s m args below meth c H locs lsA C hP hS hl)
theorem v_ineg {pc' : Nat} (hp : pc + 1 = pc') (hd : decode cc pc = .ok (.ineg, 1)) (k : V x own cc pc' ls (aI (-a) :: st) w) : V x own cc pc ls (aI a :: st) w := by
  subst hp
  exact fun p e s m args below meth c H locs lsA C hP hS hl => lv_ineg C.1 C.2.1 hd (by rw [iz_neg]; exact k p e s m args below meth c H locs lsA C hP hS hl)
theorem v_iand {pc' : Nat} {z : Int} (hp : pc + 1 = pc') (hd : decode cc pc = .ok (.iand, 1)) (hz : iz a &&& iz b = iz z) (k : V x own cc pc' ls (aI z :: st) w) : V x own cc pc ls (aI b :: aI a :: st) w := by
  subst hp
  exact fun p e s m args below meth c H locs lsA C hP hS hl => lv_iand C.1 C.2.1 hd (by rw [hz]; exact k p e s m args below meth c H locs lsA C hP hS hl)
theorem v_ior {pc' : Nat} {z : Int} (hp : pc + 1 = pc') (hd : decode cc pc = .ok (.ior, 1)) (hz : iz a ||| iz b = iz z) (k : V x own cc pc' ls (aI z :: st) w) : V x own cc pc ls (aI b :: aI a :: st) w := by
  subst hp
  exact fun p e s m args below meth c H locs lsA C hP hS hl => lv_ior C.1 C.2.1 hd (by rw [hz]; exact k p e s m args below meth c H locs lsA C hP hS hl)
theorem v_ixor {pc' : Nat} {z : Int} (hp : pc + 1 = pc') (hd : decode cc pc = .ok (.ixor, 1)) (hz : iz a ^^^ iz b = iz z) (k : V x own cc pc' ls (aI z :: st) w) : V x own cc pc ls (aI b :: aI a :: st) w := by
  subst hp
  exact fun p e s m args below meth c H locs lsA C hP hS hl => lv_ixor C.1 C.2.1 hd (by rw [hz]; exact k p e s m args below meth c H locs lsA C hP hS hl)
theorem v_ishl {pc' : Nat} {z : Int} (hp : pc + 1 = pc') (hd : decode cc pc = .ok (.ishl, 1)) (hz : iz a <<< (iz b &&& 31) = iz z) (k : V x own cc pc' ls (aI z :: st) w) : V x own cc pc ls (aI b :: aI a :: st) w := by
  subst hp
  exact fun p e s m args below meth c H locs lsA C hP hS hl => lv_ishl C.1 C.2.1 hd (by rw [hz]; exact k p e s m args below meth c H locs lsA C hP hS hl)
theorem v_ishr {pc' : Nat} {z : Int} (hp : pc + 1 = pc') (hd : decode cc pc = .ok (.ishr, 1)) (hz : iz a >>> (iz b &&& 31) = iz z) (k : V x own cc pc' ls (aI z :: st) w) : V x own cc pc ls (aI b :: aI a :: st) w := by
  subst hp
  exact fun p e s m args below meth c H locs lsA C hP hS hl => lv_ishr C.1 C.2.1 hd (by rw [hz]; exact k p e s m args below meth c H locs lsA C hP hS hl)
theorem v_iushr {pc' : Nat} {z : Int} (hp : pc + 1 = pc') (hd : decode cc pc = .ok (.iushr, 1)) (hz : ((iz a).toUInt32 >>> ((iz b).toUInt32 &&& Int32.toUInt32 31)).toInt32 = iz z) (k : V x own cc pc' ls (aI z :: st) w) : V x own cc pc ls (aI b :: aI a :: st) w := by
  subst hp
  exact fun p e s m args below meth c H locs lsA C hP hS hl => lv_iushr C.1 C.2.1 hd hz (k p e s m args below meth c H locs lsA C hP hS hl)
theorem v_ladd {pc' : Nat} (hp : pc + 1 = pc') (hd : decode cc pc = .ok (.ladd, 1)) (k : V x own cc pc' ls (aL (a + b) :: st) w) : V x own cc pc ls (aL b :: aL a :: st) w := by
  subst hp
  exact fun p e s m args below meth c H locs lsA C hP hS hl => lv_ladd C.1 C.2.1 hd (by rw [lz_add]; exact k p e s m args below meth c H locs lsA C hP hS hl)
theorem v_lmul {pc' : Nat} (hp : pc + 1 = pc') (hd : decode cc pc = .ok (.lmul, 1)) (k : V x own cc pc' ls (aL (a * b) :: st) w) : V x own cc pc ls (aL b :: aL a :: st) w := by
  subst hp
  exact fun p e s m args below meth c H locs lsA C hP hS hl => lv_lmul C.1 C.2.1 hd (by rw [lz_mul]; exact k p e s m args below meth c H locs lsA C hP hS hl)
theorem v_idiv {pc' : Nat} {z : Int} (hp : pc + 1 = pc') (hd : decode cc pc = .ok (.idiv, 1)) (hne : ¬ iz b = 0) (hz : iz a / iz b = iz z) (k : V x own cc pc' ls (aI z :: st) w) : V x own cc pc ls (aI b :: aI a :: st) w := by
  subst hp
  exact fun p e s m args below meth c H locs lsA C hP hS hl => lv_idiv C.1 C.2.1 hd hne (by rw [hz]; exact k p e s m args below meth c H locs lsA C hP hS hl)
theorem v_irem {pc' : Nat} {z : Int} (hp : pc + 1 = pc') (hd : decode cc pc = .ok (.irem, 1)) (hne : ¬ iz b = 0) (hz : iz a - iz a / iz b * iz b = iz z) (k : V x own cc pc' ls (aI z :: st) w) : V x own cc pc ls (aI b :: aI a :: st) w := by
  subst hp
  exact fun p e s m args below meth c H locs lsA C hP hS hl => lv_irem C.1 C.2.1 hd hne (by rw [hz]; exact k p e s m args below meth c H locs lsA C hP hS hl)
theorem v_ldiv {pc' : Nat} {z : Int} (hp : pc + 1 = pc') (hd : decode cc pc = .ok (.ldiv, 1)) (hne : ¬ lz b = 0) (hz : lz a / lz b = lz z) (k : V x own cc pc' ls (aL z :: st) w) : V x own cc pc ls (aL b :: aL a :: st) w := by
  subst hp
  exact fun p e s m args below meth c H locs lsA C hP hS hl => lv_ldiv C.1 C.2.1 hd hne (by rw [hz]; exact k p e s m args below meth c H locs lsA C hP hS hl)
theorem v_lrem {pc' : Nat} {z : Int} (hp : pc + 1 = pc') (hd : decode cc pc = .ok (.lrem, 1)) (hne : ¬ lz b = 0) (hz : lz a - lz a / lz b * lz b = lz z) (k : V x own cc pc' ls (aL z :: st) w) : V x own cc pc ls (aL b :: aL a :: st) w := by
  subst hp
  exact fun p e s m args below meth c H locs lsA C hP hS hl => lv_lrem C.1 C.2.1 hd hne (by rw [hz]; exact k p e s m args below meth c H locs lsA C hP hS hl)
theorem v_i2l {pc' : Nat} (hp : pc + 1 = pc') (hd : decode cc pc = .ok (.i2l, 1)) (hr : rg a) (k : V x own cc pc' ls (aL a :: st) w) : V x own cc pc ls (aI a :: st) w := by
  subst hp
  exact fun p e s m args below meth c H locs lsA C hP hS hl => lv_i2l C.1 C.2.1 hd (by
    show (iz a).toInt64 = lz a
    rw [← Int64.toInt_inj, Int32.toInt_toInt64, iz_toInt hr, lz_toInt (by omega) (by omega)]) (k p e s m args below meth c H locs lsA C hP hS hl)
theorem v_i2b {pc' : Nat} {z : Int} (hp : pc + 1 = pc') (hd : decode cc pc = .ok (.i2b, 1)) (hz : (iz a).toInt8.toInt32 = iz z) (k : V x own cc pc' ls (aI z :: st) w) : V x own cc pc ls (aI a :: st) w := by
  subst hp
  exact fun p e s m args below meth c H locs lsA C hP hS hl => lv_i2b C.1 C.2.1 hd hz (k p e s m args below meth c H locs lsA C hP hS hl)
theorem v_goto {off : Int} {tgt : Nat} (hd : decode cc pc = .ok (.goto off, 3)) (ht : (pc : Int) + off = (tgt : Int)) (k : V x own cc tgt ls st w) : V x own cc pc ls st w :=
  fun p e s m args below meth c H locs lsA C hP hS hl => lv_goto C.1 C.2.1 hd ht (k p e s m args below meth c H locs lsA C hP hS hl)
theorem v_ifnonnull {off : Int} {tgt : Nat} {r : Nat} (hd : decode cc pc = .ok (.ifnonnull off, 3)) (ht : (pc : Int) + off = (tgt : Int)) (k : V x own cc tgt ls st w) : V x own cc pc ls (aR r :: st) w :=
  fun p e s m args below meth c H locs lsA C hP hS hl => lv_ifnonnull C.1 C.2.1 hd ht (k p e s m args below meth c H locs lsA C hP hS hl)
theorem v_dupI {pc' : Nat} (hp : pc + 1 = pc') (hd : decode cc pc = .ok (.dup, 1)) (k : V x own cc pc' ls (aI a :: aI a :: st) w) : V x own cc pc ls (aI a :: st) w := by
  subst hp
  exact fun p e s m args below meth c H locs lsA C hP hS hl => lv_dup C.1 C.2.1 hd rfl (k p e s m args below meth c H locs lsA C hP hS hl)
theorem v_dupR {pc' : Nat} {r : Nat} (hp : pc + 1 = pc') (hd : decode cc pc = .ok (.dup, 1)) (k : V x own cc pc' ls (aR r :: aR r :: st) w) : V x own cc pc ls (aR r :: st) w := by
  subst hp
  exact fun p e s m args below meth c H locs lsA C hP hS hl => lv_dup C.1 C.2.1 hd rfl (k p e s m args below meth c H locs lsA C hP hS hl)
theorem v_dup2IR {pc' : Nat} {r : Nat} (hp : pc + 1 = pc') (hd : decode cc pc = .ok (.dup2, 1)) (k : V x own cc pc' ls (aI a :: aR r :: aI a :: aR r :: st) w) : V x own cc pc ls (aI a :: aR r :: st) w := by
  subst hp
  exact fun p e s m args below meth c H locs lsA C hP hS hl => lv_dup2_11 C.1 C.2.1 hd rfl rfl (k p e s m args below meth c H locs lsA C hP hS hl)
theorem v_if_eq {pc' : Nat} {off : Int} {tgt : Nat} (hp : pc + 3 = pc') (hd : decode cc pc = .ok (.ifCond .eq off, 3)) (ht : (pc : Int) + off = (tgt : Int)) (hr : rg a) (kt : a = 0 → V x own cc tgt ls st w) (kf : ¬ a = 0 → V x own cc pc' ls st w) : V x own cc pc ls (aI a :: st) w := by
  subst hp
  have h0 : (0 : Int32) = iz 0 := rfl
  have h1 : iz a = 0 ↔ a = 0 := by rw [h0]; exact iz_eq hr ⟨by omega, by omega⟩
  have h2 : iz a < 0 ↔ a < 0 := by rw [h0]; exact iz_lt hr ⟨by omega, by omega⟩
  have h3 : 0 ≤ iz a ↔ 0 ≤ a := by rw [h0]; exact iz_le ⟨by omega, by omega⟩ hr
  have h4 : 0 < iz a ↔ 0 < a := by rw [h0]; exact iz_lt ⟨by omega, by omega⟩ hr
  have h5 : iz a ≤ 0 ↔ a ≤ 0 := by rw [h0]; exact iz_le hr ⟨by omega, by omega⟩
  exact fun p e s m args below meth c H locs lsA C hP hS hl => lv_if_eq C.1 C.2.1 hd ht (fun q => kt (by simp only [h1, h2, h3, h4, h5] at q; exact q) p e s m args below meth c H locs lsA C hP hS hl) (fun q => kf (by simp only [h1, h2, h3, h4, h5] at q; exact q) p e s m args below meth c H locs lsA C hP hS hl)
theorem v_if_ne {pc' : Nat} {off : Int} {tgt : Nat} (hp : pc + 3 = pc') (hd : decode cc pc = .ok (.ifCond .ne off, 3)) (ht : (pc : Int) + off = (tgt : Int)) (hr : rg a) (kt : ¬ a = 0 → V x own cc tgt ls st w) (kf : a = 0 → V x own cc pc' ls st w) : V x own cc pc ls (aI a :: st) w := by
  subst hp
  have h0 : (0 : Int32) = iz 0 := rfl
  have h1 : iz a = 0 ↔ a = 0 := by rw [h0]; exact iz_eq hr ⟨by omega, by omega⟩
  have h2 : iz a < 0 ↔ a < 0 := by rw [h0]; exact iz_lt hr ⟨by omega, by omega⟩
  have h3 : 0 ≤ iz a ↔ 0 ≤ a := by rw [h0]; exact iz_le ⟨by omega, by omega⟩ hr
  have h4 : 0 < iz a ↔ 0 < a := by rw [h0]; exact iz_lt ⟨by omega, by omega⟩ hr
  have h5 : iz a ≤ 0 ↔ a ≤ 0 := by rw [h0]; exact iz_le hr ⟨by omega, by omega⟩
  exact fun p e s m args below meth c H locs lsA C hP hS hl => lv_if_ne C.1 C.2.1 hd ht (fun q => kt (by simp only [h1, h2, h3, h4, h5] at q; exact q) p e s m args below meth c H locs lsA C hP hS hl) (fun q => kf (by simp only [h1, h2, h3, h4, h5] at q; exact q) p e s m args below meth c H locs lsA C hP hS hl)
theorem v_if_lt {pc' : Nat} {off : Int} {tgt : Nat} (hp : pc + 3 = pc') (hd : decode cc pc = .ok (.ifCond .lt off, 3)) (ht : (pc : Int) + off = (tgt : Int)) (hr : rg a) (kt : a < 0 → V x own cc tgt ls st w) (kf : ¬ a < 0 → V x own cc pc' ls st w) : V x own cc pc ls (aI a :: st) w := by
  subst hp
  have h0 : (0 : Int32) = iz 0 := rfl
  have h1 : iz a = 0 ↔ a = 0 := by rw [h0]; exact iz_eq hr ⟨by omega, by omega⟩
  have h2 : iz a < 0 ↔ a < 0 := by rw [h0]; exact iz_lt hr ⟨by omega, by omega⟩
  have h3 : 0 ≤ iz a ↔ 0 ≤ a := by rw [h0]; exact iz_le ⟨by omega, by omega⟩ hr
  have h4 : 0 < iz a ↔ 0 < a := by rw [h0]; exact iz_lt ⟨by omega, by omega⟩ hr
  have h5 : iz a ≤ 0 ↔ a ≤ 0 := by rw [h0]; exact iz_le hr ⟨by omega, by omega⟩
  exact fun p e s m args below meth c H locs lsA C hP hS hl => lv_if_lt C.1 C.2.1 hd ht (fun q => kt (by simp only [h1, h2, h3, h4, h5] at q; exact q) p e s m args below meth c H locs lsA C hP hS hl) (fun q => kf (by simp only [h1, h2, h3, h4, h5] at q; exact q) p e s m args below meth c H locs lsA C hP hS hl)
theorem v_if_ge {pc' : Nat} {off : Int} {tgt : Nat} (hp : pc + 3 = pc') (hd : decode cc pc = .ok (.ifCond .ge off, 3)) (ht : (pc : Int) + off = (tgt : Int)) (hr : rg a) (kt : 0 ≤ a → V x own cc tgt ls st w) (kf : ¬ 0 ≤ a → V x own cc pc' ls st w) : V x own cc pc ls (aI a :: st) w := by
  subst hp
  have h0 : (0 : Int32) = iz 0 := rfl
  have h1 : iz a = 0 ↔ a = 0 := by rw [h0]; exact iz_eq hr ⟨by omega, by omega⟩
  have h2 : iz a < 0 ↔ a < 0 := by rw [h0]; exact iz_lt hr ⟨by omega, by omega⟩
  have h3 : 0 ≤ iz a ↔ 0 ≤ a := by rw [h0]; exact iz_le ⟨by omega, by omega⟩ hr
  have h4 : 0 < iz a ↔ 0 < a := by rw [h0]; exact iz_lt ⟨by omega, by omega⟩ hr
  have h5 : iz a ≤ 0 ↔ a ≤ 0 := by rw [h0]; exact iz_le hr ⟨by omega, by omega⟩
  exact fun p e s m args below meth c H locs lsA C hP hS hl => lv_if_ge C.1 C.2.1 hd ht (fun q => kt (by simp only [h1, h2, h3, h4, h5] at q; exact q) p e s m args below meth c H locs lsA C hP hS hl) (fun q => kf (by simp only [h1, h2, h3, h4, h5] at q; exact q) p e s m args below meth c H locs lsA C hP hS hl)
theorem v_if_gt {pc' : Nat} {off : Int} {tgt : Nat} (hp : pc + 3 = pc') (hd : decode cc pc = .ok (.ifCond .gt off, 3)) (ht : (pc : Int) + off = (tgt : Int)) (hr : rg a) (kt : 0 < a → V x own cc tgt ls st w) (kf : ¬ 0 < a → V x own cc pc' ls st w) : V x own cc pc ls (aI a :: st) w := by
  subst hp
  have h0 : (0 : Int32) = iz 0 := rfl
  have h1 : iz a = 0 ↔ a = 0 := by rw [h0]; exact iz_eq hr ⟨by omega, by omega⟩
  have h2 : iz a < 0 ↔ a < 0 := by rw [h0]; exact iz_lt hr ⟨by omega, by omega⟩
  have h3 : 0 ≤ iz a ↔ 0 ≤ a := by rw [h0]; exact iz_le ⟨by omega, by omega⟩ hr
  have h4 : 0 < iz a ↔ 0 < a := by rw [h0]; exact iz_lt ⟨by omega, by omega⟩ hr
  have h5 : iz a ≤ 0 ↔ a ≤ 0 := by rw [h0]; exact iz_le hr ⟨by omega, by omega⟩
  exact fun p e s m args below meth c H locs lsA C hP hS hl => lv_if_gt C.1 C.2.1 hd ht (fun q => kt (by simp only [h1, h2, h3, h4, h5] at q; exact q) p e s m args below meth c H locs lsA C hP hS hl) (fun q => kf (by simp only [h1, h2, h3, h4, h5] at q; exact q) p e s m args below meth c H locs lsA C hP hS hl)
theorem v_if_le {pc' : Nat} {off : Int} {tgt : Nat} (hp : pc + 3 = pc') (hd : decode cc pc = .ok (.ifCond .le off, 3)) (ht : (pc : Int) + off = (tgt : Int)) (hr : rg a) (kt : a ≤ 0 → V x own cc tgt ls st w) (kf : ¬ a ≤ 0 → V x own cc pc' ls st w) : V x own cc pc ls (aI a :: st) w := by
  subst hp
  have h0 : (0 : Int32) = iz 0 := rfl
  have h1 : iz a = 0 ↔ a = 0 := by rw [h0]; exact iz_eq hr ⟨by omega, by omega⟩
  have h2 : iz a < 0 ↔ a < 0 := by rw [h0]; exact iz_lt hr ⟨by omega, by omega⟩
  have h3 : 0 ≤ iz a ↔ 0 ≤ a := by rw [h0]; exact iz_le ⟨by omega, by omega⟩ hr
  have h4 : 0 < iz a ↔ 0 < a := by rw [h0]; exact iz_lt ⟨by omega, by omega⟩ hr
  have h5 : iz a ≤ 0 ↔ a ≤ 0 := by rw [h0]; exact iz_le hr ⟨by omega, by omega⟩
  exact fun p e s m args below meth c H locs lsA C hP hS hl => lv_if_le C.1 C.2.1 hd ht (fun q => kt (by simp only [h1, h2, h3, h4, h5] at q; exact q) p e s m args below meth c H locs lsA C hP hS hl) (fun q => kf (by simp only [h1, h2, h3, h4, h5] at q; exact q) p e s m args below meth c H locs lsA C hP hS hl)
theorem v_icmp_eq {pc' : Nat} {off : Int} {tgt : Nat} (hp : pc + 3 = pc') (hd : decode cc pc = .ok (.if_icmp .eq off, 3)) (ht : (pc : Int) + off = (tgt : Int)) (hr : rg a) (hr2 : rg b) (kt : a = b → V x own cc tgt ls st w) (kf : ¬ a = b → V x own cc pc' ls st w) : V x own cc pc ls (aI b :: aI a :: st) w := by
  subst hp
  have h1 : iz a = iz b ↔ a = b := iz_eq hr hr2
  have h2 : iz a < iz b ↔ a < b := iz_lt hr hr2
  have h3 : iz b ≤ iz a ↔ b ≤ a := iz_le hr2 hr
  have h4 : iz b < iz a ↔ b < a := iz_lt hr2 hr
  have h5 : iz a ≤ iz b ↔ a ≤ b := iz_le hr hr2
  exact fun p e s m args below meth c H locs lsA C hP hS hl => lv_icmp_eq C.1 C.2.1 hd ht (fun q => kt (by simp only [h1, h2, h3, h4, h5] at q; exact q) p e s m args below meth c H locs lsA C hP hS hl) (fun q => kf (by simp only [h1, h2, h3, h4, h5] at q; exact q) p e s m args below meth c H locs lsA C hP hS hl)
theorem v_icmp_ne {pc' : Nat} {off : Int} {tgt : Nat} (hp : pc + 3 = pc') (hd : decode cc pc = .ok (.if_icmp .ne off, 3)) (ht : (pc : Int) + off = (tgt : Int)) (hr : rg a) (hr2 : rg b) (kt : ¬ a = b → V x own cc tgt ls st w) (kf : a = b → V x own cc pc' ls st w) : V x own cc pc ls (aI b :: aI a :: st) w := by
  subst hp
  have h1 : iz a = iz b ↔ a = b := iz_eq hr hr2
  have h2 : iz a < iz b ↔ a < b := iz_lt hr hr2
  have h3 : iz b ≤ iz a ↔ b ≤ a := iz_le hr2 hr
  have h4 : iz b < iz a ↔ b < a := iz_lt hr2 hr
  have h5 : iz a ≤ iz b ↔ a ≤ b := iz_le hr hr2
  exact fun p e s m args below meth c H locs lsA C hP hS hl => lv_icmp_ne C.1 C.2.1 hd ht (fun q => kt (by simp only [h1, h2, h3, h4, h5] at q; exact q) p e s m args below meth c H locs lsA C hP hS hl) (fun q => kf (by simp only [h1, h2, h3, h4, h5] at q; exact q) p e s m args below meth c H locs lsA C hP hS hl)
theorem v_icmp_lt {pc' : Nat} {off : Int} {tgt : Nat} (hp : pc + 3 = pc') (hd : decode cc pc = .ok (.if_icmp .lt off, 3)) (ht : (pc : Int) + off = (tgt : Int)) (hr : rg a) (hr2 : rg b) (kt : a < b → V x own cc tgt ls st w) (kf : ¬ a < b → V x own cc pc' ls st w) : V x own cc pc ls (aI b :: aI a :: st) w := by
  subst hp
  have h1 : iz a = iz b ↔ a = b := iz_eq hr hr2
  have h2 : iz a < iz b ↔ a < b := iz_lt hr hr2
  have h3 : iz b ≤ iz a ↔ b ≤ a := iz_le hr2 hr
  have h4 : iz b < iz a ↔ b < a := iz_lt hr2 hr
  have h5 : iz a ≤ iz b ↔ a ≤ b := iz_le hr hr2
  exact fun p e s m args below meth c H locs lsA C hP hS hl => lv_icmp_lt C.1 C.2.1 hd ht (fun q => kt (by simp only [h1, h2, h3, h4, h5] at q; exact q) p e s m args below meth c H locs lsA C hP hS hl) (fun q => kf (by simp only [h1, h2, h3, h4, h5] at q; exact q) p e s m args below meth c H locs lsA C hP hS hl)
theorem v_icmp_ge {pc' : Nat} {off : Int} {tgt : Nat} (hp : pc + 3 = pc') (hd : decode cc pc = .ok (.if_icmp .ge off, 3)) (ht : (pc : Int) + off = (tgt : Int)) (hr : rg a) (hr2 : rg b) (kt : b ≤ a → V x own cc tgt ls st w) (kf : ¬ b ≤ a → V x own cc pc' ls st w) : V x own cc pc ls (aI b :: aI a :: st) w := by
  subst hp
  have h1 : iz a = iz b ↔ a = b := iz_eq hr hr2
  have h2 : iz a < iz b ↔ a < b := iz_lt hr hr2
  have h3 : iz b ≤ iz a ↔ b ≤ a := iz_le hr2 hr
  have h4 : iz b < iz a ↔ b < a := iz_lt hr2 hr
  have h5 : iz a ≤ iz b ↔ a ≤ b := iz_le hr hr2
  exact fun p e s m args below meth c H locs lsA C hP hS hl => lv_icmp_ge C.1 C.2.1 hd ht (fun q => kt (by simp only [h1, h2, h3, h4, h5] at q; exact q) p e s m args below meth c H locs lsA C hP hS hl) (fun q => kf (by simp only [h1, h2, h3, h4, h5] at q; exact q) p e s m args below meth c H locs lsA C hP hS hl)
theorem v_icmp_gt {pc' : Nat} {off : Int} {tgt : Nat} (hp : pc + 3 = pc') (hd : decode cc pc = .ok (.if_icmp .gt off, 3)) (ht : (pc : Int) + off = (tgt : Int)) (hr : rg a) (hr2 : rg b) (kt : b < a → V x own cc tgt ls st w) (kf : ¬ b < a → V x own cc pc' ls st w) : V x own cc pc ls (aI b :: aI a :: st) w := by
  subst hp
  have h1 : iz a = iz b ↔ a = b := iz_eq hr hr2
  have h2 : iz a < iz b ↔ a < b := iz_lt hr hr2
  have h3 : iz b ≤ iz a ↔ b ≤ a := iz_le hr2 hr
  have h4 : iz b < iz a ↔ b < a := iz_lt hr2 hr
  have h5 : iz a ≤ iz b ↔ a ≤ b := iz_le hr hr2
  exact fun p e s m args below meth c H locs lsA C hP hS hl => lv_icmp_gt C.1 C.2.1 hd ht (fun q => kt (by simp only [h1, h2, h3, h4, h5] at q; exact q) p e s m args below meth c H locs lsA C hP hS hl) (fun q => kf (by simp only [h1, h2, h3, h4, h5] at q; exact q) p e s m args below meth c H locs lsA C hP hS hl)
theorem v_icmp_le {pc' : Nat} {off : Int} {tgt : Nat} (hp : pc + 3 = pc') (hd : decode cc pc = .ok (.if_icmp .le off, 3)) (ht : (pc : Int) + off = (tgt : Int)) (hr : rg a) (hr2 : rg b) (kt : a ≤ b → V x own cc tgt ls st w) (kf : ¬ a ≤ b → V x own cc pc' ls st w) : V x own cc pc ls (aI b :: aI a :: st) w := by
  subst hp
  have h1 : iz a = iz b ↔ a = b := iz_eq hr hr2
  have h2 : iz a < iz b ↔ a < b := iz_lt hr hr2
  have h3 : iz b ≤ iz a ↔ b ≤ a := iz_le hr2 hr
  have h4 : iz b < iz a ↔ b < a := iz_lt hr2 hr
  have h5 : iz a ≤ iz b ↔ a ≤ b := iz_le hr hr2
  exact fun p e s m args below meth c H locs lsA C hP hS hl => lv_icmp_le C.1 C.2.1 hd ht (fun q => kt (by simp only [h1, h2, h3, h4, h5] at q; exact q) p e s m args below meth c H locs lsA C hP hS hl) (fun q => kf (by simp only [h1, h2, h3, h4, h5] at q; exact q) p e s m args below meth c H locs lsA C hP hS hl)
theorem v_tin {dflt lo hi : Int} {offs : Array Int} {len : Nat} {off : Int} {tgt : Nat} (v : Int) (hd : decode cc pc = .ok (.tableswitch dflt lo hi offs, len)) (hv : a = v) (hr : rg v) (h1 : lo ≤ v) (h2 : v ≤ hi) (ho : offs[(v - lo).toNat]? = some off) (ht : (pc : Int) + off = (tgt : Int)) (k : V x own cc tgt ls st w) : V x own cc pc ls (aI a :: st) w := by
  subst hv
  have e := iz_toInt hr
  exact fun p e' s m args below meth c H locs lsA C hP hS hl => lv_tableIn C.1 C.2.1 hd (by show ¬ (iz a).toInt < lo; omega) (by show ¬ hi < (iz a).toInt; omega) (by show offs[((iz a).toInt - lo).toNat]? = some off; rw [e]; exact ho) ht (k p e' s m args below meth c H locs lsA C hP hS hl)
theorem v_tout {dflt lo hi : Int} {offs : Array Int} {len : Nat} {tgt : Nat} (hd : decode cc pc = .ok (.tableswitch dflt lo hi offs, len)) (hr : rg a) (h1 : a < lo ∨ hi < a) (ht : (pc : Int) + dflt = (tgt : Int)) (k : V x own cc tgt ls st w) : V x own cc pc ls (aI a :: st) w := by
  have e := iz_toInt hr
  exact fun p e' s m args below meth c H locs lsA C hP hS hl => lv_tableOut C.1 C.2.1 hd (by show (iz a).toInt < lo ∨ hi < (iz a).toInt; omega) ht (k p e' s m args below meth c H locs lsA C hP hS hl)
theorem v_lsw {dflt : Int} {ps : Array (Int × Int)} {len : Nat} {off : Int} {tgt : Nat} (hd : decode cc pc = .ok (.lookupswitch dflt ps, len)) (hp : (ps.toList.zip (ps.toList.drop 1)).all (fun (a, next) => a.1 < next.1) = true) (hr : rg a) (ho : Op.lookupswitch.offset ps.toList dflt a = off) (ht : (pc : Int) + off = (tgt : Int)) (k : V x own cc tgt ls st w) : V x own cc pc ls (aI a :: st) w := by
  have e := iz_toInt hr
  exact fun p e' s m args below meth c H locs lsA C hP hS hl => lv_lookup C.1 C.2.1 hd hp (by show Op.lookupswitch.offset ps.toList dflt (iz a).toInt = off; rw [e]; exact ho) ht (k p e' s m args below meth c H locs lsA C hP hS hl)
theorem v_lcmp {pc' : Nat} {z : Int} (hp : pc + 1 = pc') (hd : decode cc pc = .ok (.lcmp, 1)) (hz : lg_cmp (lz a) (lz b) = iz z) (k : V x own cc pc' ls (aI z :: st) w) : V x own cc pc ls (aL b :: aL a :: st) w := by
  subst hp
  exact fun p e' s m args below meth c H locs lsA C hP hS hl => W.lcmp C.1 C.2.1 hd (by rw [hz]; exact k p e' s m args below meth c H locs lsA C hP hS hl)
/-- what the tables say of a kind of object -/
def CK (ci : Nat) (C : String) (T : u_T) (N : Nat) : Prop := vwCl[ci]? = some (C, T, N) ∧ (∀ u ∈ u_ws C T N, u ∈ WS) ∧ (∃ ty0 : Nat → FieldType, ∀ k, k < N → parseFieldDescriptor (T k).2.2.1 = some (ty0 k)) ∧ ∀ a, a < N → ∀ b, b < N → a ≠ b → (T a).2.1 ≠ (T b).2.1
/-- a field's entry in a class's pool -/
def FLk (own : String) (idx ci j : Nat) : Prop := ∃ (C : String) (T : u_T) (N : Nat), CK ci C T N ∧ j < N ∧ Cond.fieldLink own idx (T j).1 (T j).2.1 (T j).2.2.1 ∈ WS
def FLi (own : String) (idx ci j : Nat) : Prop := ∃ (C : String) (T : u_T) (N : Nat), CK ci C T N ∧ j < N ∧ Cond.fieldLink own idx (T j).1 (T j).2.1 (T j).2.2.1 ∈ WS ∧ (T j).2.2.2 = false ∧ parseFieldDescriptor (T j).2.2.1 = some .int
theorem v_get {pc' : Nat} {idx o j ci : Nat} {fs : List (Option Nat)} {z : Int} (hp : pc + 3 = pc') (hd : decode cc pc = .ok (.getfield idx, 3)) (hf : FLk own idx ci j) (ho : LAYL[o]? = some (.inl (ci, fs))) (hj : fs[j]? = some none) (hz : w o j = z) (k : V x own cc pc' ls (aI z :: st) w) : V x own cc pc ls (aR o :: st) w := by
  subst hp
  obtain ⟨C, T, N, ⟨h1, h2, h3, h4⟩, h5, h6⟩ := hf
  subst hz
  intro p e s m args below meth c H locs lsA Cx hP hS hl
  exact va_get Cx.1 Cx.2.1 Cx.2.2.2.2.2.2.1 h2 Cx.2.2.2.2.2.1 Cx.2.2.2.2.2.2.2.1 hP o (cls_get _ w ho) h1 j h5 (Cx.2.2.2.2.2.2.1 _ h6) (fun _ h => h) (by rw [fvals_get, hj]; simp; rfl) hd (k p e s m args below meth c H locs lsA Cx hP hS hl)
theorem v_getR {pc' : Nat} {idx o j ci r : Nat} {fs : List (Option Nat)} (hp : pc + 3 = pc') (hd : decode cc pc = .ok (.getfield idx, 3)) (hf : FLk own idx ci j) (ho : LAYL[o]? = some (.inl (ci, fs))) (hj : fs[j]? = some (some r)) (k : V x own cc pc' ls (aR r :: st) w) : V x own cc pc ls (aR o :: st) w := by
  subst hp
  obtain ⟨C, T, N, ⟨h1, h2, h3, h4⟩, h5, h6⟩ := hf
  intro p e s m args below meth c H locs lsA Cx hP hS hl
  exact va_get Cx.1 Cx.2.1 Cx.2.2.2.2.2.2.1 h2 Cx.2.2.2.2.2.1 Cx.2.2.2.2.2.2.2.1 hP o (cls_get _ w ho) h1 j h5 (Cx.2.2.2.2.2.2.1 _ h6) (fun _ h => h) (by rw [fvals_get, hj]; simp; rfl) hd (k p e s m args below meth c H locs lsA Cx hP hS hl)
theorem v_put {pc' : Nat} {idx o j ci : Nat} {fs : List (Option Nat)} (hp : pc + 3 = pc') (hd : decode cc pc = .ok (.putfield idx, 3)) (hf : FLi own idx ci j) (ho : LAYL[o]? = some (.inl (ci, fs))) (hj : fs[j]? = some none) (k : V x own cc pc' ls st (up w o j a)) : V x own cc pc ls (aI a :: aR o :: st) w := by
  subst hp
  obtain ⟨C, T, N, ⟨h1, h2, ⟨ty0, h3⟩, h4⟩, h5, h6, h7, h8⟩ := hf
  intro p e s m args below meth c H locs lsA Cx hP hS hl
  refine va_put Cx.1 Cx.2.1 Cx.2.2.2.2.2.2.1 h2 ty0 h3 h4 Cx.2.2.2.2.2.1 Cx.2.2.2.2.2.2.2.1 hP (cls_D Cx.2.2.2.2.2.2.2.2.1 (Af_k _ _)) hS o (cls_get _ w ho) h1 j h5 (Cx.2.2.2.2.2.2.1 _ h6) (fun _ h => h) h7 h8 rfl rfl (by rw [fvals_len]; exact (List.getElem?_eq_some_iff.mp hj).1) hd (fun H1 locs1 hP1 _ hS1 => k p e s m args below meth c H1 locs1 lsA Cx ?_ hS1 hl)
  rw [← cls_set _ w a ho (e := Sum.inr (ci, (fvals x.2.2.2.2.1 (w o) 0 fs).set j (.int (iz a)))) (by rw [fvals_set _ _ _ _ _ _ hj]; rfl)]
  exact hP1
theorem v_iald {pc' : Nat} {o n : Nat} {i z : Int} (hp : pc + 1 = pc') (hd : decode cc pc = .ok (.iaload, 1)) (ho : LAYL[o]? = some (.inr (.inl (0, n)))) (h0 : 0 ≤ i) (h1 : i < n) (h2 : Nat.blt n 2147483648 = true) (hz : w o i.toNat = z) (k : V x own cc pc' ls (aI z :: st) w) : V x own cc pc ls (aI i :: aR o :: st) w := by
  subst hp
  subst hz
  intro p e s m args below meth c H locs lsA Cx hP hS hl
  refine va_iald Cx.1 Cx.2.1 Cx.2.2.2.2.2.2.2.1 hP o 0 (cls_get _ w ho) rfl (iz_in h0 h1 (blt_of h2)) hd ?_
  rw [iz_clamp h0 (by have := blt_of h2; omega)]
  exact k p e s m args below meth c H locs lsA Cx hP hS hl
theorem v_bald {pc' : Nat} {o n : Nat} {i z : Int} (hp : pc + 1 = pc') (hd : decode cc pc = .ok (.baload, 1)) (ho : LAYL[o]? = some (.inr (.inl (1, n)))) (h0 : 0 ≤ i) (h1 : i < n) (h2 : Nat.blt n 2147483648 = true) (hz : w o i.toNat = z) (k : V x own cc pc' ls (aI z :: st) w) : V x own cc pc ls (aI i :: aR o :: st) w := by
  subst hp
  subst hz
  intro p e s m args below meth c H locs lsA Cx hP hS hl
  refine va_bald Cx.1 Cx.2.1 Cx.2.2.2.2.2.2.2.1 hP o 1 (cls_get _ w ho) rfl (iz_in h0 h1 (blt_of h2)) hd ?_
  rw [iz_clamp h0 (by have := blt_of h2; omega)]
  exact k p e s m args below meth c H locs lsA Cx hP hS hl
theorem v_zald {pc' : Nat} {o n : Nat} {i z : Int} (hp : pc + 1 = pc') (hd : decode cc pc = .ok (.baload, 1)) (ho : LAYL[o]? = some (.inr (.inl (2, n)))) (h0 : 0 ≤ i) (h1 : i < n) (h2 : Nat.blt n 2147483648 = true) (hz : w o i.toNat = z) (k : V x own cc pc' ls (aI z :: st) w) : V x own cc pc ls (aI i :: aR o :: st) w := by
  subst hp
  subst hz
  intro p e s m args below meth c H locs lsA Cx hP hS hl
  refine va_zald Cx.1 Cx.2.1 Cx.2.2.2.2.2.2.2.1 hP o 2 (cls_get _ w ho) rfl (iz_in h0 h1 (blt_of h2)) hd ?_
  rw [iz_clamp h0 (by have := blt_of h2; omega)]
  exact k p e s m args below meth c H locs lsA Cx hP hS hl
theorem upd_up (w : Wd) (o : Nat) (j : Nat) (z : Int) : upd (fun j => iz (w o j)) j (iz z) = fun j' => iz (up w o j z o j') := by
  funext j'
  unfold upd
  by_cases h : j' = j
  · rw [if_pos h, h, up_eq]
  · rw [if_neg h, up_ne _ _ (fun q => h q.2)]
theorem v_iast {pc' : Nat} {o n : Nat} {i : Int} (hp : pc + 1 = pc') (hd : decode cc pc = .ok (.iastore, 1)) (ho : LAYL[o]? = some (.inr (.inl (0, n)))) (h0 : 0 ≤ i) (h1 : i < n) (h2 : Nat.blt n 2147483648 = true) (k : V x own cc pc' ls st (up w o i.toNat a)) : V x own cc pc ls (aI a :: aI i :: aR o :: st) w := by
  subst hp
  intro p e s m args below meth c H locs lsA Cx hP hS hl
  refine va_iast Cx.1 Cx.2.1 Cx.2.2.2.2.2.2.2.1 hP (cls_D Cx.2.2.2.2.2.2.2.2.1 (Af_k _ _)) hS o 0 (cls_get _ w ho) rfl (iz_in h0 h1 (blt_of h2)) hd (fun H1 locs1 hP1 _ hS1 => k p e s m args below meth c H1 locs1 lsA Cx ?_ hS1 hl)
  rw [iz_clamp h0 (by have := blt_of h2; omega), upd_up] at hP1
  rw [← cls_set _ w a ho rfl]
  exact hP1
theorem v_bast {pc' : Nat} {o n : Nat} {i z : Int} (hp : pc + 1 = pc') (hd : decode cc pc = .ok (.bastore, 1)) (ho : LAYL[o]? = some (.inr (.inl (1, n)))) (h0 : 0 ≤ i) (h1 : i < n) (h2 : Nat.blt n 2147483648 = true) (hz : vp_nar .byte (iz a) = iz z) (k : V x own cc pc' ls st (up w o i.toNat z)) : V x own cc pc ls (aI a :: aI i :: aR o :: st) w := by
  subst hp
  intro p e s m args below meth c H locs lsA Cx hP hS hl
  refine va_bast Cx.1 Cx.2.1 Cx.2.2.2.2.2.2.2.1 hP (cls_D Cx.2.2.2.2.2.2.2.2.1 (Af_k _ _)) hS o 1 (cls_get _ w ho) rfl (iz_in h0 h1 (blt_of h2)) hd (fun H1 locs1 hP1 _ hS1 => k p e s m args below meth c H1 locs1 lsA Cx ?_ hS1 hl)
  rw [iz_clamp h0 (by have := blt_of h2; omega), hz, upd_up] at hP1
  rw [← cls_set _ w z ho rfl]
  exact hP1
theorem v_zast {pc' : Nat} {o n : Nat} {i z : Int} (hp : pc + 1 = pc') (hd : decode cc pc = .ok (.bastore, 1)) (ho : LAYL[o]? = some (.inr (.inl (2, n)))) (h0 : 0 ≤ i) (h1 : i < n) (h2 : Nat.blt n 2147483648 = true) (hz : vp_nar .boolean (iz a) = iz z) (k : V x own cc pc' ls st (up w o i.toNat z)) : V x own cc pc ls (aI a :: aI i :: aR o :: st) w := by
  subst hp
  intro p e s m args below meth c H locs lsA Cx hP hS hl
  refine va_zast Cx.1 Cx.2.1 Cx.2.2.2.2.2.2.2.1 hP (cls_D Cx.2.2.2.2.2.2.2.2.1 (Af_k _ _)) hS o 2 (cls_get _ w ho) rfl (iz_in h0 h1 (blt_of h2)) hd (fun H1 locs1 hP1 _ hS1 => k p e s m args below meth c H1 locs1 lsA Cx ?_ hS1 hl)
  rw [iz_clamp h0 (by have := blt_of h2; omega), hz, upd_up] at hP1
  rw [← cls_set _ w z ho rfl]
  exact hP1
theorem v_aald {pc' : Nat} {o r : Nat} {L : List Nat} {i : Int} (hp : pc + 1 = pc') (hd : decode cc pc = .ok (.aaload, 1)) (ho : LAYL[o]? = some (.inr (.inr L))) (h0 : 0 ≤ i) (hr : L[i.toNat]? = some r) (h2 : Nat.blt L.length 2147483648 = true) (k : V x own cc pc' ls (aR r :: st) w) : V x own cc pc ls (aI i :: aR o :: st) w := by
  subst hp
  have h1 : i.toNat < L.length := (List.getElem?_eq_some_iff.mp hr).1
  intro p e s m args below meth c H locs lsA Cx hP hS hl
  refine va_aldq Cx.1 Cx.2.1 Cx.2.2.2.2.2.2.2.1 hP o 3 (cls_get _ w ho) rfl (iz_in h0 (by omega) (blt_of h2)) hd ?_
  rw [iz_clamp h0 (by have := blt_of h2; omega), hr]
  exact k p e s m args below meth c H locs lsA Cx hP hS hl
def SLk (own : String) (idx k : Nat) : Prop := (k = 1000 ∨ k = 1001 ∨ k = 1002) ∧ Cond.fieldLink own idx "DrawnMaps$Kind" (sname k) "[I" ∈ WS
theorem v_gets {pc' : Nat} {idx r : Nat} (hp : pc + 3 = pc') (hd : decode cc pc = .ok (.getstatic idx, 3)) (hf : SLk own idx r) (k : V x own cc pc' ls (aR r :: st) w) : V x own cc pc ls st w := by
  subst hp
  intro p e s m args below meth c H locs lsA Cx hP hS hl
  exact va_gets Cx.1 Cx.2.1 (Cx.2.2.2.2.2.2.2.2.2.1 r hf.1).1 hS Cx.2.2.2.2.2.1 (Cx.2.2.2.2.2.2.1 _ hf.2) (fun _ h => h) hd (k p e s m args below meth c H locs lsA Cx hP hS hl)
theorem v_sald {pc' : Nat} {r : Nat} {i z : Int} (hp : pc + 1 = pc') (hd : decode cc pc = .ok (.iaload, 1)) (hr : r = 1000 ∨ r = 1001 ∨ r = 1002) (h0 : 0 ≤ i) (h1 : i < (sarr r).length) (h2 : Nat.blt (sarr r).length 2147483648 = true) (hz : (sarr r).getD i.toNat 0 = z) (k : V x own cc pc' ls (aI z :: st) w) : V x own cc pc ls (aI i :: aR r :: st) w := by
  subst hp
  intro p e s m args below meth c H locs lsA Cx hP hS hl
  exact va_ti Cx.1 Cx.2.1 (Cx.2.2.2.2.2.2.2.2.2.1 r hr).2 hS (iz_in h0 h1 (blt_of h2)) (by rw [iz_clamp h0 (by have := blt_of h2; omega), hz]; rfl) hd (k p e s m args below meth c H locs lsA Cx hP hS hl)
end VR
/-! contracts -/
abbrev MI : Type := MethodName × ByteArray × Nat × Option FieldType
def wsm (Y : MI) : List Cond := .code Y.1 Y.2.1 Y.2.2.1 Y.2.2.2 :: WS
def rmd (d : Nat) : Room := { frames := d, cells := 0, slots := 0, locals := 40 * d }
def Wat (G : Gx) (w : Wd) (t : State) : Prop := va_P G.1 vwCl (cls G w) t.heap ∧ va_K G.1 vwCl (tysG G) t
def Qk (ret : Option FieldType) (G : Gx) (Q : Int → Wd → Prop) (A : Nat → Prop) : Array Value → State → Outcome → State → Prop := match ret with
  | none => va_Qv (fun w' : Wd => Q 0 w') (fun w' t => Wat G w' t) A
  | some .long => va_Ql (fun (r : Int64) (w' : Wd) => ∃ z, r = lz z ∧ Q z w') (fun w' t => Wat G w' t) A
  | some _ => va_Qi (fun (r : Int32) (w' : Wd) => ∃ z, r = iz z ∧ Q z w') (fun w' t => Wat G w' t) A
def Pre (G : Gx) (w : Wd) (U : State) : Prop := Wat G w U ∧ Inj G ∧ Sta G (Af G U.heap.size) U U.heap
def Sp (l : Launch) (G : Gx) (d : Nat) (Y : MI) (as : List AV) (w : Wd) (Q : Int → Wd → Prop) : Prop :=
  ∀ sz : Nat, Met l Y.1 (wsm Y) (rmd d) (va_Pc (as.map (tv G.2.1)) (fun U => U.heap.size = sz ∧ Pre G w U)) (Qk Y.2.2.2 G Q (Af G sz)) 0 0 (Af G sz)
def mX (l : Launch) (G : Gx) (d nL : Nat) (ret : Option FieldType) (Q : Int → Wd → Prop) : CX :=
  (l, rmd d, (0, 0), fun below args s => MQ below (Qk ret G Q (Af G s.heap.size)) args s 0 0 (Af G s.heap.size), G, (nL, ret), fun _ _ => True)
def avArgs : Nat → List AV → List (Nat × AV)
  | _, [] => []
  | i, v :: vs => (i, v) :: avArgs (i + acat v) vs
def avLen : List AV → Nat
  | [] => 0
  | v :: vs => acat v + avLen vs
theorem avArgs_map (ad : Nat → Nat) (vs : List AV) : ∀ i, lv_args i (vs.map (tv ad)) = (avArgs i vs).map (tvp ad) := by
  induction vs with
  | nil => intro i; rfl
  | cons v vs ih =>
    intro i
    rcases v with z | z | k
    · simp [lv_args, avArgs, tvp, tv, acat, ih, Value.category]
    · simp [lv_args, avArgs, tvp, tv, acat, ih, Value.category]
    · simp [lv_args, avArgs, tvp, tv, acat, ih, Value.category]
theorem avLen_map (ad : Nat → Nat) (vs : List AV) : (lg_sl (vs.map (tv ad))).length = avLen vs := by
  induction vs with
  | nil => rfl
  | cons v vs ih =>
    rcases v with z | z | k
    · simp only [lg_sl, List.map_cons, List.flatMap_cons, List.length_append, avLen] at *; rw [ih]; rfl
    · simp only [lg_sl, List.map_cons, List.flatMap_cons, List.length_append, avLen] at *; rw [ih]; rfl
    · simp only [lg_sl, List.map_cons, List.flatMap_cons, List.length_append, avLen] at *; rw [ih]; rfl
theorem Sp_of {l : Launch} {G : Gx} {d : Nat} {Y : MI} {as : List AV} {w : Wd} {Q : Int → Wd → Prop} {ls : List (Nat × AV)} (own : String) (hown : Y.1.cls = own) (hpl : plainName Y.1.cls = true) (hl : avArgs 0 as = ls) (hlen : avLen as ≤ Y.2.2.1)
    (h : V (mX l G d Y.2.2.1 Y.2.2.2 Q) own Y.2.1 0 ls [] w) : Sp l G d Y as w Q := by
  intro sz
  refine Met.ofW (cc := Y.2.1) (maxL := Y.2.2.1) (ret := Y.2.2.2) hpl rfl ?_
  intro p e s m args below meth c s₁ B hml hv
  obtain ⟨rfl, hsz, ⟨hP, hK⟩, hI, hSt⟩ := hv
  have hts := atoms_spec (ws := wsm Y) B.pre
  have hfc := findClass_of_methodNamed B.named
  rw [hown] at hfc
  subst hsz
  have hll := lv_entry (as.map (tv G.2.1)) (n := Y.2.2.1) (by rw [avLen_map]; exact hlen)
  rw [lg_entry_eq]
  rw [avArgs_map, hl] at hll
  exact h p e s m _ below meth c s.heap [] _ ⟨B.exec, B.bytes, hml, B.returns, B.notSynchronized, hfc, fun u hu => hts u (List.mem_cons_of_mem _ hu), hK, hI, hSt, trivial⟩ hP va_S.rf hll
section VE
variable {l : Launch} {G : Gx} {d nL : Nat} {own : String} {cc : ByteArray} {pc : Nat} {ls : List (Nat × AV)} {st : List AV} {w : Wd} {a b : Int} {Q : Int → Wd → Prop}
theorem v_iret {ty : FieldType} (hd : decode cc pc = .ok (.ireturn, 1)) (hty : ty ≠ .long) (hn : narrow ty (.int (iz a)) = .int (iz a)) (hq : Q a w) : V (mX l G d nL (some ty) Q) own cc pc ls [aI a] w := by
  intro p e s m args below meth c H locs lsA Cx hP hS hl
  refine W.zret (v := iz a) (ty := ty) Cx.1 Cx.2.1 Cx.2.2.2.1 hn ?_ hS.2.2 hd Cx.2.2.2.2.1
  intro t ht hW
  have h9 : (va_Qi (fun (r : Int32) (w' : Wd) => ∃ z, r = iz z ∧ Q z w') (fun w' t => Wat G w' t) (Af G s.heap.size)) args s (.returned (some (.int (iz a)))) t :=
    ⟨⟨iz a, w, rfl, ⟨a, rfl, hq⟩, by rw [ht]; exact hP, va_K.moved hW.alike Cx.2.2.2.2.2.2.2.1⟩, hS.F ht⟩
  cases ty <;> first | exact h9 | exact absurd rfl hty
theorem v_lret (hd : decode cc pc = .ok (.lreturn, 1)) (hq : Q a w) : V (mX l G d nL (some .long) Q) own cc pc ls [aL a] w := by
  intro p e s m args below meth c H locs lsA Cx hP hS hl
  exact W.lret (v := lz a) Cx.1 Cx.2.1 Cx.2.2.2.1 (fun t ht hW => ⟨⟨lz a, w, rfl, ⟨a, rfl, hq⟩, by rw [ht]; exact hP, va_K.moved hW.alike Cx.2.2.2.2.2.2.2.1⟩, hS.F ht⟩) hS.2.2 hd Cx.2.2.2.2.1
theorem v_vret (hd : decode cc pc = .ok (.return_, 1)) (hq : Q 0 w) : V (mX l G d nL none Q) own cc pc ls [] w := by
  intro p e s m args below meth c H locs lsA Cx hP hS hl
  exact W.vret Cx.1 Cx.2.1 Cx.2.2.2.1 (fun t ht hW => ⟨⟨w, rfl, hq, by rw [ht]; exact hP, va_K.moved hW.alike Cx.2.2.2.2.2.2.2.1⟩, hS.F ht⟩) hS.2.2 hd Cx.2.2.2.2.1
end VE
/-! calls -/
def MK (Y : MI) (n : Nat) : Prop := Cond.code Y.1 Y.2.1 Y.2.2.1 Y.2.2.2 ∈ WS ∧ Cond.initialized Y.1.cls ∈ WS ∧ (Y.1.cls ≠ "java/lang/invoke/MethodHandle" ∧ Y.1.cls ≠ "java/lang/invoke/VarHandle") ∧ (parseMethodDescriptor Y.1.desc).map (fun d => d.parameters.length) = some n
def LKs (own : String) (idx : Nat) (Y : MI) (n : Nat) : Prop := MK Y n ∧ Cond.methodLink own idx Y.1 ∈ WS ∧ Cond.static Y.1 ∈ WS
def LKv (own : String) (idx : Nat) (Y : MI) (n : Nat) (ci : Nat) : Prop := MK Y n ∧ Cond.methodLink own idx Y.1 ∈ WS ∧ Cond.instanceMethod Y.1 ∈ WS ∧ Cond.selects Y.1.cls Y.1 Y.1 ∈ WS ∧ ∃ T N, vwCl[ci]? = some (Y.1.cls, T, N)
theorem blind_pre (G : Gx) (w : Wd) (as : List Value) (sz : Nat) : FrameBlind (va_Pc as (fun U => U.heap.size = sz ∧ Pre G w U)) := by
  intro a U g mk h
  obtain ⟨h1, h2, ⟨h3, h4⟩, h5, h6⟩ := h
  exact ⟨h1, h2, ⟨h3, va_K.moved (u := U) (U := U.calling g mk a) (Vm.Alike.refl U.vm) h4⟩, h5, Sta.moved (u := U) (U := U.calling g mk a) (Vm.Alike.refl U.vm) h6⟩
section VCalls
variable {x : CX} {own : String} {cc : ByteArray} {pc idx n d : Nat} {ls : List (Nat × AV)} {st as : List AV} {w : Wd} {Q : Int → Wd → Prop} {Y : MI}
theorem wsm_of {s : State} {args : Array Value} {own : String} {p : Program} {m : MethodId} {meth : Method} {c : Code} (C : Cc x own cc p s m args meth c) (hM : MK Y n) : ∀ u ∈ wsm Y, ∀ (a' : Array Value) (U : State), s.WarmedH U.vm → u.before a' U = true := by
  intro u hu a' U hW
  have h1 : u ∈ WS := by
    rcases List.mem_cons.mp hu with h | h
    · rw [h]; exact hM.1
    · exact h
  exact word_at hW (ws_good h1) (C.2.2.2.2.2.2.1 _ h1)
theorem pre_of {s : State} {args : Array Value} {own : String} {p : Program} {m : MethodId} {meth : Method} {c : Code} {H : Heap} {locs : List Loc} (C : Cc x own cc p s m args meth c) (hP : va_P x.2.2.2.2.1.1 vwCl (cls x.2.2.2.2.1 w) H) (hS : va_S (Af x.2.2.2.2.1 s.heap.size) s.heap H locs) (U : State) (hU : U.heap = H) (hW : s.WarmedH U.vm) : U.heap.size = H.size ∧ Pre x.2.2.2.2.1 w U := by
  refine ⟨by rw [hU], ⟨by rw [hU]; exact hP, va_K.moved hW.alike C.2.2.2.2.2.2.2.1⟩, C.2.2.2.2.2.2.2.2.1, ?_⟩
  rw [hU]
  refine ((C.2.2.2.2.2.2.2.2.2.1.kept (H1 := H) hS.2.1).moved hW.alike).narrow (fun q h => ?_)
  rcases h with h | h
  · exact Or.inl h
  · exact Or.inr (Nat.le_trans hS.1 h)
theorem sum_tv (ad : Nat → Nat) (st : List AV) : ((st.map (tv ad)).map fun v => v.category).sum = avLen st := by
  induction st with
  | nil => rfl
  | cons v vs ih => simp only [List.map_cons, List.sum_cons, avLen, acat_tv, ih]
theorem cats_tv (ad : Nat → Nat) (st : List AV) (m : MethodId) (pc : Nat) (lsA : Array Slot) (s0 : List Value) (h : avLen st ≤ 8) : 2 * (F0 m pc lsA s0).monitorRoom + ((st.map (tv ad)).map fun v => v.category).sum ≤ 8 := lv_room (by rw [sum_tv]; exact h)
theorem v_callS (hd : decode cc pc = .ok (.invokestatic idx, 3)) (hL : LKs own idx Y n) (hn : as.length = n) (hst : avLen st ≤ 8) (hroom : d + 1 ≤ x.2.1.frames ∧ 8 + (Y.2.2.1 + 11) + 40 * d ≤ x.2.1.locals) (hcs : x.2.2.1.1 ≤ x.2.1.cells ∧ x.2.2.1.2 ≤ x.2.1.slots) (h : Sp x.1 x.2.2.2.2.1 d Y as w Q)
    (k : ∀ z w', Q z w' → V x own cc (pc + 3) ls (match Y.2.2.2 with | none => st | some .long => aL z :: st | some _ => aI z :: st) w') {st0 : List AV} (hs0 : st0 = as.reverse ++ st) : V x own cc pc ls st0 w := by
  subst hs0
  intro p e s m args below meth c H locs lsA C hP hS hl
  have hM := h H.size
  have hnL : lsA.size = x.2.2.2.2.2.1.1 := hl.1
  have ht := C.2.2.2.2.2.2.1
  have hrun := va_runS (g := F0 m pc lsA ((as.reverse ++ st).map (tv x.2.2.2.2.1.2.1))) (As := as.map (tv x.2.2.2.2.1.2.1)) (rest := st.map (tv x.2.2.2.2.1.2.1)) (cells := x.2.2.1.1) (slots := x.2.2.1.2) (n := n) (index := idx) (bytes := Y.2.1) (maxL := Y.2.2.1) (ret := Y.2.2.2) (locs := locs) (below := below) (e := e) (meth := meth) ⟨C.1, C.2.1, C.2.2.1, C.2.2.2.2.2.1, ht⟩ hM
    ⟨⟨rfl, rfl, hroom.1, hroom.2, wsm_of C hL.1, List.mem_cons_self, ht _ hL.1.1, ht _ hL.1.2.1, hL.1.2.2.1, fun sig hsig => by have := hL.1.2.2.2; rw [hsig] at this; exact (Option.some.inj this).symm, ht _ hL.2.1⟩, ht _ hL.2.2⟩
    ⟨blind_pre _ _ _ _, fun U hU hW => ⟨rfl, pre_of C hP hS U hU hW⟩⟩ rfl (by rw [List.length_map]; exact hn) hnL (by simp [List.map_reverse]) (cats_tv _ _ _ _ _ _ hst) hd ⟨hcs.1, hcs.2⟩
  have hAf : ∀ q, Af x.2.2.2.2.1 H.size q → Af x.2.2.2.2.1 s.heap.size q := fun q hq => by
    rcases hq with hq | hq
    · exact Or.inl hq
    · exact Or.inr (Nat.le_trans hS.1 hq)
  revert hrun k
  cases hret : Y.2.2.2 with
  | none =>
    intro k hrun
    refine va_callv (a := (as.map (tv x.2.2.2.2.1.2.1)).toArray) hrun hS (fun q _ h => hAf q h) hAf (fun u t H1 locs1 hH1 hvm hp hB _ _ hS1 => ?_)
    exact k 0 u hp p e s m args below meth c H1 locs1 lsA C (by rw [← hH1]; exact hB.1) hS1 hl
  | some ty =>
    cases ty with
    | long =>
      intro k hrun
      refine va_calll (a := (as.map (tv x.2.2.2.2.1.2.1)).toArray) hrun hS (fun q _ h => hAf q h) hAf (fun r u t H1 locs1 hH1 hvm hp hB _ _ hS1 => ?_)
      obtain ⟨z, rfl, hz⟩ := hp
      exact k z u hz p e s m args below meth c H1 locs1 lsA C (by rw [← hH1]; exact hB.1) hS1 hl
    | _ =>
      intro k hrun
      refine va_calli (a := (as.map (tv x.2.2.2.2.1.2.1)).toArray) hrun hS (fun q _ h => hAf q h) hAf (fun r u t H1 locs1 hH1 hvm hp hB _ _ hS1 => ?_)
      obtain ⟨z, rfl, hz⟩ := hp
      exact k z u hz p e s m args below meth c H1 locs1 lsA C (by rw [← hH1]; exact hB.1) hS1 hl
theorem v_callV {o ci : Nat} {fs : List (Option Nat)} (hd : decode cc pc = .ok (.invokevirtual idx, 3)) (hL : LKv own idx Y n ci) (ho : LAYL[o]? = some (.inl (ci, fs))) (hn : as.length = n) (hst : avLen st ≤ 8) (hroom : d + 1 ≤ x.2.1.frames ∧ 8 + (Y.2.2.1 + 11) + 40 * d ≤ x.2.1.locals) (hcs : x.2.2.1.1 ≤ x.2.1.cells ∧ x.2.2.1.2 ≤ x.2.1.slots) (h : Sp x.1 x.2.2.2.2.1 d Y (aR o :: as) w Q)
    (k : ∀ z w', Q z w' → V x own cc (pc + 3) ls (match Y.2.2.2 with | none => st | some .long => aL z :: st | some _ => aI z :: st) w') {st0 : List AV} (hs0 : st0 = as.reverse ++ aR o :: st) : V x own cc pc ls st0 w := by
  subst hs0
  intro p e s m args below meth c H locs lsA C hP hS hl
  have hM := h H.size
  have hnL : lsA.size = x.2.2.2.2.2.1.1 := hl.1
  have ht := C.2.2.2.2.2.2.1
  obtain ⟨hMK, hl1, hl2, hl3, T, N, hci⟩ := hL
  have hrun := va_runV (g := F0 m pc lsA ((as.reverse ++ aR o :: st).map (tv x.2.2.2.2.1.2.1))) (C := Y.1.cls) (b := x.2.2.2.2.1.2.1 o) (As := as.map (tv x.2.2.2.2.1.2.1)) (rest := st.map (tv x.2.2.2.2.1.2.1)) (cells := x.2.2.1.1) (slots := x.2.2.1.2) (n := n) (index := idx) (bytes := Y.2.1) (maxL := Y.2.2.1) (ret := Y.2.2.2) (locs := locs) (below := below) (e := e) (meth := meth) ⟨C.1, C.2.1, C.2.2.1, C.2.2.2.2.2.1, ht⟩ hM
    ⟨⟨rfl, rfl, hroom.1, hroom.2, wsm_of C hMK, List.mem_cons_self, ht _ hMK.1, ht _ hMK.2.1, hMK.2.2.1, fun sig hsig => by have := hMK.2.2.2; rw [hsig] at this; exact (Option.some.inj this).symm, ht _ hl1⟩, ht _ hl2, ht _ hl3⟩
    ⟨blind_pre _ _ _ _, va_recv C.2.2.2.2.2.2.2.1 hP hci (cls_get _ w ho), fun U hU hW => ⟨rfl, pre_of C hP hS U hU hW⟩⟩ rfl (by rw [List.length_map]; exact hn) hnL (by simp [List.map_reverse, tv]) (cats_tv _ _ _ _ _ _ hst) hd ⟨hcs.1, hcs.2⟩
  have hAf : ∀ q, Af x.2.2.2.2.1 H.size q → Af x.2.2.2.2.1 s.heap.size q := fun q hq => by
    rcases hq with hq | hq
    · exact Or.inl hq
    · exact Or.inr (Nat.le_trans hS.1 hq)
  revert hrun k
  cases hret : Y.2.2.2 with
  | none =>
    intro k hrun
    refine va_callv (a := (Value.ref (x.2.2.2.2.1.2.1 o) :: as.map (tv x.2.2.2.2.1.2.1)).toArray) hrun hS (fun q _ h => hAf q h) hAf (fun u t H1 locs1 hH1 hvm hp hB _ _ hS1 => ?_)
    exact k 0 u hp p e s m args below meth c H1 locs1 lsA C (by rw [← hH1]; exact hB.1) hS1 hl
  | some ty =>
    cases ty with
    | long =>
      intro k hrun
      refine va_calll (a := (Value.ref (x.2.2.2.2.1.2.1 o) :: as.map (tv x.2.2.2.2.1.2.1)).toArray) hrun hS (fun q _ h => hAf q h) hAf (fun r u t H1 locs1 hH1 hvm hp hB _ _ hS1 => ?_)
      obtain ⟨z, rfl, hz⟩ := hp
      exact k z u hz p e s m args below meth c H1 locs1 lsA C (by rw [← hH1]; exact hB.1) hS1 hl
    | _ =>
      intro k hrun
      refine va_calli (a := (Value.ref (x.2.2.2.2.1.2.1 o) :: as.map (tv x.2.2.2.2.1.2.1)).toArray) hrun hS (fun q _ h => hAf q h) hAf (fun r u t H1 locs1 hH1 hvm hp hB _ _ hS1 => ?_)
      obtain ⟨z, rfl, hz⟩ := hp
      exact k z u hz p e s m args below meth c H1 locs1 lsA C (by rw [← hH1]; exact hB.1) hS1 hl
end VCalls
/-- loops: a measure that falls -/
theorem v_loop {σ : Type} {x : CX} {own : String} {cc : ByteArray} (pc : Nat) (I : σ → Prop) (μ : σ → Nat) (L : σ → List (Nat × AV)) (S : σ → List AV) (wd : σ → Wd) (hs : ∀ a, I a → (∀ b, I b → μ b < μ a → V x own cc pc (L b) (S b) (wd b)) → V x own cc pc (L a) (S a) (wd a)) (a : σ) (h : I a) : V x own cc pc (L a) (S a) (wd a) := by
  have key : ∀ n a, μ a < n → I a → V x own cc pc (L a) (S a) (wd a) := by
    intro n
    induction n with
    | zero => intro a h; omega
    | succ n ih => intro a h hI; exact hs a hI (fun b hb hlt => ih b (by omega) hb)
  exact key (μ a + 1) a (by omega) h
section VCalls2
variable {x : CX} {own : String} {cc : ByteArray} {pc pc' idx n d : Nat} {ls : List (Nat × AV)} {st as st0 : List AV} {w : Wd} {Q : Int → Wd → Prop} {Y : MI} {ty : FieldType} {o ci : Nat} {fs : List (Option Nat)} {e : Int}
/-- a contract of a method that changes nothing -/
def SpP (l : Launch) (G : Gx) (d : Nat) (Y : MI) (as : List AV) (w : Wd) (e : Int) : Prop := Sp l G d Y as w (fun z w' => z = e ∧ w' = w)
def rok (x : CX) (d maxL : Nat) (st : List AV) : Bool := Nat.ble (avLen st) 8 && (Nat.ble (d + 1) x.2.1.frames && (Nat.ble (8 + (maxL + 11) + 40 * d) x.2.1.locals && (Nat.ble x.2.2.1.1 x.2.1.cells && Nat.ble x.2.2.1.2 x.2.1.slots)))
theorem rok_of {x : CX} {d maxL : Nat} {st : List AV} (h : rok x d maxL st = true) : avLen st ≤ 8 ∧ (d + 1 ≤ x.2.1.frames ∧ 8 + (maxL + 11) + 40 * d ≤ x.2.1.locals) ∧ (x.2.2.1.1 ≤ x.2.1.cells ∧ x.2.2.1.2 ≤ x.2.1.slots) := by
  unfold rok at h
  simp only [Bool.and_eq_true, Nat.ble_eq] at h
  exact ⟨h.1, ⟨h.2.1, h.2.2.1⟩, h.2.2.2.1, h.2.2.2.2⟩
def notLong : Option FieldType → Bool
  | some .long => false
  | some _ => true
  | none => false
theorem notLong_of {r : Option FieldType} (h : notLong r = true) : ∃ ty, r = some ty ∧ ty ≠ .long := by
  cases r with
  | none => exact absurd h (by decide)
  | some ty => cases ty <;> first | exact absurd h (by decide) | exact ⟨_, rfl, fun q => by cases q⟩
theorem v_cSi (hp : pc + 3 = pc') (hd : decode cc pc = .ok (.invokestatic idx, 3)) (hL : LKs own idx Y n) (hr : notLong Y.2.2.2 = true) (h : Sp x.1 x.2.2.2.2.1 d Y as w Q) (hs0 : st0 = as.reverse ++ st) (hn : as.length = n) (hk : rok x d Y.2.2.1 st = true)
    (k : ∀ z w', Q z w' → V x own cc pc' ls (aI z :: st) w') : V x own cc pc ls st0 w := by
  subst hp
  obtain ⟨hst, hroom, hcs⟩ := rok_of hk
  refine v_callS hd hL hn hst hroom hcs h (fun z w' hq => ?_) hs0
  obtain ⟨ty, hr, hty⟩ := notLong_of hr
  rw [hr]
  cases ty <;> first | exact absurd rfl hty | exact k z w' hq
theorem v_cSl (hp : pc + 3 = pc') (hd : decode cc pc = .ok (.invokestatic idx, 3)) (hL : LKs own idx Y n) (hr : Y.2.2.2 = some .long) (h : Sp x.1 x.2.2.2.2.1 d Y as w Q) (hs0 : st0 = as.reverse ++ st) (hn : as.length = n) (hk : rok x d Y.2.2.1 st = true)
    (k : ∀ z w', Q z w' → V x own cc pc' ls (aL z :: st) w') : V x own cc pc ls st0 w := by
  subst hp
  obtain ⟨hst, hroom, hcs⟩ := rok_of hk
  refine v_callS hd hL hn hst hroom hcs h (fun z w' hq => ?_) hs0
  rw [hr]
  exact k z w' hq
theorem v_cSv (hp : pc + 3 = pc') (hd : decode cc pc = .ok (.invokestatic idx, 3)) (hL : LKs own idx Y n) (hr : Y.2.2.2 = none) (h : Sp x.1 x.2.2.2.2.1 d Y as w Q) (hs0 : st0 = as.reverse ++ st) (hn : as.length = n) (hk : rok x d Y.2.2.1 st = true)
    (k : ∀ z w', Q z w' → V x own cc pc' ls (st) w') : V x own cc pc ls st0 w := by
  subst hp
  obtain ⟨hst, hroom, hcs⟩ := rok_of hk
  refine v_callS hd hL hn hst hroom hcs h (fun z w' hq => ?_) hs0
  rw [hr]
  exact k z w' hq
theorem v_cSP (hp : pc + 3 = pc') (hd : decode cc pc = .ok (.invokestatic idx, 3)) (hL : LKs own idx Y n) (hr : notLong Y.2.2.2 = true) (h : SpP x.1 x.2.2.2.2.1 d Y as w e) (hs0 : st0 = as.reverse ++ st) (hn : as.length = n) (hk : rok x d Y.2.2.1 st = true)
    (k : V x own cc pc' ls (aI e :: st) w) : V x own cc pc ls st0 w :=
  v_cSi hp hd hL hr h hs0 hn hk (fun z w' hq => by obtain ⟨rfl, rfl⟩ := hq; exact k)
theorem v_cSPL (hp : pc + 3 = pc') (hd : decode cc pc = .ok (.invokestatic idx, 3)) (hL : LKs own idx Y n) (hr : Y.2.2.2 = some .long) (h : SpP x.1 x.2.2.2.2.1 d Y as w e) (hs0 : st0 = as.reverse ++ st) (hn : as.length = n) (hk : rok x d Y.2.2.1 st = true)
    (k : V x own cc pc' ls (aL e :: st) w) : V x own cc pc ls st0 w :=
  v_cSl hp hd hL hr h hs0 hn hk (fun z w' hq => by obtain ⟨rfl, rfl⟩ := hq; exact k)
theorem v_cVi (hp : pc + 3 = pc') (hd : decode cc pc = .ok (.invokevirtual idx, 3)) (hL : LKv own idx Y n ci) (ho : LAYL[o]? = some (.inl (ci, fs))) (hr : notLong Y.2.2.2 = true) (h : Sp x.1 x.2.2.2.2.1 d Y (aR o :: as) w Q) (hs0 : st0 = as.reverse ++ aR o :: st) (hn : as.length = n) (hk : rok x d Y.2.2.1 st = true)
    (k : ∀ z w', Q z w' → V x own cc pc' ls (aI z :: st) w') : V x own cc pc ls st0 w := by
  subst hp
  obtain ⟨hst, hroom, hcs⟩ := rok_of hk
  refine v_callV hd hL ho hn hst hroom hcs h (fun z w' hq => ?_) hs0
  obtain ⟨ty, hr, hty⟩ := notLong_of hr
  rw [hr]
  cases ty <;> first | exact absurd rfl hty | exact k z w' hq
theorem v_cVl (hp : pc + 3 = pc') (hd : decode cc pc = .ok (.invokevirtual idx, 3)) (hL : LKv own idx Y n ci) (ho : LAYL[o]? = some (.inl (ci, fs))) (hr : Y.2.2.2 = some .long) (h : Sp x.1 x.2.2.2.2.1 d Y (aR o :: as) w Q) (hs0 : st0 = as.reverse ++ aR o :: st) (hn : as.length = n) (hk : rok x d Y.2.2.1 st = true)
    (k : ∀ z w', Q z w' → V x own cc pc' ls (aL z :: st) w') : V x own cc pc ls st0 w := by
  subst hp
  obtain ⟨hst, hroom, hcs⟩ := rok_of hk
  refine v_callV hd hL ho hn hst hroom hcs h (fun z w' hq => ?_) hs0
  rw [hr]
  exact k z w' hq
theorem v_cVv (hp : pc + 3 = pc') (hd : decode cc pc = .ok (.invokevirtual idx, 3)) (hL : LKv own idx Y n ci) (ho : LAYL[o]? = some (.inl (ci, fs))) (hr : Y.2.2.2 = none) (h : Sp x.1 x.2.2.2.2.1 d Y (aR o :: as) w Q) (hs0 : st0 = as.reverse ++ aR o :: st) (hn : as.length = n) (hk : rok x d Y.2.2.1 st = true)
    (k : ∀ z w', Q z w' → V x own cc pc' ls (st) w') : V x own cc pc ls st0 w := by
  subst hp
  obtain ⟨hst, hroom, hcs⟩ := rok_of hk
  refine v_callV hd hL ho hn hst hroom hcs h (fun z w' hq => ?_) hs0
  rw [hr]
  exact k z w' hq
theorem v_cVP (hp : pc + 3 = pc') (hd : decode cc pc = .ok (.invokevirtual idx, 3)) (hL : LKv own idx Y n ci) (ho : LAYL[o]? = some (.inl (ci, fs))) (hr : notLong Y.2.2.2 = true) (h : SpP x.1 x.2.2.2.2.1 d Y (aR o :: as) w e) (hs0 : st0 = as.reverse ++ aR o :: st) (hn : as.length = n) (hk : rok x d Y.2.2.1 st = true)
    (k : V x own cc pc' ls (aI e :: st) w) : V x own cc pc ls st0 w :=
  v_cVi hp hd hL ho hr h hs0 hn hk (fun z w' hq => by obtain ⟨rfl, rfl⟩ := hq; exact k)
theorem v_cVPL (hp : pc + 3 = pc') (hd : decode cc pc = .ok (.invokevirtual idx, 3)) (hL : LKv own idx Y n ci) (ho : LAYL[o]? = some (.inl (ci, fs))) (hr : Y.2.2.2 = some .long) (h : SpP x.1 x.2.2.2.2.1 d Y (aR o :: as) w e) (hs0 : st0 = as.reverse ++ aR o :: st) (hn : as.length = n) (hk : rok x d Y.2.2.1 st = true)
    (k : V x own cc pc' ls (aL e :: st) w) : V x own cc pc ls st0 w :=
  v_cVl hp hd hL ho hr h hs0 hn hk (fun z w' hq => by obtain ⟨rfl, rfl⟩ := hq; exact k)
end VCalls2
section VLoops
variable {x : CX} {own : String} {cc : ByteArray}
theorem v_loop1 {A0 : Type} (pc : Nat) (I : A0 → Prop) (μ : A0 → Nat) (L : A0 → List (Nat × AV)) (S : A0 → List AV) (wd : A0 → Wd)
    (hs : ∀ (a0 : A0), I a0 → (∀ (b0 : A0), I b0 → μ b0 < μ a0 → V x own cc pc (L b0) (S b0) (wd b0)) → V x own cc pc (L a0) (S a0) (wd a0))
    (a0 : A0) (h : I a0) : V x own cc pc (L a0) (S a0) (wd a0) := by
  have key : ∀ n a0, μ a0 < n → I a0 → V x own cc pc (L a0) (S a0) (wd a0) := by
    intro n
    induction n with
    | zero => intro a0 h; omega
    | succ n ih => intro a0 h hI; exact hs a0 hI (fun b0 hb hlt => ih b0 (by omega) hb)
  exact key (μ a0 + 1) a0 (by omega) h
theorem v_loop2 {A0 A1 : Type} (pc : Nat) (I : A0 → A1 → Prop) (μ : A0 → A1 → Nat) (L : A0 → A1 → List (Nat × AV)) (S : A0 → A1 → List AV) (wd : A0 → A1 → Wd)
    (hs : ∀ (a0 : A0) (a1 : A1), I a0 a1 → (∀ (b0 : A0) (b1 : A1), I b0 b1 → μ b0 b1 < μ a0 a1 → V x own cc pc (L b0 b1) (S b0 b1) (wd b0 b1)) → V x own cc pc (L a0 a1) (S a0 a1) (wd a0 a1))
    (a0 : A0) (a1 : A1) (h : I a0 a1) : V x own cc pc (L a0 a1) (S a0 a1) (wd a0 a1) := by
  have key : ∀ n a0 a1, μ a0 a1 < n → I a0 a1 → V x own cc pc (L a0 a1) (S a0 a1) (wd a0 a1) := by
    intro n
    induction n with
    | zero => intro a0 a1 h; omega
    | succ n ih => intro a0 a1 h hI; exact hs a0 a1 hI (fun b0 b1 hb hlt => ih b0 b1 (by omega) hb)
  exact key (μ a0 a1 + 1) a0 a1 (by omega) h
theorem v_loop3 {A0 A1 A2 : Type} (pc : Nat) (I : A0 → A1 → A2 → Prop) (μ : A0 → A1 → A2 → Nat) (L : A0 → A1 → A2 → List (Nat × AV)) (S : A0 → A1 → A2 → List AV) (wd : A0 → A1 → A2 → Wd)
    (hs : ∀ (a0 : A0) (a1 : A1) (a2 : A2), I a0 a1 a2 → (∀ (b0 : A0) (b1 : A1) (b2 : A2), I b0 b1 b2 → μ b0 b1 b2 < μ a0 a1 a2 → V x own cc pc (L b0 b1 b2) (S b0 b1 b2) (wd b0 b1 b2)) → V x own cc pc (L a0 a1 a2) (S a0 a1 a2) (wd a0 a1 a2))
    (a0 : A0) (a1 : A1) (a2 : A2) (h : I a0 a1 a2) : V x own cc pc (L a0 a1 a2) (S a0 a1 a2) (wd a0 a1 a2) := by
  have key : ∀ n a0 a1 a2, μ a0 a1 a2 < n → I a0 a1 a2 → V x own cc pc (L a0 a1 a2) (S a0 a1 a2) (wd a0 a1 a2) := by
    intro n
    induction n with
    | zero => intro a0 a1 a2 h; omega
    | succ n ih => intro a0 a1 a2 h hI; exact hs a0 a1 a2 hI (fun b0 b1 b2 hb hlt => ih b0 b1 b2 (by omega) hb)
  exact key (μ a0 a1 a2 + 1) a0 a1 a2 (by omega) h
theorem v_loop4 {A0 A1 A2 A3 : Type} (pc : Nat) (I : A0 → A1 → A2 → A3 → Prop) (μ : A0 → A1 → A2 → A3 → Nat) (L : A0 → A1 → A2 → A3 → List (Nat × AV)) (S : A0 → A1 → A2 → A3 → List AV) (wd : A0 → A1 → A2 → A3 → Wd)
    (hs : ∀ (a0 : A0) (a1 : A1) (a2 : A2) (a3 : A3), I a0 a1 a2 a3 → (∀ (b0 : A0) (b1 : A1) (b2 : A2) (b3 : A3), I b0 b1 b2 b3 → μ b0 b1 b2 b3 < μ a0 a1 a2 a3 → V x own cc pc (L b0 b1 b2 b3) (S b0 b1 b2 b3) (wd b0 b1 b2 b3)) → V x own cc pc (L a0 a1 a2 a3) (S a0 a1 a2 a3) (wd a0 a1 a2 a3))
    (a0 : A0) (a1 : A1) (a2 : A2) (a3 : A3) (h : I a0 a1 a2 a3) : V x own cc pc (L a0 a1 a2 a3) (S a0 a1 a2 a3) (wd a0 a1 a2 a3) := by
  have key : ∀ n a0 a1 a2 a3, μ a0 a1 a2 a3 < n → I a0 a1 a2 a3 → V x own cc pc (L a0 a1 a2 a3) (S a0 a1 a2 a3) (wd a0 a1 a2 a3) := by
    intro n
    induction n with
    | zero => intro a0 a1 a2 a3 h; omega
    | succ n ih => intro a0 a1 a2 a3 h hI; exact hs a0 a1 a2 a3 hI (fun b0 b1 b2 b3 hb hlt => ih b0 b1 b2 b3 (by omega) hb)
  exact key (μ a0 a1 a2 a3 + 1) a0 a1 a2 a3 (by omega) h
theorem v_loop5 {A0 A1 A2 A3 A4 : Type} (pc : Nat) (I : A0 → A1 → A2 → A3 → A4 → Prop) (μ : A0 → A1 → A2 → A3 → A4 → Nat) (L : A0 → A1 → A2 → A3 → A4 → List (Nat × AV)) (S : A0 → A1 → A2 → A3 → A4 → List AV) (wd : A0 → A1 → A2 → A3 → A4 → Wd)
    (hs : ∀ (a0 : A0) (a1 : A1) (a2 : A2) (a3 : A3) (a4 : A4), I a0 a1 a2 a3 a4 → (∀ (b0 : A0) (b1 : A1) (b2 : A2) (b3 : A3) (b4 : A4), I b0 b1 b2 b3 b4 → μ b0 b1 b2 b3 b4 < μ a0 a1 a2 a3 a4 → V x own cc pc (L b0 b1 b2 b3 b4) (S b0 b1 b2 b3 b4) (wd b0 b1 b2 b3 b4)) → V x own cc pc (L a0 a1 a2 a3 a4) (S a0 a1 a2 a3 a4) (wd a0 a1 a2 a3 a4))
    (a0 : A0) (a1 : A1) (a2 : A2) (a3 : A3) (a4 : A4) (h : I a0 a1 a2 a3 a4) : V x own cc pc (L a0 a1 a2 a3 a4) (S a0 a1 a2 a3 a4) (wd a0 a1 a2 a3 a4) := by
  have key : ∀ n a0 a1 a2 a3 a4, μ a0 a1 a2 a3 a4 < n → I a0 a1 a2 a3 a4 → V x own cc pc (L a0 a1 a2 a3 a4) (S a0 a1 a2 a3 a4) (wd a0 a1 a2 a3 a4) := by
    intro n
    induction n with
    | zero => intro a0 a1 a2 a3 a4 h; omega
    | succ n ih => intro a0 a1 a2 a3 a4 h hI; exact hs a0 a1 a2 a3 a4 hI (fun b0 b1 b2 b3 b4 hb hlt => ih b0 b1 b2 b3 b4 (by omega) hb)
  exact key (μ a0 a1 a2 a3 a4 + 1) a0 a1 a2 a3 a4 (by omega) h
theorem v_loop6 {A0 A1 A2 A3 A4 A5 : Type} (pc : Nat) (I : A0 → A1 → A2 → A3 → A4 → A5 → Prop) (μ : A0 → A1 → A2 → A3 → A4 → A5 → Nat) (L : A0 → A1 → A2 → A3 → A4 → A5 → List (Nat × AV)) (S : A0 → A1 → A2 → A3 → A4 → A5 → List AV) (wd : A0 → A1 → A2 → A3 → A4 → A5 → Wd)
    (hs : ∀ (a0 : A0) (a1 : A1) (a2 : A2) (a3 : A3) (a4 : A4) (a5 : A5), I a0 a1 a2 a3 a4 a5 → (∀ (b0 : A0) (b1 : A1) (b2 : A2) (b3 : A3) (b4 : A4) (b5 : A5), I b0 b1 b2 b3 b4 b5 → μ b0 b1 b2 b3 b4 b5 < μ a0 a1 a2 a3 a4 a5 → V x own cc pc (L b0 b1 b2 b3 b4 b5) (S b0 b1 b2 b3 b4 b5) (wd b0 b1 b2 b3 b4 b5)) → V x own cc pc (L a0 a1 a2 a3 a4 a5) (S a0 a1 a2 a3 a4 a5) (wd a0 a1 a2 a3 a4 a5))
    (a0 : A0) (a1 : A1) (a2 : A2) (a3 : A3) (a4 : A4) (a5 : A5) (h : I a0 a1 a2 a3 a4 a5) : V x own cc pc (L a0 a1 a2 a3 a4 a5) (S a0 a1 a2 a3 a4 a5) (wd a0 a1 a2 a3 a4 a5) := by
  have key : ∀ n a0 a1 a2 a3 a4 a5, μ a0 a1 a2 a3 a4 a5 < n → I a0 a1 a2 a3 a4 a5 → V x own cc pc (L a0 a1 a2 a3 a4 a5) (S a0 a1 a2 a3 a4 a5) (wd a0 a1 a2 a3 a4 a5) := by
    intro n
    induction n with
    | zero => intro a0 a1 a2 a3 a4 a5 h; omega
    | succ n ih => intro a0 a1 a2 a3 a4 a5 h hI; exact hs a0 a1 a2 a3 a4 a5 hI (fun b0 b1 b2 b3 b4 b5 hb hlt => ih b0 b1 b2 b3 b4 b5 (by omega) hb)
  exact key (μ a0 a1 a2 a3 a4 a5 + 1) a0 a1 a2 a3 a4 a5 (by omega) h
theorem v_loop7 {A0 A1 A2 A3 A4 A5 A6 : Type} (pc : Nat) (I : A0 → A1 → A2 → A3 → A4 → A5 → A6 → Prop) (μ : A0 → A1 → A2 → A3 → A4 → A5 → A6 → Nat) (L : A0 → A1 → A2 → A3 → A4 → A5 → A6 → List (Nat × AV)) (S : A0 → A1 → A2 → A3 → A4 → A5 → A6 → List AV) (wd : A0 → A1 → A2 → A3 → A4 → A5 → A6 → Wd)
    (hs : ∀ (a0 : A0) (a1 : A1) (a2 : A2) (a3 : A3) (a4 : A4) (a5 : A5) (a6 : A6), I a0 a1 a2 a3 a4 a5 a6 → (∀ (b0 : A0) (b1 : A1) (b2 : A2) (b3 : A3) (b4 : A4) (b5 : A5) (b6 : A6), I b0 b1 b2 b3 b4 b5 b6 → μ b0 b1 b2 b3 b4 b5 b6 < μ a0 a1 a2 a3 a4 a5 a6 → V x own cc pc (L b0 b1 b2 b3 b4 b5 b6) (S b0 b1 b2 b3 b4 b5 b6) (wd b0 b1 b2 b3 b4 b5 b6)) → V x own cc pc (L a0 a1 a2 a3 a4 a5 a6) (S a0 a1 a2 a3 a4 a5 a6) (wd a0 a1 a2 a3 a4 a5 a6))
    (a0 : A0) (a1 : A1) (a2 : A2) (a3 : A3) (a4 : A4) (a5 : A5) (a6 : A6) (h : I a0 a1 a2 a3 a4 a5 a6) : V x own cc pc (L a0 a1 a2 a3 a4 a5 a6) (S a0 a1 a2 a3 a4 a5 a6) (wd a0 a1 a2 a3 a4 a5 a6) := by
  have key : ∀ n a0 a1 a2 a3 a4 a5 a6, μ a0 a1 a2 a3 a4 a5 a6 < n → I a0 a1 a2 a3 a4 a5 a6 → V x own cc pc (L a0 a1 a2 a3 a4 a5 a6) (S a0 a1 a2 a3 a4 a5 a6) (wd a0 a1 a2 a3 a4 a5 a6) := by
    intro n
    induction n with
    | zero => intro a0 a1 a2 a3 a4 a5 a6 h; omega
    | succ n ih => intro a0 a1 a2 a3 a4 a5 a6 h hI; exact hs a0 a1 a2 a3 a4 a5 a6 hI (fun b0 b1 b2 b3 b4 b5 b6 hb hlt => ih b0 b1 b2 b3 b4 b5 b6 (by omega) hb)
  exact key (μ a0 a1 a2 a3 a4 a5 a6 + 1) a0 a1 a2 a3 a4 a5 a6 (by omega) h
end VLoops

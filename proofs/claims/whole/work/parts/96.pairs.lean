/-! the two sides side by side: what holds between two calls -/
abbrev ST : Type := PE × List PE
def st0 : ST := (pe0, [])
/-- no class is in the album twice -/
def AlN (AL : List PE) : Prop := ∀ i j : Nat, i < AL.length → j < AL.length → AL.getD i pe0 = AL.getD j pe0 → i = j
def STV (q : ST) : Prop := MapV q.1.1 q.1.2.1 q.1.2.2 ∧ AlV q.2 ∧ AlN q.2
def CSt (w : Wd) (o : Nat) (q : ST) : Prop := (w o 0 = (q.1.1 : Nat) ∧ w o 1 = (hx q.1.2.1 : Nat) ∧ w o 2 = (hx q.1.2.2 : Nat)) ∧ AlW w o q.2
def KMt (w : Wd) (i : Nat) (q : ST) : Prop := (w 98 (52 * i) = (q.1.1 : Nat) ∧ w 98 (52 * i + 1) = (cdk q.1.2.1 q.1.1 : Nat) ∧ w 98 (52 * i + 2) = (cdk q.1.2.2 q.1.1 : Nat) ∧ w 98 (52 * i + 3) = (q.2.length : Nat)) ∧
  ∀ x, x < q.2.length → w 98 (52 * i + 4 + 4 * x) = ((q.2.getD x pe0).1 : Nat) ∧ w 98 (52 * i + 5 + 4 * x) = (cdk (q.2.getD x pe0).2.1 (q.2.getD x pe0).1 : Nat) ∧ w 98 (52 * i + 6 + 4 * x) = (cdk (q.2.getD x pe0).2.2 (q.2.getD x pe0).1 : Nat) ∧ w 98 (52 * i + 7 + 4 * x) = genusI (q.2.getD x pe0).2.1 (q.2.getD x pe0).2.2 (full (q.2.getD x pe0).1)
def IA (w : Wd) (q : ST) : Prop := STV q ∧ CSt w 2 q
def IR (w : Wd) (q : ST) : Prop := RMW w q.1.1 q.1.2.1 q.1.2.2 ∧ RTab w q.1.1 ∧ AlM w q.2
def IT (w : Wd) (b : Nat) (T : Nat → Int) : Prop := b ≤ 120 ∧ w 0 1 = (b : Nat) ∧ w 63 16 = (b : Nat) ∧ (∀ j, j < 120 → w 1 j = T j) ∧ (∀ j, j < 120 → 0 ≤ T j ∧ T j ≤ 255) ∧ TpM w T
def IK (w : Wd) (KL : List ST) : Prop := KL.length ≤ 8 ∧ w 0 5 = (KL.length : Nat) ∧ w 63 53 = (KL.length : Nat) ∧ ∀ i, i < KL.length → STV (KL.getD i st0) ∧ CSt w (31 + 4 * i) (KL.getD i st0) ∧ KMt w i (KL.getD i st0)
def InvQ (w : Wd) (q : ST) (b : Nat) (T : Nat → Int) (KL : List ST) : Prop := IA w q ∧ IR w q ∧ IT w b T ∧ IK w KL ∧ GInv w ∧ CInv w
def Inv (w : Wd) : Prop := ∃ q b T KL, InvQ w q b T KL
theorem AlW.kp {w w' : Wd} {o : Nat} {AL : List PE} (h : AlW w o AL) (hf : ∀ p, o ≤ p → p ≤ o + 3 → ∀ j, w' p j = w p j) : AlW w' o AL :=
  ⟨by rw [hf o (by omega) (by omega)]; exact h.1, fun i hi => by rw [hf (o + 1) (by omega) (by omega), hf (o + 2) (by omega) (by omega), hf (o + 3) (by omega) (by omega)]; exact h.2 i hi⟩
theorem CSt.kp {w w' : Wd} {o : Nat} {q : ST} (h : CSt w o q) (hf : ∀ p, o ≤ p → p ≤ o + 3 → ∀ j, w' p j = w p j) : CSt w' o q :=
  ⟨by rw [hf o (by omega) (by omega), hf o (by omega) (by omega), hf o (by omega) (by omega)]; exact h.1, h.2.kp hf⟩
theorem KMt.kp {w w' : Wd} {i : Nat} {q : ST} (h : KMt w i q) (hf : ∀ j, w' 98 j = w 98 j) : KMt w' i q := by
  unfold KMt at *
  simp only [hf]
  exact h
theorem GInv.kp {w w' : Wd} (h : GInv w) (hf : ∀ o, 14 ≤ o → o ≤ 16 → ∀ j, w' o j = w o j) : GInv w' := by
  unfold GInv GrpOK GW at *
  simp only [hf 14 (by omega) (by omega) _, hf 15 (by omega) (by omega) _, hf 16 (by omega) (by omega) _]
  exact h
theorem IA.kp {w w' : Wd} {q : ST} (h : IA w q) (hf : ∀ o, 2 ≤ o → o ≤ 5 → ∀ j, w' o j = w o j) : IA w' q := ⟨h.1, h.2.kp (fun p h1 h2 j => hf p h1 h2 j)⟩
theorem IR.kp {w w' : Wd} {q : ST} (h : IR w q) (hf : ∀ j, (j ≤ 4 ∨ j = 52) → w' 63 j = w 63 j) (hf2 : ∀ o, (64 ≤ o ∧ o ≤ 68) ∨ (94 ≤ o ∧ o ≤ 97) → ∀ j, w' o j = w o j) : IR w' q :=
  ⟨⟨by rw [hf 0 (by omega)]; exact h.1.1, by rw [hf 1 (by omega)]; exact h.1.2.1, by rw [hf 2 (by omega)]; exact h.1.2.2⟩, h.2.1.fr (hf 3 (by omega)) (hf 4 (by omega)) (fun o h1 h2 j => hf2 o (by omega) j), h.2.2.fr (hf 52 (by omega)) (fun o h1 h2 j => hf2 o (by omega) j)⟩
theorem TpM.kp {w w' : Wd} {T : Nat → Int} (h : TpM w T) (hf : ∀ j, w' 74 j = w 74 j) : TpM w' T := fun j hj => (hf j).trans (h j hj)
theorem IT.kp {w w' : Wd} {b : Nat} {T : Nat → Int} (h : IT w b T) (h1 : w' 0 1 = w 0 1) (h2 : w' 63 16 = w 63 16) (h3 : ∀ j, w' 1 j = w 1 j) (h4 : ∀ j, w' 74 j = w 74 j) : IT w' b T :=
  ⟨h.1, h1.trans h.2.1, h2.trans h.2.2.1, fun j hj => (h3 j).trans (h.2.2.2.1 j hj), h.2.2.2.2.1, h.2.2.2.2.2.kp h4⟩
theorem IK.kp {w w' : Wd} {KL : List ST} (h : IK w KL) (h1 : w' 0 5 = w 0 5) (h2 : w' 63 53 = w 63 53) (h3 : ∀ o, 31 ≤ o → o ≤ 62 → ∀ j, w' o j = w o j) (h4 : ∀ j, w' 98 j = w 98 j) : IK w' KL :=
  ⟨h.1, h1.trans h.2.1, h2.trans h.2.2.1, fun i hi => ⟨(h.2.2.2 i hi).1, (h.2.2.2 i hi).2.1.kp (fun p q1 q2 j => h3 p (by omega) (by have := h.1; omega) j), (h.2.2.2 i hi).2.2.kp h4⟩⟩
/-- a call of the class's that changes none of what holds between calls but its own looks -/
theorem InvQ.frC {w w' : Wd} {q : ST} {b : Nat} {T : Nat → Int} {KL : List ST} (h : InvQ w q b T KL) {cs : List Nat} (hf : Fr cs w w') (hc : (List.range 99).all (fun o => (Nat.blt 5 o && Nat.blt o 31) || !cs.contains o) = true) (hG : GInv w') (hC : CInv w') : InvQ w' q b T KL := by
  have hk : ∀ o, (o ≤ 5 ∨ 31 ≤ o) → o < 99 → ∀ j, w' o j = w o j := fun o h1 h2 j => hf o j (by
    have := List.all_eq_true.mp hc o (List.mem_range.mpr h2)
    have e : (Nat.blt 5 o && Nat.blt o 31) = false := by
      rw [Bool.and_eq_false_iff]
      rcases h1 with h1 | h1
      · left; rw [Bool.eq_false_iff]; intro hh; have := Nat.le_of_ble_eq_true hh; omega
      · right; rw [Bool.eq_false_iff]; intro hh; have := Nat.le_of_ble_eq_true hh; omega
    rw [e, Bool.false_or] at this
    simpa using this)
  obtain ⟨hA, hR, hT, hK, -, -⟩ := h
  exact ⟨hA.kp (fun o h1 h2 j => hk o (by omega) (by omega) j), hR.kp (fun j _ => hk 63 (by omega) (by omega) j) (fun o h1 j => hk o (by omega) (by omega) j), hT.kp (hk 0 (by omega) (by omega) 1) (hk 63 (by omega) (by omega) 16) (hk 1 (by omega) (by omega)) (hk 74 (by omega) (by omega)), hK.kp (hk 0 (by omega) (by omega) 5) (hk 63 (by omega) (by omega) 53) (fun o h1 h2 j => hk o (by omega) (by omega) j) (hk 98 (by omega) (by omega)), hG, hC⟩
theorem InvQ.scr {w w' : Wd} {q : ST} {b : Nat} {T : Nat → Int} {KL : List ST} (h : InvQ w q b T KL) (hs : Scr w w') : InvQ w' q b T KL := by
  have hc : ∀ o, o < 63 → ∀ j, w' o j = w o j := fun o ho j => hs o j (by unfold keepB; rw [if_neg (by omega)]; simp; omega)
  obtain ⟨hA, hR, hT, hK, hG, hC⟩ := h
  exact ⟨hA.kp (fun o h1 h2 j => hc o (by omega) j), ⟨hR.1.s hs, hR.2.1.s hs, hR.2.2.scr hs⟩, hT.kp (hc 0 (by omega) 1) (hs 63 16 (by decide)) (hc 1 (by omega)) (fun j => hs 74 j rfl), hK.kp (hc 0 (by omega) 5) (hs 63 53 (by decide)) (fun o h1 h2 j => hc o (by omega) j) (fun j => hs 98 j rfl), hG.kp (fun o h1 h2 j => hc o (by omega) j), hC.fr (fun o h1 h2 j => hc o (by omega) j)⟩
section InvAcc
variable {w : Wd} {q : ST} {b : Nat} {T : Nat → Int} {KL : List ST}
theorem InvQ.V (h : InvQ w q b T KL) : MapV q.1.1 q.1.2.1 q.1.2.2 := h.1.1.1
theorem InvQ.AV (h : InvQ w q b T KL) : AlV q.2 := h.1.1.2.1
theorem InvQ.AN (h : InvQ w q b T KL) : AlN q.2 := h.1.1.2.2
theorem InvQ.M (h : InvQ w q b T KL) : MapW w q.1.1 q.1.2.1 q.1.2.2 := h.1.2.1
theorem InvQ.AW (h : InvQ w q b T KL) : AlW w 2 q.2 := h.1.2.2
theorem InvQ.RM (h : InvQ w q b T KL) : RMW w q.1.1 q.1.2.1 q.1.2.2 := h.2.1.1
theorem InvQ.RT (h : InvQ w q b T KL) : RTab w q.1.1 := h.2.1.2.1
theorem InvQ.AM (h : InvQ w q b T KL) : AlM w q.2 := h.2.1.2.2
theorem InvQ.B (h : InvQ w q b T KL) : w 0 1 = (b : Nat) := h.2.2.1.2.1
theorem InvQ.RB (h : InvQ w q b T KL) : w 63 16 = (b : Nat) := h.2.2.1.2.2.1
theorem InvQ.b120 (h : InvQ w q b T KL) : b ≤ 120 := h.2.2.1.1
theorem InvQ.Tp (h : InvQ w q b T KL) : ∀ j, j < 120 → w 1 j = T j := h.2.2.1.2.2.2.1
theorem InvQ.TR (h : InvQ w q b T KL) : ∀ j, j < 120 → 0 ≤ T j ∧ T j ≤ 255 := h.2.2.1.2.2.2.2.1
theorem InvQ.TM (h : InvQ w q b T KL) : TpM w T := h.2.2.1.2.2.2.2.2
theorem InvQ.K (h : InvQ w q b T KL) : IK w KL := h.2.2.2.1
theorem InvQ.G (h : InvQ w q b T KL) : GInv w := h.2.2.2.2.1
theorem InvQ.C (h : InvQ w q b T KL) : CInv w := h.2.2.2.2.2
end InvAcc
/-- a call of both: the class's, then the reference's, the same answer -/
def Pair (l : Launch) (G : Gx) (dC dM : Nat) (YC YM : MI) (as : List AV) (w : Wd) : Prop := Sp l G dC YC (aR 0 :: as) w (fun z w1 => Sp l G dM YM (aR 63 :: as) w1 (fun z2 w2 => z2 = z ∧ Inv w2))
theorem pair_ro {l : Launch} {G : Gx} {dC dM : Nat} {YC YM : MI} {as : List AV} {w : Wd} (q : ST) (b : Nat) (T : Nat → Int) (KL : List ST) {P1 P2 : Int → Prop} (hc : Sp l G dC YC (aR 0 :: as) w (fun z w' => InvQ w' q b T KL ∧ P1 z)) (hm : ∀ w', InvQ w' q b T KL → Sp l G dM YM (aR 63 :: as) w' (fun z w'' => Scr w' w'' ∧ P2 z)) (he : ∀ z z', P1 z → P2 z' → z' = z) : Pair l G dC dM YC YM as w :=
  Sp.mono hc (fun z w' h => Sp.mono (hm w' h.1) (fun z2 w2 h2 => ⟨he z z2 h.2 h2.2, q, b, T, KL, h.1.scr h2.1⟩))
theorem Scr.rf' (w : Wd) : Scr w w := fun _ _ _ => rfl
/-! the answers are told by what they say -/
theorem KT_u {n i j : Nat} {t : Int} (hn : n ≤ 7) (hi : i < kmany n) (hj : j < kmany n) (h1 : t = (kT n i : Nat)) (h2 : t = (kT n j : Nat)) : i = j := kT_inj n (by omega) i hi j hj (by omega)
theorem kndB_of {n i : Nat} {t : Int} (hi : i < kmany n) (h1 : t = (kT n i : Nat)) : kndB n t = true := List.any_eq_true.mpr ⟨i, List.mem_range.mpr hi, decide_eq_true h1.symm⟩
theorem RK_fun {n : Nat} {op p q z z' : Int} (hn : n ≤ 7) (h : RK n op p q z) (h' : RK n op p q z') : z' = z := by
  rcases h with ⟨a1, a2⟩ | ⟨f, g, b1, b2, b3, b4, b5⟩ <;> rcases h' with ⟨c1, c2⟩ | ⟨f', g', d1, d2, d3, d4, d5⟩
  · omega
  · exact absurd ⟨f', g', d1, d2, d3, d4⟩ a2
  · exact absurd ⟨f, g, b1, b2, b3, b4⟩ c2
  · have e1 : f = f' := (cd_inj b1 d1 hn).mp (by omega)
    have e2 : g = g' := (cd_inj b2 d2 hn).mp (by omega)
    rw [b5, d5, e1, e2]
theorem LenP_fun {n : Nat} {s a : Nat → Nat} {p z z' : Int} (hn : n ≤ 7) (h : LenP n s a p z) (h' : LenP n s a p z') : z' = z := by
  rcases h with ⟨a1, a2⟩ | ⟨f, b1, b3, b5⟩ <;> rcases h' with ⟨c1, c2⟩ | ⟨f', d1, d3, d5⟩
  · omega
  · exact absurd d3 (a2 f' d1)
  · exact absurd b3 (c2 f b1)
  · have e1 : f = f' := (cd_inj b1 d1 hn).mp (by omega)
    rw [b5, d5, e1]
theorem SamP_fun {n : Nat} {s a : Nat → Nat} {p q z z' : Int} (hn : n ≤ 7) (h : SamP n s a p q z) (h' : SamP n s a p q z') : z' = z := by
  rcases h with ⟨a1, a2⟩ | ⟨f, g, b1, b2, b3, b4, b5⟩ <;> rcases h' with ⟨c1, c2⟩ | ⟨f', g', d1, d2, d3, d4, d5⟩
  · omega
  · exact absurd ⟨f', g', d1, d2, d3, d4⟩ a2
  · exact absurd ⟨f, g, b1, b2, b3, b4⟩ c2
  · have e1 : f = f' := (cd_inj b1 d1 hn).mp (by omega)
    have e2 : g = g' := (cd_inj b2 d2 hn).mp (by omega)
    subst e1
    subst e2
    rcases b5 with ⟨z1, n1⟩ | ⟨z1, n1⟩ <;> rcases d5 with ⟨z2, n2⟩ | ⟨z2, n2⟩
    · omega
    · exact absurd n2 n1
    · exact absurd n1 n2
    · omega
theorem LabP_fun {n : Nat} {s a : Nat → Nat} {p q z z' : Int} (hn : n ≤ 7) (h : LabP n s a p q z) (h' : LabP n s a p q z') : z' = z := by
  rcases h with ⟨a1, a2⟩ | ⟨f, g, b1, b2, b3, b4, b5⟩ <;> rcases h' with ⟨c1, c2⟩ | ⟨f', g', d1, d2, d3, d4, d5⟩
  · omega
  · exact absurd ⟨f', g', d1, d2, d3, d4⟩ a2
  · exact absurd ⟨f, g, b1, b2, b3, b4⟩ c2
  · have e1 : f = f' := (cd_inj b1 d1 hn).mp (by omega)
    have e2 : g = g' := (cd_inj b2 d2 hn).mp (by omega)
    subst e1
    subst e2
    rcases b5 with ⟨z1, n1⟩ | ⟨r, r1, r2, r3, z1, r4⟩ <;> rcases d5 with ⟨z2, n2⟩ | ⟨r', t1, t2, t3, z2, t4⟩
    · omega
    · exact absurd ⟨r', t1, t2, t3⟩ n1
    · exact absurd ⟨r, r1, r2, r3⟩ n2
    · have e3 : r = r' := (hx_inj r1 t1 hn hn).mp (Nat.le_antisymm (r4 r' t1 t2 t3) (t4 r r1 r2 r3))
      rw [z1, z2, e3]
theorem TriP_fun {n : Nat} {t1 t2 t3 what z z' : Int} (hn : n ≤ 7) (h : TriP n t1 t2 t3 what z) (h' : TriP n t1 t2 t3 what z') : z' = z := by
  rcases h with ⟨a1, a2⟩ | ⟨i1, i2, i3, b1, b2, b3⟩ <;> rcases h' with ⟨c1, c2⟩ | ⟨j1, j2, j3, d1, d2, d3⟩
  · omega
  · exact absurd ⟨kndB_of d1.1 d2.1, kndB_of d1.2.1 d2.2.1, kndB_of d1.2.2 d2.2.2⟩ a1
  · exact absurd ⟨kndB_of b1.1 b2.1, kndB_of b1.2.1 b2.2.1, kndB_of b1.2.2 b2.2.2⟩ c1
  · rw [b3, d3, KT_u hn b1.1 d1.1 b2.1 d2.1, KT_u hn b1.2.1 d1.2.1 b2.2.1 d2.2.1, KT_u hn b1.2.2 d1.2.2 b2.2.2 d2.2.2]
theorem MasP_fun {n : Nat} {t1 t2 t3 what z z' : Int} (hn : n ≤ 7) (h : MasP n t1 t2 t3 what z) (h' : MasP n t1 t2 t3 what z') : z' = z := by
  rcases h with ⟨a1, a2⟩ | ⟨i1, i2, i3, b1, b2, bw, b3⟩ <;> rcases h' with ⟨c1, c2⟩ | ⟨j1, j2, j3, d1, d2, dw, d3⟩
  · omega
  · exact absurd ⟨⟨kndB_of d1.1 d2.1, kndB_of d1.2.1 d2.2.1, kndB_of d1.2.2 d2.2.2⟩, dw⟩ a1
  · exact absurd ⟨⟨kndB_of b1.1 b2.1, kndB_of b1.2.1 b2.2.1, kndB_of b1.2.2 b2.2.2⟩, bw⟩ c1
  · rw [b3, d3, KT_u hn b1.1 d1.1 b2.1 d2.1, KT_u hn b1.2.1 d1.2.1 b2.2.1 d2.2.1, KT_u hn b1.2.2 d1.2.2 b2.2.2 d2.2.2]
theorem ClsP_fun {n : Nat} {t1 t2 t3 i what z z' : Int} (hn : n ≤ 7) (h : ClsP n t1 t2 t3 i what z) (h' : ClsP n t1 t2 t3 i what z') : z' = z := by
  rcases h with ⟨a1, a2⟩ | ⟨i1, i2, i3, b1, b2, bw, b3⟩ <;> rcases h' with ⟨c1, c2⟩ | ⟨j1, j2, j3, d1, d2, dw, d3⟩
  · omega
  · exact absurd ⟨⟨kndB_of d1.1 d2.1, kndB_of d1.2.1 d2.2.1, kndB_of d1.2.2 d2.2.2⟩, dw⟩ a1
  · exact absurd ⟨⟨kndB_of b1.1 b2.1, kndB_of b1.2.1 b2.2.1, kndB_of b1.2.2 b2.2.2⟩, bw⟩ c1
  · rw [b3, d3, KT_u hn b1.1 d1.1 b2.1 d2.1, KT_u hn b1.2.1 d1.2.1 b2.2.1 d2.2.1, KT_u hn b1.2.2 d1.2.2 b2.2.2 d2.2.2]
theorem GenP_fun {n : Nat} {t1 t2 g z z' : Int} (hn : n ≤ 7) (h : GenP n t1 t2 g z) (h' : GenP n t1 t2 g z') : z' = z := by
  rcases h with ⟨a1, a2⟩ | ⟨i1, i2, b1, b2, bw, b3⟩ <;> rcases h' with ⟨c1, c2⟩ | ⟨j1, j2, d1, d2, dw, d3⟩
  · omega
  · exact absurd ⟨⟨kndB_of d1.1 d2.1, kndB_of d1.2 d2.2⟩, dw⟩ a1
  · exact absurd ⟨⟨kndB_of b1.1 b2.1, kndB_of b1.2 b2.2⟩, bw⟩ c1
  · rw [b3, d3, KT_u hn b1.1 d1.1 b2.1 d2.1, KT_u hn b1.2 d1.2 b2.2 d2.2]
theorem ThrP_fun {n : Nat} {t1 t2 i z z' : Int} (hn : n ≤ 7) (h : ThrP n t1 t2 i z) (h' : ThrP n t1 t2 i z') : z' = z := by
  rcases h with ⟨a1, a2⟩ | ⟨i1, i2, b1, b2, bw, b3⟩ <;> rcases h' with ⟨c1, c2⟩ | ⟨j1, j2, d1, d2, dw, d3⟩
  · omega
  · exact absurd ⟨⟨kndB_of d1.1 d2.1, kndB_of d1.2 d2.2⟩, dw⟩ a1
  · exact absurd ⟨⟨kndB_of b1.1 b2.1, kndB_of b1.2 b2.2⟩, bw⟩ c1
  · rw [b3, d3, KT_u hn b1.1 d1.1 b2.1 d2.1, KT_u hn b1.2 d1.2 b2.2 d2.2]
theorem RotP_fun {n : Nat} {s a : Nat → Nat} {wh k i z z' : Int} (h : RotP n s a wh k i z) (h' : RotP n s a wh k i z') : z' = z := by
  rcases h with ⟨a1, a2⟩ | ⟨b1, b2⟩ <;> rcases h' with ⟨c1, c2⟩ | ⟨d1, d2⟩
  · omega
  · exact absurd d1 a1
  · exact absurd b1 c1
  · omega
theorem SibP_fun {n : Nat} {s a : Nat → Nat} {z z' : Int} (hn : n ≤ 7) (h : SibP n s a z) (h' : SibP n s a z') : z' = z := by
  obtain ⟨i1, i2, i3, b1, b2, b3⟩ := h
  obtain ⟨j1, j2, j3, d1, d2, d3⟩ := h'
  have e1 : i1 = j1 := kT_inj n (by omega) i1 b1.1 j1 d1.1 (b2.1.symm.trans d2.1)
  have e2 : i2 = j2 := kT_inj n (by omega) i2 b1.2.1 j2 d1.2.1 (b2.2.1.symm.trans d2.2.1)
  have e3 : i3 = j3 := kT_inj n (by omega) i3 b1.2.2 j3 d1.2.2 (b2.2.2.symm.trans d2.2.2)
  rw [b3, d3, e1, e2, e3]
theorem CntP_fun {n : Nat} {s a : Nat → Nat} {al : Nat} {b st what z z' : Int} (hn : n ≤ 7) (h : CntP n s a al b st what z) (h' : CntP n s a al b st what z') : z' = z := by
  rcases h with ⟨a1, a2⟩ | ⟨a1, a2, a3⟩ | ⟨a1, a2, a3⟩ <;> rcases h' with ⟨c1, c2⟩ | ⟨c1, c2, c3⟩ | ⟨c1, c2, c3⟩
  all_goals first
    | exact absurd c1 a1
    | exact absurd a1 c1
    | (rw [a2] at c2; exact absurd c2 (by decide))
    | exact SibP_fun hn a3 c3
    | omega

/-! the calls that change what is told, pair by pair -/
def PQ (q : ST) (b : Nat) (T : Nat → Int) (KL : List ST) : Prop := STV q ∧ (b ≤ 120 ∧ ∀ j, j < 120 → 0 ≤ T j ∧ T j ≤ 255) ∧ KL.length ≤ 8 ∧ ∀ i, i < KL.length → STV (KL.getD i st0)
def CQ (w : Wd) (q : ST) (b : Nat) (T : Nat → Int) (KL : List ST) : Prop := CSt w 2 q ∧ (w 0 1 = (b : Nat) ∧ ∀ j, j < 120 → w 1 j = T j) ∧ (w 0 5 = (KL.length : Nat) ∧ ∀ i, i < KL.length → CSt w (31 + 4 * i) (KL.getD i st0)) ∧ GInv w ∧ CInv w
def RQ (w : Wd) (q : ST) (b : Nat) (T : Nat → Int) (KL : List ST) : Prop := IR w q ∧ (w 63 16 = (b : Nat) ∧ TpM w T) ∧ (w 63 53 = (KL.length : Nat) ∧ ∀ i, i < KL.length → KMt w i (KL.getD i st0))
section PairS
variable {w w' : Wd} {q : ST} {b : Nat} {T : Nat → Int} {KL : List ST}
theorem InvQ.split (h : InvQ w q b T KL) : PQ q b T KL ∧ CQ w q b T KL ∧ RQ w q b T KL := by
  obtain ⟨hA, hR, hT, hK, hG, hC⟩ := h
  exact ⟨⟨hA.1, ⟨hT.1, hT.2.2.2.2.1⟩, hK.1, fun i hi => (hK.2.2.2 i hi).1⟩, ⟨hA.2, ⟨hT.2.1, hT.2.2.2.1⟩, ⟨hK.2.1, fun i hi => (hK.2.2.2 i hi).2.1⟩, hG, hC⟩, hR, ⟨hT.2.2.1, hT.2.2.2.2.2⟩, hK.2.2.1, fun i hi => (hK.2.2.2 i hi).2.2⟩
theorem Inv.mk (hp : PQ q b T KL) (hc : CQ w q b T KL) (hr : RQ w q b T KL) : Inv w :=
  ⟨q, b, T, KL, ⟨hp.1, hc.1⟩, hr.1, ⟨hp.2.1.1, hc.2.1.1, hr.2.1.1, hc.2.1.2, hp.2.1.2, hr.2.1.2⟩, ⟨hp.2.2.1, hc.2.2.1.1, hr.2.2.1, fun i hi => ⟨hp.2.2.2 i hi, hc.2.2.1.2 i hi, hr.2.2.2 i hi⟩⟩, hc.2.2.2.1, hc.2.2.2.2⟩
theorem CQ.kp (h : CQ w q b T KL) (hK8 : KL.length ≤ 8) (hf : ∀ o, o < 63 → ∀ j, w' o j = w o j) : CQ w' q b T KL :=
  ⟨h.1.kp (fun p q1 q2 j => hf p (by omega) j), ⟨(hf 0 (by omega) 1).trans h.2.1.1, fun j hj => (hf 1 (by omega) j).trans (h.2.1.2 j hj)⟩, ⟨(hf 0 (by omega) 5).trans h.2.2.1.1, fun i hi => (h.2.2.1.2 i hi).kp (fun p q1 q2 j => hf p (by omega) j)⟩, h.2.2.2.1.kp (fun o q1 q2 j => hf o (by omega) j), h.2.2.2.2.fr (fun o q1 q2 j => hf o (by omega) j)⟩
theorem RQ.kp (h : RQ w q b T KL) (hf : ∀ o, 63 ≤ o → ∀ j, w' o j = w o j) : RQ w' q b T KL :=
  ⟨h.1.kp (fun j _ => hf 63 (by omega) j) (fun o q1 j => hf o (by omega) j), ⟨(hf 63 (by omega) 16).trans h.2.1.1, h.2.1.2.kp (hf 74 (by omega))⟩, (hf 63 (by omega) 53).trans h.2.2.1, fun i hi => (h.2.2.2 i hi).kp (hf 98 (by omega))⟩
/-- what a call of the class's leaves alone, told by a list of cells -/
theorem Fr.hi {cs : List Nat} (hf : Fr cs w w') (hc : cs.all (fun o => Nat.blt o 63) = true) : ∀ o, 63 ≤ o → ∀ j, w' o j = w o j := fun o ho j => hf o j (by
  rw [Bool.eq_false_iff]
  intro h
  have := Nat.le_of_ble_eq_true (List.all_eq_true.mp hc o (List.contains_iff_mem.mp h))
  omega)
theorem Fr.lo {cs : List Nat} (hf : Fr cs w w') (hc : cs.all (fun o => Nat.ble 63 o) = true) : ∀ o, o < 63 → ∀ j, w' o j = w o j := fun o ho j => hf o j (by
  rw [Bool.eq_false_iff]
  intro h
  have := Nat.le_of_ble_eq_true (List.all_eq_true.mp hc o (List.contains_iff_mem.mp h))
  omega)
theorem Tld.lo (h : Tld w w') : ∀ o, o < 63 → ∀ j, w' o j = w o j := fun o ho j => h o j (by
  unfold keepT
  rw [if_neg (by omega)]
  have : Nat.blt o 63 = true := Nat.ble_eq_true_of_le (by omega)
  rw [this]; rfl)
theorem ScW.lo (h : ScW w w') : ∀ o, o < 63 → ∀ j, w' o j = w o j := fun o ho j => h o j (by
  unfold keepB
  rw [if_neg (by omega)]
  have : Nat.blt o 69 = true := Nat.ble_eq_true_of_le (by omega)
  rw [this]; rfl) (by omega)
/-- the class's map is another one: cell 2 alone -/
theorem CQ.map (h : CQ w q b T KL) (hK8 : KL.length ≤ 8) {n : Nat} {s a : Nat → Nat} {cs : List Nat} (hf : Fr cs w w') (hc : [1, 3, 4, 5, 14, 15, 16, 19, 20, 21, 22, 23, 24, 25, 26].all (fun o => !cs.contains o) = true) (hc2 : cs.all (fun o => Nat.blt o 31) = true) (h01 : w' 0 1 = w 0 1) (h05 : w' 0 5 = w 0 5) (hM : MapW w' n s a) (h3 : w' 2 3 = w 2 3) : CQ w' ((n, s, a), q.2) b T KL := by
  have hk : ∀ o ∈ [1, 3, 4, 5, 14, 15, 16, 19, 20, 21, 22, 23, 24, 25, 26], ∀ j, w' o j = w o j := fun o ho j => hf o j (by have := List.all_eq_true.mp hc o ho; simpa using this)
  have hk2 : ∀ o, 31 ≤ o → ∀ j, w' o j = w o j := fun o ho j => hf o j (by
    rw [Bool.eq_false_iff]
    intro h
    have := Nat.le_of_ble_eq_true (List.all_eq_true.mp hc2 o (List.contains_iff_mem.mp h))
    omega)
  refine ⟨⟨hM, h3.trans h.1.2.1, fun i hi => by rw [hk 3 (by decide), hk 4 (by decide), hk 5 (by decide)]; exact h.1.2.2 i hi⟩, ⟨h01.trans h.2.1.1, fun j hj => (hk 1 (by decide) j).trans (h.2.1.2 j hj)⟩, ⟨h05.trans h.2.2.1.1, fun i hi => (h.2.2.1.2 i hi).kp (fun p q1 q2 j => hk2 p (by omega) j)⟩, h.2.2.2.1.kp (fun o q1 q2 j => hk o (by rcases (show o = 14 ∨ o = 15 ∨ o = 16 by omega) with rfl | rfl | rfl <;> decide) j), h.2.2.2.2.fr (fun o q1 q2 j => hk o (by rcases (show o = 19 ∨ o = 20 ∨ o = 21 ∨ o = 22 ∨ o = 23 ∨ o = 24 ∨ o = 25 ∨ o = 26 by omega) with rfl | rfl | rfl | rfl | rfl | rfl | rfl | rfl <;> decide) j)⟩
/-- the reference's map is another one -/
theorem RQ.map (h : RQ w q b T KL) {n : Nat} {s a : Nat → Nat} (ht : Tld w w') (hM : RMW w' n s a) (hR : RTab w' n) : RQ w' ((n, s, a), q.2) b T KL :=
  ⟨⟨hM, hR, h.1.2.2.fr (ht 63 52 (by decide)) (fun o q1 q2 j => ht o j (by unfold keepT; rw [if_neg (by omega)]; rcases (show o = 94 ∨ o = 95 ∨ o = 96 ∨ o = 97 by omega) with rfl | rfl | rfl | rfl <;> rfl))⟩, ⟨(ht 63 16 (by decide)).trans h.2.1.1, h.2.1.2.kp (fun j => ht 74 j rfl)⟩, (ht 63 53 (by decide)).trans h.2.2.1, fun i hi => (h.2.2.2 i hi).kp (fun j => ht 98 j rfl)⟩
theorem PQ.map (h : PQ q b T KL) {n : Nat} {s a : Nat → Nat} (hV : MapV n s a) : PQ ((n, s, a), q.2) b T KL := ⟨⟨hV, h.1.2⟩, h.2⟩
end PairS
theorem TM_of {w : Wd} {T : Nat → Int} (h : TpM w T) (h1 : ∀ j, j < 120 → w 1 j = T j) : TpM w (w 1) := fun j hj => (h j hj).trans (by rw [h1 j hj])
theorem pr_degree (l : Launch) (G : Gx) {d : Int} (hd : rg d) {w : Wd} (hI : Inv w) : Pair l G 0 6 mX10_degree mX11_degree [aI d] w := by
  obtain ⟨q, b, T, KL, hI⟩ := hI
  obtain ⟨hp, hc, hr⟩ := hI.split
  refine Sp.mono (c_degree l G hd hI.V w hI.M) (fun z w1 h1 => ?_)
  have hr1 : RQ w1 q b T KL := by
    rcases h1 with ⟨_, e, _⟩ | ⟨_, hf, _⟩
    · rw [e]; exact hr
    · exact hr.kp (hf.hi (by decide))
  refine Sp.mono (c_degreeM l G hd hI.V w1 hr1.1.1 hr1.1.2.1) (fun z2 w2 h2 => ?_)
  rcases h1 with ⟨a1, e1, z1⟩ | ⟨a1, hf, hM, h3, z1⟩ <;> rcases h2 with ⟨a2, e2, z2⟩ | ⟨a2, ht, hRM, hRT, z2⟩
  · exact ⟨by omega, by rw [e2, e1]; exact ⟨q, b, T, KL, hI⟩⟩
  · exact absurd a2 a1
  · exact absurd a1 a2
  · exact ⟨by omega, Inv.mk (hp.map ⟨by omega, pm_id _, pm_id _⟩) ((hc.map hp.2.2.1 hf (by decide) (by decide) (hf 0 1 rfl) (hf 0 5 rfl) hM (h3 3 (by omega))).kp hp.2.2.1 ht.lo) (hr1.map ht hRM hRT)⟩
theorem pr_operate (l : Launch) (G : Gx) {d : Int} (hd : rg d) {w : Wd} (hI : Inv w) : Pair l G 4 4 mX10_operate mX11_operate [aI d] w := by
  obtain ⟨q, b, T, KL, hI⟩ := hI
  obtain ⟨hp, hc, hr⟩ := hI.split
  refine Sp.mono (c_operate l G hd hI.V w hI.M) (fun z w1 h1 => ?_)
  have hr1 : RQ w1 q b T KL := by
    rcases h1 with ⟨_, e, _⟩ | ⟨_, hf, _⟩
    · rw [e]; exact hr
    · exact hr.kp (hf.hi (by decide))
  refine Sp.mono (c_operateM l G hd hI.V w1 hr1.1.1 hr1.1.2.1) (fun z2 w2 h2 => ?_)
  rcases h1 with ⟨a1, e1, z1⟩ | ⟨a1, hf, hM, h3, z1⟩ <;> rcases h2 with ⟨a2, e2, z2⟩ | ⟨a2, ht, hRM, hRT, z2⟩
  · exact ⟨by omega, by rw [e2, e1]; exact ⟨q, b, T, KL, hI⟩⟩
  · exact absurd a2 a1
  · exact absurd a1 a2
  · exact ⟨by omega, Inv.mk (hp.map ⟨hI.V.1, pbw_pm hI.V _⟩) ((hc.map hp.2.2.1 hf (by decide) (by decide) (hf 0 1 rfl) (hf 0 5 rfl) hM (h3 3 (by omega))).kp hp.2.2.1 ht.lo) (hr1.map ht hRM hRT)⟩
theorem pr_tidy (l : Launch) (G : Gx) {w : Wd} (hI : Inv w) : Pair l G 11 3 mX10_tidy mX11_tidy [] w := by
  obtain ⟨q, b, T, KL, hI⟩ := hI
  obtain ⟨hp, hc, hr⟩ := hI.split
  refine Sp.mono (c_tidy l G hI.V w hI.M) (fun z w1 h1 => ?_)
  obtain ⟨hf, hM, h3, z1⟩ := h1
  have hr1 : RQ w1 q b T KL := hr.kp (hf.hi (by decide))
  refine Sp.mono (c_tidyM l G hI.V w1 hr1.1.1 hr1.1.2.1) (fun z2 w2 h2 => ?_)
  obtain ⟨ht, hRM, hRT, z2⟩ := h2
  exact ⟨by omega, Inv.mk (hp.map ⟨hI.V.1, canS_pm hI.V.1.1 hI.V.1.2 hI.V.2.1, (canA_pm hI.V.1.1 hI.V.1.2 hI.V.2.1 hI.V.2.2).1⟩) ((hc.map hp.2.2.1 hf (by decide) (by decide) (hf 0 1 rfl) (hf 0 5 rfl) hM (h3 3 (by omega))).kp hp.2.2.1 ht.lo) (hr1.map ht hRM hRT)⟩
theorem pr_drawn (l : Launch) (G : Gx) {d : Int} (hd : rg d) {w : Wd} (hI : Inv w) : Pair l G 3 2 mX10_drawn mX11_drawn [aI d] w := by
  obtain ⟨q, b, T, KL, hI⟩ := hI
  obtain ⟨hp, hc, hr⟩ := hI.split
  refine Sp.mono (c_drawn l G hd hI.V w hI.M) (fun z w1 h1 => ?_)
  obtain ⟨hf, h0, hM, h3, z1⟩ := h1
  have hr1 : RQ w1 q b T KL := hr.kp (hf.hi (by decide))
  refine Sp.mono (c_drawnM l G hd hI.V w1 hr1.1.1 hr1.1.2.1) (fun z2 w2 h2 => ?_)
  obtain ⟨ht, hRM, hRT, z2⟩ := h2
  exact ⟨by omega, Inv.mk (hp.map ⟨hI.V.1, drw_pm hI.V.1.1 _⟩) ((hc.map hp.2.2.1 hf (by decide) (by decide) (h0 1 (by decide)) (h0 5 (by decide)) hM (h3 3 (by omega))).kp hp.2.2.1 ht.lo) (hr1.map ht hRM hRT)⟩
theorem pr_take (l : Launch) (G : Gx) {d : Int} (hd : rg d) {w : Wd} (hI : Inv w) : Pair l G 0 5 mX10_take mX11_take [aI d] w := by
  obtain ⟨q, b, T, KL, hI⟩ := hI
  obtain ⟨hp, hc, hr⟩ := hI.split
  refine Sp.mono (c_take l G hd hI.AV hI.V w hI.M hI.AW) (fun z w1 h1 => ?_)
  have hr1 : RQ w1 q b T KL := by
    rcases h1 with ⟨_, e, _⟩ | ⟨_, hf, _⟩
    · rw [e]; exact hr
    · exact hr.kp (hf.hi (by decide))
  refine Sp.mono (c_takeM l G hd hI.AV hI.V w1 hr1.1.1 hr1.1.2.1 hr1.1.2.2) (fun z2 w2 h2 => ?_)
  rcases h1 with ⟨a1, e1, z1⟩ | ⟨a1, hf, hM, h3, z1⟩ <;> rcases h2 with ⟨a2, e2, z2⟩ | ⟨a2, ht, hRM, hRT, z2⟩
  · exact ⟨by omega, by rw [e2, e1]; exact ⟨q, b, T, KL, hI⟩⟩
  · exact absurd a2 a1
  · exact absurd a1 a2
  · have hmem : q.2.getD d.toNat pe0 ∈ q.2 := by
      rw [List.getD_eq_getElem?_getD, List.getElem?_eq_getElem (show d.toNat < q.2.length by omega)]
      exact List.getElem_mem _
    exact ⟨by omega, Inv.mk (hp.map (hI.AV.2 _ hmem)) ((hc.map hp.2.2.1 hf (by decide) (by decide) (hf 0 1 rfl) (hf 0 5 rfl) hM (h3 3 (by omega))).kp hp.2.2.1 ht.lo) (hr1.map ht hRM hRT)⟩
theorem RTab.scw {w w' : Wd} {n : Nat} (h : RTab w n) (hs : ScW w w') : RTab w' n := h.fr (hs 63 3 (by decide) (by omega)) (hs 63 4 (by decide) (by omega)) (fun o q1 q2 j => hs o j (by
  unfold keepB
  rw [if_neg (by omega)]
  have : Nat.blt o 69 = true := Nat.ble_eq_true_of_le (by omega)
  rw [this]; rfl) (by omega))
/-- the tape is empty behind it, all else stays (the reference) -/
theorem RQ.scw {w w' : Wd} {q : ST} {b : Nat} {T : Nat → Int} {KL : List ST} (h : RQ w q b T KL) (hs : ScW w w') (h16 : w' 63 16 = 0) : RQ w' q 0 T KL :=
  ⟨⟨⟨(hs 63 0 (by decide) (by omega)).trans h.1.1.1, (hs 63 1 (by decide) (by omega)).trans h.1.1.2.1, (hs 63 2 (by decide) (by omega)).trans h.1.1.2.2⟩, h.1.2.1.scw hs, h.1.2.2.fr (hs 63 52 (by decide) (by omega)) (fun o q1 q2 j => hs o j (by unfold keepB; rw [if_neg (by omega)]; simp; omega) (by omega))⟩, ⟨h16, h.2.1.2.kp (fun j => hs 74 j rfl (by omega))⟩, (hs 63 53 (by decide) (by omega)).trans h.2.2.1, fun i hi => (h.2.2.2 i hi).kp (fun j => hs 98 j rfl (by omega))⟩
theorem PQ.b0 {q : ST} {b : Nat} {T : Nat → Int} {KL : List ST} (h : PQ q b T KL) : PQ q 0 T KL := ⟨h.1, ⟨by omega, h.2.1.2⟩, h.2.2⟩
theorem PQ.T0 {q : ST} {b : Nat} {T T' : Nat → Int} {KL : List ST} (h : PQ q b T KL) (e : ∀ j, j < 120 → T' j = T j) : PQ q b T' KL := ⟨h.1, ⟨h.2.1.1, fun j hj => by rw [e j hj]; exact h.2.1.2 j hj⟩, h.2.2⟩
theorem CQ.T0 {w : Wd} {q : ST} {b : Nat} {T T' : Nat → Int} {KL : List ST} (h : CQ w q b T KL) (e : ∀ j, j < 120 → T' j = T j) : CQ w q b T' KL := ⟨h.1, ⟨h.2.1.1, fun j hj => (h.2.1.2 j hj).trans (e j hj).symm⟩, h.2.2⟩
theorem RQ.T0 {w : Wd} {q : ST} {b : Nat} {T T' : Nat → Int} {KL : List ST} (h : RQ w q b T KL) (e : ∀ j, j < 120 → T' j = T j) : RQ w q b T' KL := ⟨h.1, ⟨h.2.1.1, fun j hj => (h.2.1.2 j hj).trans (by rw [e j hj])⟩, h.2.2⟩
/-- every state between calls is one whose tape is told by the class's own row -/
theorem Inv.own {w : Wd} (h : Inv w) : ∃ q b KL, InvQ w q b (w 1) KL := by
  obtain ⟨q, b, T, KL, hI⟩ := h
  obtain ⟨hA, hR, hT, hK, hG, hC⟩ := hI
  exact ⟨q, b, KL, hA, hR, ⟨hT.1, hT.2.1, hT.2.2.1, fun _ _ => rfl, fun j hj => by rw [hT.2.2.2.1 j hj]; exact hT.2.2.2.2.1 j hj, TM_of hT.2.2.2.2.2 hT.2.2.2.1⟩, hK, hG, hC⟩
theorem pr_walk (l : Launch) (G : Gx) {d k : Int} (hd : rg d) (hk : rg k) {w : Wd} (hI : Inv w) : Pair l G 6 6 mX10_walk mX11_walk [aI d, aI k] w := by
  obtain ⟨q, b, KL, hI⟩ := hI.own
  obtain ⟨hp, hc, hr⟩ := hI.split
  have hb : rg (b : Nat) := by have := hI.b120; omega
  refine Sp.mono (c_walk l G hd hk hb hI.V w hI.M hI.B (fun j hj => by have := hI.TR j hj; omega)) (fun z w1 h1 => ?_)
  have hr1 : RQ w1 q b (w 1) KL := by
    rcases h1 with ⟨_, e, _⟩ | ⟨_, hf, _⟩
    · rw [e]; exact hr
    · exact hr.kp (fun o ho j => by rw [hf, up_ne _ _ (by omega)])
  refine Sp.mono (c_walkM l G hd hk hb hI.TR hI.V w1 hr1.1.1 hr1.2.1.1 hr1.2.1.2) (fun z2 w2 h2 => ?_)
  rcases h1 with ⟨a1, e1, z1⟩ | ⟨a1, hf, z1⟩ <;> rcases h2 with ⟨a2, e2, z2⟩ | ⟨a2, ht, h16, z2⟩
  · exact ⟨by omega, by rw [e2, e1]; exact ⟨q, b, _, KL, hI⟩⟩
  · exact absurd a2 a1
  · exact absurd a1 a2
  · refine ⟨?_, Inv.mk hp.b0 (CQ.kp ?_ hp.2.2.1 ht.lo) (hr1.scw ht h16)⟩
    · rcases z1 with ⟨u1, v1⟩ | ⟨g, u1, u2, v1⟩ <;> rcases z2 with ⟨u3, v2⟩ | ⟨g', u3, u4, v2⟩
      · omega
      · omega
      · omega
      · have e : g = g' := (hx_inj u1 u3 hI.V.1.2 hI.V.1.2).mp (by omega)
        rw [v1, v2, e]
    · have hk1 : ∀ o j, ¬ (o = 0 ∧ j = 1) → w1 o j = w o j := fun o j hh => by rw [hf, up_ne _ _ hh]
      exact ⟨hc.1.kp (fun p q1 q2 j => hk1 p j (by omega)), ⟨by rw [hf, up_eq]; rfl, fun j hj => hk1 1 j (by omega)⟩, ⟨(hk1 0 5 (by omega)).trans hc.2.2.1.1, fun i hi => (hc.2.2.1.2 i hi).kp (fun p q1 q2 j => hk1 p j (by omega))⟩, hc.2.2.2.1.kp (fun o q1 q2 j => hk1 o j (by omega)), hc.2.2.2.2.fr (fun o q1 q2 j => hk1 o j (by omega))⟩
def MADE : Prop := ∀ (n : Nat) (s a : Nat → Nat) (T : Nat → Int) (k : Nat) (g : Nat → Nat), MapV n s a → Pm n g → spI s a T k 0 pid = (hx g : Nat) → lenI n s a g = (bfs n s a).2 (rankN g n)
theorem pr_made (l : Launch) (G : Gx) {k what : Int} (hk : rg k) (hwt : rg what) (hmd : MADE) {w : Wd} (hI : Inv w) : Pair l G 6 6 mX10_made mX11_made [aI k, aI what] w := by
  obtain ⟨q, b, KL, hI⟩ := hI.own
  obtain ⟨hp, hc, hr⟩ := hI.split
  have hb : rg (b : Nat) := by have := hI.b120; omega
  refine Sp.mono (c_made l G hk hwt hb hI.V w hI.M hI.G hI.B (fun j hj => by have := hI.TR j hj; omega)) (fun z w1 h1 => ?_)
  have hr1 : RQ w1 q b (w 1) KL := by
    rcases h1 with ⟨_, e, _⟩ | ⟨_, hf, _⟩
    · rw [e]; exact hr
    · exact hr.kp (hf.hi (by decide))
  refine Sp.mono (c_madeM l G hk hwt hb hI.TR hI.V w1 hr1.1.1 hr1.1.2.1 hr1.2.1.1 hr1.2.1.2) (fun z2 w2 h2 => ?_)
  rcases h1 with ⟨a1, e1, z1⟩ | ⟨a1, hf, h01, h0, hG, z1⟩ <;> rcases h2 with ⟨a2, e2, z2⟩ | ⟨a2, ht, h16, z2⟩
  · exact ⟨by omega, by rw [e2, e1]; exact ⟨q, b, _, KL, hI⟩⟩
  · exact absurd a2 a1
  · exact absurd a1 a2
  · refine ⟨?_, Inv.mk hp.b0 (CQ.kp ?_ hp.2.2.1 ht.lo) (hr1.scw ht h16)⟩
    · rcases z1 with ⟨u1, v1⟩ | ⟨g, u1, u2, v1⟩ <;> rcases z2 with ⟨u3, v2⟩ | ⟨g', u3, u4, v2⟩
      · omega
      · omega
      · omega
      · have e : g = g' := (hx_inj u1 u3 hI.V.1.2 hI.V.1.2).mp (by omega)
        subst e
        rw [v1, v2, hmd _ _ _ _ _ _ hI.V u1 u2]
    · have hk1 : ∀ o, o ≠ 0 → o ≠ 14 → o ≠ 15 → o ≠ 16 → ∀ j, w1 o j = w o j := fun o q0 q1 q2 q3 j => hf o j (by simp; omega)
      exact ⟨hc.1.kp (fun p q1 q2 j => hk1 p (by omega) (by omega) (by omega) (by omega) j), ⟨by rw [h01]; rfl, fun j hj => hk1 1 (by omega) (by omega) (by omega) (by omega) j⟩, ⟨(h0 5 (by omega)).trans hc.2.2.1.1, fun i hi => (hc.2.2.1.2 i hi).kp (fun p q1 q2 j => hk1 p (by omega) (by omega) (by omega) (by omega) j)⟩, hG, hc.2.2.2.2.fr (fun o q1 q2 j => hk1 o (by omega) (by omega) (by omega) (by omega) j)⟩
/-! feed, set, text, paste, keep, undo -/
theorem pr_feed (l : Launch) (G : Gx) {v1 v2 v3 v4 v5 : Int} (hv1 : rg v1) (hv2 : rg v2) (hv3 : rg v3) (hv4 : rg v4) (hv5 : rg v5) {w : Wd} (hI : Inv w) : Pair l G 1 1 mX10_feed mX11_feed [aI v1, aI v2, aI v3, aI v4, aI v5] w := by
  obtain ⟨q, b, KL, hI⟩ := hI.own
  obtain ⟨hp, hc, hr⟩ := hI.split
  refine Sp.mono (c_feed l G hv1 hv2 hv3 hv4 hv5 hI.b120 w hI.B) (fun z w1 h1 => ?_)
  have hr1 : RQ w1 q b (w 1) KL := by
    rcases h1 with ⟨_, e, _⟩ | ⟨_, _, _, _, hf, _⟩
    · rw [e]; exact hr
    · exact hr.kp (hf.hi (by decide))
  refine Sp.mono (c_feedM l G hv1 hv2 hv3 hv4 hv5 hI.b120 w1 hr1.2.1.1 hr1.2.1.2) (fun z2 w2 h2 => ?_)
  rcases h1 with ⟨a1, e1, z1⟩ | ⟨a1, h01, h1j, h0, hf, z1⟩ <;> rcases h2 with ⟨a2, e2, z2⟩ | ⟨a2, h16, hTp, h63, hf2, z2⟩
  · exact ⟨by omega, by rw [e2, e1]; exact ⟨q, b, _, KL, hI⟩⟩
  · omega
  · omega
  · have hk1 : ∀ o, 2 ≤ o → ∀ j, w1 o j = w o j := fun o q1 j => hf o j (by simp; omega)
    have hk2 : ∀ o, o ≠ 63 → o ≠ 74 → ∀ j, w2 o j = w1 o j := fun o q1 q2 j => hf2 o j (by simp; omega)
    refine ⟨by omega, Inv.mk (q := q) (b := b + 20) (T := fdT (w 1) b v1 v2 v3 v4 v5) (KL := KL) ⟨hp.1, ⟨by omega, ?_⟩, hp.2.2⟩ (CQ.kp (w := w1) ?_ hp.2.2.1 (fun o ho j => hk2 o (by omega) (by omega) j)) ?_⟩
    · exact apT_in (apT_in (apT_in (apT_in (apT_in hp.2.1.2 _ _ _) _ _ _) _ _ _) _ _ _) _ _ _
    · exact ⟨hc.1.kp (fun p q1 q2 j => hk1 p (by omega) j), ⟨h01, fun j _ => h1j j⟩, ⟨(h0 5 (by omega)).trans hc.2.2.1.1, fun i hi => (hc.2.2.1.2 i hi).kp (fun p q1 q2 j => hk1 p (by omega) j)⟩, hc.2.2.2.1.kp (fun o q1 q2 j => hk1 o (by omega) j), hc.2.2.2.2.fr (fun o q1 q2 j => hk1 o (by omega) j)⟩
    · exact ⟨hr1.1.kp (fun j hj => h63 j (by omega)) (fun o q1 j => hk2 o (by omega) (by omega) j), ⟨h16, hTp⟩, (h63 53 (by omega)).trans hr1.2.2.1, fun i hi => (hr1.2.2.2 i hi).kp (fun j => hk2 98 (by omega) (by omega) j)⟩
theorem pr_set (l : Launch) (G : Gx) {wh p : Int} (hwh : rg wh) (hp0 : rg p) {w : Wd} (hI : Inv w) : Pair l G 4 4 mX10_set mX11_set [aI wh, aI p] w := by
  obtain ⟨q, b, T, KL, hI⟩ := hI
  obtain ⟨hp, hc, hr⟩ := hI.split
  refine Sp.mono (c_set l G hwh hp0 hI.V w hI.M) (fun z w1 h1 => ?_)
  have hr1 : RQ w1 q b T KL := by
    rcases h1 with ⟨_, e, _⟩ | ⟨_, f, _, _, e, _⟩
    · rw [e]; exact hr
    · exact hr.kp (fun o ho j => by rw [e, up_ne _ _ (by omega)])
  refine Sp.mono (c_setM l G hwh hp0 hI.V w1 hr1.1.1) (fun z2 w2 h2 => ?_)
  rcases h1 with ⟨a1, e1, z1⟩ | ⟨a1, f, hf, hfp, e1, z1⟩ <;> rcases h2 with ⟨a2, e2, z2⟩ | ⟨a2, f', hf', hfp', ⟨wm, hfr, e2⟩, z2⟩
  · exact ⟨by omega, by rw [e2, e1]; exact ⟨q, b, T, KL, hI⟩⟩
  · rcases a1 with a1 | a1
    · exact absurd a2 a1
    · exact absurd hfp' (a1 f' hf')
  · rcases a2 with a2 | a2
    · exact absurd a1 a2
    · exact absurd hfp (a2 f hf)
  · have e : f = f' := (cd_inj hf hf' hI.V.1.2).mp (by omega)
    subst e
    have hk1 : ∀ o, o ≠ 2 → ∀ j, w1 o j = w o j := fun o q1 j => by rw [e1, up_ne _ _ (by omega)]
    have hk2 : ∀ o, o ≠ 63 → o ≠ 69 → o ≠ 70 → ∀ j, w2 o j = w1 o j := fun o q1 q2 q3 j => by rw [e2, up_ne _ _ (by omega)]; exact hfr o j (by simp; omega)
    have hk3 : ∀ j, j ≠ 1 → j ≠ 2 → w2 63 j = w1 63 j := fun j q1 q2 => by rw [e2, up_ne _ _ (by split <;> omega)]; exact hfr 63 j rfl
    have hV2 : MapV q.1.1 (if wh = 0 then f else q.1.2.1) (if wh = 0 then q.1.2.2 else f) := by
      split
      · exact ⟨hI.V.1, hf, hI.V.2.2⟩
      · exact ⟨hI.V.1, hI.V.2.1, hf⟩
    have hM1 : MapW w1 q.1.1 (if wh = 0 then f else q.1.2.1) (if wh = 0 then q.1.2.2 else f) := by
      have h := hI.M
      refine ⟨by rw [e1, up_ne _ _ (by split <;> omega)]; exact h.1, ?_, ?_⟩
      · rw [e1]
        split
        · rw [up_eq]
        · rw [up_ne _ _ (by omega)]; exact h.2.1
      · rw [e1]
        split
        · rw [up_ne _ _ (by omega)]; exact h.2.2
        · rw [up_eq]
    have hM2 : RMW w2 q.1.1 (if wh = 0 then f else q.1.2.1) (if wh = 0 then q.1.2.2 else f) := by
      have h := hr1.1.1
      refine ⟨by rw [e2, up_ne _ _ (by split <;> omega), hfr 63 0 rfl]; exact h.1, ?_, ?_⟩
      · rw [e2]
        split
        · rw [up_eq]
        · rw [up_ne _ _ (by omega), hfr 63 1 rfl]; exact h.2.1
      · rw [e2]
        split
        · rw [up_ne _ _ (by omega), hfr 63 2 rfl]; exact h.2.2
        · rw [up_eq]
    have hfC : Fr [2] w w1 := fun o j hh => hk1 o (by simpa using hh) j
    refine ⟨by omega, Inv.mk (hp.map hV2) ((hc.map hp.2.2.1 hfC (by decide) (by decide) (hk1 0 (by omega) 1) (hk1 0 (by omega) 5) hM1 (by rw [e1, up_ne _ _ (by split <;> omega)])).kp hp.2.2.1 (fun o ho j => hk2 o (by omega) (by omega) (by omega) j)) ?_⟩
    exact ⟨⟨hM2, hr1.1.2.1.fr (hk3 3 (by omega) (by omega)) (hk3 4 (by omega) (by omega)) (fun o q1 q2 j => hk2 o (by omega) (by omega) (by omega) j), hr1.1.2.2.fr (hk3 52 (by omega) (by omega)) (fun o q1 q2 j => hk2 o (by omega) (by omega) (by omega) j)⟩, ⟨(hk3 16 (by omega) (by omega)).trans hr1.2.1.1, hr1.2.1.2.kp (hk2 74 (by omega) (by omega) (by omega))⟩, (hk3 53 (by omega) (by omega)).trans hr1.2.2.1, fun i hi => (hr1.2.2.2 i hi).kp (hk2 98 (by omega) (by omega) (by omega))⟩
theorem pr_text (l : Launch) (G : Gx) {wh k : Int} (hwh : rg wh) (hk : rg k) {w : Wd} (hI : Inv w) : Pair l G 4 4 mX10_text mX11_text [aI wh, aI k] w := by
  obtain ⟨q, b, KL, hI⟩ := hI.own
  obtain ⟨hp, hc, hr⟩ := hI.split
  have hb : rg (b : Nat) := by have := hI.b120; omega
  refine Sp.mono (c_text l G hwh hk hb hI.V w hI.M hI.B hI.TR) (fun z w1 h1 => ?_)
  have hr1 : RQ w1 q b (w 1) KL := by
    rcases h1 with ⟨_, e, _⟩ | ⟨_, hf, _⟩
    · rw [e]; exact hr
    · exact hr.kp (hf.hi (by decide))
  refine Sp.mono (c_textM l G hwh hk hb hI.TR hI.V w1 hr1.1.1 hr1.2.1.1 hr1.2.1.2) (fun z2 w2 h2 => ?_)
  rcases h1 with ⟨a1, e1, z1⟩ | ⟨a1, hf, h01, h0, h3, z1⟩ <;> rcases h2 with ⟨a2, e2, z2⟩ | ⟨a2, ht, h16, z2⟩
  · exact ⟨by omega, by rw [e2, e1]; exact ⟨q, b, _, KL, hI⟩⟩
  · exact absurd a2 a1
  · exact absurd a1 a2
  · have key : ∀ (S A : Nat → Nat), MapV q.1.1 S A → MapW w1 q.1.1 S A → RMW w2 q.1.1 S A → Inv w2 := by
      intro S A hV2 hM1 hM2
      have hk2 : ∀ o, o ≠ 63 → o ≠ 69 → o ≠ 70 → o ≠ 75 → ∀ j, w2 o j = w1 o j := fun o q1 q2 q3 q4 j => ht.2 o j (by simp; omega)
      have hc1 : CQ w1 ((q.1.1, S, A), q.2) 0 (w 1) KL := by
        have hkx : ∀ o, o ≠ 0 → o ≠ 2 → o ≠ 30 → ∀ j, w1 o j = w o j := fun o q1 q2 q3 j => hf o j (by simp; omega)
        exact ⟨⟨hM1, (h3 3 (by omega)).trans hc.1.2.1, fun i hi => by rw [hkx 3 (by omega) (by omega) (by omega), hkx 4 (by omega) (by omega) (by omega), hkx 5 (by omega) (by omega) (by omega)]; exact hc.1.2.2 i hi⟩, ⟨by rw [h01]; rfl, fun j _ => hkx 1 (by omega) (by omega) (by omega) j⟩, ⟨(h0 5 (by omega)).trans hc.2.2.1.1, fun i hi => (hc.2.2.1.2 i hi).kp (fun p q1 q2 j => hkx p (by omega) (by omega) (by omega) j)⟩, hc.2.2.2.1.kp (fun o q1 q2 j => hkx o (by omega) (by omega) (by omega) j), hc.2.2.2.2.fr (fun o q1 q2 j => hkx o (by omega) (by omega) (by omega) j)⟩
      refine Inv.mk (q := ((q.1.1, S, A), q.2)) (b := 0) (T := w 1) (KL := KL) (hp.b0.map hV2) (hc1.kp hp.2.2.1 (fun o ho j => hk2 o (by omega) (by omega) (by omega) (by omega) j)) ?_
      have h63 : ∀ j, j ≠ 1 → j ≠ 2 → j ≠ 16 → j ≠ 17 → j ≠ 18 → j ≠ 19 → w2 63 j = w1 63 j := ht.1
      exact ⟨⟨hM2, hr1.1.2.1.fr (h63 3 (by omega) (by omega) (by omega) (by omega) (by omega) (by omega)) (h63 4 (by omega) (by omega) (by omega) (by omega) (by omega) (by omega)) (fun o q1 q2 j => hk2 o (by omega) (by omega) (by omega) (by omega) j), hr1.1.2.2.fr (h63 52 (by omega) (by omega) (by omega) (by omega) (by omega) (by omega)) (fun o q1 q2 j => hk2 o (by omega) (by omega) (by omega) (by omega) j)⟩, ⟨h16, hr1.2.1.2.kp (hk2 74 (by omega) (by omega) (by omega) (by omega))⟩, (h63 53 (by omega) (by omega) (by omega) (by omega) (by omega) (by omega)).trans hr1.2.2.1, fun i hi => (hr1.2.2.2 i hi).kp (hk2 98 (by omega) (by omega) (by omega) (by omega))⟩
    rcases z1 with ⟨u1, v1, m1⟩ | ⟨u1, u2, v1, m1⟩ | ⟨u1, u2, u3, m1, v1⟩ <;> rcases z2 with ⟨s1, v2, m2⟩ | ⟨s1, s2, v2, m2⟩ | ⟨s1, s2, s3, m2, v2⟩
    all_goals first
      | exact absurd s1 u1
      | exact absurd u1 s1
      | exact absurd s2 u2
      | exact absurd u2 s2
      | exact ⟨by omega, key _ _ hI.V m1 m2⟩
      | exact ⟨by omega, key _ _ (by split <;> exact ⟨hI.V.1, by first | exact u3 | exact hI.V.2.1, by first | exact u3 | exact hI.V.2.2⟩) m1 m2⟩
theorem gdp_l {L : List PE} {x : PE} {i : Nat} (h : i < L.length) : (L ++ [x]).getD i pe0 = L.getD i pe0 := by
  rw [List.getD_eq_getElem?_getD, List.getD_eq_getElem?_getD, List.getElem?_append_left h]
theorem gdp_r {L : List PE} {x : PE} : (L ++ [x]).getD L.length pe0 = x := by
  rw [List.getD_eq_getElem?_getD, List.getElem?_append_right (Nat.le_refl _), Nat.sub_self]; rfl
theorem gds_l {L : List ST} {x : ST} {i : Nat} (h : i < L.length) : (L ++ [x]).getD i st0 = L.getD i st0 := by
  rw [List.getD_eq_getElem?_getD, List.getD_eq_getElem?_getD, List.getElem?_append_left h]
theorem gds_r {L : List ST} {x : ST} : (L ++ [x]).getD L.length st0 = x := by
  rw [List.getD_eq_getElem?_getD, List.getElem?_append_right (Nat.le_refl _), Nat.sub_self]; rfl
theorem gds_t {L : List ST} {i k : Nat} (h : i < k) : (L.take k).getD i st0 = L.getD i st0 := by
  rw [List.getD_eq_getElem?_getD, List.getD_eq_getElem?_getD, List.getElem?_take_of_lt h]
theorem pr_paste (l : Launch) (G : Gx) (hgc : GCON) {w : Wd} (hI : Inv w) : Pair l G 11 4 mX10_paste mX11_paste [] w := by
  obtain ⟨q, b, T, KL, hI⟩ := hI
  obtain ⟨hp, hc, hr⟩ := hI.split
  refine Sp.mono (c_paste l G hI.AV hI.V w hI.M hI.AW) (fun z w1 h1 => ?_)
  have hr1 : RQ w1 q b T KL := by
    rcases h1 with ⟨_, _, e⟩ | ⟨_, hf, _⟩
    · rw [e]; exact hr
    · exact hr.kp (hf.hi (by decide))
  refine Sp.mono (c_pasteM l G hgc hI.AV hI.V w1 hr1.1.1 hr1.1.2.1 hr1.1.2.2) (fun z2 w2 h2 => ?_)
  obtain ⟨hRM, hRT, hld, h2⟩ := h2
  have key : ∀ (AL : List PE), AlV AL ∧ AlN AL → CQ w1 (q.1, AL) b T KL → AlM w2 AL → Inv w2 := fun AL hAV hc1 hAM =>
    Inv.mk (q := (q.1, AL)) (b := b) (T := T) (KL := KL) ⟨⟨hp.1.1, hAV⟩, hp.2⟩ (hc1.kp hp.2.2.1 hld.2.2.2.2) ⟨⟨hRM, hRT, hAM⟩, ⟨hld.1.trans hr1.2.1.1, hr1.2.1.2.kp hld.2.2.1⟩, hld.2.1.trans hr1.2.2.1, fun i hi => (hr1.2.2.2 i hi).kp hld.2.2.2.1⟩
  have mk1 : ∀ (AL : List PE), Fr [2, 3, 4, 5, 7, 8, 9, 10] w w1 → MapW w1 q.1.1 q.1.2.1 q.1.2.2 → AlW w1 2 AL → CQ w1 (q.1, AL) b T KL := fun AL hf hM hA => by
    have hkx : ∀ o, (o < 2 ∨ o = 6 ∨ 11 ≤ o) → ∀ j, w1 o j = w o j := fun o q1 j => hf o j (by simp; omega)
    exact ⟨⟨hM, hA⟩, ⟨(hkx 0 (by omega) 1).trans hc.2.1.1, fun j hj => (hkx 1 (by omega) j).trans (hc.2.1.2 j hj)⟩, ⟨(hkx 0 (by omega) 5).trans hc.2.2.1.1, fun i hi => (hc.2.2.1.2 i hi).kp (fun p q1 q2 j => hkx p (by omega) j)⟩, hc.2.2.2.1.kp (fun o q1 q2 j => hkx o (by omega) j), hc.2.2.2.2.fr (fun o q1 q2 j => hkx o (by omega) j)⟩
  have hpush : joinB q.1.2.1 q.1.2.2 q.1.1 = true → q.2.length < 12 → AlV (q.2 ++ [(q.1.1, canS q.1.1 q.1.2.1, canA q.1.1 q.1.2.1 q.1.2.2)]) := fun _ hl => ⟨by rw [List.length_append]; simp; omega, fun x hx => by
    rcases List.mem_append.mp hx with hx | hx
    · exact hI.AV.2 x hx
    · rw [List.mem_singleton.mp hx]
      exact ⟨hI.V.1, canS_pm hI.V.1.1 hI.V.1.2 hI.V.2.1, (canA_pm hI.V.1.1 hI.V.1.2 hI.V.2.1 hI.V.2.2).1⟩⟩
  have hpn : (∀ j, j < q.2.length → q.2.getD j pe0 ≠ (q.1.1, canS q.1.1 q.1.2.1, canA q.1.1 q.1.2.1 q.1.2.2)) → AlN (q.2 ++ [(q.1.1, canS q.1.1 q.1.2.1, canA q.1.1 q.1.2.1 q.1.2.2)]) := fun hno i j hi hj e => by
    rw [List.length_append] at hi hj
    simp only [List.length_cons, List.length_nil] at hi hj
    by_cases h1 : i < q.2.length
    · by_cases h2 : j < q.2.length
      · rw [gdp_l h1, gdp_l h2] at e
        exact hI.AN i j h1 h2 e
      · rw [gdp_l h1, show j = q.2.length by omega, gdp_r] at e
        exact absurd e (hno i h1)
    · by_cases h2 : j < q.2.length
      · rw [gdp_l h2, show i = q.2.length by omega, gdp_r] at e
        exact absurd e.symm (hno j h2)
      · omega
  have hnd : ∀ (i : Nat) (X : PE), i < q.2.length → q.2.getD i pe0 = X → (∀ j, j < q.2.length → q.2.getD j pe0 ≠ X) → False := fun i X hi e hn => hn i hi e
  rcases h1 with ⟨j1, z1, e1⟩ | ⟨j1, hf, hM1, h1⟩ <;> rcases h2 with ⟨j2, z2, m2⟩ | ⟨j2, h2⟩
  · exact ⟨by omega, key q.2 ⟨hI.AV, hI.AN⟩ (by rw [e1]; exact hc) m2⟩
  · rw [j1] at j2; exact absurd j2 (by decide)
  · rw [j1] at j2; exact absurd j2 (by decide)
  · rcases h1 with ⟨i, hi, ei, z1, A1⟩ | ⟨hno, h1⟩ <;> rcases h2 with ⟨i', hi', ei', z2, A2⟩ | ⟨hno', h2⟩
    · have e : i = i' := hI.AN i i' hi hi' (ei.trans ei'.symm)
      exact ⟨by omega, key q.2 ⟨hI.AV, hI.AN⟩ (mk1 _ hf hM1 A1) A2⟩
    · exact (hnd i _ hi ei hno').elim
    · exact (hnd i' _ hi' ei' hno).elim
    · rcases h1 with ⟨l1, z1, A1⟩ | ⟨l1, z1, A1⟩ <;> rcases h2 with ⟨l2, z2, A2⟩ | ⟨l2, z2, A2⟩
      · exact ⟨by omega, key q.2 ⟨hI.AV, hI.AN⟩ (mk1 _ hf hM1 A1) A2⟩
      · omega
      · omega
      · exact ⟨by omega, key _ ⟨hpush j1 l1, hpn hno⟩ (mk1 _ hf hM1 A1) A2⟩
theorem keep_C {w wx w1 : Wd} {q : ST} {b : Nat} {T : Nat → Int} {KL : List ST} (hp : PQ q b T KL) (hc : CQ w q b T KL) {o : Nat} (ho : o = 31 + 4 * KL.length) (hC : Cpy w wx o 2) (e : w1 = up wx 0 5 (KL.length + 1)) (hk : KL.length < 8) : CQ w1 q b T (KL ++ [q]) := by
  subst ho
  obtain ⟨⟨a0, a1, a2, a3⟩, hA, hF⟩ := hC
  have hx : ∀ p j, ¬ (p = 0 ∧ j = 5) → w1 p j = wx p j := fun p j h => by rw [e, up_ne _ _ h]
  have hk1 : ∀ p, ¬ (31 + 4 * KL.length ≤ p ∧ p ≤ 34 + 4 * KL.length) → ∀ j, ¬ (p = 0 ∧ j = 5) → w1 p j = w p j := fun p h1 j h2 => (hx p j h2).trans (hF p j (by simp; omega))
  have hll : (KL ++ [q]).length = KL.length + 1 := by simp
  refine ⟨hc.1.kp (fun p q1 q2 j => hk1 p (by omega) j (by omega)), ⟨(hk1 0 (by omega) 1 (by omega)).trans hc.2.1.1, fun j hj => (hk1 1 (by omega) j (by omega)).trans (hc.2.1.2 j hj)⟩, ⟨?_, fun i hi => ?_⟩, hc.2.2.2.1.kp (fun p q1 q2 j => hk1 p (by omega) j (by omega)), hc.2.2.2.2.fr (fun p q1 q2 j => hk1 p (by omega) j (by omega))⟩
  · rw [hll, e, up_eq]; omega
  · rw [hll] at hi
    by_cases h : i < KL.length
    · rw [gds_l h]
      exact (hc.2.2.1.2 i h).kp (fun p q1 q2 j => hk1 p (by omega) j (by omega))
    · have hi2 : i = KL.length := by omega
      subst hi2
      rw [gds_r]
      obtain ⟨⟨m0, m1, m2⟩, l0, l1⟩ := hc.1
      have hl12 := hp.1.2.1.1
      refine ⟨⟨by rw [hx _ _ (by omega), a0]; exact m0, by rw [hx _ _ (by omega), a1]; exact m1, by rw [hx _ _ (by omega), a2]; exact m2⟩, by rw [hx _ _ (by omega), a3]; exact l0, fun x hx2 => ?_⟩
      obtain ⟨t1, t2, t3⟩ := hA x (by omega)
      obtain ⟨s1, s2, s3⟩ := l1 x hx2
      exact ⟨by rw [hx _ _ (by omega), t1]; exact s1, by rw [hx _ _ (by omega), t2]; exact s2, by rw [hx _ _ (by omega), t3]; exact s3⟩
theorem keep_M {w w2 : Wd} {q : ST} {b : Nat} {T : Nat → Int} {KL : List ST} (hp : PQ q b T KL) (hr : RQ w q b T KL) (hk : KL.length < 8) (h53 : w2 63 53 = (KL.length : Int) + 1) (h63 : ∀ j, j ≠ 53 → w2 63 j = w 63 j) (h4 : K4 w w2 KL.length) (hq : KQ w w2 KL.length 12) (hf : Fr [63, 98] w w2) : RQ w2 q b T (KL ++ [q]) := by
  obtain ⟨c0, c1, c2, c3, c4⟩ := h4
  have hk1 : ∀ p, p ≠ 63 → p ≠ 98 → ∀ j, w2 p j = w p j := fun p h1 h2 j => hf p j (by simp; omega)
  have hll : (KL ++ [q]).length = KL.length + 1 := by simp
  refine ⟨hr.1.kp (fun j hj => h63 j (by omega)) (fun o q1 j => hk1 o (by omega) (by omega) j), ⟨(h63 16 (by omega)).trans hr.2.1.1, hr.2.1.2.kp (hk1 74 (by omega) (by omega))⟩, by rw [hll, h53]; omega, fun i hi => ?_⟩
  rw [hll] at hi
  by_cases h : i < KL.length
  · rw [gds_l h]
    obtain ⟨⟨d0, d1, d2, d3⟩, d4⟩ := hr.2.2.2 i h
    have hl12 := (hp.2.2.2 i h).2.1.1
    refine ⟨⟨by rw [c0 _ (by omega)]; exact d0, by rw [c0 _ (by omega)]; exact d1, by rw [c0 _ (by omega)]; exact d2, by rw [c0 _ (by omega)]; exact d3⟩, fun x hx => ?_⟩
    obtain ⟨e1, e2, e3, e4⟩ := d4 x hx
    exact ⟨by rw [c0 _ (by omega)]; exact e1, by rw [c0 _ (by omega)]; exact e2, by rw [c0 _ (by omega)]; exact e3, by rw [c0 _ (by omega)]; exact e4⟩
  · have hi2 : i = KL.length := by omega
    subst hi2
    rw [gds_r]
    have hl12 := hp.1.2.1.1
    obtain ⟨⟨m0, m1, m2⟩, _, l0, l1⟩ := hr.1
    refine ⟨⟨c1.trans m0, c2.trans m1, c3.trans m2, c4.trans l0⟩, fun x hx => ?_⟩
    obtain ⟨t1, t2, t3, t4⟩ := hq x (by omega)
    obtain ⟨s1, s2, s3, s4⟩ := l1 x hx
    exact ⟨t1.trans s1, t2.trans s2, t3.trans s3, t4.trans s4⟩
theorem keep_P {q : ST} {b : Nat} {T : Nat → Int} {KL : List ST} (hp : PQ q b T KL) (hk : KL.length < 8) : PQ q b T (KL ++ [q]) := ⟨hp.1, hp.2.1, by simp; omega, fun i hi => by
  rw [show (KL ++ [q]).length = KL.length + 1 by simp] at hi
  by_cases h : i < KL.length
  · rw [gds_l h]; exact hp.2.2.2 i h
  · rw [show i = KL.length by omega, gds_r]; exact hp.1⟩
theorem c_keepAll (l : Launch) (G : Gx) (w : Wd) {k : Nat} (hk : k < 8) (hS : w 0 5 = (k : Nat)) : Sp l G 1 mX10_keep [aR 0] w (fun z w' => z = (k : Int) + 1 ∧ ∃ w1, Cpy w w1 (31 + 4 * k) 2 ∧ w' = up w1 0 5 (k + 1)) := by
  rcases (show k = 0 ∨ k = 1 ∨ k = 2 ∨ k = 3 ∨ k = 4 ∨ k = 5 ∨ k = 6 ∨ k = 7 by omega) with rfl | rfl | rfl | rfl | rfl | rfl | rfl | rfl
  · exact Sp.mono (c_keep_0 l G w hS) (fun z w' h => ⟨h.1, h.2⟩)
  · exact Sp.mono (c_keep_1 l G w hS) (fun z w' h => ⟨h.1, h.2⟩)
  · exact Sp.mono (c_keep_2 l G w hS) (fun z w' h => ⟨h.1, h.2⟩)
  · exact Sp.mono (c_keep_3 l G w hS) (fun z w' h => ⟨h.1, h.2⟩)
  · exact Sp.mono (c_keep_4 l G w hS) (fun z w' h => ⟨h.1, h.2⟩)
  · exact Sp.mono (c_keep_5 l G w hS) (fun z w' h => ⟨h.1, h.2⟩)
  · exact Sp.mono (c_keep_6 l G w hS) (fun z w' h => ⟨h.1, h.2⟩)
  · exact Sp.mono (c_keep_7 l G w hS) (fun z w' h => ⟨h.1, h.2⟩)
theorem c_undoAll (l : Launch) (G : Gx) (w : Wd) {k : Nat} (hk : k < 8) (hS : w 0 5 = ((k + 1 : Nat) : Int)) : Sp l G 1 mX10_undo [aR 0] w (fun z w' => z = (k : Int) ∧ ∃ w1, w1 = up w 0 5 (k : Nat) ∧ Cpy w1 w' 2 (31 + 4 * k)) := by
  rcases (show k = 0 ∨ k = 1 ∨ k = 2 ∨ k = 3 ∨ k = 4 ∨ k = 5 ∨ k = 6 ∨ k = 7 by omega) with rfl | rfl | rfl | rfl | rfl | rfl | rfl | rfl
  · exact Sp.mono (c_undo_0 l G w hS) (fun z w' h => ⟨h.1, h.2⟩)
  · exact Sp.mono (c_undo_1 l G w hS) (fun z w' h => ⟨h.1, h.2⟩)
  · exact Sp.mono (c_undo_2 l G w hS) (fun z w' h => ⟨h.1, h.2⟩)
  · exact Sp.mono (c_undo_3 l G w hS) (fun z w' h => ⟨h.1, h.2⟩)
  · exact Sp.mono (c_undo_4 l G w hS) (fun z w' h => ⟨h.1, h.2⟩)
  · exact Sp.mono (c_undo_5 l G w hS) (fun z w' h => ⟨h.1, h.2⟩)
  · exact Sp.mono (c_undo_6 l G w hS) (fun z w' h => ⟨h.1, h.2⟩)
  · exact Sp.mono (c_undo_7 l G w hS) (fun z w' h => ⟨h.1, h.2⟩)
/-- the law tells keep and undo apart by how many states are kept -/
theorem pr_keep (l : Launch) (G : Gx) {w : Wd} (hI : Inv w) : ∃ d, d ≤ 1 ∧ Pair l G d 0 mX10_keep mX11_keep [] w := by
  obtain ⟨q, b, T, KL, hI⟩ := hI
  obtain ⟨hp, hc, hr⟩ := hI.split
  by_cases hk : KL.length < 8
  · refine ⟨1, Nat.le_refl _, Sp.mono (c_keepAll l G w hk hI.K.2.1) (fun z w1 h1 => ?_)⟩
    obtain ⟨z1, wx, hC, e⟩ := h1
    have hr1 : RQ w1 q b T KL := hr.kp (fun o ho j => by rw [e, up_ne _ _ (by omega)]; exact hC.2.2 o j (by simp; omega))
    refine Sp.mono (c_keepM l G (k := KL.length) (by omega) w1 hr1.2.2.1) (fun z2 w2 h2 => ?_)
    rcases h2 with ⟨k8, _⟩ | ⟨_, z2, h53, h63, h4, hq, hf⟩
    · omega
    · exact ⟨by omega, Inv.mk (keep_P hp hk) ((keep_C hp hc rfl hC (by rw [e]) hk).kp (keep_P hp hk).2.2.1 (fun o ho j => hf o j (by simp; omega))) (keep_M hp hr1 hk h53 h63 h4 hq hf)⟩
  · have h8 : KL.length = 8 := by have := hp.2.2.1; omega
    refine ⟨0, by omega, Sp.mono (c_keep_8 l G w (by rw [hI.K.2.1, h8]; rfl)) (fun z w1 h1 => ?_)⟩
    obtain ⟨z1, e⟩ := h1
    subst e
    refine Sp.mono (c_keepM l G (k := KL.length) (by omega) w1 hI.K.2.2.1) (fun z2 w2 h2 => ?_)
    rcases h2 with ⟨k8, z2, e2⟩ | ⟨k8, _⟩
    · exact ⟨by omega, by rw [e2]; exact ⟨q, b, T, KL, hI⟩⟩
    · omega
theorem pr_undo (l : Launch) (G : Gx) {w : Wd} (hI : Inv w) : ∃ d d2, d ≤ 1 ∧ d2 ≤ 5 ∧ Pair l G d d2 mX10_undo mX11_undo [] w := by
  obtain ⟨q, b, T, KL, hI⟩ := hI
  obtain ⟨hp, hc, hr⟩ := hI.split
  by_cases hk : KL.length = 0
  · refine ⟨0, 0, by omega, by omega, Sp.mono (c_undo_8 l G w (by rw [hI.K.2.1, hk]; rfl)) (fun z w1 h1 => ?_)⟩
    obtain ⟨z1, e⟩ := h1
    subst e
    exact Sp.mono (c_undoM0 l G w1 (by rw [hI.K.2.2.1, hk]; rfl)) (fun z2 w2 h2 => ⟨by omega, by rw [h2.2]; exact ⟨q, b, T, KL, hI⟩⟩)
  · obtain ⟨K, hK⟩ : ∃ K, KL.length = K + 1 := ⟨KL.length - 1, by omega⟩
    have hK8 : K < 8 := by have := hp.2.2.1; omega
    refine ⟨1, 5, by omega, by omega, Sp.mono (c_undoAll l G w hK8 (by rw [hI.K.2.1, hK])) (fun z w1 h1 => ?_)⟩
    obtain ⟨z1, wx, ex, hC⟩ := h1
    have hq' := hp.2.2.2 K (by omega)
    generalize hqe : KL.getD K st0 = q' at hq'
    have hr1 : RQ w1 q b T KL := hr.kp (fun o ho j => by rw [hC.2.2 o j (by simp; omega), ex, up_ne _ _ (by omega)])
    have hKM : KMt w1 K q' := by have h := hr1.2.2.2 K (by omega); rw [hqe] at h; exact h
    refine Sp.mono (c_undoM l G (K := K) (m := q'.1.1) (n := q.1.1) hK8 hq'.1.1.1 hq'.1.1.2 hI.V.1.2 w1 (by rw [hr1.2.2.1, hK]) hr1.1.1.1 hr1.1.2.1 hKM.1.1) (fun z2 w2 h2 => ?_)
    obtain ⟨z2, u53, u0, uT, u1, u2, u52, uQ, u16, u74, u98, ulo⟩ := h2
    have hl12 := hq'.2.1.1
    have htk : (KL.take K).length = K := by rw [List.length_take]; omega
    have hx : ∀ p j, ¬ (p = 0 ∧ j = 5) → wx p j = w p j := fun p j h => by rw [ex, up_ne _ _ h]
    obtain ⟨⟨a0, a1, a2, a3⟩, hA, hF⟩ := hC
    have hk1 : ∀ p, ¬ (2 ≤ p ∧ p ≤ 5) → ∀ j, ¬ (p = 0 ∧ j = 5) → w1 p j = w p j := fun p h1 j h2 => (hF p j (by simp; omega)).trans (hx p j h2)
    have hcK : CSt w (31 + 4 * K) q' := by have h := hc.2.2.1.2 K (by omega); rw [hqe] at h; exact h
    refine ⟨by omega, Inv.mk (q := q') (b := b) (T := T) (KL := KL.take K) ⟨hq', hp.2.1, by omega, fun i hi => ?_⟩ (CQ.kp (w := w1) ⟨?_, ⟨(hk1 0 (by omega) 1 (by omega)).trans hc.2.1.1, fun j hj => (hk1 1 (by omega) j (by omega)).trans (hc.2.1.2 j hj)⟩, ⟨?_, fun i hi => ?_⟩, hc.2.2.2.1.kp (fun p q1 q2 j => hk1 p (by omega) j (by omega)), hc.2.2.2.2.fr (fun p q1 q2 j => hk1 p (by omega) j (by omega))⟩ (by omega) ulo) ⟨⟨⟨u0, u1.trans hKM.1.2.1, u2.trans hKM.1.2.2.1⟩, uT, u52.trans hKM.1.2.2.2, fun x hx2 => ?_⟩, ⟨u16.trans hr1.2.1.1, hr1.2.1.2.kp u74⟩, by rw [u53, htk], fun i hi => ?_⟩⟩
    · rw [htk] at hi
      rw [gds_t hi]
      exact hp.2.2.2 i (by omega)
    · obtain ⟨⟨m0, m1, m2⟩, l0, l1⟩ := hcK
      refine ⟨⟨by rw [a0, hx _ _ (by omega)]; exact m0, by rw [a1, hx _ _ (by omega)]; exact m1, by rw [a2, hx _ _ (by omega)]; exact m2⟩, by rw [a3, hx _ _ (by omega)]; exact l0, fun x hx2 => ?_⟩
      obtain ⟨t1, t2, t3⟩ := hA x (by omega)
      obtain ⟨s1, s2, s3⟩ := l1 x hx2
      exact ⟨by rw [t1, hx _ _ (by omega)]; exact s1, by rw [t2, hx _ _ (by omega)]; exact s2, by rw [t3, hx _ _ (by omega)]; exact s3⟩
    · rw [htk, hF 0 5 rfl, ex, up_eq]
    · rw [htk] at hi
      rw [gds_t hi]
      exact (hc.2.2.1.2 i (by omega)).kp (fun p q1 q2 j => hk1 p (by omega) j (by omega))
    · obtain ⟨t1, t2, t3, t4⟩ := uQ x (by omega)
      obtain ⟨s1, s2, s3, s4⟩ := hKM.2 x hx2
      exact ⟨t1.trans s1, t2.trans s2, t3.trans s3, t4.trans s4⟩
    · rw [htk] at hi
      rw [gds_t hi]
      exact (hr1.2.2.2 i (by omega)).kp u98

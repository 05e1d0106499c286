/-! ===== the reference: the group ===== -/
def GWM (w : Wd) (n : Nat) (B : BS) : Prop := w 63 31 = (B.1.length : Nat) ∧ (∀ i, i < B.1.length → w 79 i = (cdk (B.1.getD i pid) n : Nat)) ∧ ∀ r, r < facN n → w 78 r = B.2 r
theorem GWM.add {w w' : Wd} {n : Nat} {B : BS} (h : GWM w n B) {p : Nat → Nat} {d : Int} {r : Nat} (hr : r = rankN p n) (hD : B.2 (rankN p n) = -1) (e : w' = up (up (up w 78 r d) 79 B.1.length (cdk p n : Nat)) 63 31 ((B.1.length : Nat) + 1)) : GWM w' n (bAdd n p d B) := by
  subst e
  subst hr
  unfold bAdd
  rw [if_pos hD]
  refine ⟨by rw [up_eq]; simp, fun i hi => ?_, fun r hr => ?_⟩
  · have hi' : i < (B.1 ++ [p]).length := hi
    rw [List.length_append] at hi'
    simp only [List.length_singleton] at hi'
    show _ = ((cdk ((B.1 ++ [p]).getD i pid) n : Nat) : Int)
    rw [up_ne _ _ (by omega), List.getD_eq_getElem?_getD]
    by_cases q : i = B.1.length
    · subst q; simp [up_at]
    · rw [List.getElem?_append_left (by omega), ← List.getD_eq_getElem?_getD]
      have := h.2.1 i (by omega)
      simp [up_at, q, this]
  · show _ = if r = rankN p n then d else B.2 r
    rw [up_ne _ _ (by omega), up_ne _ _ (by omega), up_at]
    by_cases q : r = rankN p n
    · rw [if_pos ⟨rfl, q⟩, if_pos q]
    · rw [if_neg (fun e => q e.2), if_neg q]; exact h.2.2 r hr
theorem GWM.fr {w w' : Wd} {n : Nat} {B : BS} (h : GWM w n B) (h1 : w' 63 31 = w 63 31) (h2 : ∀ j, w' 78 j = w 78 j) (h3 : ∀ j, w' 79 j = w 79 j) : GWM w' n B := ⟨by rw [h1]; exact h.1, fun i hi => by rw [h3]; exact h.2.1 i hi, fun r hr => by rw [h2]; exact h.2.2 r hr⟩
theorem bAdd_pre {n : Nat} {B : BS} (p : Nat → Nat) (d : Int) {j : Nat} (hj : j < B.1.length) : (bAdd n p d B).1.getD j pid = B.1.getD j pid := by
  unfold bAdd
  split
  · show (B.1 ++ [p]).getD j pid = _
    rw [List.getD_eq_getElem?_getD, List.getElem?_append_left hj, ← List.getD_eq_getElem?_getD]
  · rfl
def gnF (f g : Nat → Nat) (j : Nat) : Nat → Nat := if j = 0 then f else if j = 1 then g else if j = 2 then pinv f else pinv g
theorem gnF_pm {n : Nat} {f g : Nat → Nat} (h7 : n ≤ 7) (hf : Pm n f) (hg : Pm n g) (j : Nat) : Pm n (gnF f g j) := by
  unfold gnF
  split
  · exact hf
  · split
    · exact hg
    · split
      · exact hf.inv h7
      · exact hg.inv h7
def bStp (n : Nat) (f g p : Nat → Nat) (d : Int) (B : BS) : Nat → BS
  | 0 => B
  | j + 1 => bAdd n (pcomp p (gnF f g j)) d (bStp n f g p d B j)
theorem bStp_exp {n i : Nat} {f g : Nat → Nat} {B : BS} (h : i < B.1.length) : bExp n f g i B = bStp n f g (B.1.getD i pid) (B.2 (rankN (B.1.getD i pid) n) + 1) B 4 := by unfold bExp; rw [if_pos h]; rfl
theorem bStp_pre {n : Nat} {f g p : Nat → Nat} {d : Int} {B : BS} : ∀ j, B.1.length ≤ (bStp n f g p d B j).1.length ∧ ∀ i, i < B.1.length → (bStp n f g p d B j).1.getD i pid = B.1.getD i pid
  | 0 => ⟨Nat.le_refl _, fun _ _ => rfl⟩
  | j + 1 => by
    have ih := bStp_pre (n := n) (f := f) (g := g) (p := p) (d := d) (B := B) j
    have l := bAdd_len (n := n) (B := bStp n f g p d B j) (pcomp p (gnF f g j)) d
    exact ⟨Nat.le_trans ih.1 l, fun i hi => by
      show (bAdd n (pcomp p (gnF f g j)) d (bStp n f g p d B j)).1.getD i pid = _
      rw [bAdd_pre _ _ (Nat.lt_of_lt_of_le hi ih.1)]; exact ih.2 i hi⟩
theorem bStp_BI {n : Nat} {f g p : Nat → Nat} {d : Int} {B : BS} (h1 : 1 ≤ n) (h7 : n ≤ 7) (hf : Pm n f) (hg : Pm n g) (hp : Pm n p) (hd0 : 0 ≤ d) (hd : d ≤ B.1.length) (h : BI n B) : ∀ j, BI n (bStp n f g p d B j)
  | 0 => h
  | j + 1 => BI.add h1 h7 (bStp_BI h1 h7 hf hg hp hd0 hd h j) (hp.comp (gnF_pm h7 hf hg j)) hd0 (by have := (bStp_pre (n := n) (f := f) (g := g) (p := p) (d := d) (B := B) j).1; omega)
theorem bfs_ne (n : Nat) (f g : Nat → Nat) : ∀ k, 1 ≤ (bfsI n f g k).1.length
  | 0 => by
    show 1 ≤ (bAdd n pid 0 ([], fun _ => -1)).1.length
    unfold bAdd; rw [if_pos rfl]; simp
  | k + 1 => by
    have ih := bfs_ne n f g k
    show 1 ≤ (bExp n f g k (bfsI n f g k)).1.length
    by_cases q : k < (bfsI n f g k).1.length
    · rw [bStp_exp q]; exact Nat.le_trans ih (bStp_pre 4).1
    · unfold bExp; rw [if_neg q]; exact ih
set_option maxHeartbeats 4000000 in
set_option maxRecDepth 100000 in
theorem c_meets (l : Launch) (G : Gx) {c d : Int} {n : Nat} {p : Nat → Nat} {B : BS} (hc : c = (cdk p n : Nat)) (hd : rg d) (hp : Pm n p) (hB : BI n B) (hn1 : 1 ≤ n) (hn7 : n ≤ 7) (w : Wd) (h3 : w 63 3 = (facN n : Nat)) (hP : ∀ i, i < facN n → w 64 i = (cdk (pn n i) n : Nat)) (hG : GWM w n B) : Sp l G 1 mX11_meets [aR 63, aI (c), aI (d)] w (fun _ w' => GWM w' n (bAdd n p d B) ∧ (∀ q, q ≠ 31 → w' 63 q = w 63 q) ∧ Fr [63, 78, 79] w w') := by
  have gm := hG.1
  have hfl := fac_le hn1 hn7
  have hrk := pn_rank hn1 hn7 hp
  have hlen := hB.len hn1 hn7
  have hD4 := hB.2.2.2 (rankN p n)
  have hfull := hB.full hn1 hn7 hp
  refine Sp_of RX11 rfl (by decide +kernel) rfl (Nat.le_of_ble_eq_true rfl) ?_
  refine v_aload_n 0 (pc' := 1) rfl dX11_meets_0 rfl rfl ?_
  refine v_iload_n 1 (pc' := 2) rfl dX11_meets_1 rfl rfl ?_
  refine v_cVP (pc' := 5) rfl dX11_meets_2 lk_RX11_286 ly_63 rfl (c_placeOfM l G hc hp hn1 hn7 w h3 hP) rfl rfl rfl ?_
  refine v_nm (fun placeOf1 hplaceOf1 => ?_)
  refine v_istore_n (ls' := [(3, _), (0, _), (1, _), (2, _)]) (pc' := 6) rfl dX11_meets_5 rfl rfl rfl ?_
  refine v_aload_n 1 (pc' := 7) rfl dX11_meets_6 rfl rfl ?_
  refine v_getR (pc' := 10) rfl dX11_meets_7 fk_RX11_53 ly_63 rfl ?_
  refine v_iload_n 0 (pc' := 11) rfl dX11_meets_10 rfl rfl ?_
  refine v_iald (z := (B.2 (rankN p n))) (pc' := 12) rfl dX11_meets_11 ly_78 (by omega) (by omega) rfl (by rw [show placeOf1.toNat = rankN p n by omega]; exact hG.2.2 _ hrk.1) ?_
  refine v_iconst (pc' := 13) rfl dX11_meets_12 ?_
  refine v_icmp_eq (pc' := 16) (tgt := 17) rfl dX11_meets_13 (by decide) (by omega) (by decide) (fun c0 => ?_) (fun c0 => ?_)
  ·
    have hll := hfull c0
    refine v_aload_n 1 (pc' := 18) rfl dX11_meets_17 rfl rfl ?_
    refine v_getR (pc' := 21) rfl dX11_meets_18 fk_RX11_53 ly_63 rfl ?_
    refine v_iload_n 0 (pc' := 22) rfl dX11_meets_21 rfl rfl ?_
    refine v_iload_n 3 (pc' := 23) rfl dX11_meets_22 rfl rfl ?_
    refine v_iast (pc' := 24) rfl dX11_meets_23 ly_78 (by omega) (by omega) rfl ?_
    refine v_nmw (fun w2 hw2 => ?_)
    have gm : w2 63 31 = ((B.1.length : Nat) : Int) := by rw [hw2, up_ne _ _ (by omega)]; exact gm
    refine v_aload_n 1 (pc' := 25) rfl dX11_meets_24 rfl rfl ?_
    refine v_getR (pc' := 28) rfl dX11_meets_25 fk_RX11_56 ly_63 rfl ?_
    refine v_aload_n 1 (pc' := 29) rfl dX11_meets_28 rfl rfl ?_
    refine v_get (z := ((B.1.length : Nat) : Int)) (pc' := 32) rfl dX11_meets_29 fk_RX11_289 ly_63 rfl (gm) ?_
    refine v_iload_n 2 (pc' := 33) rfl dX11_meets_32 rfl rfl ?_
    refine v_iast (pc' := 34) rfl dX11_meets_33 ly_79 (by omega) (by omega) rfl ?_
    refine v_nmw (fun w3 hw3 => ?_)
    have gm : w3 63 31 = ((B.1.length : Nat) : Int) := by rw [hw3, up_ne _ _ (by omega)]; exact gm
    refine v_aload_n 1 (pc' := 35) rfl dX11_meets_34 rfl rfl ?_
    refine v_aload_n 1 (pc' := 36) rfl dX11_meets_35 rfl rfl ?_
    refine v_get (z := ((B.1.length : Nat) : Int)) (pc' := 39) rfl dX11_meets_36 fk_RX11_289 ly_63 rfl (gm) ?_
    refine v_iconst (pc' := 40) rfl dX11_meets_39 ?_
    refine v_iadd (pc' := 41) rfl dX11_meets_40 ?_
    refine v_put (pc' := 44) rfl dX11_meets_41 fi_RX11_289 ly_63 rfl ?_
    refine v_nmw (fun w4 hw4 => ?_)
    refine v_vret dX11_meets_44 ?_
    refine ⟨hG.add (r := placeOf1.toNat) (by omega) c0 (by rw [hw4, hw3, hw2, hc]; rfl), fun q hq => by rw [hw4, up_ne _ _ (by omega), hw3, up_ne _ _ (by omega), hw2, up_ne _ _ (by omega)], by rw [hw4, hw3, hw2]; exact (((Fr.rf _ _).up rfl).up rfl).up rfl⟩
  ·
    refine v_vret dX11_meets_16 ?_
    exact ⟨by unfold bAdd; rw [if_neg c0]; exact hG, fun _ _ => rfl, Fr.rf _ _⟩
def Kg (w w' : Wd) : Prop := (∀ q, q ≠ 31 → w' 63 q = w 63 q) ∧ Fr [63, 69, 70, 78, 79, 80] w w'
theorem Kg.rf (w : Wd) : Kg w w := ⟨fun _ _ => rfl, Fr.rf _ _⟩
theorem Kg.tr {w w1 w2 : Wd} (h : Kg w w1) (h2 : Kg w1 w2) : Kg w w2 := ⟨fun q hq => (h2.1 q hq).trans (h.1 q hq), h.2.trs h2.2⟩
theorem Kg.of {cs : List Nat} {w w' : Wd} (hf : Fr cs w w') (hc : cs.all (fun o => [69, 70, 78, 79, 80].contains o) = true) : Kg w w' := by
  have key : ∀ o, cs.contains o = true → o = 69 ∨ o = 70 ∨ o = 78 ∨ o = 79 ∨ o = 80 := fun o h => by
    have := List.all_eq_true.mp hc o (by simpa using h)
    simpa using this
  refine ⟨fun q _ => hf 63 q ?_, fun o j h => hf o j ?_⟩
  · rw [← Bool.not_eq_true]; intro h; have := key 63 h; omega
  · rw [← Bool.not_eq_true] at h ⊢
    intro h2
    refine h ?_
    rcases key o h2 with e | e | e | e | e <;> rw [e] <;> rfl
theorem Kg.up31 {w w' : Wd} (h : Kg w w') {v : Int} : Kg w (up w' 63 31 v) := ⟨fun q hq => by rw [up_ne _ _ (by omega)]; exact h.1 q hq, h.2.up rfl⟩
theorem Kg.up {w w' : Wd} (h : Kg w w') {o j : Nat} {v : Int} (ho : [69, 70, 78, 79, 80].contains o = true) : Kg w (up w' o j v) :=
  ⟨fun q hq => by
    have : o = 69 ∨ o = 70 ∨ o = 78 ∨ o = 79 ∨ o = 80 := by simpa using ho
    rw [up_ne _ _ (by omega)]; exact h.1 q hq, h.2.up (by
    have : o = 69 ∨ o = 70 ∨ o = 78 ∨ o = 79 ∨ o = 80 := by simpa using ho
    rcases this with e | e | e | e | e <;> rw [e] <;> rfl)⟩
theorem Kg.scr {w w' : Wd} (h : Kg w w') : Scr w w' := fun o j k => by
  by_cases e : o = 63
  · rw [e] at k ⊢
    exact h.1 j (fun e2 => by rw [e2] at k; exact absurd k (by decide))
  · refine h.2 o j ?_
    rw [← Bool.not_eq_true]; intro hh
    have : o = 63 ∨ o = 69 ∨ o = 70 ∨ o = 78 ∨ o = 79 ∨ o = 80 := by simpa using hh
    rw [keepB_ne e j 0] at k
    rcases this with e2 | e2 | e2 | e2 | e2 | e2
    · exact e e2
    all_goals (rw [e2] at k; exact absurd k (by decide))
set_option maxHeartbeats 4000000 in
set_option maxRecDepth 100000 in
theorem c_laysGroupK (l : Launch) (G : Gx) {p q : Int} {n : Nat} {f g : Nat → Nat} (hp : p = (cdk f n : Nat)) (hq : q = (cdk g n : Nat)) (hf : Pm n f) (hg : Pm n g) (hn1 : 1 ≤ n) (hn7 : n ≤ 7) (w : Wd) (h00 : w 63 0 = n) (hR : RTab w n) : Sp l G 2 mX11_laysGroup [aR 63, aI (p), aI (q)] w (fun z w' => Kg w w' ∧ GWM w' n (bfs n f g) ∧ z = ((bfs n f g).1.length : Nat)) := by
  have r0 := h00
  have r3 := hR.1
  have hfl := fac_le hn1 hn7
  refine Sp_of RX11 rfl (by decide +kernel) rfl (Nat.le_of_ble_eq_true rfl) ?_
  refine v_iconst (pc' := 1) rfl dX11_laysGroup_0 ?_
  refine v_istore_n (ls' := [(3, _), (0, _), (1, _), (2, _)]) (pc' := 2) rfl dX11_laysGroup_1 rfl rfl rfl ?_
  refine v_ls [1, 2, 3, 0] rfl ?_
  refine v_loop2 2 (fun (i : Int) (wa : Wd) => ∃ m : Nat, i = m ∧ m ≤ facN n ∧ (∀ z, z < m → wa 78 z = -1) ∧ Kg w wa) (fun (i : Int) (wa : Wd) => (5040 - i).toNat) (fun (i : Int) (wa : Wd) => [(0, aR 63), (1, aI (p)), (2, aI (q)), (3, aI (i))]) (fun (i : Int) (wa : Wd) => []) (fun (i : Int) (wa : Wd) => wa) (fun i wa hI0 ih0 => ?_) (0) w (⟨0, rfl, by omega, fun z h => by omega, Kg.rf _⟩)
  obtain ⟨m, hi, hm, hA, hsa⟩ := hI0
  have g0 := (hsa.1 0 (by decide)).trans h00
  have g3 := (hsa.1 3 (by decide)).trans hR.1
  refine v_iload_n 3 (pc' := 3) rfl dX11_laysGroup_2 rfl rfl ?_
  refine v_aload_n 0 (pc' := 4) rfl dX11_laysGroup_3 rfl rfl ?_
  refine v_get (z := ((facN n : Nat) : Int)) (pc' := 7) rfl dX11_laysGroup_4 fk_RX11_165 ly_63 rfl (g3) ?_
  refine v_icmp_ge (pc' := 10) (tgt := 23) rfl dX11_laysGroup_7 (by decide) (by omega) (by omega) (fun c0 => ?_) (fun c0 => ?_)
  ·
    refine v_aload_n 0 (pc' := 24) rfl dX11_laysGroup_23 rfl rfl ?_
    refine v_getR (pc' := 27) rfl dX11_laysGroup_24 fk_RX11_59 ly_63 rfl ?_
    refine v_iconst (pc' := 28) rfl dX11_laysGroup_27 ?_
    refine v_iload_n 1 (pc' := 29) rfl dX11_laysGroup_28 rfl rfl ?_
    refine v_iast (pc' := 30) rfl dX11_laysGroup_29 ly_80 (by omega) (by omega) rfl ?_
    refine v_nmw (fun w2 hw2 => ?_)
    have g0 : w2 63 0 = (n : Int) := by rw [hw2, up_ne _ _ (by omega)]; exact g0
    have g3 : w2 63 3 = ((facN n : Nat) : Int) := by rw [hw2, up_ne _ _ (by omega)]; exact g3
    refine v_aload_n 0 (pc' := 31) rfl dX11_laysGroup_30 rfl rfl ?_
    refine v_getR (pc' := 34) rfl dX11_laysGroup_31 fk_RX11_59 ly_63 rfl ?_
    refine v_iconst (pc' := 35) rfl dX11_laysGroup_34 ?_
    refine v_iload_n 2 (pc' := 36) rfl dX11_laysGroup_35 rfl rfl ?_
    refine v_iast (pc' := 37) rfl dX11_laysGroup_36 ly_80 (by omega) (by omega) rfl ?_
    refine v_nmw (fun w3 hw3 => ?_)
    have g0 : w3 63 0 = (n : Int) := by rw [hw3, up_ne _ _ (by omega)]; exact g0
    have g3 : w3 63 3 = ((facN n : Nat) : Int) := by rw [hw3, up_ne _ _ (by omega)]; exact g3
    refine v_aload_n 0 (pc' := 38) rfl dX11_laysGroup_37 rfl rfl ?_
    refine v_getR (pc' := 41) rfl dX11_laysGroup_38 fk_RX11_59 ly_63 rfl ?_
    refine v_iconst (pc' := 42) rfl dX11_laysGroup_41 ?_
    refine v_aload_n 0 (pc' := 43) rfl dX11_laysGroup_42 rfl rfl ?_
    refine v_iload_n 1 (pc' := 44) rfl dX11_laysGroup_43 rfl rfl ?_
    refine v_cVi (pc' := 47) rfl dX11_laysGroup_44 lk_RX11_145 ly_63 rfl (c_backM l G hp hf hn1 hn7 w3 g0) rfl rfl rfl (fun back1 w4 hq4 => ?_)
    obtain ⟨f4, z4⟩ := hq4
    have g0 : w4 63 0 = (n : Int) := (f4 63 0 (by decide)).trans g0
    have g3 : w4 63 3 = ((facN n : Nat) : Int) := (f4 63 3 (by decide)).trans g3
    refine v_iast (pc' := 48) rfl dX11_laysGroup_47 ly_80 (by omega) (by omega) rfl ?_
    refine v_nmw (fun w5 hw5 => ?_)
    have g0 : w5 63 0 = (n : Int) := by rw [hw5, up_ne _ _ (by omega)]; exact g0
    have g3 : w5 63 3 = ((facN n : Nat) : Int) := by rw [hw5, up_ne _ _ (by omega)]; exact g3
    refine v_aload_n 0 (pc' := 49) rfl dX11_laysGroup_48 rfl rfl ?_
    refine v_getR (pc' := 52) rfl dX11_laysGroup_49 fk_RX11_59 ly_63 rfl ?_
    refine v_iconst (pc' := 53) rfl dX11_laysGroup_52 ?_
    refine v_aload_n 0 (pc' := 54) rfl dX11_laysGroup_53 rfl rfl ?_
    refine v_iload_n 2 (pc' := 55) rfl dX11_laysGroup_54 rfl rfl ?_
    refine v_cVi (pc' := 58) rfl dX11_laysGroup_55 lk_RX11_145 ly_63 rfl (c_backM l G hq hg hn1 hn7 w5 g0) rfl rfl rfl (fun back2 w6 hq6 => ?_)
    obtain ⟨f6, z6⟩ := hq6
    have g0 : w6 63 0 = (n : Int) := (f6 63 0 (by decide)).trans g0
    have g3 : w6 63 3 = ((facN n : Nat) : Int) := (f6 63 3 (by decide)).trans g3
    refine v_iast (pc' := 59) rfl dX11_laysGroup_58 ly_80 (by omega) (by omega) rfl ?_
    refine v_nmw (fun w7 hw7 => ?_)
    have g0 : w7 63 0 = (n : Int) := by rw [hw7, up_ne _ _ (by omega)]; exact g0
    have g3 : w7 63 3 = ((facN n : Nat) : Int) := by rw [hw7, up_ne _ _ (by omega)]; exact g3
    refine v_aload_n 0 (pc' := 60) rfl dX11_laysGroup_59 rfl rfl ?_
    refine v_iconst (pc' := 61) rfl dX11_laysGroup_60 ?_
    refine v_put (pc' := 64) rfl dX11_laysGroup_61 fi_RX11_289 ly_63 rfl ?_
    refine v_nmw (fun w8 hw8 => ?_)
    have g0 : w8 63 0 = (n : Int) := by rw [hw8, up_ne _ _ (by omega)]; exact g0
    have g3 : w8 63 3 = ((facN n : Nat) : Int) := by rw [hw8, up_ne _ _ (by omega)]; exact g3
    have F63_31 : w8 63 31 = 0 := by rw [hw8, up_eq]
    have hT8 : (∀ j, j < 4 → w8 80 j = (cdk (gnF f g j) n : Nat)) := fun j hj => by
      rcases (show j = 0 ∨ j = 1 ∨ j = 2 ∨ j = 3 by omega) with e | e | e | e <;> subst e
      · rw [hw8, up_ne _ _ (by omega), hw7, up_ne _ _ (by decide), f6 80 _ rfl, hw5, up_ne _ _ (by decide), f4 80 _ rfl, hw3, up_ne _ _ (by decide), hw2]; exact hp
      · rw [hw8, up_ne _ _ (by omega), hw7, up_ne _ _ (by decide), f6 80 _ rfl, hw5, up_ne _ _ (by decide), f4 80 _ rfl, hw3]; exact hq
      · rw [hw8, up_ne _ _ (by omega), hw7, up_ne _ _ (by decide), f6 80 _ rfl, hw5]; exact z4
      · rw [hw8, up_ne _ _ (by omega), hw7]; exact z6
    have hS8 : Kg w w8 := by
      have a : Kg w w3 := by rw [hw3, hw2]; exact (hsa.up rfl).up rfl
      have b : Kg w w5 := by rw [hw5]; exact (a.tr (Kg.of f4 rfl)).up rfl
      have c : Kg w w7 := by rw [hw7]; exact (b.tr (Kg.of f6 rfl)).up rfl
      rw [hw8]; exact c.up31
    have hP8 : ∀ i, i < facN n → w8 64 i = (cdk (pn n i) n : Nat) := fun i hi => (hS8.2 64 i rfl).trans (hR.2.2.1 i hi).1
    have hG8 : GWM w8 n ([], fun _ => -1) := ⟨by rw [hw8, up_eq]; rfl, fun i hi => absurd hi (Nat.not_lt_zero _), fun r hr => by rw [hw8, up_ne _ _ (by omega), hw7, up_ne _ _ (by omega), f6 78 r rfl, hw5, up_ne _ _ (by omega), f4 78 r rfl, hw3, up_ne _ _ (by omega), hw2, up_ne _ _ (by omega)]; exact hA r (by omega)⟩
    refine v_aload_n 0 (pc' := 65) rfl dX11_laysGroup_64 rfl rfl ?_
    refine v_aload_n 0 (pc' := 66) rfl dX11_laysGroup_65 rfl rfl ?_
    refine v_cVP (pc' := 69) rfl dX11_laysGroup_66 lk_RX11_187 ly_63 rfl (c_stays l G hn7 w8 g0) rfl rfl rfl ?_
    refine v_nm (fun stays1 hstays1 => ?_)
    refine v_iconst (pc' := 70) rfl dX11_laysGroup_69 ?_
    refine v_cVv (pc' := 73) rfl dX11_laysGroup_70 lk_RX11_292 ly_63 rfl (c_meets l G (B := ([], fun _ => -1)) hstays1 (by decide) (pm_id n) (BI.nil n) hn1 hn7 w8 g3 hP8 hG8) rfl rfl rfl (fun meets1 w10 hq10 => ?_)
    obtain ⟨m10, u10, f10⟩ := hq10
    have hG10 : GWM w10 n (bfsI n f g 0) := m10
    have hT10 : (∀ j, j < 4 → w10 80 j = (cdk (gnF f g j) n : Nat)) := fun j hj => by rw [f10 80 j rfl]; exact hT8 j hj
    have hS10 : Kg w w10 := hS8.tr ⟨u10, f10.mono rfl⟩
    refine v_iconst (pc' := 74) rfl dX11_laysGroup_73 ?_
    refine v_istore_n (ls' := [(3, _), (0, _), (1, _), (2, _)]) (pc' := 75) rfl dX11_laysGroup_74 rfl rfl rfl ?_
    refine v_ls [1, 2, 3, 0] rfl ?_
    refine v_loop2 75 (fun (ap : Int) (wl : Wd) => ∃ k : Nat, ap = k ∧ k ≤ 5040 ∧ GWM wl n (bfsI n f g k) ∧ (∀ j, j < 4 → wl 80 j = (cdk (gnF f g j) n : Nat)) ∧ Kg w wl) (fun (ap : Int) (wl : Wd) => (5040 - ap).toNat) (fun (ap : Int) (wl : Wd) => [(0, aR 63), (1, aI (p)), (2, aI (q)), (3, aI (ap))]) (fun (ap : Int) (wl : Wd) => []) (fun (ap : Int) (wl : Wd) => wl) (fun ap wl hI1 ih1 => ?_) (0) w10 (⟨0, rfl, by omega, hG10, hT10, hS10⟩)
    clear hG10 hT10 hS10
    obtain ⟨k, hap, hk, hGk, hTk, hsc⟩ := hI1
    have g0 := (hsc.1 0 (by decide)).trans h00
    have g3 := (hsc.1 3 (by decide)).trans hR.1
    have hPl : ∀ i, i < facN n → wl 64 i = (cdk (pn n i) n : Nat) := fun i hi => (hsc.2 64 i rfl).trans (hR.2.2.1 i hi).1
    have hBI := bfsI_BI hn1 hn7 hf hg k
    have hlen := hBI.len hn1 hn7
    have gm := hGk.1
    refine v_iload_n 3 (pc' := 76) rfl dX11_laysGroup_75 rfl rfl ?_
    refine v_aload_n 0 (pc' := 77) rfl dX11_laysGroup_76 rfl rfl ?_
    refine v_get (z := (((bfsI n f g k).1.length : Nat) : Int)) (pc' := 80) rfl dX11_laysGroup_77 fk_RX11_289 ly_63 rfl (gm) ?_
    refine v_icmp_ge (pc' := 83) (tgt := 146) rfl dX11_laysGroup_80 (by decide) (by omega) (by omega) (fun c1 => ?_) (fun c1 => ?_)
    ·
      have hst : bfs n f g = bfsI n f g k := bfs_at hk (by omega)
      refine v_aload_n 0 (pc' := 147) rfl dX11_laysGroup_146 rfl rfl ?_
      refine v_get (z := (((bfsI n f g k).1.length : Nat) : Int)) (pc' := 150) rfl dX11_laysGroup_147 fk_RX11_289 ly_63 rfl (gm) ?_
      refine v_iret dX11_laysGroup_150 (by decide) (rfl) ?_
      exact ⟨hsc, by rw [hst]; exact hGk, by rw [hst]⟩
    ·
      have hkl : k < (bfsI n f g k).1.length := by omega
      have hpk := hBI.1 _ (getD_mem (d := pid) hkl)
      have hrk := pn_rank hn1 hn7 hpk
      have hdd := hBI.2.2.2 (rankN ((bfsI n f g k).1.getD k pid) n)
      have hd0 : (bfsI n f g k).2 (rankN ((bfsI n f g k).1.getD k pid) n) ≠ -1 := fun e => (hBI.2.2.1 _ hpk).mp e (getD_mem (d := pid) hkl)
      refine v_aload_n 0 (pc' := 84) rfl dX11_laysGroup_83 rfl rfl ?_
      refine v_getR (pc' := 87) rfl dX11_laysGroup_84 fk_RX11_53 ly_63 rfl ?_
      refine v_aload_n 0 (pc' := 88) rfl dX11_laysGroup_87 rfl rfl ?_
      refine v_aload_n 0 (pc' := 89) rfl dX11_laysGroup_88 rfl rfl ?_
      refine v_getR (pc' := 92) rfl dX11_laysGroup_89 fk_RX11_56 ly_63 rfl ?_
      refine v_iload_n 3 (pc' := 93) rfl dX11_laysGroup_92 rfl rfl ?_
      refine v_iald (z := ((cdk ((bfsI n f g k).1.getD k pid) n : Nat) : Int)) (pc' := 94) rfl dX11_laysGroup_93 ly_79 (by omega) (by omega) rfl (by rw [show ap.toNat = k by omega]; exact hGk.2.1 k hkl) ?_
      refine v_cVP (pc' := 97) rfl dX11_laysGroup_94 lk_RX11_286 ly_63 rfl (c_placeOfM l G (f := ((bfsI n f g k).1.getD k pid)) rfl hpk hn1 hn7 wl g3 hPl) rfl rfl rfl ?_
      refine v_nm (fun placeOf1 hplaceOf1 => ?_)
      refine v_iald (z := ((bfsI n f g k).2 (rankN ((bfsI n f g k).1.getD k pid) n))) (pc' := 98) rfl dX11_laysGroup_97 ly_78 (by omega) (by omega) rfl (by rw [show placeOf1.toNat = rankN ((bfsI n f g k).1.getD k pid) n by omega]; exact hGk.2.2 _ hrk.1) ?_
      refine v_iconst (pc' := 99) rfl dX11_laysGroup_98 ?_
      refine v_iadd (pc' := 100) rfl dX11_laysGroup_99 ?_
      refine v_nm (fun st' hst' => ?_)
      refine v_istore (ls' := [(4, _), (0, _), (1, _), (2, _), (3, _)]) (pc' := 102) rfl dX11_laysGroup_100 rfl rfl ?_
      refine v_iconst (pc' := 103) rfl dX11_laysGroup_102 ?_
      refine v_istore (ls' := [(5, _), (4, _), (0, _), (1, _), (2, _), (3, _)]) (pc' := 105) rfl dX11_laysGroup_103 rfl rfl ?_
      refine v_ls [2, 3, 4, 5, 1, 0] rfl ?_
      refine v_loop2 105 (fun (k4 : Int) (wm : Wd) => ∃ j : Nat, k4 = j ∧ j ≤ 4 ∧ GWM wm n (bStp n f g ((bfsI n f g k).1.getD k pid) ((bfsI n f g k).2 (rankN ((bfsI n f g k).1.getD k pid) n) + 1) (bfsI n f g k) j) ∧ (∀ j, j < 4 → wm 80 j = (cdk (gnF f g j) n : Nat)) ∧ Kg w wm) (fun (k4 : Int) (wm : Wd) => (4 - k4).toNat) (fun (k4 : Int) (wm : Wd) => [(0, aR 63), (1, aI (p)), (2, aI (q)), (3, aI (ap)), (4, aI (st')), (5, aI (k4))]) (fun (k4 : Int) (wm : Wd) => []) (fun (k4 : Int) (wm : Wd) => wm) (fun k4 wm hI2 ih2 => ?_) (0) wl (⟨0, rfl, by omega, hGk, hTk, hsc⟩)
      obtain ⟨j, hk4, hj, hGj, hTj, hsj⟩ := hI2
      have g0 := (hsj.1 0 (by decide)).trans h00
      have g3 := (hsj.1 3 (by decide)).trans hR.1
      have hPl : ∀ i, i < facN n → wm 64 i = (cdk (pn n i) n : Nat) := fun i hi => (hsj.2 64 i rfl).trans (hR.2.2.1 i hi).1
      have hBj := bStp_BI (d := ((bfsI n f g k).2 (rankN ((bfsI n f g k).1.getD k pid) n) + 1)) hn1 hn7 hf hg hpk (by omega) (by omega) hBI j
      have hpre := bStp_pre (n := n) (f := f) (g := g) (p := ((bfsI n f g k).1.getD k pid)) (d := ((bfsI n f g k).2 (rankN ((bfsI n f g k).1.getD k pid) n) + 1)) (B := (bfsI n f g k)) j
      refine v_iload 5 (pc' := 107) rfl dX11_laysGroup_105 rfl ?_
      refine v_iconst (pc' := 108) rfl dX11_laysGroup_107 ?_
      refine v_icmp_ge (pc' := 111) (tgt := 140) rfl dX11_laysGroup_108 (by decide) (by omega) (by omega) (fun c2 => ?_) (fun c2 => ?_)
      ·
        have hj4 : j = 4 := by omega
        refine v_iinc (ls' := [(3, _), (0, _), (1, _), (2, _), (4, _), (5, _)]) 3 (pc' := 143) rfl dX11_laysGroup_140 rfl rfl rfl ?_
        refine v_nl (fun at' hat' => ?_)
        refine v_goto (tgt := 75) dX11_laysGroup_143 (by decide) ?_
        refine v_ls [1, 2, 3, 0] rfl ?_
        exact ih1 (at') wm (⟨k + 1, by omega, by omega, by rw [show bfsI n f g (k + 1) = bExp n f g k (bfsI n f g k) from rfl, bStp_exp hkl, ← hj4]; exact hGj, hTj, hsj⟩) (by omega)
      ·
        refine v_aload_n 0 (pc' := 112) rfl dX11_laysGroup_111 rfl rfl ?_
        refine v_aload_n 0 (pc' := 113) rfl dX11_laysGroup_112 rfl rfl ?_
        refine v_aload_n 0 (pc' := 114) rfl dX11_laysGroup_113 rfl rfl ?_
        refine v_getR (pc' := 117) rfl dX11_laysGroup_114 fk_RX11_56 ly_63 rfl ?_
        refine v_iload_n 3 (pc' := 118) rfl dX11_laysGroup_117 rfl rfl ?_
        refine v_iald (z := ((cdk ((bfsI n f g k).1.getD k pid) n : Nat) : Int)) (pc' := 119) rfl dX11_laysGroup_118 ly_79 (by omega) (by omega) rfl (by rw [show ap.toNat = k by omega, hGj.2.1 k (Nat.lt_of_lt_of_le hkl hpre.1), hpre.2 k hkl]) ?_
        refine v_aload_n 0 (pc' := 120) rfl dX11_laysGroup_119 rfl rfl ?_
        refine v_getR (pc' := 123) rfl dX11_laysGroup_120 fk_RX11_59 ly_63 rfl ?_
        refine v_iload 5 (pc' := 125) rfl dX11_laysGroup_123 rfl ?_
        refine v_iald (z := ((cdk (gnF f g j) n : Nat) : Int)) (pc' := 126) rfl dX11_laysGroup_125 ly_80 (by omega) (by omega) rfl (by rw [show k4.toNat = j by omega]; exact hTj j (by omega)) ?_
        refine v_cVi (pc' := 129) rfl dX11_laysGroup_126 lk_RX11_141 ly_63 rfl (c_thenM l G (f := ((bfsI n f g k).1.getD k pid)) (g := gnF f g j) rfl rfl hpk (gnF_pm hn7 hf hg j) hn1 hn7 wm g0) rfl rfl rfl (fun then1 w12 hq12 => ?_)
        obtain ⟨f12, z12⟩ := hq12
        refine v_iload 4 (pc' := 131) rfl dX11_laysGroup_129 rfl ?_
        refine v_cVv (pc' := 134) rfl dX11_laysGroup_131 lk_RX11_292 ly_63 rfl (c_meets l G (B := (bStp n f g ((bfsI n f g k).1.getD k pid) ((bfsI n f g k).2 (rankN ((bfsI n f g k).1.getD k pid) n) + 1) (bfsI n f g k) j)) z12 (by omega) (hpk.comp (gnF_pm hn7 hf hg j)) hBj hn1 hn7 w12 ((f12 63 3 rfl).trans g3) (fun i hi => (f12 64 i rfl).trans (hPl i hi)) (hGj.fr (f12 63 31 rfl) (fun x => f12 78 x rfl) (fun x => f12 79 x rfl))) rfl rfl rfl (fun meets2 w13 hq13 => ?_)
        obtain ⟨m13, u13, f13⟩ := hq13
        have G13 : GWM w13 n (bStp n f g ((bfsI n f g k).1.getD k pid) ((bfsI n f g k).2 (rankN ((bfsI n f g k).1.getD k pid) n) + 1) (bfsI n f g k) (j + 1)) := by have h := m13; rw [hst'] at h; exact h
        have T13 : (∀ j, j < 4 → w13 80 j = (cdk (gnF f g j) n : Nat)) := fun x hx => by rw [f13 80 x rfl, f12 80 x rfl]; exact hTj x hx
        have S13 : Kg w w13 := (hsj.tr (Kg.of f12 rfl)).tr ⟨u13, f13.mono rfl⟩
        refine v_iinc (ls' := [(5, _), (0, _), (1, _), (2, _), (3, _), (4, _)]) 5 (pc' := 137) rfl dX11_laysGroup_134 rfl rfl rfl ?_
        refine v_nl (fun k4' hk4' => ?_)
        refine v_goto (tgt := 105) dX11_laysGroup_137 (by decide) ?_
        refine v_ls [1, 2, 3, 4, 5, 0] rfl ?_
        exact ih2 (k4') w13 (⟨j + 1, by omega, by omega, G13, T13, S13⟩) (by omega)
  ·
    refine v_aload_n 0 (pc' := 11) rfl dX11_laysGroup_10 rfl rfl ?_
    refine v_getR (pc' := 14) rfl dX11_laysGroup_11 fk_RX11_53 ly_63 rfl ?_
    refine v_iload_n 3 (pc' := 15) rfl dX11_laysGroup_14 rfl rfl ?_
    refine v_iconst (pc' := 16) rfl dX11_laysGroup_15 ?_
    refine v_iast (pc' := 17) rfl dX11_laysGroup_16 ly_78 (by omega) (by omega) rfl ?_
    refine v_nmw (fun w1 hw1 => ?_)
    have g0 : w1 63 0 = (n : Int) := by rw [hw1, up_ne _ _ (by omega)]; exact g0
    have g3 : w1 63 3 = ((facN n : Nat) : Int) := by rw [hw1, up_ne _ _ (by omega)]; exact g3
    refine v_iinc (ls' := [(3, _), (0, _), (1, _), (2, _)]) 3 (pc' := 20) rfl dX11_laysGroup_17 rfl rfl rfl ?_
    refine v_nl (fun i' hi' => ?_)
    refine v_goto (tgt := 2) dX11_laysGroup_20 (by decide) ?_
    refine v_ls [1, 2, 3, 0] rfl ?_
    exact ih0 (i') w1 (⟨m + 1, by omega, by omega, fun z hz => by
        rw [hw1, up_at, show i.toNat = m by omega]
        split
        · rfl
        · exact hA z (by omega), by rw [hw1]; exact hsa.up rfl⟩) (by omega)
theorem c_laysGroup (l : Launch) (G : Gx) {p q : Int} {n : Nat} {f g : Nat → Nat} (hp : p = (cdk f n : Nat)) (hq : q = (cdk g n : Nat)) (hf : Pm n f) (hg : Pm n g) (hn1 : 1 ≤ n) (hn7 : n ≤ 7) (w : Wd) (h00 : w 63 0 = n) (hR : RTab w n) : Sp l G 2 mX11_laysGroup [aR 63, aI (p), aI (q)] w (fun z w' => Scr w w' ∧ GWM w' n (bfs n f g) ∧ z = ((bfs n f g).1.length : Nat)) :=
  (c_laysGroupK l G hp hq hf hg hn1 hn7 w h00 hR).mono (fun z w' h => ⟨h.1.scr, h.2⟩)
theorem cntG_s (P : (Nat → Nat) → Bool) (L : List (Nat → Nat)) (k : Nat) : cntG P L (k + 1) = cntG P L k + (if P (L.getD k pid) then 1 else 0) := rfl
set_option maxHeartbeats 4000000 in
set_option maxRecDepth 100000 in
theorem c_ofTypeM (l : Launch) (G : Gx) {t : Int} (ht : rg t) {n : Nat} {s a : Nat → Nat} (hV : MapV n s a) (w : Wd) (hM : RMW w n s a) (hR : RTab w n) : Sp l G 3 mX11_ofType [aR 63, aI (t)] w (fun z w' => Scr w w' ∧ z = if kndB n t = true then ((cntG (fun p => decide ((kindN p n : Int) = t)) (bfs n s a).1 (bfs n s a).1.length : Nat) : Int) else -1) := by
  obtain ⟨⟨hn1, hn7⟩, hs, ha⟩ := id hV
  obtain ⟨r0, r1, r2⟩ := id hM
  obtain ⟨r3, r4, rPK, rTK⟩ := id hR
  have hfc := fac_le hn1 hn7
  have hk15 := kmany_le n hn7
  refine Sp_of RX11 rfl (by decide +kernel) rfl (Nat.le_of_ble_eq_true rfl) ?_
  refine v_aload_n 0 (pc' := 1) rfl dX11_ofType_0 rfl rfl ?_
  refine v_iload_n 1 (pc' := 2) rfl dX11_ofType_1 rfl rfl ?_
  refine v_cVR (pc' := 5) rfl dX11_ofType_2 lk_RX11_178 ly_63 rfl (c_kindOf l G (n := n) ht hn1 hn7 w r4 (fun k hk => (rTK k hk).1)) rfl rfl rfl (fun kindOf1 hkindOf1 => ?_)
  refine v_istore_n (ls' := [(2, _), (0, _), (1, _)]) (pc' := 6) rfl dX11_ofType_5 rfl rfl rfl ?_
  refine v_iload_n 0 (pc' := 7) rfl dX11_ofType_6 rfl rfl ?_
  refine v_iconst (pc' := 8) rfl dX11_ofType_7 ?_
  refine v_icmp_ne (pc' := 11) (tgt := 13) rfl dX11_ofType_8 (by decide) (KX_r hn7 hkindOf1) (by decide) (fun c0 => ?_) (fun c0 => ?_)
  ·
    obtain ⟨kI, hkz, hkI, hkt⟩ := KX_at hkindOf1 (by omega)
    have hy : kndB n t = true := kndB_iff.mpr ⟨kI, hkI, hkt⟩
    refine v_aload_n 1 (pc' := 14) rfl dX11_ofType_13 rfl rfl ?_
    refine v_aload_n 1 (pc' := 15) rfl dX11_ofType_14 rfl rfl ?_
    refine v_get (z := ((cdk s n : Nat) : Int)) (pc' := 18) rfl dX11_ofType_15 fk_RX11_149 ly_63 rfl (r1) ?_
    refine v_aload_n 1 (pc' := 19) rfl dX11_ofType_18 rfl rfl ?_
    refine v_get (z := ((cdk a n : Nat) : Int)) (pc' := 22) rfl dX11_ofType_19 fk_RX11_152 ly_63 rfl (r2) ?_
    refine v_cVi (pc' := 25) rfl dX11_ofType_22 lk_RX11_295 ly_63 rfl (c_laysGroup l G rfl rfl hs ha hn1 hn7 w r0 hR) rfl rfl rfl (fun laysGroup1 w2 hq2 => ?_)
    obtain ⟨hsg, hGg, zg⟩ := hq2
    have hBI : BI n (bfs n s a) := bfsI_BI hn1 hn7 hs ha 5040
    have hlen := hBI.len hn1 hn7
    refine v_istore_n (ls' := [(3, _), (2, _), (0, _), (1, _)]) (pc' := 26) rfl dX11_ofType_25 rfl rfl rfl ?_
    refine v_iconst (pc' := 27) rfl dX11_ofType_26 ?_
    refine v_istore (ls' := [(4, _), (3, _), (2, _), (0, _), (1, _)]) (pc' := 29) rfl dX11_ofType_27 rfl rfl ?_
    refine v_iconst (pc' := 30) rfl dX11_ofType_29 ?_
    refine v_istore (ls' := [(5, _), (4, _), (3, _), (2, _), (0, _), (1, _)]) (pc' := 32) rfl dX11_ofType_30 rfl rfl ?_
    refine v_ls [4, 5, 3, 2, 1, 0] rfl ?_
    refine v_loop2 32 (fun (is : Int) (i : Int) => ∃ m : Nat, i = m ∧ m ≤ (bfs n s a).1.length ∧ is = (cntG (fun p => decide ((kindN p n : Int) = t)) (bfs n s a).1 m : Nat)) (fun (is : Int) (i : Int) => (5040 - i).toNat) (fun (is : Int) (i : Int) => [(0, aR 63), (1, aI (t)), (2, aI (kindOf1)), (3, aI (laysGroup1)), (4, aI (is)), (5, aI (i))]) (fun (is : Int) (i : Int) => []) (fun (is : Int) (i : Int) => w2) (fun is i hI0 ih0 => ?_) (0) (0) (⟨0, rfl, by omega, rfl⟩)
    obtain ⟨m, hi, hm, hc⟩ := hI0
    refine v_iload 5 (pc' := 34) rfl dX11_ofType_32 rfl ?_
    refine v_iload_n 3 (pc' := 35) rfl dX11_ofType_34 rfl rfl ?_
    refine v_icmp_ge (pc' := 38) (tgt := 74) rfl dX11_ofType_35 (by decide) (by omega) (by omega) (fun c1 => ?_) (fun c1 => ?_)
    ·
      have hme : m = (bfs n s a).1.length := by omega
      refine v_iload 4 (pc' := 76) rfl dX11_ofType_74 rfl ?_
      refine v_iret dX11_ofType_76 (by decide) (rfl) ?_
      first | exact ⟨Scr.rf _, by rw [if_neg hno]⟩ | exact ⟨hsg, by rw [if_pos hy, hc, hme]⟩
    ·
      have hml : m < (bfs n s a).1.length := by omega
      have hpm := hBI.1 _ (getD_mem (d := pid) hml)
      have hrk := pn_rank hn1 hn7 hpm
      obtain ⟨kJ, hkJ1, hkJ2, hkJ3⟩ := (rPK _ hrk.1).2
      rw [hrk.2] at hkJ2
      have hkb := KX_r hn7 hkindOf1
      refine v_iload 4 (pc' := 40) rfl dX11_ofType_38 rfl ?_
      refine v_aload_n 0 (pc' := 41) rfl dX11_ofType_40 rfl rfl ?_
      refine v_getR (pc' := 44) rfl dX11_ofType_41 fk_RX11_13 ly_63 rfl ?_
      refine v_aload_n 0 (pc' := 45) rfl dX11_ofType_44 rfl rfl ?_
      refine v_aload_n 0 (pc' := 46) rfl dX11_ofType_45 rfl rfl ?_
      refine v_getR (pc' := 49) rfl dX11_ofType_46 fk_RX11_56 ly_63 rfl ?_
      refine v_iload 5 (pc' := 51) rfl dX11_ofType_49 rfl ?_
      refine v_iald (z := ((cdk ((bfs n s a).1.getD m pid) n : Nat) : Int)) (pc' := 52) rfl dX11_ofType_51 ly_79 (by omega) (by omega) rfl (by rw [show i.toNat = m by omega]; exact hGg.2.1 m hml) ?_
      refine v_cVP (pc' := 55) rfl dX11_ofType_52 lk_RX11_286 ly_63 rfl (c_placeOfM l G (f := ((bfs n s a).1.getD m pid)) rfl hpm hn1 hn7 w2 ((hsg 63 3 (by decide)).trans hR.1) (fun i hi => (hsg 64 i rfl).trans (rPK i hi).1)) rfl rfl rfl ?_
      refine v_nm (fun placeOf1 hplaceOf1 => ?_)
      refine v_iald (z := ((kJ : Nat) : Int)) (pc' := 56) rfl dX11_ofType_55 ly_65 (by omega) (by omega) rfl (by rw [show placeOf1.toNat = rankN ((bfs n s a).1.getD m pid) n by omega, hsg 65 _ rfl]; exact hkJ3) ?_
      refine v_iload_n 2 (pc' := 57) rfl dX11_ofType_56 rfl rfl ?_
      refine v_icmp_ne (pc' := 60) (tgt := 64) rfl dX11_ofType_57 (by decide) (by omega) (by omega) (fun c2 => ?_) (fun c2 => ?_)
      ·
        have hnk : ¬ (kindN ((bfs n s a).1.getD m pid) n : Int) = t := fun e => c2 (by rw [kT_inj n (by omega) kJ hkJ1 kI hkI (by omega)]; omega)
        refine v_iconst (pc' := 65) rfl dX11_ofType_64 ?_
        refine v_iadd (pc' := 66) rfl dX11_ofType_65 ?_
        refine v_nm (fun is' his' => ?_)
        refine v_istore (ls' := [(4, _), (0, _), (1, _), (2, _), (3, _), (5, _)]) (pc' := 68) rfl dX11_ofType_66 rfl rfl ?_
        refine v_iinc (ls' := [(5, _), (4, _), (0, _), (1, _), (2, _), (3, _)]) 5 (pc' := 71) rfl dX11_ofType_68 rfl rfl rfl ?_
        refine v_nl (fun i' hi' => ?_)
        refine v_goto (tgt := 32) dX11_ofType_71 (by decide) ?_
        refine v_ls [2, 3, 4, 5, 1, 0] rfl ?_
        exact ih0 (is') (i') (⟨m + 1, by omega, by omega, by rw [cntG_s, if_neg (fun q => hnk (of_decide_eq_true q))]; omega⟩) (by omega)
      ·
        have hyk : (kindN ((bfs n s a).1.getD m pid) n : Int) = t := by
          have e : kJ = kI := by omega
          rw [← hkJ2, e]; exact hkt
        refine v_iconst (pc' := 61) rfl dX11_ofType_60 ?_
        refine v_goto (tgt := 65) dX11_ofType_61 (by decide) ?_
        refine v_iadd (pc' := 66) rfl dX11_ofType_65 ?_
        refine v_nm (fun is' his' => ?_)
        refine v_istore (ls' := [(4, _), (0, _), (1, _), (2, _), (3, _), (5, _)]) (pc' := 68) rfl dX11_ofType_66 rfl rfl ?_
        refine v_iinc (ls' := [(5, _), (4, _), (0, _), (1, _), (2, _), (3, _)]) 5 (pc' := 71) rfl dX11_ofType_68 rfl rfl rfl ?_
        refine v_nl (fun i' hi' => ?_)
        refine v_goto (tgt := 32) dX11_ofType_71 (by decide) ?_
        refine v_ls [2, 3, 4, 5, 1, 0] rfl ?_
        exact ih0 (is') (i') (⟨m + 1, by omega, by omega, by rw [cntG_s, if_pos (decide_eq_true hyk)]; omega⟩) (by omega)
  ·
    have hno := KX_no hkindOf1 (by omega)
    refine v_iconst (pc' := 12) rfl dX11_ofType_11 ?_
    refine v_iret dX11_ofType_12 (by decide) (rfl) ?_
    first | exact ⟨Scr.rf _, by rw [if_neg hno]⟩ | exact ⟨hsg, by rw [if_pos hy, hc, hme]⟩
set_option maxHeartbeats 4000000 in
set_option maxRecDepth 100000 in
theorem c_elementsM (l : Launch) (G : Gx) {t : Int} (ht : rg t) {n : Nat} {s a : Nat → Nat} (hV : MapV n s a) (w : Wd) (hM : RMW w n s a) (hR : RTab w n) : Sp l G 3 mX11_elements [aR 63, aI (t)] w (fun z w' => Scr w w' ∧ z = if t < 0 then -1 else if t = 0 then ((cntG (fun p => commB p s 7 && commB p a 7) (bfs n s a).1 (bfs n s a).1.length : Nat) : Int) else ((cntG (fun p => decide ((orderN p n : Int) = t)) (bfs n s a).1 (bfs n s a).1.length : Nat) : Int)) := by
  obtain ⟨⟨hn1, hn7⟩, hs, ha⟩ := id hV
  obtain ⟨r0, r1, r2⟩ := id hM
  obtain ⟨r3, r4, rPK, rTK⟩ := id hR
  have hfc := fac_le hn1 hn7
  have hk15 := kmany_le n hn7
  refine Sp_of RX11 rfl (by decide +kernel) rfl (Nat.le_of_ble_eq_true rfl) ?_
  refine v_iload_n 1 (pc' := 1) rfl dX11_elements_0 rfl rfl ?_
  refine v_if_ge (pc' := 4) (tgt := 6) rfl dX11_elements_1 (by decide) (by omega) (fun c0 => ?_) (fun c0 => ?_)
  ·
    refine v_aload_n 0 (pc' := 7) rfl dX11_elements_6 rfl rfl ?_
    refine v_aload_n 0 (pc' := 8) rfl dX11_elements_7 rfl rfl ?_
    refine v_get (z := ((cdk s n : Nat) : Int)) (pc' := 11) rfl dX11_elements_8 fk_RX11_149 ly_63 rfl (r1) ?_
    refine v_aload_n 0 (pc' := 12) rfl dX11_elements_11 rfl rfl ?_
    refine v_get (z := ((cdk a n : Nat) : Int)) (pc' := 15) rfl dX11_elements_12 fk_RX11_152 ly_63 rfl (r2) ?_
    refine v_cVi (pc' := 18) rfl dX11_elements_15 lk_RX11_295 ly_63 rfl (c_laysGroup l G rfl rfl hs ha hn1 hn7 w r0 hR) rfl rfl rfl (fun laysGroup1 w1 hq1 => ?_)
    obtain ⟨hsg, hGg, zg⟩ := hq1
    have hBI : BI n (bfs n s a) := bfsI_BI hn1 hn7 hs ha 5040
    have hlen := hBI.len hn1 hn7
    refine v_istore_n (ls' := [(2, _), (0, _), (1, _)]) (pc' := 19) rfl dX11_elements_18 rfl rfl rfl ?_
    refine v_iconst (pc' := 20) rfl dX11_elements_19 ?_
    refine v_istore_n (ls' := [(3, _), (2, _), (0, _), (1, _)]) (pc' := 21) rfl dX11_elements_20 rfl rfl rfl ?_
    refine v_iconst (pc' := 22) rfl dX11_elements_21 ?_
    refine v_istore (ls' := [(4, _), (3, _), (2, _), (0, _), (1, _)]) (pc' := 24) rfl dX11_elements_22 rfl rfl ?_
    refine v_ls [3, 4, 2, 1, 0] rfl ?_
    refine v_loop3 24 (fun (is : Int) (i : Int) (wl : Wd) => ∃ m : Nat, i = m ∧ m ≤ (bfs n s a).1.length ∧ is = (if t = 0 then ((cntG (fun p => commB p s 7 && commB p a 7) (bfs n s a).1 m : Nat) : Int) else ((cntG (fun p => decide ((orderN p n : Int) = t)) (bfs n s a).1 m : Nat) : Int)) ∧ Fr [69, 70] w1 wl) (fun (is : Int) (i : Int) (wl : Wd) => (5040 - i).toNat) (fun (is : Int) (i : Int) (wl : Wd) => [(0, aR 63), (1, aI (t)), (2, aI (laysGroup1)), (3, aI (is)), (4, aI (i))]) (fun (is : Int) (i : Int) (wl : Wd) => []) (fun (is : Int) (i : Int) (wl : Wd) => wl) (fun is i wl hI0 ih0 => ?_) (0) (0) w1 (⟨0, rfl, by omega, by split <;> rfl, Fr.rf _ _⟩)
    obtain ⟨m, hi, hm, hc, hsc⟩ := hI0
    have g0 := (hsc 63 0 rfl).trans ((hsg 63 0 (by decide)).trans hM.1)
    have g1 := (hsc 63 1 rfl).trans ((hsg 63 1 (by decide)).trans hM.2.1)
    have g2 := (hsc 63 2 rfl).trans ((hsg 63 2 (by decide)).trans hM.2.2)
    refine v_iload 4 (pc' := 26) rfl dX11_elements_24 rfl ?_
    refine v_iload_n 2 (pc' := 27) rfl dX11_elements_26 rfl rfl ?_
    refine v_icmp_ge (pc' := 30) (tgt := 133) rfl dX11_elements_27 (by decide) (by omega) (by omega) (fun c1 => ?_) (fun c1 => ?_)
    ·
      have hme : m = (bfs n s a).1.length := by omega
      refine v_iload_n 3 (pc' := 134) rfl dX11_elements_133 rfl rfl ?_
      refine v_iret dX11_elements_134 (by decide) (rfl) ?_
      first | exact ⟨Scr.rf _, by rw [if_pos (by omega)]⟩ | exact ⟨hsg.tr (Scr.of hsc (by decide)), by rw [if_neg (by omega), ← hme]; exact hc⟩
    ·
      have hml : m < (bfs n s a).1.length := by omega
      have hpm := hBI.1 _ (getD_mem (d := pid) hml)
      refine v_aload_n 0 (pc' := 31) rfl dX11_elements_30 rfl rfl ?_
      refine v_getR (pc' := 34) rfl dX11_elements_31 fk_RX11_56 ly_63 rfl ?_
      refine v_iload 4 (pc' := 36) rfl dX11_elements_34 rfl ?_
      refine v_iald (z := ((cdk ((bfs n s a).1.getD m pid) n : Nat) : Int)) (pc' := 37) rfl dX11_elements_36 ly_79 (by omega) (by omega) rfl (by rw [show i.toNat = m by omega]; exact (hsc 79 m rfl).trans (hGg.2.1 m hml)) ?_
      refine v_nm (fun p' hp' => ?_)
      refine v_istore (ls' := [(5, _), (0, _), (1, _), (2, _), (3, _), (4, _)]) (pc' := 39) rfl dX11_elements_37 rfl rfl ?_
      refine v_iload_n 2 (pc' := 40) rfl dX11_elements_39 rfl rfl ?_
      refine v_if_ne (pc' := 43) (tgt := 97) rfl dX11_elements_40 (by decide) (by omega) (fun c2 => ?_) (fun c2 => ?_)
      ·
        have ht0 : ¬ t = 0 := by omega
        refine v_aload_n 1 (pc' := 98) rfl dX11_elements_97 rfl rfl ?_
        refine v_iload 0 (pc' := 100) rfl dX11_elements_98 rfl ?_
        refine v_cVi (pc' := 103) rfl dX11_elements_100 lk_RX11_270 ly_63 rfl (c_orderOf l G hp' hpm hn1 hn7 wl g0) rfl rfl rfl (fun orderOf1 w6 hq6 => ?_)
        obtain ⟨f6, z6⟩ := hq6
        have hor := (kf_ord hn1 hn7 hpm).1
        refine v_iload_n 2 (pc' := 104) rfl dX11_elements_103 rfl rfl ?_
        refine v_icmp_ne (pc' := 107) (tgt := 111) rfl dX11_elements_104 (by decide) (by omega) (by omega) (fun c5 => ?_) (fun c5 => ?_)
        ·
          have hno : ¬ (orderN ((bfs n s a).1.getD m pid) n : Int) = t := by omega
          refine v_iconst (pc' := 112) rfl dX11_elements_111 ?_
          refine v_istore (ls' := [(6, _), (5, _), (0, _), (1, _), (2, _), (3, _), (4, _)]) (pc' := 114) rfl dX11_elements_112 rfl rfl ?_
          refine v_iload_n 5 (pc' := 115) rfl dX11_elements_114 rfl rfl ?_
          refine v_iload 0 (pc' := 117) rfl dX11_elements_115 rfl ?_
          refine v_if_eq (pc' := 120) (tgt := 124) rfl dX11_elements_117 (by decide) (by omega) (fun c6 => ?_) (fun c6 => absurd c6 (by decide))
          refine v_iconst (pc' := 125) rfl dX11_elements_124 ?_
          refine v_iadd (pc' := 126) rfl dX11_elements_125 ?_
          refine v_nm (fun is' his' => ?_)
          refine v_istore_n (ls' := [(3, _), (6, _), (5, _), (0, _), (1, _), (2, _), (4, _)]) (pc' := 127) rfl dX11_elements_126 rfl rfl rfl ?_
          refine v_iinc (ls' := [(4, _), (3, _), (6, _), (5, _), (0, _), (1, _), (2, _)]) 6 (pc' := 130) rfl dX11_elements_127 rfl rfl rfl ?_
          refine v_nl (fun i' hi' => ?_)
          refine v_goto (tgt := 24) dX11_elements_130 (by decide) ?_
          refine v_ls [4, 5, 6, 1, 0] rfl ?_
          exact ih0 (is') (i') w6 (⟨m + 1, by omega, by omega, by rw [if_neg ht0] at hc ⊢; rw [cntG_s, if_neg (fun q => hno (of_decide_eq_true q))]; omega, hsc.trs f6⟩) (by omega)
        ·
          have hyo : (orderN ((bfs n s a).1.getD m pid) n : Int) = t := by omega
          refine v_iconst (pc' := 108) rfl dX11_elements_107 ?_
          refine v_goto (tgt := 112) dX11_elements_108 (by decide) ?_
          refine v_istore (ls' := [(6, _), (5, _), (0, _), (1, _), (2, _), (3, _), (4, _)]) (pc' := 114) rfl dX11_elements_112 rfl rfl ?_
          refine v_iload_n 5 (pc' := 115) rfl dX11_elements_114 rfl rfl ?_
          refine v_iload 0 (pc' := 117) rfl dX11_elements_115 rfl ?_
          refine v_if_eq (pc' := 120) (tgt := 124) rfl dX11_elements_117 (by decide) (by omega) (fun c6 => absurd c6 (by decide)) (fun c6 => ?_)
          refine v_iconst (pc' := 121) rfl dX11_elements_120 ?_
          refine v_goto (tgt := 125) dX11_elements_121 (by decide) ?_
          refine v_iadd (pc' := 126) rfl dX11_elements_125 ?_
          refine v_nm (fun is' his' => ?_)
          refine v_istore_n (ls' := [(3, _), (6, _), (5, _), (0, _), (1, _), (2, _), (4, _)]) (pc' := 127) rfl dX11_elements_126 rfl rfl rfl ?_
          refine v_iinc (ls' := [(4, _), (3, _), (6, _), (5, _), (0, _), (1, _), (2, _)]) 6 (pc' := 130) rfl dX11_elements_127 rfl rfl rfl ?_
          refine v_nl (fun i' hi' => ?_)
          refine v_goto (tgt := 24) dX11_elements_130 (by decide) ?_
          refine v_ls [4, 5, 6, 1, 0] rfl ?_
          exact ih0 (is') (i') w6 (⟨m + 1, by omega, by omega, by rw [if_neg ht0] at hc ⊢; rw [cntG_s, if_pos (decide_eq_true hyo)]; omega, hsc.trs f6⟩) (by omega)
      ·
        have ht0 : t = 0 := by omega
        refine v_aload_n 1 (pc' := 44) rfl dX11_elements_43 rfl rfl ?_
        refine v_iload 0 (pc' := 46) rfl dX11_elements_44 rfl ?_
        refine v_aload_n 1 (pc' := 47) rfl dX11_elements_46 rfl rfl ?_
        refine v_get (z := ((cdk s n : Nat) : Int)) (pc' := 50) rfl dX11_elements_47 fk_RX11_149 ly_63 rfl (g1) ?_
        refine v_cVi (pc' := 53) rfl dX11_elements_50 lk_RX11_141 ly_63 rfl (c_thenM l G hp' rfl hpm hs hn1 hn7 wl g0) rfl rfl rfl (fun then1 w2 hq2 => ?_)
        obtain ⟨f2, z2⟩ := hq2
        have hl2 := cd_le (hpm.comp hs) hn7 (Nat.le_refl n)
        have g0 : w2 63 0 = (n : Int) := (f2 63 0 (by decide)).trans g0
        have g1 : w2 63 1 = ((cdk s n : Nat) : Int) := (f2 63 1 (by decide)).trans g1
        have g2 : w2 63 2 = ((cdk a n : Nat) : Int) := (f2 63 2 (by decide)).trans g2
        refine v_aload_n 1 (pc' := 54) rfl dX11_elements_53 rfl rfl ?_
        refine v_aload_n 1 (pc' := 55) rfl dX11_elements_54 rfl rfl ?_
        refine v_get (z := ((cdk s n : Nat) : Int)) (pc' := 58) rfl dX11_elements_55 fk_RX11_149 ly_63 rfl (g1) ?_
        refine v_iload 0 (pc' := 60) rfl dX11_elements_58 rfl ?_
        refine v_cVi (pc' := 63) rfl dX11_elements_60 lk_RX11_141 ly_63 rfl (c_thenM l G rfl hp' hs hpm hn1 hn7 w2 g0) rfl rfl rfl (fun then2 w3 hq3 => ?_)
        obtain ⟨f3, z3⟩ := hq3
        have hl3 := cd_le (hs.comp hpm) hn7 (Nat.le_refl n)
        have g0 : w3 63 0 = (n : Int) := (f3 63 0 (by decide)).trans g0
        have g1 : w3 63 1 = ((cdk s n : Nat) : Int) := (f3 63 1 (by decide)).trans g1
        have g2 : w3 63 2 = ((cdk a n : Nat) : Int) := (f3 63 2 (by decide)).trans g2
        refine v_icmp_ne (pc' := 66) (tgt := 93) rfl dX11_elements_63 (by decide) (by omega) (by omega) (fun c3 => ?_) (fun c3 => ?_)
        ·
          have hcn : (commB ((bfs n s a).1.getD m pid) s 7 && commB ((bfs n s a).1.getD m pid) a 7) = false := by
            have : commB ((bfs n s a).1.getD m pid) s 7 = false := by
              rw [← Bool.not_eq_true]; intro q
              rw [(comm_iff hn7 hpm hs).mp q] at z2; omega
            rw [this]; rfl
          refine v_iconst (pc' := 94) rfl dX11_elements_93 ?_
          refine v_goto (tgt := 112) dX11_elements_94 (by decide) ?_
          refine v_istore (ls' := [(6, _), (5, _), (0, _), (1, _), (2, _), (3, _), (4, _)]) (pc' := 114) rfl dX11_elements_112 rfl rfl ?_
          refine v_iload_n 5 (pc' := 115) rfl dX11_elements_114 rfl rfl ?_
          refine v_iload 0 (pc' := 117) rfl dX11_elements_115 rfl ?_
          refine v_if_eq (pc' := 120) (tgt := 124) rfl dX11_elements_117 (by decide) (by omega) (fun c6 => ?_) (fun c6 => absurd c6 (by decide))
          refine v_iconst (pc' := 125) rfl dX11_elements_124 ?_
          refine v_iadd (pc' := 126) rfl dX11_elements_125 ?_
          refine v_nm (fun is' his' => ?_)
          refine v_istore_n (ls' := [(3, _), (6, _), (5, _), (0, _), (1, _), (2, _), (4, _)]) (pc' := 127) rfl dX11_elements_126 rfl rfl rfl ?_
          refine v_iinc (ls' := [(4, _), (3, _), (6, _), (5, _), (0, _), (1, _), (2, _)]) 6 (pc' := 130) rfl dX11_elements_127 rfl rfl rfl ?_
          refine v_nl (fun i' hi' => ?_)
          refine v_goto (tgt := 24) dX11_elements_130 (by decide) ?_
          refine v_ls [4, 5, 6, 1, 0] rfl ?_
          exact ih0 (is') (i') w3 (⟨m + 1, by omega, by omega, by rw [if_pos ht0] at hc ⊢; rw [cntG_s, hcn]; simp; omega, hsc.trs (f2.trs f3)⟩) (by omega)
        ·
          have hc1 : commB ((bfs n s a).1.getD m pid) s 7 = true := (comm_iff hn7 hpm hs).mpr ((cd_inj (hpm.comp hs) (hs.comp hpm) hn7).mp (by omega))
          refine v_aload_n 1 (pc' := 67) rfl dX11_elements_66 rfl rfl ?_
          refine v_iload 0 (pc' := 69) rfl dX11_elements_67 rfl ?_
          refine v_aload_n 1 (pc' := 70) rfl dX11_elements_69 rfl rfl ?_
          refine v_get (z := ((cdk a n : Nat) : Int)) (pc' := 73) rfl dX11_elements_70 fk_RX11_152 ly_63 rfl (g2) ?_
          refine v_cVi (pc' := 76) rfl dX11_elements_73 lk_RX11_141 ly_63 rfl (c_thenM l G hp' rfl hpm ha hn1 hn7 w3 g0) rfl rfl rfl (fun then3 w4 hq4 => ?_)
          obtain ⟨f4, z4⟩ := hq4
          have hl4 := cd_le (hpm.comp ha) hn7 (Nat.le_refl n)
          have g0 : w4 63 0 = (n : Int) := (f4 63 0 (by decide)).trans g0
          have g1 : w4 63 1 = ((cdk s n : Nat) : Int) := (f4 63 1 (by decide)).trans g1
          have g2 : w4 63 2 = ((cdk a n : Nat) : Int) := (f4 63 2 (by decide)).trans g2
          refine v_aload_n 1 (pc' := 77) rfl dX11_elements_76 rfl rfl ?_
          refine v_aload_n 1 (pc' := 78) rfl dX11_elements_77 rfl rfl ?_
          refine v_get (z := ((cdk a n : Nat) : Int)) (pc' := 81) rfl dX11_elements_78 fk_RX11_152 ly_63 rfl (g2) ?_
          refine v_iload 0 (pc' := 83) rfl dX11_elements_81 rfl ?_
          refine v_cVi (pc' := 86) rfl dX11_elements_83 lk_RX11_141 ly_63 rfl (c_thenM l G rfl hp' ha hpm hn1 hn7 w4 g0) rfl rfl rfl (fun then4 w5 hq5 => ?_)
          obtain ⟨f5, z5⟩ := hq5
          have hl5 := cd_le (ha.comp hpm) hn7 (Nat.le_refl n)
          have g0 : w5 63 0 = (n : Int) := (f5 63 0 (by decide)).trans g0
          have g1 : w5 63 1 = ((cdk s n : Nat) : Int) := (f5 63 1 (by decide)).trans g1
          have g2 : w5 63 2 = ((cdk a n : Nat) : Int) := (f5 63 2 (by decide)).trans g2
          refine v_icmp_ne (pc' := 89) (tgt := 93) rfl dX11_elements_86 (by decide) (by omega) (by omega) (fun c4 => ?_) (fun c4 => ?_)
          ·
            have hcn : (commB ((bfs n s a).1.getD m pid) s 7 && commB ((bfs n s a).1.getD m pid) a 7) = false := by
              have : commB ((bfs n s a).1.getD m pid) a 7 = false := by
                rw [← Bool.not_eq_true]; intro q
                rw [(comm_iff hn7 hpm ha).mp q] at z4; omega
              rw [this, Bool.and_false]
            refine v_iconst (pc' := 94) rfl dX11_elements_93 ?_
            refine v_goto (tgt := 112) dX11_elements_94 (by decide) ?_
            refine v_istore (ls' := [(6, _), (5, _), (0, _), (1, _), (2, _), (3, _), (4, _)]) (pc' := 114) rfl dX11_elements_112 rfl rfl ?_
            refine v_iload_n 5 (pc' := 115) rfl dX11_elements_114 rfl rfl ?_
            refine v_iload 0 (pc' := 117) rfl dX11_elements_115 rfl ?_
            refine v_if_eq (pc' := 120) (tgt := 124) rfl dX11_elements_117 (by decide) (by omega) (fun c6 => ?_) (fun c6 => absurd c6 (by decide))
            refine v_iconst (pc' := 125) rfl dX11_elements_124 ?_
            refine v_iadd (pc' := 126) rfl dX11_elements_125 ?_
            refine v_nm (fun is' his' => ?_)
            refine v_istore_n (ls' := [(3, _), (6, _), (5, _), (0, _), (1, _), (2, _), (4, _)]) (pc' := 127) rfl dX11_elements_126 rfl rfl rfl ?_
            refine v_iinc (ls' := [(4, _), (3, _), (6, _), (5, _), (0, _), (1, _), (2, _)]) 6 (pc' := 130) rfl dX11_elements_127 rfl rfl rfl ?_
            refine v_nl (fun i' hi' => ?_)
            refine v_goto (tgt := 24) dX11_elements_130 (by decide) ?_
            refine v_ls [4, 5, 6, 1, 0] rfl ?_
            exact ih0 (is') (i') w5 (⟨m + 1, by omega, by omega, by rw [if_pos ht0] at hc ⊢; rw [cntG_s, hcn]; simp; omega, hsc.trs (((f2.trs f3).trs f4).trs f5)⟩) (by omega)
          ·
            have hcy : (commB ((bfs n s a).1.getD m pid) s 7 && commB ((bfs n s a).1.getD m pid) a 7) = true := by rw [hc1, (comm_iff hn7 hpm ha).mpr ((cd_inj (hpm.comp ha) (ha.comp hpm) hn7).mp (by omega))]; rfl
            refine v_iconst (pc' := 90) rfl dX11_elements_89 ?_
            refine v_goto (tgt := 112) dX11_elements_90 (by decide) ?_
            refine v_istore (ls' := [(6, _), (5, _), (0, _), (1, _), (2, _), (3, _), (4, _)]) (pc' := 114) rfl dX11_elements_112 rfl rfl ?_
            refine v_iload_n 5 (pc' := 115) rfl dX11_elements_114 rfl rfl ?_
            refine v_iload 0 (pc' := 117) rfl dX11_elements_115 rfl ?_
            refine v_if_eq (pc' := 120) (tgt := 124) rfl dX11_elements_117 (by decide) (by omega) (fun c6 => absurd c6 (by decide)) (fun c6 => ?_)
            refine v_iconst (pc' := 121) rfl dX11_elements_120 ?_
            refine v_goto (tgt := 125) dX11_elements_121 (by decide) ?_
            refine v_iadd (pc' := 126) rfl dX11_elements_125 ?_
            refine v_nm (fun is' his' => ?_)
            refine v_istore_n (ls' := [(3, _), (6, _), (5, _), (0, _), (1, _), (2, _), (4, _)]) (pc' := 127) rfl dX11_elements_126 rfl rfl rfl ?_
            refine v_iinc (ls' := [(4, _), (3, _), (6, _), (5, _), (0, _), (1, _), (2, _)]) 6 (pc' := 130) rfl dX11_elements_127 rfl rfl rfl ?_
            refine v_nl (fun i' hi' => ?_)
            refine v_goto (tgt := 24) dX11_elements_130 (by decide) ?_
            refine v_ls [4, 5, 6, 1, 0] rfl ?_
            exact ih0 (is') (i') w5 (⟨m + 1, by omega, by omega, by rw [if_pos ht0] at hc ⊢; rw [cntG_s, hcy]; simp; omega, hsc.trs (((f2.trs f3).trs f4).trs f5)⟩) (by omega)
  ·
    refine v_iconst (pc' := 5) rfl dX11_elements_4 ?_
    refine v_iret dX11_elements_5 (by decide) (rfl) ?_
    first | exact ⟨Scr.rf _, by rw [if_pos (by omega)]⟩ | exact ⟨hsg.tr (Scr.of hsc (by decide)), by rw [if_neg (by omega), ← hme]; exact hc⟩
set_option maxHeartbeats 4000000 in
set_option maxRecDepth 100000 in
theorem c_lengthOf (l : Launch) (G : Gx) {n : Nat} {c : Int} {f : Nat → Nat} (hc : c = (cdk f n : Nat)) (hf : Pm n f) {s a : Nat → Nat} (hV : MapV n s a) (w : Wd) (hM : RMW w n s a) (hR : RTab w n) : Sp l G 3 mX11_lengthOf [aR 63, aI (c)] w (fun z w' => Scr w w' ∧ z = lenI n s a f) := by
  obtain ⟨⟨hn1, hn7⟩, hs, ha⟩ := id hV
  obtain ⟨r0, r1, r2⟩ := id hM
  obtain ⟨r3, r4, rPK, rTK⟩ := id hR
  have hfc := fac_le hn1 hn7
  have hk15 := kmany_le n hn7
  have hrk := pn_rank hn1 hn7 hf
  refine Sp_of RX11 rfl (by decide +kernel) rfl (Nat.le_of_ble_eq_true rfl) ?_
  refine v_aload_n 0 (pc' := 1) rfl dX11_lengthOf_0 rfl rfl ?_
  refine v_aload_n 0 (pc' := 2) rfl dX11_lengthOf_1 rfl rfl ?_
  refine v_get (z := ((cdk s n : Nat) : Int)) (pc' := 5) rfl dX11_lengthOf_2 fk_RX11_149 ly_63 rfl (r1) ?_
  refine v_aload_n 0 (pc' := 6) rfl dX11_lengthOf_5 rfl rfl ?_
  refine v_get (z := ((cdk a n : Nat) : Int)) (pc' := 9) rfl dX11_lengthOf_6 fk_RX11_152 ly_63 rfl (r2) ?_
  refine v_cVi (pc' := 12) rfl dX11_lengthOf_9 lk_RX11_295 ly_63 rfl (c_laysGroup l G rfl rfl hs ha hn1 hn7 w r0 hR) rfl rfl rfl (fun laysGroup1 w1 hq1 => ?_)
  obtain ⟨hsg, hGg, zg⟩ := hq1
  have hBI : BI n (bfs n s a) := bfsI_BI hn1 hn7 hs ha 5040
  have hlen := hBI.len hn1 hn7
  have hne := bfs_ne n s a 5040
  have hd4 := hBI.2.2.2 (rankN f n)
  refine v_istore_n (ls' := [(2, _), (0, _), (1, _)]) (pc' := 13) rfl dX11_lengthOf_12 rfl rfl rfl ?_
  refine v_aload_n 1 (pc' := 14) rfl dX11_lengthOf_13 rfl rfl ?_
  refine v_getR (pc' := 17) rfl dX11_lengthOf_14 fk_RX11_53 ly_63 rfl ?_
  refine v_aload_n 1 (pc' := 18) rfl dX11_lengthOf_17 rfl rfl ?_
  refine v_iload_n 2 (pc' := 19) rfl dX11_lengthOf_18 rfl rfl ?_
  refine v_cVP (pc' := 22) rfl dX11_lengthOf_19 lk_RX11_286 ly_63 rfl (c_placeOfM l G hc hf hn1 hn7 w1 ((hsg 63 3 (by decide)).trans hR.1) (fun i hi => (hsg 64 i rfl).trans (rPK i hi).1)) rfl rfl rfl ?_
  refine v_nm (fun placeOf1 hplaceOf1 => ?_)
  refine v_iald (z := ((bfs n s a).2 (rankN f n))) (pc' := 23) rfl dX11_lengthOf_22 ly_78 (by omega) (by omega) rfl (by rw [show placeOf1.toNat = rankN f n by omega]; exact hGg.2.2 _ hrk.1) ?_
  refine v_nm (fun is' his' => ?_)
  refine v_istore_n (ls' := [(3, _), (2, _), (0, _), (1, _)]) (pc' := 24) rfl dX11_lengthOf_23 rfl rfl rfl ?_
  refine v_iload_n 0 (pc' := 25) rfl dX11_lengthOf_24 rfl rfl ?_
  refine v_iconst (pc' := 26) rfl dX11_lengthOf_25 ?_
  refine v_icmp_eq (pc' := 29) (tgt := 33) rfl dX11_lengthOf_26 (by decide) (by omega) (by decide) (fun c0 => ?_) (fun c0 => ?_)
  ·
    refine v_bipush (pc' := 35) rfl dX11_lengthOf_33 rfl ?_
    refine v_goto (tgt := 39) dX11_lengthOf_35 (by decide) ?_
    refine v_iret dX11_lengthOf_39 (by decide) (rfl) ?_
    first | exact ⟨hsg, by unfold lenI; rw [if_pos (by omega)]⟩ | exact ⟨hsg, by unfold lenI; rw [if_neg (by omega)]; exact his'⟩
  ·
    refine v_iload_n 1 (pc' := 30) rfl dX11_lengthOf_29 rfl rfl ?_
    refine v_if_ne (pc' := 33) (tgt := 38) rfl dX11_lengthOf_30 (by decide) (by omega) (fun c1 => ?_) (fun c1 => absurd c1 (by have : 1 ≤ (bfs n s a).1.length := hne; omega))
    refine v_iload_n 0 (pc' := 39) rfl dX11_lengthOf_38 rfl rfl ?_
    refine v_iret dX11_lengthOf_39 (by decide) (rfl) ?_
    first | exact ⟨hsg, by unfold lenI; rw [if_pos (by omega)]⟩ | exact ⟨hsg, by unfold lenI; rw [if_neg (by omega)]; exact his'⟩
set_option maxHeartbeats 4000000 in
set_option maxRecDepth 100000 in
theorem c_lengthM (l : Launch) (G : Gx) {p : Int} (hp : rg p) {n : Nat} {s a : Nat → Nat} (hV : MapV n s a) (w : Wd) (hM : RMW w n s a) (hR : RTab w n) : Sp l G 4 mX11_length [aR 63, aI (p)] w (fun z w' => Scr w w' ∧ LenP n s a p z) := by
  obtain ⟨⟨hn1, hn7⟩, hs, ha⟩ := id hV
  obtain ⟨r0, r1, r2⟩ := id hM
  obtain ⟨r3, r4, rPK, rTK⟩ := id hR
  have hfc := fac_le hn1 hn7
  have hk15 := kmany_le n hn7
  refine Sp_of RX11 rfl (by decide +kernel) rfl (Nat.le_of_ble_eq_true rfl) ?_
  refine v_aload_n 0 (pc' := 1) rfl dX11_length_0 rfl rfl ?_
  refine v_iload_n 1 (pc' := 2) rfl dX11_length_1 rfl rfl ?_
  refine v_cVR (pc' := 5) rfl dX11_length_2 lk_RX11_197 ly_63 rfl (c_isCode l G hp hn1 hn7 w r0) rfl rfl rfl (fun isCode1 hisCode1 => ?_)
  refine v_if_eq (pc' := 8) (tgt := 16) rfl dX11_length_5 (by decide) (IsP_r hisCode1) (fun c0 => ?_) (fun c0 => ?_)
  ·
    have h0 := IsP_0 hisCode1 (by omega)
    refine v_iconst (pc' := 17) rfl dX11_length_16 ?_
    refine v_iret dX11_length_17 (by decide) (rfl) ?_
    first | exact ⟨Scr.rf _, Or.inl ⟨rfl, h0⟩⟩ | exact ⟨hq2.1, Or.inr ⟨f, hf, hfp, hq2.2⟩⟩
  ·
    obtain ⟨f, hf, hfp⟩ := IsP_1 hisCode1 (by omega)
    refine v_aload_n 0 (pc' := 9) rfl dX11_length_8 rfl rfl ?_
    refine v_iload_n 1 (pc' := 10) rfl dX11_length_9 rfl rfl ?_
    refine v_cVi (pc' := 13) rfl dX11_length_10 lk_RX11_298 ly_63 rfl (c_lengthOf l G hfp.symm hf hV w hM hR) rfl rfl rfl (fun lengthOf1 w2 hq2 => ?_)
    refine v_goto (tgt := 17) dX11_length_13 (by decide) ?_
    refine v_iret dX11_length_17 (by decide) (rfl) ?_
    first | exact ⟨Scr.rf _, Or.inl ⟨rfl, h0⟩⟩ | exact ⟨hq2.1, Or.inr ⟨f, hf, hfp, hq2.2⟩⟩
def MadM (w : Wd) (n : Nat) (s a : Nat → Nat) (T : Nat → Int) (b k what z : Int) (w' : Wd) : Prop :=
  (¬ ((0 ≤ what ∧ what ≤ 2) ∧ 1 ≤ k ∧ k ≤ 60 ∧ k ≤ b) ∧ w' = w ∧ z = -1) ∨
  (((0 ≤ what ∧ what ≤ 2) ∧ 1 ≤ k ∧ k ≤ 60 ∧ k ≤ b) ∧ ScW w w' ∧ w' 63 16 = 0 ∧
    ((spI s a T k.toNat 0 pid < 0 ∧ z = spI s a T k.toNat 0 pid) ∨ ∃ g, Pm n g ∧ spI s a T k.toNat 0 pid = (hx g : Nat) ∧
      z = if what = 0 then (cdk g n : Int) else if what = 1 then (kindN g n : Int) else lenI n s a g))
set_option maxHeartbeats 4000000 in
set_option maxRecDepth 100000 in
theorem c_madeM (l : Launch) (G : Gx) {k what b : Int} {T : Nat → Int} (hk : rg k) (hwt : rg what) (hb : rg b) (hT : ∀ j, j < 120 → 0 ≤ T j ∧ T j ≤ 255) {n : Nat} {s a : Nat → Nat} (hV : MapV n s a) (w : Wd) (hM : RMW w n s a) (hR : RTab w n) (hB : w 63 16 = b) (hTp : TpM w T) : Sp l G 6 mX11_made [aR 63, aI (k), aI (what)] w (fun z w' => MadM w n s a T b k what z w') := by
  obtain ⟨⟨hn1, hn7⟩, hs, ha⟩ := id hV
  obtain ⟨r0, r1, r2⟩ := id hM
  obtain ⟨r3, r4, rPK, rTK⟩ := id hR
  have hfc := fac_le hn1 hn7
  have hk15 := kmany_le n hn7
  refine Sp_of RX11 rfl (by decide +kernel) rfl (Nat.le_of_ble_eq_true rfl) ?_
  refine v_aload_n 0 (pc' := 1) rfl dX11_made_0 rfl rfl ?_
  refine v_iload_n 1 (pc' := 2) rfl dX11_made_1 rfl rfl ?_
  refine v_cVP (pc' := 5) rfl dX11_made_2 lk_RX11_222 ly_63 rfl (c_hasText l G hk hb w hB) rfl rfl rfl ?_
  refine v_nm (fun hasText1 hhasText1 => ?_)
  refine v_if_eq (pc' := 8) (tgt := 17) rfl dX11_made_5 (by decide) (inB_r hhasText1) (fun c0 => ?_) (fun c0 => ?_)
  ·
    have q2 := inB_0 hhasText1 (by omega)
    refine v_iconst (pc' := 18) rfl dX11_made_17 ?_
    refine v_iret dX11_made_18 (by decide) (rfl) ?_
    first | exact Or.inl ⟨fun q => q1 q.1, rfl, rfl⟩ | exact Or.inl ⟨fun q => q2 q.2, rfl, rfl⟩ | exact Or.inr ⟨⟨q1, q2⟩, s3, t3, Or.inl hneg⟩ | exact Or.inr ⟨⟨q1, q2⟩, s3, t3, Or.inr ⟨g, hg, he, by rw [if_pos (by omega)]; exact hz⟩⟩ | exact Or.inr ⟨⟨q1, q2⟩, s3.tr (Scr.of f4 (by decide)), by rw [f4 63 16 rfl]; exact t3, Or.inr ⟨g, hg, he, by rw [if_neg (by omega), if_pos (by omega)]; exact z4⟩⟩ | exact Or.inr ⟨⟨q1, q2⟩, s3.tr f5, (f5 63 16 (by decide)).trans t3, Or.inr ⟨g, hg, he, by rw [if_neg (by omega), if_neg (by omega)]; exact z5⟩⟩
  ·
    have q2 := inB_1 hhasText1 (by omega)
    refine v_iload_n 2 (pc' := 9) rfl dX11_made_8 rfl rfl ?_
    refine v_iconst (pc' := 10) rfl dX11_made_9 ?_
    refine v_iconst (pc' := 11) rfl dX11_made_10 ?_
    refine v_cSP (pc' := 14) rfl dX11_made_11 lk_RX11_121 rfl (c_in l G hwt (by decide) (by decide) w) rfl rfl rfl ?_
    refine v_nm (fun in1 hin1 => ?_)
    refine v_if_ne (pc' := 17) (tgt := 19) rfl dX11_made_14 (by decide) (inB_r hin1) (fun c1 => ?_) (fun c1 => ?_)
    ·
      have q1 := inB_1 hin1 (by omega)
      refine v_aload_n 0 (pc' := 20) rfl dX11_made_19 rfl rfl ?_
      refine v_iload_n 1 (pc' := 21) rfl dX11_made_20 rfl rfl ?_
      refine v_cVi (pc' := 24) rfl dX11_made_21 lk_RX11_413 ly_63 rfl (c_readsWord l G (by omega) hT hV w hM hTp) rfl rfl rfl (fun readsWord1 w3 hq3 => ?_)
      obtain ⟨s3, t3, z3⟩ := hq3
      have hzr := z3.rg hV (by omega)
      refine v_istore_n (ls' := [(3, _), (0, _), (1, _), (2, _)]) (pc' := 25) rfl dX11_made_24 rfl rfl rfl ?_
      refine v_iload_n 0 (pc' := 26) rfl dX11_made_25 rfl rfl ?_
      refine v_if_lt (pc' := 29) (tgt := 33) rfl dX11_made_26 (by decide) (hzr) (fun c2 => ?_) (fun c2 => ?_)
      ·
        have hneg : spI s a T k.toNat 0 pid < 0 ∧ readsWord1 = spI s a T k.toNat 0 pid := by
          rcases z3 with h | ⟨g, hg, -, h⟩
          · exact h
          · omega
        refine v_iload_n 0 (pc' := 34) rfl dX11_made_33 rfl rfl ?_
        refine v_goto (tgt := 55) dX11_made_34 (by decide) ?_
        refine v_iret dX11_made_55 (by decide) (rfl) ?_
        first | exact Or.inl ⟨fun q => q1 q.1, rfl, rfl⟩ | exact Or.inl ⟨fun q => q2 q.2, rfl, rfl⟩ | exact Or.inr ⟨⟨q1, q2⟩, s3, t3, Or.inl hneg⟩ | exact Or.inr ⟨⟨q1, q2⟩, s3, t3, Or.inr ⟨g, hg, he, by rw [if_pos (by omega)]; exact hz⟩⟩ | exact Or.inr ⟨⟨q1, q2⟩, s3.tr (Scr.of f4 (by decide)), by rw [f4 63 16 rfl]; exact t3, Or.inr ⟨g, hg, he, by rw [if_neg (by omega), if_pos (by omega)]; exact z4⟩⟩ | exact Or.inr ⟨⟨q1, q2⟩, s3.tr f5, (f5 63 16 (by decide)).trans t3, Or.inr ⟨g, hg, he, by rw [if_neg (by omega), if_neg (by omega)]; exact z5⟩⟩
      ·
        obtain ⟨g, hg, he, hz⟩ := z3.resolve_left (by omega)
        refine v_iload_n 3 (pc' := 30) rfl dX11_made_29 rfl rfl ?_
        refine v_if_ne (pc' := 33) (tgt := 37) rfl dX11_made_30 (by decide) (by omega) (fun c3 => ?_) (fun c3 => ?_)
        ·
          refine v_iload_n 3 (pc' := 38) rfl dX11_made_37 rfl rfl ?_
          refine v_iconst (pc' := 39) rfl dX11_made_38 ?_
          refine v_icmp_ne (pc' := 42) (tgt := 50) rfl dX11_made_39 (by decide) (by omega) (by omega) (fun c4 => ?_) (fun c4 => ?_)
          ·
            refine v_aload_n 1 (pc' := 51) rfl dX11_made_50 rfl rfl ?_
            refine v_iload_n 0 (pc' := 52) rfl dX11_made_51 rfl rfl ?_
            refine v_cVi (pc' := 55) rfl dX11_made_52 lk_RX11_298 ly_63 rfl (c_lengthOf l G hz hg hV w3 (ScW.n hM s3) (ScW.t hR s3)) rfl rfl rfl (fun lengthOf1 w5 hq5 => ?_)
            obtain ⟨f5, z5⟩ := hq5
            refine v_iret dX11_made_55 (by decide) (rfl) ?_
            first | exact Or.inl ⟨fun q => q1 q.1, rfl, rfl⟩ | exact Or.inl ⟨fun q => q2 q.2, rfl, rfl⟩ | exact Or.inr ⟨⟨q1, q2⟩, s3, t3, Or.inl hneg⟩ | exact Or.inr ⟨⟨q1, q2⟩, s3, t3, Or.inr ⟨g, hg, he, by rw [if_pos (by omega)]; exact hz⟩⟩ | exact Or.inr ⟨⟨q1, q2⟩, s3.tr (Scr.of f4 (by decide)), by rw [f4 63 16 rfl]; exact t3, Or.inr ⟨g, hg, he, by rw [if_neg (by omega), if_pos (by omega)]; exact z4⟩⟩ | exact Or.inr ⟨⟨q1, q2⟩, s3.tr f5, (f5 63 16 (by decide)).trans t3, Or.inr ⟨g, hg, he, by rw [if_neg (by omega), if_neg (by omega)]; exact z5⟩⟩
          ·
            refine v_aload_n 1 (pc' := 43) rfl dX11_made_42 rfl rfl ?_
            refine v_iload_n 0 (pc' := 44) rfl dX11_made_43 rfl rfl ?_
            refine v_cVi (pc' := 47) rfl dX11_made_44 lk_RX11_171 ly_63 rfl (c_typeOf l G hz hg hn1 hn7 w3 (ScW.n hM s3).1) rfl rfl rfl (fun typeOf1 w4 hq4 => ?_)
            obtain ⟨f4, z4⟩ := hq4
            refine v_goto (tgt := 55) dX11_made_47 (by decide) ?_
            refine v_iret dX11_made_55 (by decide) (rfl) ?_
            first | exact Or.inl ⟨fun q => q1 q.1, rfl, rfl⟩ | exact Or.inl ⟨fun q => q2 q.2, rfl, rfl⟩ | exact Or.inr ⟨⟨q1, q2⟩, s3, t3, Or.inl hneg⟩ | exact Or.inr ⟨⟨q1, q2⟩, s3, t3, Or.inr ⟨g, hg, he, by rw [if_pos (by omega)]; exact hz⟩⟩ | exact Or.inr ⟨⟨q1, q2⟩, s3.tr (Scr.of f4 (by decide)), by rw [f4 63 16 rfl]; exact t3, Or.inr ⟨g, hg, he, by rw [if_neg (by omega), if_pos (by omega)]; exact z4⟩⟩ | exact Or.inr ⟨⟨q1, q2⟩, s3.tr f5, (f5 63 16 (by decide)).trans t3, Or.inr ⟨g, hg, he, by rw [if_neg (by omega), if_neg (by omega)]; exact z5⟩⟩
        ·
          refine v_iload_n 0 (pc' := 34) rfl dX11_made_33 rfl rfl ?_
          refine v_goto (tgt := 55) dX11_made_34 (by decide) ?_
          refine v_iret dX11_made_55 (by decide) (rfl) ?_
          first | exact Or.inl ⟨fun q => q1 q.1, rfl, rfl⟩ | exact Or.inl ⟨fun q => q2 q.2, rfl, rfl⟩ | exact Or.inr ⟨⟨q1, q2⟩, s3, t3, Or.inl hneg⟩ | exact Or.inr ⟨⟨q1, q2⟩, s3, t3, Or.inr ⟨g, hg, he, by rw [if_pos (by omega)]; exact hz⟩⟩ | exact Or.inr ⟨⟨q1, q2⟩, s3.tr (Scr.of f4 (by decide)), by rw [f4 63 16 rfl]; exact t3, Or.inr ⟨g, hg, he, by rw [if_neg (by omega), if_pos (by omega)]; exact z4⟩⟩ | exact Or.inr ⟨⟨q1, q2⟩, s3.tr f5, (f5 63 16 (by decide)).trans t3, Or.inr ⟨g, hg, he, by rw [if_neg (by omega), if_neg (by omega)]; exact z5⟩⟩
    ·
      have q1 := inB_0 hin1 (by omega)
      refine v_iconst (pc' := 18) rfl dX11_made_17 ?_
      refine v_iret dX11_made_18 (by decide) (rfl) ?_
      first | exact Or.inl ⟨fun q => q1 q.1, rfl, rfl⟩ | exact Or.inl ⟨fun q => q2 q.2, rfl, rfl⟩ | exact Or.inr ⟨⟨q1, q2⟩, s3, t3, Or.inl hneg⟩ | exact Or.inr ⟨⟨q1, q2⟩, s3, t3, Or.inr ⟨g, hg, he, by rw [if_pos (by omega)]; exact hz⟩⟩ | exact Or.inr ⟨⟨q1, q2⟩, s3.tr (Scr.of f4 (by decide)), by rw [f4 63 16 rfl]; exact t3, Or.inr ⟨g, hg, he, by rw [if_neg (by omega), if_pos (by omega)]; exact z4⟩⟩ | exact Or.inr ⟨⟨q1, q2⟩, s3.tr f5, (f5 63 16 (by decide)).trans t3, Or.inr ⟨g, hg, he, by rw [if_neg (by omega), if_neg (by omega)]; exact z5⟩⟩

set_option maxHeartbeats 4000000 in
set_option maxRecDepth 100000 in
theorem c_tidy (l : Launch) (G : Gx) {n : Nat} {s a : Nat → Nat} (hV : MapV n s a) (w : Wd) (hM : MapW w n s a) : Sp l G 11 mX10_tidy [aR 0] w (fun z w' => Fr [2, 7, 8, 9, 10] w w' ∧ MapW w' n (canS n s) (canA n s a) ∧ (∀ j, 3 ≤ j → w' 2 j = w 2 j) ∧ z = (cdk (canS n s) n : Nat)) := by
  obtain ⟨⟨hn1, hn7⟩, hs, ha⟩ := id hV
  obtain ⟨m0, m1, m2⟩ := id hM
  have hS := canS_pm hn1 hn7 hs
  have hA := (canA_pm hn1 hn7 hs ha).1
  have hcA : ((setA n s a : Nat) : Int) = ((hx (canA n s a) : Nat) : Int) := by rw [(canA_pm hn1 hn7 hs ha).2]
  refine Sp_of RX10 rfl (by decide +kernel) rfl (Nat.le_of_ble_eq_true rfl) ?_
  refine v_aload_n 0 (pc' := 1) rfl dX10_tidy_0 rfl rfl ?_
  refine v_getR (pc' := 4) rfl dX10_tidy_1 fk_RX10_27 ly_0 rfl ?_
  refine v_aload_n 0 (pc' := 5) rfl dX10_tidy_4 rfl rfl ?_
  refine v_getR (pc' := 8) rfl dX10_tidy_5 fk_RX10_16 ly_0 rfl ?_
  refine v_get (z := (n : Int)) (pc' := 11) rfl dX10_tidy_8 fk_RX10_81 ly_2 rfl (m0) ?_
  refine v_aload_n 0 (pc' := 12) rfl dX10_tidy_11 rfl rfl ?_
  refine v_getR (pc' := 15) rfl dX10_tidy_12 fk_RX10_16 ly_0 rfl ?_
  refine v_get (z := ((hx s : Nat) : Int)) (pc' := 18) rfl dX10_tidy_15 fk_RX10_87 ly_2 rfl (m1) ?_
  refine v_aload_n 0 (pc' := 19) rfl dX10_tidy_18 rfl rfl ?_
  refine v_getR (pc' := 22) rfl dX10_tidy_19 fk_RX10_16 ly_0 rfl ?_
  refine v_get (z := ((hx a : Nat) : Int)) (pc' := 25) rfl dX10_tidy_22 fk_RX10_90 ly_2 rfl (m2) ?_
  refine v_cVv (pc' := 28) rfl dX10_tidy_25 lk_RX10_146 ly_7 rfl (c_settle l G rfl hn1 hn7 hs ha rfl rfl w) rfl rfl rfl (fun settle1 w1 hq1 => ?_)
  obtain ⟨f1, s7, s8, s9⟩ := hq1
  have s8a := s8.trans hcA
  have n0a := (f1 2 0 rfl).trans m0
  have n1a := (f1 2 1 rfl).trans m1
  have n2a := (f1 2 2 rfl).trans m2
  refine v_aload_n 0 (pc' := 29) rfl dX10_tidy_28 rfl rfl ?_
  refine v_getR (pc' := 32) rfl dX10_tidy_29 fk_RX10_16 ly_0 rfl ?_
  refine v_aload_n 0 (pc' := 33) rfl dX10_tidy_32 rfl rfl ?_
  refine v_getR (pc' := 36) rfl dX10_tidy_33 fk_RX10_27 ly_0 rfl ?_
  refine v_get (z := ((hx (canS n s) : Nat) : Int)) (pc' := 39) rfl dX10_tidy_36 fk_RX10_150 ly_7 rfl (s7) ?_
  refine v_put (pc' := 42) rfl dX10_tidy_39 fi_RX10_87 ly_2 rfl ?_
  refine v_nmw (fun w2 hw2 => ?_)
  have s7 : w2 7 7 = ((hx (canS n s) : Nat) : Int) := by rw [hw2, up_ne _ _ (by omega)]; exact s7
  have s8a : w2 7 8 = ((hx (canA n s a) : Nat) : Int) := by rw [hw2, up_ne _ _ (by omega)]; exact s8a
  have s9 : w2 7 9 = ((setC n s a : Nat) : Int) := by rw [hw2, up_ne _ _ (by omega)]; exact s9
  have n0a : w2 2 0 = (n : Int) := by rw [hw2, up_ne _ _ (by omega)]; exact n0a
  have n2a : w2 2 2 = ((hx a : Nat) : Int) := by rw [hw2, up_ne _ _ (by omega)]; exact n2a
  have F2_1 : w2 2 1 = ((hx (canS n s) : Nat) : Int) := by rw [hw2, up_eq]
  refine v_aload_n 0 (pc' := 43) rfl dX10_tidy_42 rfl rfl ?_
  refine v_getR (pc' := 46) rfl dX10_tidy_43 fk_RX10_16 ly_0 rfl ?_
  refine v_aload_n 0 (pc' := 47) rfl dX10_tidy_46 rfl rfl ?_
  refine v_getR (pc' := 50) rfl dX10_tidy_47 fk_RX10_27 ly_0 rfl ?_
  refine v_get (z := ((hx (canA n s a) : Nat) : Int)) (pc' := 53) rfl dX10_tidy_50 fk_RX10_153 ly_7 rfl (s8a) ?_
  refine v_put (pc' := 56) rfl dX10_tidy_53 fi_RX10_90 ly_2 rfl ?_
  refine v_nmw (fun w3 hw3 => ?_)
  have s7 : w3 7 7 = ((hx (canS n s) : Nat) : Int) := by rw [hw3, up_ne _ _ (by omega)]; exact s7
  have s8a : w3 7 8 = ((hx (canA n s a) : Nat) : Int) := by rw [hw3, up_ne _ _ (by omega)]; exact s8a
  have s9 : w3 7 9 = ((setC n s a : Nat) : Int) := by rw [hw3, up_ne _ _ (by omega)]; exact s9
  have n0a : w3 2 0 = (n : Int) := by rw [hw3, up_ne _ _ (by omega)]; exact n0a
  have F2_1 : w3 2 1 = ((hx (canS n s) : Nat) : Int) := by rw [hw3, up_ne _ _ (by omega)]; exact F2_1
  have F2_2 : w3 2 2 = ((hx (canA n s a) : Nat) : Int) := by rw [hw3, up_eq]
  refine v_aload_n 0 (pc' := 57) rfl dX10_tidy_56 rfl rfl ?_
  refine v_getR (pc' := 60) rfl dX10_tidy_57 fk_RX10_16 ly_0 rfl ?_
  refine v_get (z := ((hx (canS n s) : Nat) : Int)) (pc' := 63) rfl dX10_tidy_60 fk_RX10_87 ly_2 rfl (F2_1) ?_
  refine v_aload_n 0 (pc' := 64) rfl dX10_tidy_63 rfl rfl ?_
  refine v_getR (pc' := 67) rfl dX10_tidy_64 fk_RX10_16 ly_0 rfl ?_
  refine v_get (z := (n : Int)) (pc' := 70) rfl dX10_tidy_67 fk_RX10_81 ly_2 rfl (n0a) ?_
  refine v_cSP (pc' := 73) rfl dX10_tidy_70 lk_RX10_105 rfl (c_digits l G rfl (hS.B hn7) rfl hn7 w3) rfl rfl rfl ?_
  refine v_nm (fun digits1 hdigits1 => ?_)
  refine v_iret dX10_tidy_73 (by decide) (rfl) ?_
  have e0 : w3 2 0 = n := by rw [hw3, hw2]; exact (f1 2 0 rfl).trans m0
  have e1 : w3 2 1 = (hx (canS n s) : Nat) := by rw [hw3, hw2]; rfl
  have e2 : w3 2 2 = (hx (canA n s a) : Nat) := by rw [hw3, hw2]; rfl
  have e3 : ∀ j, 3 ≤ j → w3 2 j = w 2 j := fun j hj => by rw [hw3, up_ne _ _ (by omega), hw2, up_ne _ _ (by omega)]; exact f1 2 j rfl
  have e4 : Fr [2, 7, 8, 9, 10] w w3 := by rw [hw3, hw2]; exact ((f1.mono rfl).up rfl).up rfl
  exact ⟨e4, ⟨e0, e1, e2⟩, e3, hdigits1⟩

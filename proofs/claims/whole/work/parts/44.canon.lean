def canI (n : Nat) (s a : Nat → Nat) (k : Int) : Int :=
  if k = 0 ∨ k = 1 ∨ k = 2 then (cdk (trF (canS n s) (canA n s a) k) n : Int) else -1
theorem trF_0 {s a : Nat → Nat} {k : Int} (h : k = 0) : trF s a k = s := by unfold trF; rw [if_pos h]
theorem trF_1 {s a : Nat → Nat} {k : Int} (h : k = 1) : trF s a k = a := by unfold trF; rw [if_neg (by omega), if_pos h]
theorem trF_2 {s a : Nat → Nat} {k : Int} (h : k = 2) : trF s a k = pface s a := by unfold trF; rw [if_neg (by omega), if_neg (by omega)]
set_option maxHeartbeats 4000000 in
set_option maxRecDepth 100000 in
theorem c_canon (l : Launch) (G : Gx) {k : Int} (hk : rg k) {n : Nat} {s a : Nat → Nat} (hV : MapV n s a) (w : Wd) (hM : MapW w n s a) : Sp l G 11 mX10_canon [aR 0, aI (k)] w (fun z w' => Fr [7, 8, 9, 10] w w' ∧ z = canI n s a k) := by
  obtain ⟨⟨hn1, hn7⟩, hs, ha⟩ := id hV
  obtain ⟨m0, m1, m2⟩ := id hM
  have hS := canS_pm hn1 hn7 hs
  have hA := (canA_pm hn1 hn7 hs ha).1
  have hcA : ((setA n s a : Nat) : Int) = ((hx (canA n s a) : Nat) : Int) := by rw [(canA_pm hn1 hn7 hs ha).2]
  refine Sp_of RX10 rfl (by decide +kernel) rfl (Nat.le_of_ble_eq_true rfl) ?_
  refine v_aload_n 0 (pc' := 1) rfl dX10_canon_0 rfl rfl ?_
  refine v_getR (pc' := 4) rfl dX10_canon_1 fk_RX10_27 ly_0 rfl ?_
  refine v_aload_n 0 (pc' := 5) rfl dX10_canon_4 rfl rfl ?_
  refine v_getR (pc' := 8) rfl dX10_canon_5 fk_RX10_16 ly_0 rfl ?_
  refine v_get (z := (n : Int)) (pc' := 11) rfl dX10_canon_8 fk_RX10_81 ly_2 rfl (m0) ?_
  refine v_aload_n 0 (pc' := 12) rfl dX10_canon_11 rfl rfl ?_
  refine v_getR (pc' := 15) rfl dX10_canon_12 fk_RX10_16 ly_0 rfl ?_
  refine v_get (z := ((hx s : Nat) : Int)) (pc' := 18) rfl dX10_canon_15 fk_RX10_87 ly_2 rfl (m1) ?_
  refine v_aload_n 0 (pc' := 19) rfl dX10_canon_18 rfl rfl ?_
  refine v_getR (pc' := 22) rfl dX10_canon_19 fk_RX10_16 ly_0 rfl ?_
  refine v_get (z := ((hx a : Nat) : Int)) (pc' := 25) rfl dX10_canon_22 fk_RX10_90 ly_2 rfl (m2) ?_
  refine v_cVv (pc' := 28) rfl dX10_canon_25 lk_RX10_146 ly_7 rfl (c_settle l G rfl hn1 hn7 hs ha rfl rfl w) rfl rfl rfl (fun settle1 w1 hq1 => ?_)
  obtain ⟨f1, s7, s8, s9⟩ := hq1
  have s8a := s8.trans hcA
  have n0a := (f1 2 0 rfl).trans m0
  have n1a := (f1 2 1 rfl).trans m1
  have n2a := (f1 2 2 rfl).trans m2
  refine v_iload_n 1 (pc' := 29) rfl dX10_canon_28 rfl rfl ?_
  rcases (show k = 0 ∨ k = 1 ∨ k = 2 ∨ (k < 0 ∨ 2 < k) by omega) with sw0 | sw0 | sw0 | sw0
  ·
    refine v_tin (tgt := 56) 0 dX10_canon_29 sw0 (by decide) (by decide) (by decide) rfl (by decide) ?_
    have hz : canI n s a k = (cdk (canS n s) n : Int) := by unfold canI; rw [if_pos (by omega), trF_0 sw0]
    refine v_aload_n 0 (pc' := 57) rfl dX10_canon_56 rfl rfl ?_
    refine v_getR (pc' := 60) rfl dX10_canon_57 fk_RX10_27 ly_0 rfl ?_
    refine v_get (z := ((hx (canS n s) : Nat) : Int)) (pc' := 63) rfl dX10_canon_60 fk_RX10_150 ly_7 rfl (s7) ?_
    refine v_aload_n 0 (pc' := 64) rfl dX10_canon_63 rfl rfl ?_
    refine v_getR (pc' := 67) rfl dX10_canon_64 fk_RX10_16 ly_0 rfl ?_
    refine v_get (z := (n : Int)) (pc' := 70) rfl dX10_canon_67 fk_RX10_81 ly_2 rfl (n0a) ?_
    refine v_cSP (pc' := 73) rfl dX10_canon_70 lk_RX10_105 rfl (c_digits l G rfl (hS.B hn7) rfl hn7 w1) rfl rfl rfl ?_
    refine v_nm (fun digits1 hdigits1 => ?_)
    refine v_iret dX10_canon_73 (by decide) (rfl) ?_
    first | exact ⟨f1, by rw [hz]; exact hdigits1⟩ | exact ⟨f1, by rw [hz]; exact hdigits2⟩ | exact ⟨f1, by rw [hz]; exact hdigits3⟩ | exact ⟨f1, by rw [hz]⟩
  ·
    refine v_tin (tgt := 74) 1 dX10_canon_29 sw0 (by decide) (by decide) (by decide) rfl (by decide) ?_
    have hz : canI n s a k = (cdk (canA n s a) n : Int) := by unfold canI; rw [if_pos (by omega), trF_1 sw0]
    refine v_aload_n 0 (pc' := 75) rfl dX10_canon_74 rfl rfl ?_
    refine v_getR (pc' := 78) rfl dX10_canon_75 fk_RX10_27 ly_0 rfl ?_
    refine v_get (z := ((hx (canA n s a) : Nat) : Int)) (pc' := 81) rfl dX10_canon_78 fk_RX10_153 ly_7 rfl (s8a) ?_
    refine v_aload_n 0 (pc' := 82) rfl dX10_canon_81 rfl rfl ?_
    refine v_getR (pc' := 85) rfl dX10_canon_82 fk_RX10_16 ly_0 rfl ?_
    refine v_get (z := (n : Int)) (pc' := 88) rfl dX10_canon_85 fk_RX10_81 ly_2 rfl (n0a) ?_
    refine v_cSP (pc' := 91) rfl dX10_canon_88 lk_RX10_105 rfl (c_digits l G rfl (hA.B hn7) rfl hn7 w1) rfl rfl rfl ?_
    refine v_nm (fun digits2 hdigits2 => ?_)
    refine v_iret dX10_canon_91 (by decide) (rfl) ?_
    first | exact ⟨f1, by rw [hz]; exact hdigits1⟩ | exact ⟨f1, by rw [hz]; exact hdigits2⟩ | exact ⟨f1, by rw [hz]; exact hdigits3⟩ | exact ⟨f1, by rw [hz]⟩
  ·
    refine v_tin (tgt := 92) 2 dX10_canon_29 sw0 (by decide) (by decide) (by decide) rfl (by decide) ?_
    have hz : canI n s a k = (cdk (pface (canS n s) (canA n s a)) n : Int) := by unfold canI; rw [if_pos (by omega), trF_2 sw0]
    refine v_aload_n 0 (pc' := 93) rfl dX10_canon_92 rfl rfl ?_
    refine v_getR (pc' := 96) rfl dX10_canon_93 fk_RX10_27 ly_0 rfl ?_
    refine v_get (z := ((hx (canS n s) : Nat) : Int)) (pc' := 99) rfl dX10_canon_96 fk_RX10_150 ly_7 rfl (s7) ?_
    refine v_aload_n 0 (pc' := 100) rfl dX10_canon_99 rfl rfl ?_
    refine v_getR (pc' := 103) rfl dX10_canon_100 fk_RX10_27 ly_0 rfl ?_
    refine v_get (z := ((hx (canA n s a) : Nat) : Int)) (pc' := 106) rfl dX10_canon_103 fk_RX10_153 ly_7 rfl (s8a) ?_
    refine v_cSP (pc' := 109) rfl dX10_canon_106 lk_RX10_156 rfl (c_faces l G rfl rfl (hS.mono hn7) (hA.mono hn7) w1) rfl rfl rfl ?_
    refine v_nm (fun faces1 hfaces1 => ?_)
    refine v_aload_n 0 (pc' := 110) rfl dX10_canon_109 rfl rfl ?_
    refine v_getR (pc' := 113) rfl dX10_canon_110 fk_RX10_16 ly_0 rfl ?_
    refine v_get (z := (n : Int)) (pc' := 116) rfl dX10_canon_113 fk_RX10_81 ly_2 rfl (n0a) ?_
    refine v_cSP (pc' := 119) rfl dX10_canon_116 lk_RX10_105 rfl (c_digits l G hfaces1 ((Pm.face hn7 hS hA).B hn7) rfl hn7 w1) rfl rfl rfl ?_
    refine v_nm (fun digits3 hdigits3 => ?_)
    refine v_iret dX10_canon_119 (by decide) (rfl) ?_
    first | exact ⟨f1, by rw [hz]; exact hdigits1⟩ | exact ⟨f1, by rw [hz]; exact hdigits2⟩ | exact ⟨f1, by rw [hz]; exact hdigits3⟩ | exact ⟨f1, by rw [hz]⟩
  ·
    refine v_tout (tgt := 120) dX10_canon_29 (by omega) sw0 (by decide) ?_
    have hz : canI n s a k = -1 := by unfold canI; rw [if_neg (by omega)]
    refine v_iconst (pc' := 121) rfl dX10_canon_120 ?_
    refine v_iret dX10_canon_121 (by decide) (rfl) ?_
    first | exact ⟨f1, by rw [hz]; exact hdigits1⟩ | exact ⟨f1, by rw [hz]; exact hdigits2⟩ | exact ⟨f1, by rw [hz]; exact hdigits3⟩ | exact ⟨f1, by rw [hz]⟩

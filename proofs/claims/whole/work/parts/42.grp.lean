set_option maxHeartbeats 4000000 in
set_option maxRecDepth 100000 in
theorem c_ofType (l : Launch) (G : Gx) {t : Int} (ht : rg t) {n : Nat} {s a : Nat → Nat} (hV : MapV n s a) (w : Wd) (hM : MapW w n s a) (hG : GInv w) : Sp l G 4 mX10_ofType [aR 0, aI (t)] w (fun z w' => Fr [14, 15, 16] w w' ∧ GInv w' ∧ z = if kndB n t = true then ((cntG (fun p => decide ((kindN p n : Int) = t)) (bfs n s a).1 (bfs n s a).1.length : Nat) : Int) else -1) := by
  obtain ⟨⟨hn1, hn7⟩, hs, ha⟩ := id hV
  obtain ⟨m0, m1, m2⟩ := id hM
  refine Sp_of RX10 rfl (by decide +kernel) rfl (Nat.le_of_ble_eq_true rfl) ?_
  refine v_aload_n 0 (pc' := 1) rfl dX10_ofType_0 rfl rfl ?_
  refine v_iload_n 1 (pc' := 2) rfl dX10_ofType_1 rfl rfl ?_
  refine v_cVP (pc' := 5) rfl dX10_ofType_2 lk_RX10_250 ly_0 rfl (c_kindStands l G ht hV w hM) rfl rfl rfl ?_
  refine v_nm (fun kindStands1 hkindStands1 => ?_)
  refine v_if_ne (pc' := 8) (tgt := 10) rfl dX10_ofType_5 (by decide) (kn_r hkindStands1) (fun c0 => ?_) (fun c0 => ?_)
  ·
    have hz := kn_1 hkindStands1 (by omega)
    refine v_aload_n 0 (pc' := 11) rfl dX10_ofType_10 rfl rfl ?_
    refine v_getR (pc' := 14) rfl dX10_ofType_11 fk_RX10_41 ly_0 rfl ?_
    refine v_aload_n 0 (pc' := 15) rfl dX10_ofType_14 rfl rfl ?_
    refine v_getR (pc' := 18) rfl dX10_ofType_15 fk_RX10_16 ly_0 rfl ?_
    refine v_get (z := (n : Int)) (pc' := 21) rfl dX10_ofType_18 fk_RX10_81 ly_2 rfl (m0) ?_
    refine v_aload_n 0 (pc' := 22) rfl dX10_ofType_21 rfl rfl ?_
    refine v_getR (pc' := 25) rfl dX10_ofType_22 fk_RX10_16 ly_0 rfl ?_
    refine v_get (z := ((hx s : Nat) : Int)) (pc' := 28) rfl dX10_ofType_25 fk_RX10_87 ly_2 rfl (m1) ?_
    refine v_aload_n 0 (pc' := 29) rfl dX10_ofType_28 rfl rfl ?_
    refine v_getR (pc' := 32) rfl dX10_ofType_29 fk_RX10_16 ly_0 rfl ?_
    refine v_get (z := ((hx a : Nat) : Int)) (pc' := 35) rfl dX10_ofType_32 fk_RX10_90 ly_2 rfl (m2) ?_
    refine v_cVv (pc' := 38) rfl dX10_ofType_35 lk_RX10_253 ly_14 rfl (c_fill l G rfl hn1 hn7 hs ha rfl rfl w hG) rfl rfl rfl (fun fill1 w2 hq2 => ?_)
    refine v_aload_n 0 (pc' := 39) rfl dX10_ofType_38 rfl rfl ?_
    refine v_getR (pc' := 42) rfl dX10_ofType_39 fk_RX10_41 ly_0 rfl ?_
    refine v_iload_n 1 (pc' := 43) rfl dX10_ofType_42 rfl rfl ?_
    refine v_cVP (pc' := 46) rfl dX10_ofType_43 lk_RX10_256 ly_14 rfl (c_ofKind l G ht hn1 hn7 hs ha w2 hq2.2) rfl rfl rfl ?_
    refine v_nm (fun ofKind1 hofKind1 => ?_)
    refine v_iret dX10_ofType_46 (by decide) (rfl) ?_
    first | exact ⟨Fr.rf _ _, hG, by rw [if_neg hz]⟩ | exact ⟨hq2.1, Or.inr ⟨n, s, a, ⟨hn1, hn7⟩, hs, ha, hq2.2⟩, by rw [if_pos hz]; exact hofKind1⟩
  ·
    have hz := kn_0 hkindStands1 (by omega)
    refine v_iconst (pc' := 9) rfl dX10_ofType_8 ?_
    refine v_iret dX10_ofType_9 (by decide) (rfl) ?_
    first | exact ⟨Fr.rf _ _, hG, by rw [if_neg hz]⟩ | exact ⟨hq2.1, Or.inr ⟨n, s, a, ⟨hn1, hn7⟩, hs, ha, hq2.2⟩, by rw [if_pos hz]; exact hofKind1⟩
set_option maxHeartbeats 4000000 in
set_option maxRecDepth 100000 in
theorem c_elements (l : Launch) (G : Gx) {t : Int} (ht : rg t) {n : Nat} {s a : Nat → Nat} (hV : MapV n s a) (w : Wd) (hM : MapW w n s a) (hG : GInv w) : Sp l G 4 mX10_elements [aR 0, aI (t)] w (fun z w' => Fr [14, 15, 16] w w' ∧ GInv w' ∧ z = if t < 0 then -1 else if t = 0 then ((cntG (fun p => commB p s 7 && commB p a 7) (bfs n s a).1 (bfs n s a).1.length : Nat) : Int) else ((cntG (fun p => decide ((orderN p n : Int) = t)) (bfs n s a).1 (bfs n s a).1.length : Nat) : Int)) := by
  obtain ⟨⟨hn1, hn7⟩, hs, ha⟩ := id hV
  obtain ⟨m0, m1, m2⟩ := id hM
  refine Sp_of RX10 rfl (by decide +kernel) rfl (Nat.le_of_ble_eq_true rfl) ?_
  refine v_iload_n 1 (pc' := 1) rfl dX10_elements_0 rfl rfl ?_
  refine v_if_ge (pc' := 4) (tgt := 6) rfl dX10_elements_1 (by decide) (by omega) (fun c0 => ?_) (fun c0 => ?_)
  ·
    refine v_aload_n 0 (pc' := 7) rfl dX10_elements_6 rfl rfl ?_
    refine v_getR (pc' := 10) rfl dX10_elements_7 fk_RX10_41 ly_0 rfl ?_
    refine v_aload_n 0 (pc' := 11) rfl dX10_elements_10 rfl rfl ?_
    refine v_getR (pc' := 14) rfl dX10_elements_11 fk_RX10_16 ly_0 rfl ?_
    refine v_get (z := (n : Int)) (pc' := 17) rfl dX10_elements_14 fk_RX10_81 ly_2 rfl (m0) ?_
    refine v_aload_n 0 (pc' := 18) rfl dX10_elements_17 rfl rfl ?_
    refine v_getR (pc' := 21) rfl dX10_elements_18 fk_RX10_16 ly_0 rfl ?_
    refine v_get (z := ((hx s : Nat) : Int)) (pc' := 24) rfl dX10_elements_21 fk_RX10_87 ly_2 rfl (m1) ?_
    refine v_aload_n 0 (pc' := 25) rfl dX10_elements_24 rfl rfl ?_
    refine v_getR (pc' := 28) rfl dX10_elements_25 fk_RX10_16 ly_0 rfl ?_
    refine v_get (z := ((hx a : Nat) : Int)) (pc' := 31) rfl dX10_elements_28 fk_RX10_90 ly_2 rfl (m2) ?_
    refine v_cVv (pc' := 34) rfl dX10_elements_31 lk_RX10_253 ly_14 rfl (c_fill l G rfl hn1 hn7 hs ha rfl rfl w hG) rfl rfl rfl (fun fill1 w1 hq1 => ?_)
    refine v_iload_n 1 (pc' := 35) rfl dX10_elements_34 rfl rfl ?_
    refine v_if_ne (pc' := 38) (tgt := 48) rfl dX10_elements_35 (by decide) (by omega) (fun c1 => ?_) (fun c1 => ?_)
    ·
      refine v_aload_n 0 (pc' := 49) rfl dX10_elements_48 rfl rfl ?_
      refine v_getR (pc' := 52) rfl dX10_elements_49 fk_RX10_41 ly_0 rfl ?_
      refine v_iload_n 1 (pc' := 53) rfl dX10_elements_52 rfl rfl ?_
      refine v_cVP (pc' := 56) rfl dX10_elements_53 lk_RX10_267 ly_14 rfl (c_ofOrder l G ht hn1 hn7 hs ha w1 hq1.2) rfl rfl rfl ?_
      refine v_nm (fun ofOrder1 hofOrder1 => ?_)
      refine v_iret dX10_elements_56 (by decide) (rfl) ?_
      first | exact ⟨Fr.rf _ _, hG, by rw [if_pos (by omega)]⟩ | exact ⟨hq1.1, Or.inr ⟨n, s, a, ⟨hn1, hn7⟩, hs, ha, hq1.2⟩, by rw [if_neg (by omega), if_pos (by omega)]; exact hcentre1⟩ | exact ⟨hq1.1, Or.inr ⟨n, s, a, ⟨hn1, hn7⟩, hs, ha, hq1.2⟩, by rw [if_neg (by omega), if_neg (by omega)]; exact hofOrder1⟩
    ·
      refine v_aload_n 0 (pc' := 39) rfl dX10_elements_38 rfl rfl ?_
      refine v_getR (pc' := 42) rfl dX10_elements_39 fk_RX10_41 ly_0 rfl ?_
      refine v_cVP (pc' := 45) rfl dX10_elements_42 lk_RX10_264 ly_14 rfl (c_centre l G hn1 hn7 hs ha w1 hq1.2) rfl rfl rfl ?_
      refine v_nm (fun centre1 hcentre1 => ?_)
      refine v_goto (tgt := 56) dX10_elements_45 (by decide) ?_
      refine v_iret dX10_elements_56 (by decide) (rfl) ?_
      first | exact ⟨Fr.rf _ _, hG, by rw [if_pos (by omega)]⟩ | exact ⟨hq1.1, Or.inr ⟨n, s, a, ⟨hn1, hn7⟩, hs, ha, hq1.2⟩, by rw [if_neg (by omega), if_pos (by omega)]; exact hcentre1⟩ | exact ⟨hq1.1, Or.inr ⟨n, s, a, ⟨hn1, hn7⟩, hs, ha, hq1.2⟩, by rw [if_neg (by omega), if_neg (by omega)]; exact hofOrder1⟩
  ·
    refine v_iconst (pc' := 5) rfl dX10_elements_4 ?_
    refine v_iret dX10_elements_5 (by decide) (rfl) ?_
    first | exact ⟨Fr.rf _ _, hG, by rw [if_pos (by omega)]⟩ | exact ⟨hq1.1, Or.inr ⟨n, s, a, ⟨hn1, hn7⟩, hs, ha, hq1.2⟩, by rw [if_neg (by omega), if_pos (by omega)]; exact hcentre1⟩ | exact ⟨hq1.1, Or.inr ⟨n, s, a, ⟨hn1, hn7⟩, hs, ha, hq1.2⟩, by rw [if_neg (by omega), if_neg (by omega)]; exact hofOrder1⟩

def LabP (n : Nat) (s a : Nat → Nat) (p q z : Int) : Prop := (z = -1 ∧ ¬ ∃ f g, Pm n f ∧ Pm n g ∧ (cdk f n : Int) = p ∧ (cdk g n : Int) = q) ∨
  ∃ f g, Pm n f ∧ Pm n g ∧ (cdk f n : Int) = p ∧ (cdk g n : Int) = q ∧
    ((z = -2 ∧ ¬ ∃ r, Pm n r ∧ pconj s r = f ∧ pconj a r = g) ∨
     ∃ r, Pm n r ∧ pconj s r = f ∧ pconj a r = g ∧ z = (cdk r n : Nat) ∧ ∀ r', Pm n r' → pconj s r' = f → pconj a r' = g → hx r ≤ hx r')
theorem FST_2 {n : Nat} {s a s2 a2 : Nat → Nat} {z : Int} (h : FST n s a s2 a2 z) (hz : z ≠ 0) : ∃ r, Pm n r ∧ pconj s r = s2 ∧ pconj a r = a2 ∧ z = (hx r : Nat) ∧ ∀ r', Pm n r' → pconj s r' = s2 → pconj a r' = a2 → hx r ≤ hx r' := by
  rcases h with ⟨h, -⟩ | h
  · exact absurd h hz
  · exact h
set_option maxHeartbeats 4000000 in
set_option maxRecDepth 100000 in
theorem c_label (l : Launch) (G : Gx) {p q : Int} (hp : rg p) (hq : rg q) {n : Nat} {s a : Nat → Nat} (hV : MapV n s a) (w : Wd) (hM : MapW w n s a) : Sp l G 11 mX10_label [aR 0, aI (p), aI (q)] w (fun z w' => Fr [7, 8, 9, 10] w w' ∧ LabP n s a p q z) := by
  obtain ⟨⟨hn1, hn7⟩, hs, ha⟩ := id hV
  obtain ⟨m0, m1, m2⟩ := id hM
  refine Sp_of RX10 rfl (by decide +kernel) rfl (Nat.le_of_ble_eq_true rfl) ?_
  refine v_iload_n 1 (pc' := 1) rfl dX10_label_0 rfl rfl ?_
  refine v_aload_n 0 (pc' := 2) rfl dX10_label_1 rfl rfl ?_
  refine v_getR (pc' := 5) rfl dX10_label_2 fk_RX10_16 ly_0 rfl ?_
  refine v_get (z := (n : Int)) (pc' := 8) rfl dX10_label_5 fk_RX10_81 ly_2 rfl (m0) ?_
  refine v_cSR (pc' := 11) rfl dX10_label_8 lk_RX10_93 rfl (c_read l G hp rfl hn1 hn7 w ) rfl rfl rfl (fun read1 hread1 => ?_)
  refine v_istore_n (ls' := [(3, _), (0, _), (1, _), (2, _)]) (pc' := 12) rfl dX10_label_11 rfl rfl rfl ?_
  refine v_iload_n 3 (pc' := 13) rfl dX10_label_12 rfl rfl ?_
  refine v_aload_n 1 (pc' := 14) rfl dX10_label_13 rfl rfl ?_
  refine v_getR (pc' := 17) rfl dX10_label_14 fk_RX10_16 ly_0 rfl ?_
  refine v_get (z := (n : Int)) (pc' := 20) rfl dX10_label_17 fk_RX10_81 ly_2 rfl (m0) ?_
  refine v_cSR (pc' := 23) rfl dX10_label_20 lk_RX10_93 rfl (c_read l G hq rfl hn1 hn7 w ) rfl rfl rfl (fun read2 hread2 => ?_)
  refine v_istore (ls' := [(4, _), (3, _), (0, _), (1, _), (2, _)]) (pc' := 25) rfl dX10_label_23 rfl rfl ?_
  refine v_iload_n 1 (pc' := 26) rfl dX10_label_25 rfl rfl ?_
  refine v_if_eq (pc' := 29) (tgt := 34) rfl dX10_label_26 (by decide) (RD_r hn7 hread1) (fun c0 => ?_) (fun c0 => ?_)
  ·
    have h0 := RD_0 hn7 hread1 (by omega)
    have hz : LabP n s a p q (-1) := Or.inl ⟨rfl, fun ⟨f, g, a1, a2, a3, a4⟩ => h0 f a1 a3⟩
    refine v_iconst (pc' := 35) rfl dX10_label_34 ?_
    refine v_iret dX10_label_35 (by decide) (rfl) ?_
    first | exact ⟨Fr.rf _ _, hz⟩ | exact ⟨f3, Or.inr ⟨f, g, hf, hg, hfp, hgp, Or.inl ⟨rfl, hno⟩⟩⟩ | exact ⟨f3, Or.inr ⟨f, g, hf, hg, hfp, hgp, Or.inr ⟨r, hr, e1, e2, hdigits1, hmin⟩⟩⟩
  ·
    obtain ⟨f, hf, hfp, hfe⟩ := RD_1 hread1 (by omega)
    refine v_iload 0 (pc' := 31) rfl dX10_label_29 rfl ?_
    refine v_if_ne (pc' := 34) (tgt := 36) rfl dX10_label_31 (by decide) (RD_r hn7 hread2) (fun c1 => ?_) (fun c1 => ?_)
    ·
      obtain ⟨g, hg, hgp, hge⟩ := RD_1 hread2 (by omega)
      refine v_aload_n 2 (pc' := 37) rfl dX10_label_36 rfl rfl ?_
      refine v_getR (pc' := 40) rfl dX10_label_37 fk_RX10_27 ly_0 rfl ?_
      refine v_aload_n 2 (pc' := 41) rfl dX10_label_40 rfl rfl ?_
      refine v_getR (pc' := 44) rfl dX10_label_41 fk_RX10_16 ly_0 rfl ?_
      refine v_get (z := (n : Int)) (pc' := 47) rfl dX10_label_44 fk_RX10_81 ly_2 rfl (m0) ?_
      refine v_aload_n 2 (pc' := 48) rfl dX10_label_47 rfl rfl ?_
      refine v_getR (pc' := 51) rfl dX10_label_48 fk_RX10_16 ly_0 rfl ?_
      refine v_get (z := ((hx s : Nat) : Int)) (pc' := 54) rfl dX10_label_51 fk_RX10_87 ly_2 rfl (m1) ?_
      refine v_aload_n 2 (pc' := 55) rfl dX10_label_54 rfl rfl ?_
      refine v_getR (pc' := 58) rfl dX10_label_55 fk_RX10_16 ly_0 rfl ?_
      refine v_get (z := ((hx a : Nat) : Int)) (pc' := 61) rfl dX10_label_58 fk_RX10_90 ly_2 rfl (m2) ?_
      refine v_iload_n 1 (pc' := 62) rfl dX10_label_61 rfl rfl ?_
      refine v_iload 0 (pc' := 64) rfl dX10_label_62 rfl ?_
      refine v_cVi (pc' := 67) rfl dX10_label_64 lk_RX10_246 ly_7 rfl (c_first l G rfl hn1 hn7 hs ha rfl rfl hf hg hfe hge w) rfl rfl rfl (fun first1 w3 hq3 => ?_)
      obtain ⟨f3, f4⟩ := hq3
      have hrf := FST_r hn7 f4
      have n0a := (f3 2 0 rfl).trans m0
      refine v_istore (ls' := [(5, _), (4, _), (3, _), (0, _), (1, _), (2, _)]) (pc' := 69) rfl dX10_label_67 rfl rfl ?_
      refine v_iload 0 (pc' := 71) rfl dX10_label_69 rfl ?_
      refine v_if_ne (pc' := 74) (tgt := 79) rfl dX10_label_71 (by decide) (by omega) (fun c2 => ?_) (fun c2 => ?_)
      ·
        obtain ⟨r, hr, e1, e2, hre, hmin⟩ := FST_2 f4 (by omega)
        refine v_iload 0 (pc' := 81) rfl dX10_label_79 rfl ?_
        refine v_aload_n 3 (pc' := 82) rfl dX10_label_81 rfl rfl ?_
        refine v_getR (pc' := 85) rfl dX10_label_82 fk_RX10_16 ly_0 rfl ?_
        refine v_get (z := (n : Int)) (pc' := 88) rfl dX10_label_85 fk_RX10_81 ly_2 rfl (n0a) ?_
        refine v_cSP (pc' := 91) rfl dX10_label_88 lk_RX10_105 rfl (c_digits l G hre (hr.B hn7) rfl hn7 w3) rfl rfl rfl ?_
        refine v_nm (fun digits1 hdigits1 => ?_)
        refine v_iret dX10_label_91 (by decide) (rfl) ?_
        first | exact ⟨Fr.rf _ _, hz⟩ | exact ⟨f3, Or.inr ⟨f, g, hf, hg, hfp, hgp, Or.inl ⟨rfl, hno⟩⟩⟩ | exact ⟨f3, Or.inr ⟨f, g, hf, hg, hfp, hgp, Or.inr ⟨r, hr, e1, e2, hdigits1, hmin⟩⟩⟩
      ·
        have hno := FST_0 hn7 f4 (by omega)
        refine v_bipush (pc' := 76) rfl dX10_label_74 rfl ?_
        refine v_goto (tgt := 91) dX10_label_76 (by decide) ?_
        refine v_iret dX10_label_91 (by decide) (rfl) ?_
        first | exact ⟨Fr.rf _ _, hz⟩ | exact ⟨f3, Or.inr ⟨f, g, hf, hg, hfp, hgp, Or.inl ⟨rfl, hno⟩⟩⟩ | exact ⟨f3, Or.inr ⟨f, g, hf, hg, hfp, hgp, Or.inr ⟨r, hr, e1, e2, hdigits1, hmin⟩⟩⟩
    ·
      have h0 := RD_0 hn7 hread2 (by omega)
      have hz : LabP n s a p q (-1) := Or.inl ⟨rfl, fun ⟨f, g, a1, a2, a3, a4⟩ => h0 g a2 a4⟩
      refine v_iconst (pc' := 35) rfl dX10_label_34 ?_
      refine v_iret dX10_label_35 (by decide) (rfl) ?_
      first | exact ⟨Fr.rf _ _, hz⟩ | exact ⟨f3, Or.inr ⟨f, g, hf, hg, hfp, hgp, Or.inl ⟨rfl, hno⟩⟩⟩ | exact ⟨f3, Or.inr ⟨f, g, hf, hg, hfp, hgp, Or.inr ⟨r, hr, e1, e2, hdigits1, hmin⟩⟩⟩
set_option maxHeartbeats 4000000 in
set_option maxRecDepth 100000 in
theorem c_readable (l : Launch) (G : Gx) {k b : Int} (hk : rg k) (hb : rg b) (w : Wd) (hB : w 0 1 = b) : SpP l G 0 mX10_readable [aR 0, aI (k)] w ((if 1 ≤ k ∧ k ≤ 60 ∧ k ≤ b then 1 else 0 : Int)) := by
  refine Sp_of RX10 rfl (by decide +kernel) rfl (Nat.le_of_ble_eq_true rfl) ?_
  refine v_iload_n 1 (pc' := 1) rfl dX10_readable_0 rfl rfl ?_
  refine v_iconst (pc' := 2) rfl dX10_readable_1 ?_
  refine v_icmp_lt (pc' := 5) (tgt := 23) rfl dX10_readable_2 (by decide) (by omega) (by omega) (fun c0 => ?_) (fun c0 => ?_)
  ·
    refine v_iconst (pc' := 24) rfl dX10_readable_23 ?_
    refine v_iret dX10_readable_24 (by decide) (rfl) ?_
    first | exact ⟨by rw [if_pos (by omega)], rfl⟩ | exact ⟨by rw [if_neg (by omega)], rfl⟩
  ·
    refine v_iload_n 1 (pc' := 6) rfl dX10_readable_5 rfl rfl ?_
    refine v_bipush (pc' := 8) rfl dX10_readable_6 rfl ?_
    refine v_icmp_gt (pc' := 11) (tgt := 23) rfl dX10_readable_8 (by decide) (by omega) (by omega) (fun c1 => ?_) (fun c1 => ?_)
    ·
      refine v_iconst (pc' := 24) rfl dX10_readable_23 ?_
      refine v_iret dX10_readable_24 (by decide) (rfl) ?_
      first | exact ⟨by rw [if_pos (by omega)], rfl⟩ | exact ⟨by rw [if_neg (by omega)], rfl⟩
    ·
      refine v_iload_n 1 (pc' := 12) rfl dX10_readable_11 rfl rfl ?_
      refine v_aload_n 0 (pc' := 13) rfl dX10_readable_12 rfl rfl ?_
      refine v_get (z := b) (pc' := 16) rfl dX10_readable_13 fk_RX10_73 ly_0 rfl (hB) ?_
      refine v_icmp_gt (pc' := 19) (tgt := 23) rfl dX10_readable_16 (by decide) (by omega) (by omega) (fun c2 => ?_) (fun c2 => ?_)
      ·
        refine v_iconst (pc' := 24) rfl dX10_readable_23 ?_
        refine v_iret dX10_readable_24 (by decide) (rfl) ?_
        first | exact ⟨by rw [if_pos (by omega)], rfl⟩ | exact ⟨by rw [if_neg (by omega)], rfl⟩
      ·
        refine v_iconst (pc' := 20) rfl dX10_readable_19 ?_
        refine v_goto (tgt := 24) dX10_readable_20 (by decide) ?_
        refine v_iret dX10_readable_24 (by decide) (rfl) ?_
        first | exact ⟨by rw [if_pos (by omega)], rfl⟩ | exact ⟨by rw [if_neg (by omega)], rfl⟩

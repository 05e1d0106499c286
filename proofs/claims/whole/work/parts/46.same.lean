def SamP (n : Nat) (s a : Nat → Nat) (p q z : Int) : Prop := (z = -1 ∧ ¬ ∃ f g, Pm n f ∧ Pm n g ∧ (cdk f n : Int) = p ∧ (cdk g n : Int) = q) ∨
  ∃ f g, Pm n f ∧ Pm n g ∧ (cdk f n : Int) = p ∧ (cdk g n : Int) = q ∧
    ((z = 0 ∧ ¬ ∃ r, Pm n r ∧ pconj s r = f ∧ pconj a r = g) ∨ (z = 1 ∧ ∃ r, Pm n r ∧ pconj s r = f ∧ pconj a r = g))
theorem FST_r {n : Nat} {s a s2 a2 : Nat → Nat} {z : Int} (hn : n ≤ 7) (h : FST n s a s2 a2 z) : rg z := by
  rcases h with ⟨h, -⟩ | ⟨r, hr, -, -, h, -⟩
  · omega
  · have := hx_pos hr hn; omega
theorem FST_0 {n : Nat} {s a s2 a2 : Nat → Nat} {z : Int} (hn : n ≤ 7) (h : FST n s a s2 a2 z) (hz : z = 0) : ¬ ∃ r, Pm n r ∧ pconj s r = s2 ∧ pconj a r = a2 := by
  rcases h with ⟨-, h⟩ | ⟨r, hr, -, -, h, -⟩
  · exact fun ⟨r, a1, a2, a3⟩ => h r a1 a2 a3
  · have := hx_pos hr hn; omega
theorem FST_1 {n : Nat} {s a s2 a2 : Nat → Nat} {z : Int} (h : FST n s a s2 a2 z) (hz : z ≠ 0) : ∃ r, Pm n r ∧ pconj s r = s2 ∧ pconj a r = a2 := by
  rcases h with ⟨h, -⟩ | ⟨r, hr, h1, h2, -⟩
  · exact absurd h hz
  · exact ⟨r, hr, h1, h2⟩
set_option maxHeartbeats 4000000 in
set_option maxRecDepth 100000 in
theorem c_same (l : Launch) (G : Gx) {p q : Int} (hp : rg p) (hq : rg q) {n : Nat} {s a : Nat → Nat} (hV : MapV n s a) (w : Wd) (hM : MapW w n s a) : Sp l G 11 mX10_same [aR 0, aI (p), aI (q)] w (fun z w' => Fr [7, 8, 9, 10] w w' ∧ SamP n s a p q z) := by
  obtain ⟨⟨hn1, hn7⟩, hs, ha⟩ := id hV
  obtain ⟨m0, m1, m2⟩ := id hM
  refine Sp_of RX10 rfl (by decide +kernel) rfl (Nat.le_of_ble_eq_true rfl) ?_
  refine v_iload_n 1 (pc' := 1) rfl dX10_same_0 rfl rfl ?_
  refine v_aload_n 0 (pc' := 2) rfl dX10_same_1 rfl rfl ?_
  refine v_getR (pc' := 5) rfl dX10_same_2 fk_RX10_16 ly_0 rfl ?_
  refine v_get (z := (n : Int)) (pc' := 8) rfl dX10_same_5 fk_RX10_81 ly_2 rfl (m0) ?_
  refine v_cSR (pc' := 11) rfl dX10_same_8 lk_RX10_93 rfl (c_read l G hp rfl hn1 hn7 w ) rfl rfl rfl (fun read1 hread1 => ?_)
  refine v_istore_n (ls' := [(3, _), (0, _), (1, _), (2, _)]) (pc' := 12) rfl dX10_same_11 rfl rfl rfl ?_
  refine v_iload_n 3 (pc' := 13) rfl dX10_same_12 rfl rfl ?_
  refine v_aload_n 1 (pc' := 14) rfl dX10_same_13 rfl rfl ?_
  refine v_getR (pc' := 17) rfl dX10_same_14 fk_RX10_16 ly_0 rfl ?_
  refine v_get (z := (n : Int)) (pc' := 20) rfl dX10_same_17 fk_RX10_81 ly_2 rfl (m0) ?_
  refine v_cSR (pc' := 23) rfl dX10_same_20 lk_RX10_93 rfl (c_read l G hq rfl hn1 hn7 w ) rfl rfl rfl (fun read2 hread2 => ?_)
  refine v_istore (ls' := [(4, _), (3, _), (0, _), (1, _), (2, _)]) (pc' := 25) rfl dX10_same_23 rfl rfl ?_
  refine v_iload_n 1 (pc' := 26) rfl dX10_same_25 rfl rfl ?_
  refine v_if_eq (pc' := 29) (tgt := 34) rfl dX10_same_26 (by decide) (RD_r hn7 hread1) (fun c0 => ?_) (fun c0 => ?_)
  ·
    have h0 := RD_0 hn7 hread1 (by omega)
    have hz : SamP n s a p q (-1) := Or.inl ⟨rfl, fun ⟨f, g, a1, a2, a3, a4⟩ => h0 f a1 a3⟩
    refine v_iconst (pc' := 35) rfl dX10_same_34 ?_
    refine v_iret dX10_same_35 (by decide) (rfl) ?_
    first | exact ⟨Fr.rf _ _, hz⟩ | exact ⟨hq3.1, Or.inr ⟨f, g, hf, hg, hfp, hgp, Or.inl ⟨rfl, FST_0 hn7 hq3.2 (by omega)⟩⟩⟩ | exact ⟨hq3.1, Or.inr ⟨f, g, hf, hg, hfp, hgp, Or.inr ⟨rfl, FST_1 hq3.2 (by omega)⟩⟩⟩
  ·
    obtain ⟨f, hf, hfp, hfe⟩ := RD_1 hread1 (by omega)
    refine v_iload 0 (pc' := 31) rfl dX10_same_29 rfl ?_
    refine v_if_ne (pc' := 34) (tgt := 36) rfl dX10_same_31 (by decide) (RD_r hn7 hread2) (fun c1 => ?_) (fun c1 => ?_)
    ·
      obtain ⟨g, hg, hgp, hge⟩ := RD_1 hread2 (by omega)
      refine v_aload_n 2 (pc' := 37) rfl dX10_same_36 rfl rfl ?_
      refine v_getR (pc' := 40) rfl dX10_same_37 fk_RX10_27 ly_0 rfl ?_
      refine v_aload_n 2 (pc' := 41) rfl dX10_same_40 rfl rfl ?_
      refine v_getR (pc' := 44) rfl dX10_same_41 fk_RX10_16 ly_0 rfl ?_
      refine v_get (z := (n : Int)) (pc' := 47) rfl dX10_same_44 fk_RX10_81 ly_2 rfl (m0) ?_
      refine v_aload_n 2 (pc' := 48) rfl dX10_same_47 rfl rfl ?_
      refine v_getR (pc' := 51) rfl dX10_same_48 fk_RX10_16 ly_0 rfl ?_
      refine v_get (z := ((hx s : Nat) : Int)) (pc' := 54) rfl dX10_same_51 fk_RX10_87 ly_2 rfl (m1) ?_
      refine v_aload_n 2 (pc' := 55) rfl dX10_same_54 rfl rfl ?_
      refine v_getR (pc' := 58) rfl dX10_same_55 fk_RX10_16 ly_0 rfl ?_
      refine v_get (z := ((hx a : Nat) : Int)) (pc' := 61) rfl dX10_same_58 fk_RX10_90 ly_2 rfl (m2) ?_
      refine v_iload_n 1 (pc' := 62) rfl dX10_same_61 rfl rfl ?_
      refine v_iload 0 (pc' := 64) rfl dX10_same_62 rfl ?_
      refine v_cVi (pc' := 67) rfl dX10_same_64 lk_RX10_246 ly_7 rfl (c_first l G rfl hn1 hn7 hs ha rfl rfl hf hg hfe hge w) rfl rfl rfl (fun first1 w3 hq3 => ?_)
      have hrf := FST_r hn7 hq3.2
      refine v_if_eq (pc' := 70) (tgt := 74) rfl dX10_same_67 (by decide) (by omega) (fun c2 => ?_) (fun c2 => ?_)
      ·
        refine v_iconst (pc' := 75) rfl dX10_same_74 ?_
        refine v_iret dX10_same_75 (by decide) (rfl) ?_
        first | exact ⟨Fr.rf _ _, hz⟩ | exact ⟨hq3.1, Or.inr ⟨f, g, hf, hg, hfp, hgp, Or.inl ⟨rfl, FST_0 hn7 hq3.2 (by omega)⟩⟩⟩ | exact ⟨hq3.1, Or.inr ⟨f, g, hf, hg, hfp, hgp, Or.inr ⟨rfl, FST_1 hq3.2 (by omega)⟩⟩⟩
      ·
        refine v_iconst (pc' := 71) rfl dX10_same_70 ?_
        refine v_goto (tgt := 75) dX10_same_71 (by decide) ?_
        refine v_iret dX10_same_75 (by decide) (rfl) ?_
        first | exact ⟨Fr.rf _ _, hz⟩ | exact ⟨hq3.1, Or.inr ⟨f, g, hf, hg, hfp, hgp, Or.inl ⟨rfl, FST_0 hn7 hq3.2 (by omega)⟩⟩⟩ | exact ⟨hq3.1, Or.inr ⟨f, g, hf, hg, hfp, hgp, Or.inr ⟨rfl, FST_1 hq3.2 (by omega)⟩⟩⟩
    ·
      have h0 := RD_0 hn7 hread2 (by omega)
      have hz : SamP n s a p q (-1) := Or.inl ⟨rfl, fun ⟨f, g, a1, a2, a3, a4⟩ => h0 g a2 a4⟩
      refine v_iconst (pc' := 35) rfl dX10_same_34 ?_
      refine v_iret dX10_same_35 (by decide) (rfl) ?_
      first | exact ⟨Fr.rf _ _, hz⟩ | exact ⟨hq3.1, Or.inr ⟨f, g, hf, hg, hfp, hgp, Or.inl ⟨rfl, FST_0 hn7 hq3.2 (by omega)⟩⟩⟩ | exact ⟨hq3.1, Or.inr ⟨f, g, hf, hg, hfp, hgp, Or.inr ⟨rfl, FST_1 hq3.2 (by omega)⟩⟩⟩

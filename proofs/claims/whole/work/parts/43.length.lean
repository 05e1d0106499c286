def lenI (n : Nat) (s a f : Nat → Nat) : Int := if (bfs n s a).2 (rankN f n) < 0 then -2 else (bfs n s a).2 (rankN f n)
def LenP (n : Nat) (s a : Nat → Nat) (p z : Int) : Prop := (z = -1 ∧ ∀ f, Pm n f → (cdk f n : Int) ≠ p) ∨ ∃ f, Pm n f ∧ (cdk f n : Int) = p ∧ z = lenI n s a f
theorem fac_le5040 : ∀ n : Nat, n < 8 → facN n ≤ 5040 := by decide +kernel
set_option maxHeartbeats 4000000 in
set_option maxRecDepth 100000 in
theorem c_length (l : Launch) (G : Gx) {p : Int} (hp : rg p) {n : Nat} {s a : Nat → Nat} (hV : MapV n s a) (w : Wd) (hM : MapW w n s a) (hG : GInv w) : Sp l G 4 mX10_length [aR 0, aI (p)] w (fun z w' => Fr [14, 15, 16] w w' ∧ GInv w' ∧ LenP n s a p z) := by
  obtain ⟨⟨hn1, hn7⟩, hs, ha⟩ := id hV
  obtain ⟨m0, m1, m2⟩ := id hM
  have hBI : BI n (bfs n s a) := bfsI_BI hn1 hn7 hs ha 5040
  have hBl := hBI.len hn1 hn7
  have hfc := fac_le5040 n (by omega)
  refine Sp_of RX10 rfl (by decide +kernel) rfl (Nat.le_of_ble_eq_true rfl) ?_
  refine v_iload_n 1 (pc' := 1) rfl dX10_length_0 rfl rfl ?_
  refine v_aload_n 0 (pc' := 2) rfl dX10_length_1 rfl rfl ?_
  refine v_getR (pc' := 5) rfl dX10_length_2 fk_RX10_16 ly_0 rfl ?_
  refine v_get (z := (n : Int)) (pc' := 8) rfl dX10_length_5 fk_RX10_81 ly_2 rfl (m0) ?_
  refine v_cSR (pc' := 11) rfl dX10_length_8 lk_RX10_93 rfl (c_read l G hp rfl hn1 hn7 w ) rfl rfl rfl (fun read1 hread1 => ?_)
  refine v_istore_n (ls' := [(2, _), (0, _), (1, _)]) (pc' := 12) rfl dX10_length_11 rfl rfl rfl ?_
  refine v_iload_n 0 (pc' := 13) rfl dX10_length_12 rfl rfl ?_
  refine v_if_ne (pc' := 16) (tgt := 18) rfl dX10_length_13 (by decide) (RD_r hn7 hread1) (fun c0 => ?_) (fun c0 => ?_)
  ·
    obtain ⟨f, hf, hfp, hfe⟩ := RD_1 hread1 (by omega)
    have hr4 := hBI.2.2.2 (rankN f n)
    refine v_aload_n 1 (pc' := 19) rfl dX10_length_18 rfl rfl ?_
    refine v_getR (pc' := 22) rfl dX10_length_19 fk_RX10_41 ly_0 rfl ?_
    refine v_aload_n 1 (pc' := 23) rfl dX10_length_22 rfl rfl ?_
    refine v_getR (pc' := 26) rfl dX10_length_23 fk_RX10_16 ly_0 rfl ?_
    refine v_get (z := (n : Int)) (pc' := 29) rfl dX10_length_26 fk_RX10_81 ly_2 rfl (m0) ?_
    refine v_aload_n 1 (pc' := 30) rfl dX10_length_29 rfl rfl ?_
    refine v_getR (pc' := 33) rfl dX10_length_30 fk_RX10_16 ly_0 rfl ?_
    refine v_get (z := ((hx s : Nat) : Int)) (pc' := 36) rfl dX10_length_33 fk_RX10_87 ly_2 rfl (m1) ?_
    refine v_aload_n 1 (pc' := 37) rfl dX10_length_36 rfl rfl ?_
    refine v_getR (pc' := 40) rfl dX10_length_37 fk_RX10_16 ly_0 rfl ?_
    refine v_get (z := ((hx a : Nat) : Int)) (pc' := 43) rfl dX10_length_40 fk_RX10_90 ly_2 rfl (m2) ?_
    refine v_cVv (pc' := 46) rfl dX10_length_43 lk_RX10_253 ly_14 rfl (c_fill l G rfl hn1 hn7 hs ha rfl rfl w hG) rfl rfl rfl (fun fill1 w2 hq2 => ?_)
    refine v_aload_n 1 (pc' := 47) rfl dX10_length_46 rfl rfl ?_
    refine v_getR (pc' := 50) rfl dX10_length_47 fk_RX10_41 ly_0 rfl ?_
    refine v_iload_n 0 (pc' := 51) rfl dX10_length_50 rfl rfl ?_
    refine v_cVP (pc' := 54) rfl dX10_length_51 lk_RX10_270 ly_14 rfl (c_turnsTo l G hn1 hn7 hfe hf w2 hq2.2.2 hq2.2.1.1) rfl rfl rfl ?_
    refine v_nm (fun turnsTo1 hturnsTo1 => ?_)
    refine v_istore_n (ls' := [(3, _), (2, _), (0, _), (1, _)]) (pc' := 55) rfl dX10_length_54 rfl rfl rfl ?_
    refine v_iload_n 0 (pc' := 56) rfl dX10_length_55 rfl rfl ?_
    refine v_if_ge (pc' := 59) (tgt := 64) rfl dX10_length_56 (by decide) (by omega) (fun c1 => ?_) (fun c1 => ?_)
    ·
      have hz : ¬ (bfs n s a).2 (rankN f n) < 0 := by omega
      refine v_iload_n 0 (pc' := 65) rfl dX10_length_64 rfl rfl ?_
      refine v_iret dX10_length_65 (by decide) (rfl) ?_
      first | exact ⟨Fr.rf _ _, hG, Or.inl ⟨rfl, h0⟩⟩ | exact ⟨hq2.1, Or.inr ⟨n, s, a, ⟨hn1, hn7⟩, hs, ha, hq2.2⟩, Or.inr ⟨f, hf, hfp, by unfold lenI; rw [if_neg hz]; exact hturnsTo1⟩⟩ | exact ⟨hq2.1, Or.inr ⟨n, s, a, ⟨hn1, hn7⟩, hs, ha, hq2.2⟩, Or.inr ⟨f, hf, hfp, by unfold lenI; rw [if_pos hz]⟩⟩
    ·
      have hz : (bfs n s a).2 (rankN f n) < 0 := by omega
      refine v_bipush (pc' := 61) rfl dX10_length_59 rfl ?_
      refine v_goto (tgt := 65) dX10_length_61 (by decide) ?_
      refine v_iret dX10_length_65 (by decide) (rfl) ?_
      first | exact ⟨Fr.rf _ _, hG, Or.inl ⟨rfl, h0⟩⟩ | exact ⟨hq2.1, Or.inr ⟨n, s, a, ⟨hn1, hn7⟩, hs, ha, hq2.2⟩, Or.inr ⟨f, hf, hfp, by unfold lenI; rw [if_neg hz]; exact hturnsTo1⟩⟩ | exact ⟨hq2.1, Or.inr ⟨n, s, a, ⟨hn1, hn7⟩, hs, ha, hq2.2⟩, Or.inr ⟨f, hf, hfp, by unfold lenI; rw [if_pos hz]⟩⟩
  ·
    have h0 := RD_0 hn7 hread1 (by omega)
    refine v_iconst (pc' := 17) rfl dX10_length_16 ?_
    refine v_iret dX10_length_17 (by decide) (rfl) ?_
    first | exact ⟨Fr.rf _ _, hG, Or.inl ⟨rfl, h0⟩⟩ | exact ⟨hq2.1, Or.inr ⟨n, s, a, ⟨hn1, hn7⟩, hs, ha, hq2.2⟩, Or.inr ⟨f, hf, hfp, by unfold lenI; rw [if_neg hz]; exact hturnsTo1⟩⟩ | exact ⟨hq2.1, Or.inr ⟨n, s, a, ⟨hn1, hn7⟩, hs, ha, hq2.2⟩, Or.inr ⟨f, hf, hfp, by unfold lenI; rw [if_pos hz]⟩⟩

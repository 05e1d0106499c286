def SetP (w : Wd) (n : Nat) (s a : Nat → Nat) (wh p z : Int) (w' : Wd) : Prop :=
  ((¬ (wh = 0 ∨ wh = 1) ∨ ∀ f, Pm n f → (cdk f n : Int) ≠ p) ∧ w' = w ∧ z = -1) ∨
  ((wh = 0 ∨ wh = 1) ∧ ∃ f, Pm n f ∧ (cdk f n : Int) = p ∧ w' = up w 2 (if wh = 0 then 1 else 2) (hx f : Nat) ∧ z = (cdk (trF s a wh) n : Nat))
theorem col_1 {wh z : Int} (h : z = if wh = 0 ∨ wh = 1 then 1 else 0) (hz : z ≠ 0) : wh = 0 ∨ wh = 1 := Classical.byContradiction (fun q => hz (h.trans (if_neg q)))
theorem col_0 {wh z : Int} (h : z = if wh = 0 ∨ wh = 1 then 1 else 0) (hz : z = 0) : ¬ (wh = 0 ∨ wh = 1) := fun q => by rw [if_pos q] at h; omega
theorem col_r {wh z : Int} (h : z = if wh = 0 ∨ wh = 1 then 1 else 0) : rg z := by rw [h]; split <;> decide
set_option maxHeartbeats 4000000 in
set_option maxRecDepth 100000 in
theorem c_set (l : Launch) (G : Gx) {wh p : Int} (hwh : rg wh) (hp : rg p) {n : Nat} {s a : Nat → Nat} (hV : MapV n s a) (w : Wd) (hM : MapW w n s a) : Sp l G 4 mX10_set [aR 0, aI (wh), aI (p)] w (fun z w' => SetP w n s a wh p z w') := by
  obtain ⟨⟨hn1, hn7⟩, hs, ha⟩ := id hV
  obtain ⟨m0, m1, m2⟩ := id hM
  have hf := trF_pm hV wh
  refine Sp_of RX10 rfl (by decide +kernel) rfl (Nat.le_of_ble_eq_true rfl) ?_
  refine v_iload_n 2 (pc' := 1) rfl dX10_set_0 rfl rfl ?_
  refine v_aload_n 0 (pc' := 2) rfl dX10_set_1 rfl rfl ?_
  refine v_getR (pc' := 5) rfl dX10_set_2 fk_RX10_16 ly_0 rfl ?_
  refine v_get (z := (n : Int)) (pc' := 8) rfl dX10_set_5 fk_RX10_81 ly_2 rfl (m0) ?_
  refine v_cSR (pc' := 11) rfl dX10_set_8 lk_RX10_93 rfl (c_read l G hp rfl hn1 hn7 w ) rfl rfl rfl (fun read1 hread1 => ?_)
  refine v_istore_n (ls' := [(3, _), (0, _), (1, _), (2, _)]) (pc' := 12) rfl dX10_set_11 rfl rfl rfl ?_
  refine v_iload_n 2 (pc' := 13) rfl dX10_set_12 rfl rfl ?_
  refine v_cSP (pc' := 16) rfl dX10_set_13 lk_RX10_97 rfl (c_colour l G hwh w) rfl rfl rfl ?_
  refine v_nm (fun colour1 hcolour1 => ?_)
  refine v_if_eq (pc' := 19) (tgt := 23) rfl dX10_set_16 (by decide) (col_r hcolour1) (fun c0 => ?_) (fun c0 => ?_)
  ·
    have hz := col_0 hcolour1 (by omega)
    refine v_iconst (pc' := 24) rfl dX10_set_23 ?_
    refine v_iret dX10_set_24 (by decide) (rfl) ?_
    first | exact Or.inl ⟨Or.inl hz, rfl, rfl⟩ | exact Or.inl ⟨Or.inr h0, rfl, rfl⟩ | exact Or.inr ⟨hz, f, hf2, hfp, by rw [hq5, hfe], hdigits1⟩
  ·
    have hz := col_1 hcolour1 (by omega)
    refine v_iload_n 0 (pc' := 20) rfl dX10_set_19 rfl rfl ?_
    refine v_if_ne (pc' := 23) (tgt := 25) rfl dX10_set_20 (by decide) (RD_r hn7 hread1) (fun c1 => ?_) (fun c1 => ?_)
    ·
      obtain ⟨f, hf2, hfp, hfe⟩ := RD_1 hread1 (by omega)
      have hT0 : tok wh := by omega
      refine v_aload_n 1 (pc' := 26) rfl dX10_set_25 rfl rfl ?_
      refine v_iload_n 2 (pc' := 27) rfl dX10_set_26 rfl rfl ?_
      refine v_cVP (pc' := 30) rfl dX10_set_27 lk_RX10_101 ly_0 rfl (c_turn l G hwh hV w hM) rfl rfl rfl ?_
      refine v_nm (fun turn1 hturn1 => ?_)
      refine v_aload_n 1 (pc' := 31) rfl dX10_set_30 rfl rfl ?_
      refine v_getR (pc' := 34) rfl dX10_set_31 fk_RX10_16 ly_0 rfl ?_
      refine v_get (z := (n : Int)) (pc' := 37) rfl dX10_set_34 fk_RX10_81 ly_2 rfl (m0) ?_
      refine v_cSP (pc' := 40) rfl dX10_set_37 lk_RX10_105 rfl (c_digits l G (hturn1.trans (trI_ok hT0)) (hf.B hn7) rfl hn7 w) rfl rfl rfl ?_
      refine v_nm (fun digits1 hdigits1 => ?_)
      refine v_istore (ls' := [(4, _), (3, _), (0, _), (1, _), (2, _)]) (pc' := 42) rfl dX10_set_40 rfl rfl ?_
      refine v_aload_n 2 (pc' := 43) rfl dX10_set_42 rfl rfl ?_
      refine v_iload_n 3 (pc' := 44) rfl dX10_set_43 rfl rfl ?_
      refine v_iload_n 1 (pc' := 45) rfl dX10_set_44 rfl rfl ?_
      refine v_cVv (pc' := 48) rfl dX10_set_45 lk_RX10_108 ly_0 rfl (c_put l G hwh (RD_r hn7 hread1) w) rfl rfl rfl (fun put1 w5 hq5 => ?_)
      refine v_iload 0 (pc' := 50) rfl dX10_set_48 rfl ?_
      refine v_iret dX10_set_50 (by decide) (rfl) ?_
      first | exact Or.inl ⟨Or.inl hz, rfl, rfl⟩ | exact Or.inl ⟨Or.inr h0, rfl, rfl⟩ | exact Or.inr ⟨hz, f, hf2, hfp, by rw [hq5, hfe], hdigits1⟩
    ·
      have h0 := RD_0 hn7 hread1 (by omega)
      refine v_iconst (pc' := 24) rfl dX10_set_23 ?_
      refine v_iret dX10_set_24 (by decide) (rfl) ?_
      first | exact Or.inl ⟨Or.inl hz, rfl, rfl⟩ | exact Or.inl ⟨Or.inr h0, rfl, rfl⟩ | exact Or.inr ⟨hz, f, hf2, hfp, by rw [hq5, hfe], hdigits1⟩

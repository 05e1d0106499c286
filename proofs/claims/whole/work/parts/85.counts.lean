/-! ===== the reference: count, way ===== -/
set_option maxHeartbeats 4000000 in
set_option maxRecDepth 100000 in
theorem c_countM (l : Launch) (G : Gx) {what b st : Int} {al : Nat} (hwt : rg what) (h64 : OP64) (hord : ORD) (hset : SETC) (hblk : BLKD) {n : Nat} {s a : Nat → Nat} (hV : MapV n s a) (w : Wd) (hM : RMW w n s a) (hR : RTab w n) (hA : w 63 52 = (al : Nat)) (hB : w 63 16 = b) (hS : w 63 53 = st) : Sp l G 5 mX11_count [aR 63, aI (what)] w (fun z w' => Scr w w' ∧ CntP n s a al b st what z) := by
  obtain ⟨⟨hn1, hn7⟩, hs, ha⟩ := id hV
  obtain ⟨r0, r1, r2⟩ := id hM
  obtain ⟨r3, r4, rPK, rTK⟩ := id hR
  have hfc := fac_le hn1 hn7
  have hk15 := kmany_le n hn7
  refine Sp_of RX11 rfl (by decide +kernel) rfl (Nat.le_of_ble_eq_true rfl) ?_
  refine v_iload_n 1 (pc' := 1) rfl dX11_count_0 rfl rfl ?_
  rcases (show what = 0 ∨ what = 1 ∨ what = 2 ∨ what = 3 ∨ what = 4 ∨ what = 5 ∨ what = 6 ∨ what = 7 ∨ what = 8 ∨ what = 9 ∨ what = 10 ∨ what = 11 ∨ (what < 0 ∨ 11 < what) by omega) with sw0 | sw0 | sw0 | sw0 | sw0 | sw0 | sw0 | sw0 | sw0 | sw0 | sw0 | sw0 | sw0
  ·
    refine v_tin (tgt := 64) 0 dX11_count_1 sw0 (by decide) (by decide) (by decide) rfl (by decide) ?_
    refine v_aload_n 0 (pc' := 65) rfl dX11_count_64 rfl rfl ?_
    refine v_get (z := (n : Int)) (pc' := 68) rfl dX11_count_65 fk_RX11_125 ly_63 rfl (r0) ?_
    refine v_iret dX11_count_68 (by decide) (rfl) ?_
    first
    | exact ⟨hsx, Or.inl ⟨by omega, zx.trans hz.symm⟩⟩
    | exact ⟨hsx, Or.inl ⟨by omega, hz.symm⟩⟩
    | exact ⟨hsx, Or.inr (Or.inl ⟨by omega, hjn, rfl⟩)⟩
    | exact ⟨hsx, Or.inr (Or.inr ⟨by omega, hjy, z11⟩)⟩
    | exact ⟨hsx, Or.inl ⟨by omega, by unfold cntV; rw [if_neg (by omega), if_neg (by omega), if_neg (by omega), if_neg (by omega), if_neg (by omega), if_neg (by omega), if_neg (by omega), if_pos (by omega)]; exact zx⟩⟩
    | exact ⟨Scr.rf _, Or.inl ⟨by omega, by unfold cntV; first | rw [if_pos (by omega)] | rw [if_neg (by omega), if_neg (by omega), if_neg (by omega), if_neg (by omega), if_neg (by omega), if_neg (by omega), if_neg (by omega), if_neg (by omega), if_pos (by omega)] | rw [if_neg (by omega), if_neg (by omega), if_neg (by omega), if_neg (by omega), if_neg (by omega), if_neg (by omega), if_neg (by omega), if_neg (by omega), if_neg (by omega), if_pos (by omega)] | rw [if_neg (by omega), if_neg (by omega), if_neg (by omega), if_neg (by omega), if_neg (by omega), if_neg (by omega), if_neg (by omega), if_neg (by omega), if_neg (by omega), if_neg (by omega), if_pos (by omega)] | rw [if_neg (by omega), if_neg (by omega), if_neg (by omega), if_neg (by omega), if_neg (by omega), if_neg (by omega), if_neg (by omega), if_neg (by omega), if_neg (by omega), if_neg (by omega), if_neg (by omega)]⟩⟩
  ·
    refine v_tin (tgt := 69) 1 dX11_count_1 sw0 (by decide) (by decide) (by decide) rfl (by decide) ?_
    refine v_aload_n 0 (pc' := 70) rfl dX11_count_69 rfl rfl ?_
    refine v_cVi (pc' := 73) rfl dX11_count_70 lk_RX11_398 ly_63 rfl (c_partsM l G hV w hM hR) rfl rfl rfl (fun parts1 w1 hq1 => ?_)
    obtain ⟨hsx, zx⟩ := hq1
    have hz : cntV n s a al b st what = (partsN s a n : Int) := by unfold cntV; rw [if_neg (by omega), if_pos (by omega)]
    refine v_iret dX11_count_73 (by decide) (rfl) ?_
    first
    | exact ⟨hsx, Or.inl ⟨by omega, zx.trans hz.symm⟩⟩
    | exact ⟨hsx, Or.inl ⟨by omega, hz.symm⟩⟩
    | exact ⟨hsx, Or.inr (Or.inl ⟨by omega, hjn, rfl⟩)⟩
    | exact ⟨hsx, Or.inr (Or.inr ⟨by omega, hjy, z11⟩)⟩
    | exact ⟨hsx, Or.inl ⟨by omega, by unfold cntV; rw [if_neg (by omega), if_neg (by omega), if_neg (by omega), if_neg (by omega), if_neg (by omega), if_neg (by omega), if_neg (by omega), if_pos (by omega)]; exact zx⟩⟩
    | exact ⟨Scr.rf _, Or.inl ⟨by omega, by unfold cntV; first | rw [if_pos (by omega)] | rw [if_neg (by omega), if_neg (by omega), if_neg (by omega), if_neg (by omega), if_neg (by omega), if_neg (by omega), if_neg (by omega), if_neg (by omega), if_pos (by omega)] | rw [if_neg (by omega), if_neg (by omega), if_neg (by omega), if_neg (by omega), if_neg (by omega), if_neg (by omega), if_neg (by omega), if_neg (by omega), if_neg (by omega), if_pos (by omega)] | rw [if_neg (by omega), if_neg (by omega), if_neg (by omega), if_neg (by omega), if_neg (by omega), if_neg (by omega), if_neg (by omega), if_neg (by omega), if_neg (by omega), if_neg (by omega), if_pos (by omega)] | rw [if_neg (by omega), if_neg (by omega), if_neg (by omega), if_neg (by omega), if_neg (by omega), if_neg (by omega), if_neg (by omega), if_neg (by omega), if_neg (by omega), if_neg (by omega), if_neg (by omega)]⟩⟩
  ·
    refine v_tin (tgt := 74) 2 dX11_count_1 sw0 (by decide) (by decide) (by decide) rfl (by decide) ?_
    refine v_aload_n 0 (pc' := 75) rfl dX11_count_74 rfl rfl ?_
    refine v_cVi (pc' := 78) rfl dX11_count_75 lk_RX11_311 ly_63 rfl (c_isOne l G hV w hM) rfl rfl rfl (fun isOne1 w2 hq2 => ?_)
    obtain ⟨f2, z2⟩ := hq2
    have r0 : w2 63 0 = (n : Int) := (f2 63 0 (by decide)).trans r0
    have r1 : w2 63 1 = ((cdk s n : Nat) : Int) := (f2 63 1 (by decide)).trans r1
    have r2 : w2 63 2 = ((cdk a n : Nat) : Int) := (f2 63 2 (by decide)).trans r2
    have r3 : w2 63 3 = ((facN n : Nat) : Int) := (f2 63 3 (by decide)).trans r3
    have r4 : w2 63 4 = ((kmany n : Nat) : Int) := (f2 63 4 (by decide)).trans r4
    have hA : w2 63 52 = ((al : Nat) : Int) := (f2 63 52 (by decide)).trans hA
    have hB : w2 63 16 = b := (f2 63 16 (by decide)).trans hB
    have hS : w2 63 53 = st := (f2 63 53 (by decide)).trans hS
    refine v_if_eq (pc' := 81) (tgt := 96) rfl dX11_count_78 (by decide) (jn_r z2) (fun c0 => ?_) (fun c0 => ?_)
    ·
      have hjn := jn_0 z2 (by omega)
      have hsx := Scr.of f2 (by decide)
      have hz : cntV n s a al b st what = -2 := by unfold cntV; rw [if_neg (by omega), if_neg (by omega), if_pos (by omega)]; rw [hjn]; rfl
      refine v_bipush (pc' := 98) rfl dX11_count_96 rfl ?_
      refine v_iret dX11_count_98 (by decide) (rfl) ?_
      first
      | exact ⟨hsx, Or.inl ⟨by omega, zx.trans hz.symm⟩⟩
      | exact ⟨hsx, Or.inl ⟨by omega, hz.symm⟩⟩
      | exact ⟨hsx, Or.inr (Or.inl ⟨by omega, hjn, rfl⟩)⟩
      | exact ⟨hsx, Or.inr (Or.inr ⟨by omega, hjy, z11⟩)⟩
      | exact ⟨hsx, Or.inl ⟨by omega, by unfold cntV; rw [if_neg (by omega), if_neg (by omega), if_neg (by omega), if_neg (by omega), if_neg (by omega), if_neg (by omega), if_neg (by omega), if_pos (by omega)]; exact zx⟩⟩
      | exact ⟨Scr.rf _, Or.inl ⟨by omega, by unfold cntV; first | rw [if_pos (by omega)] | rw [if_neg (by omega), if_neg (by omega), if_neg (by omega), if_neg (by omega), if_neg (by omega), if_neg (by omega), if_neg (by omega), if_neg (by omega), if_pos (by omega)] | rw [if_neg (by omega), if_neg (by omega), if_neg (by omega), if_neg (by omega), if_neg (by omega), if_neg (by omega), if_neg (by omega), if_neg (by omega), if_neg (by omega), if_pos (by omega)] | rw [if_neg (by omega), if_neg (by omega), if_neg (by omega), if_neg (by omega), if_neg (by omega), if_neg (by omega), if_neg (by omega), if_neg (by omega), if_neg (by omega), if_neg (by omega), if_pos (by omega)] | rw [if_neg (by omega), if_neg (by omega), if_neg (by omega), if_neg (by omega), if_neg (by omega), if_neg (by omega), if_neg (by omega), if_neg (by omega), if_neg (by omega), if_neg (by omega), if_neg (by omega)]⟩⟩
    ·
      have hjy := jn_1 z2 (by omega)
      refine v_aload_n 0 (pc' := 82) rfl dX11_count_81 rfl rfl ?_
      refine v_aload_n 0 (pc' := 83) rfl dX11_count_82 rfl rfl ?_
      refine v_get (z := ((cdk s n : Nat) : Int)) (pc' := 86) rfl dX11_count_83 fk_RX11_149 ly_63 rfl (r1) ?_
      refine v_aload_n 0 (pc' := 87) rfl dX11_count_86 rfl rfl ?_
      refine v_get (z := ((cdk a n : Nat) : Int)) (pc' := 90) rfl dX11_count_87 fk_RX11_152 ly_63 rfl (r2) ?_
      refine v_cVi (pc' := 93) rfl dX11_count_90 lk_RX11_389 ly_63 rfl (c_genusOf l G rfl rfl hs ha hn1 hn7 w2 r0) rfl rfl rfl (fun genusOf1 w3 hq3 => ?_)
      obtain ⟨f3, z3⟩ := hq3
      have hsx := (Scr.of f2 (by decide)).tr (Scr.of f3 (by decide))
      have zx := z3
      have hz : cntV n s a al b st what = genusI s a (full n) := by unfold cntV; rw [if_neg (by omega), if_neg (by omega), if_pos (by omega)]; rw [hjy]; rfl
      refine v_goto (tgt := 98) dX11_count_93 (by decide) ?_
      refine v_iret dX11_count_98 (by decide) (rfl) ?_
      first
      | exact ⟨hsx, Or.inl ⟨by omega, zx.trans hz.symm⟩⟩
      | exact ⟨hsx, Or.inl ⟨by omega, hz.symm⟩⟩
      | exact ⟨hsx, Or.inr (Or.inl ⟨by omega, hjn, rfl⟩)⟩
      | exact ⟨hsx, Or.inr (Or.inr ⟨by omega, hjy, z11⟩)⟩
      | exact ⟨hsx, Or.inl ⟨by omega, by unfold cntV; rw [if_neg (by omega), if_neg (by omega), if_neg (by omega), if_neg (by omega), if_neg (by omega), if_neg (by omega), if_neg (by omega), if_pos (by omega)]; exact zx⟩⟩
      | exact ⟨Scr.rf _, Or.inl ⟨by omega, by unfold cntV; first | rw [if_pos (by omega)] | rw [if_neg (by omega), if_neg (by omega), if_neg (by omega), if_neg (by omega), if_neg (by omega), if_neg (by omega), if_neg (by omega), if_neg (by omega), if_pos (by omega)] | rw [if_neg (by omega), if_neg (by omega), if_neg (by omega), if_neg (by omega), if_neg (by omega), if_neg (by omega), if_neg (by omega), if_neg (by omega), if_neg (by omega), if_pos (by omega)] | rw [if_neg (by omega), if_neg (by omega), if_neg (by omega), if_neg (by omega), if_neg (by omega), if_neg (by omega), if_neg (by omega), if_neg (by omega), if_neg (by omega), if_neg (by omega), if_pos (by omega)] | rw [if_neg (by omega), if_neg (by omega), if_neg (by omega), if_neg (by omega), if_neg (by omega), if_neg (by omega), if_neg (by omega), if_neg (by omega), if_neg (by omega), if_neg (by omega), if_neg (by omega)]⟩⟩
  ·
    refine v_tin (tgt := 99) 3 dX11_count_1 sw0 (by decide) (by decide) (by decide) rfl (by decide) ?_
    refine v_aload_n 0 (pc' := 100) rfl dX11_count_99 rfl rfl ?_
    refine v_aload_n 0 (pc' := 101) rfl dX11_count_100 rfl rfl ?_
    refine v_get (z := ((cdk s n : Nat) : Int)) (pc' := 104) rfl dX11_count_101 fk_RX11_149 ly_63 rfl (r1) ?_
    refine v_aload_n 0 (pc' := 105) rfl dX11_count_104 rfl rfl ?_
    refine v_get (z := ((cdk a n : Nat) : Int)) (pc' := 108) rfl dX11_count_105 fk_RX11_152 ly_63 rfl (r2) ?_
    refine v_cVi (pc' := 111) rfl dX11_count_108 lk_RX11_386 ly_63 rfl (c_autsOf l G rfl rfl hs ha hn1 hn7 w r0 hR) rfl rfl rfl (fun autsOf1 w4 hq4 => ?_)
    obtain ⟨hsx, zx⟩ := hq4
    have hz : cntV n s a al b st what = (autI n s a : Int) := by unfold cntV; rw [if_neg (by omega), if_neg (by omega), if_neg (by omega), if_pos (by omega)]; rw [hset n s a hn1 hn7 hs ha]
    refine v_iret dX11_count_111 (by decide) (rfl) ?_
    first
    | exact ⟨hsx, Or.inl ⟨by omega, zx.trans hz.symm⟩⟩
    | exact ⟨hsx, Or.inl ⟨by omega, hz.symm⟩⟩
    | exact ⟨hsx, Or.inr (Or.inl ⟨by omega, hjn, rfl⟩)⟩
    | exact ⟨hsx, Or.inr (Or.inr ⟨by omega, hjy, z11⟩)⟩
    | exact ⟨hsx, Or.inl ⟨by omega, by unfold cntV; rw [if_neg (by omega), if_neg (by omega), if_neg (by omega), if_neg (by omega), if_neg (by omega), if_neg (by omega), if_neg (by omega), if_pos (by omega)]; exact zx⟩⟩
    | exact ⟨Scr.rf _, Or.inl ⟨by omega, by unfold cntV; first | rw [if_pos (by omega)] | rw [if_neg (by omega), if_neg (by omega), if_neg (by omega), if_neg (by omega), if_neg (by omega), if_neg (by omega), if_neg (by omega), if_neg (by omega), if_pos (by omega)] | rw [if_neg (by omega), if_neg (by omega), if_neg (by omega), if_neg (by omega), if_neg (by omega), if_neg (by omega), if_neg (by omega), if_neg (by omega), if_neg (by omega), if_pos (by omega)] | rw [if_neg (by omega), if_neg (by omega), if_neg (by omega), if_neg (by omega), if_neg (by omega), if_neg (by omega), if_neg (by omega), if_neg (by omega), if_neg (by omega), if_neg (by omega), if_pos (by omega)] | rw [if_neg (by omega), if_neg (by omega), if_neg (by omega), if_neg (by omega), if_neg (by omega), if_neg (by omega), if_neg (by omega), if_neg (by omega), if_neg (by omega), if_neg (by omega), if_neg (by omega)]⟩⟩
  ·
    refine v_tin (tgt := 112) 4 dX11_count_1 sw0 (by decide) (by decide) (by decide) rfl (by decide) ?_
    refine v_aload_n 0 (pc' := 113) rfl dX11_count_112 rfl rfl ?_
    refine v_aload_n 0 (pc' := 114) rfl dX11_count_113 rfl rfl ?_
    refine v_get (z := ((cdk s n : Nat) : Int)) (pc' := 117) rfl dX11_count_114 fk_RX11_149 ly_63 rfl (r1) ?_
    refine v_aload_n 0 (pc' := 118) rfl dX11_count_117 rfl rfl ?_
    refine v_get (z := ((cdk a n : Nat) : Int)) (pc' := 121) rfl dX11_count_118 fk_RX11_152 ly_63 rfl (r2) ?_
    refine v_cVi (pc' := 124) rfl dX11_count_121 lk_RX11_295 ly_63 rfl (c_laysGroup l G rfl rfl hs ha hn1 hn7 w r0 hR) rfl rfl rfl (fun laysGroup1 w5 hq5 => ?_)
    obtain ⟨hsx, -, zx⟩ := hq5
    have hz : cntV n s a al b st what = ((bfs n s a).1.length : Int) := by unfold cntV; rw [if_neg (by omega), if_neg (by omega), if_neg (by omega), if_neg (by omega), if_pos (by omega)]; rw [hord n s a hn1 hn7 hs ha]
    refine v_iret dX11_count_124 (by decide) (rfl) ?_
    first
    | exact ⟨hsx, Or.inl ⟨by omega, zx.trans hz.symm⟩⟩
    | exact ⟨hsx, Or.inl ⟨by omega, hz.symm⟩⟩
    | exact ⟨hsx, Or.inr (Or.inl ⟨by omega, hjn, rfl⟩)⟩
    | exact ⟨hsx, Or.inr (Or.inr ⟨by omega, hjy, z11⟩)⟩
    | exact ⟨hsx, Or.inl ⟨by omega, by unfold cntV; rw [if_neg (by omega), if_neg (by omega), if_neg (by omega), if_neg (by omega), if_neg (by omega), if_neg (by omega), if_neg (by omega), if_pos (by omega)]; exact zx⟩⟩
    | exact ⟨Scr.rf _, Or.inl ⟨by omega, by unfold cntV; first | rw [if_pos (by omega)] | rw [if_neg (by omega), if_neg (by omega), if_neg (by omega), if_neg (by omega), if_neg (by omega), if_neg (by omega), if_neg (by omega), if_neg (by omega), if_pos (by omega)] | rw [if_neg (by omega), if_neg (by omega), if_neg (by omega), if_neg (by omega), if_neg (by omega), if_neg (by omega), if_neg (by omega), if_neg (by omega), if_neg (by omega), if_pos (by omega)] | rw [if_neg (by omega), if_neg (by omega), if_neg (by omega), if_neg (by omega), if_neg (by omega), if_neg (by omega), if_neg (by omega), if_neg (by omega), if_neg (by omega), if_neg (by omega), if_pos (by omega)] | rw [if_neg (by omega), if_neg (by omega), if_neg (by omega), if_neg (by omega), if_neg (by omega), if_neg (by omega), if_neg (by omega), if_neg (by omega), if_neg (by omega), if_neg (by omega), if_neg (by omega)]⟩⟩
  ·
    refine v_tin (tgt := 125) 5 dX11_count_1 sw0 (by decide) (by decide) (by decide) rfl (by decide) ?_
    refine v_aload_n 0 (pc' := 126) rfl dX11_count_125 rfl rfl ?_
    refine v_iconst (pc' := 127) rfl dX11_count_126 ?_
    refine v_cVi (pc' := 130) rfl dX11_count_127 lk_RX11_330 ly_63 rfl (c_systemsM l G (wh := -1) (by decide) hblk hV w hM) rfl rfl rfl (fun systems1 w6 hq6 => ?_)
    obtain ⟨hsx, zx2⟩ := hq6
    have hz : cntV n s a al b st what = (if joinB s a n then ((sysL n s a).length : Int) else 0) := by unfold cntV; rw [if_neg (by omega), if_neg (by omega), if_neg (by omega), if_neg (by omega), if_neg (by omega), if_pos (by omega)]
    have zx : systems1 = if joinB s a n then ((sysL n s a).length : Int) else 0 := by
      rcases zx2 with q | q
      · rw [q.1]; exact q.2
      · rw [q.1]; exact q.2.1
    refine v_iret dX11_count_130 (by decide) (rfl) ?_
    first
    | exact ⟨hsx, Or.inl ⟨by omega, zx.trans hz.symm⟩⟩
    | exact ⟨hsx, Or.inl ⟨by omega, hz.symm⟩⟩
    | exact ⟨hsx, Or.inr (Or.inl ⟨by omega, hjn, rfl⟩)⟩
    | exact ⟨hsx, Or.inr (Or.inr ⟨by omega, hjy, z11⟩)⟩
    | exact ⟨hsx, Or.inl ⟨by omega, by unfold cntV; rw [if_neg (by omega), if_neg (by omega), if_neg (by omega), if_neg (by omega), if_neg (by omega), if_neg (by omega), if_neg (by omega), if_pos (by omega)]; exact zx⟩⟩
    | exact ⟨Scr.rf _, Or.inl ⟨by omega, by unfold cntV; first | rw [if_pos (by omega)] | rw [if_neg (by omega), if_neg (by omega), if_neg (by omega), if_neg (by omega), if_neg (by omega), if_neg (by omega), if_neg (by omega), if_neg (by omega), if_pos (by omega)] | rw [if_neg (by omega), if_neg (by omega), if_neg (by omega), if_neg (by omega), if_neg (by omega), if_neg (by omega), if_neg (by omega), if_neg (by omega), if_neg (by omega), if_pos (by omega)] | rw [if_neg (by omega), if_neg (by omega), if_neg (by omega), if_neg (by omega), if_neg (by omega), if_neg (by omega), if_neg (by omega), if_neg (by omega), if_neg (by omega), if_neg (by omega), if_pos (by omega)] | rw [if_neg (by omega), if_neg (by omega), if_neg (by omega), if_neg (by omega), if_neg (by omega), if_neg (by omega), if_neg (by omega), if_neg (by omega), if_neg (by omega), if_neg (by omega), if_neg (by omega)]⟩⟩
  ·
    refine v_tin (tgt := 131) 6 dX11_count_1 sw0 (by decide) (by decide) (by decide) rfl (by decide) ?_
    refine v_aload_n 0 (pc' := 132) rfl dX11_count_131 rfl rfl ?_
    refine v_cVi (pc' := 135) rfl dX11_count_132 lk_RX11_311 ly_63 rfl (c_isOne l G hV w hM) rfl rfl rfl (fun isOne2 w7 hq7 => ?_)
    obtain ⟨f7, z7⟩ := hq7
    have r0 : w7 63 0 = (n : Int) := (f7 63 0 (by decide)).trans r0
    have r1 : w7 63 1 = ((cdk s n : Nat) : Int) := (f7 63 1 (by decide)).trans r1
    have r2 : w7 63 2 = ((cdk a n : Nat) : Int) := (f7 63 2 (by decide)).trans r2
    have r3 : w7 63 3 = ((facN n : Nat) : Int) := (f7 63 3 (by decide)).trans r3
    have r4 : w7 63 4 = ((kmany n : Nat) : Int) := (f7 63 4 (by decide)).trans r4
    have hA : w7 63 52 = ((al : Nat) : Int) := (f7 63 52 (by decide)).trans hA
    have hB : w7 63 16 = b := (f7 63 16 (by decide)).trans hB
    have hS : w7 63 53 = st := (f7 63 53 (by decide)).trans hS
    refine v_if_eq (pc' := 138) (tgt := 150) rfl dX11_count_135 (by decide) (jn_r z7) (fun c1 => ?_) (fun c1 => ?_)
    ·
      have hjn := jn_0 z7 (by omega)
      have hsx := Scr.of f7 (by decide)
      have hz : cntV n s a al b st what = 0 := by unfold cntV; rw [if_neg (by omega), if_neg (by omega), if_neg (by omega), if_neg (by omega), if_neg (by omega), if_neg (by omega), if_pos (by omega)]; rw [hjn]; rfl
      refine v_iconst (pc' := 151) rfl dX11_count_150 ?_
      refine v_iret dX11_count_151 (by decide) (rfl) ?_
      first
      | exact ⟨hsx, Or.inl ⟨by omega, zx.trans hz.symm⟩⟩
      | exact ⟨hsx, Or.inl ⟨by omega, hz.symm⟩⟩
      | exact ⟨hsx, Or.inr (Or.inl ⟨by omega, hjn, rfl⟩)⟩
      | exact ⟨hsx, Or.inr (Or.inr ⟨by omega, hjy, z11⟩)⟩
      | exact ⟨hsx, Or.inl ⟨by omega, by unfold cntV; rw [if_neg (by omega), if_neg (by omega), if_neg (by omega), if_neg (by omega), if_neg (by omega), if_neg (by omega), if_neg (by omega), if_pos (by omega)]; exact zx⟩⟩
      | exact ⟨Scr.rf _, Or.inl ⟨by omega, by unfold cntV; first | rw [if_pos (by omega)] | rw [if_neg (by omega), if_neg (by omega), if_neg (by omega), if_neg (by omega), if_neg (by omega), if_neg (by omega), if_neg (by omega), if_neg (by omega), if_pos (by omega)] | rw [if_neg (by omega), if_neg (by omega), if_neg (by omega), if_neg (by omega), if_neg (by omega), if_neg (by omega), if_neg (by omega), if_neg (by omega), if_neg (by omega), if_pos (by omega)] | rw [if_neg (by omega), if_neg (by omega), if_neg (by omega), if_neg (by omega), if_neg (by omega), if_neg (by omega), if_neg (by omega), if_neg (by omega), if_neg (by omega), if_neg (by omega), if_pos (by omega)] | rw [if_neg (by omega), if_neg (by omega), if_neg (by omega), if_neg (by omega), if_neg (by omega), if_neg (by omega), if_neg (by omega), if_neg (by omega), if_neg (by omega), if_neg (by omega), if_neg (by omega)]⟩⟩
    ·
      have hjy := jn_1 z7 (by omega)
      refine v_aload_n 0 (pc' := 139) rfl dX11_count_138 rfl rfl ?_
      refine v_iconst (pc' := 140) rfl dX11_count_139 ?_
      refine v_cVi (pc' := 143) rfl dX11_count_140 lk_RX11_330 ly_63 rfl (c_systemsM l G (wh := -1) (by decide) hblk hV w7 (hM.s (Scr.of f7 (by decide)))) rfl rfl rfl (fun systems2 w8 hq8 => ?_)
      obtain ⟨hs8, zx2⟩ := hq8
      have hsx := (Scr.of f7 (by decide)).tr hs8
      have zx8 : systems2 = ((sysL n s a).length : Int) := by
        rcases zx2 with q | q
        · rw [hjy] at q; exact absurd q.1 (by decide)
        · exact q.2.1
      have hsr := sys_r hn7 zx2
      refine v_if_ne (pc' := 146) (tgt := 150) rfl dX11_count_143 (by decide) (hsr) (fun c2 => ?_) (fun c2 => ?_)
      ·
        have hz : cntV n s a al b st what = 0 := by unfold cntV; rw [if_neg (by omega), if_neg (by omega), if_neg (by omega), if_neg (by omega), if_neg (by omega), if_neg (by omega), if_pos (by omega)]; rw [hjy]; simp only [if_true]; rw [if_neg (by omega)]
        refine v_iconst (pc' := 151) rfl dX11_count_150 ?_
        refine v_iret dX11_count_151 (by decide) (rfl) ?_
        first
        | exact ⟨hsx, Or.inl ⟨by omega, zx.trans hz.symm⟩⟩
        | exact ⟨hsx, Or.inl ⟨by omega, hz.symm⟩⟩
        | exact ⟨hsx, Or.inr (Or.inl ⟨by omega, hjn, rfl⟩)⟩
        | exact ⟨hsx, Or.inr (Or.inr ⟨by omega, hjy, z11⟩)⟩
        | exact ⟨hsx, Or.inl ⟨by omega, by unfold cntV; rw [if_neg (by omega), if_neg (by omega), if_neg (by omega), if_neg (by omega), if_neg (by omega), if_neg (by omega), if_neg (by omega), if_pos (by omega)]; exact zx⟩⟩
        | exact ⟨Scr.rf _, Or.inl ⟨by omega, by unfold cntV; first | rw [if_pos (by omega)] | rw [if_neg (by omega), if_neg (by omega), if_neg (by omega), if_neg (by omega), if_neg (by omega), if_neg (by omega), if_neg (by omega), if_neg (by omega), if_pos (by omega)] | rw [if_neg (by omega), if_neg (by omega), if_neg (by omega), if_neg (by omega), if_neg (by omega), if_neg (by omega), if_neg (by omega), if_neg (by omega), if_neg (by omega), if_pos (by omega)] | rw [if_neg (by omega), if_neg (by omega), if_neg (by omega), if_neg (by omega), if_neg (by omega), if_neg (by omega), if_neg (by omega), if_neg (by omega), if_neg (by omega), if_neg (by omega), if_pos (by omega)] | rw [if_neg (by omega), if_neg (by omega), if_neg (by omega), if_neg (by omega), if_neg (by omega), if_neg (by omega), if_neg (by omega), if_neg (by omega), if_neg (by omega), if_neg (by omega), if_neg (by omega)]⟩⟩
      ·
        have hz : cntV n s a al b st what = 1 := by unfold cntV; rw [if_neg (by omega), if_neg (by omega), if_neg (by omega), if_neg (by omega), if_neg (by omega), if_neg (by omega), if_pos (by omega)]; rw [hjy]; simp only [if_true]; rw [if_pos (by omega)]
        refine v_iconst (pc' := 147) rfl dX11_count_146 ?_
        refine v_goto (tgt := 151) dX11_count_147 (by decide) ?_
        refine v_iret dX11_count_151 (by decide) (rfl) ?_
        first
        | exact ⟨hsx, Or.inl ⟨by omega, zx.trans hz.symm⟩⟩
        | exact ⟨hsx, Or.inl ⟨by omega, hz.symm⟩⟩
        | exact ⟨hsx, Or.inr (Or.inl ⟨by omega, hjn, rfl⟩)⟩
        | exact ⟨hsx, Or.inr (Or.inr ⟨by omega, hjy, z11⟩)⟩
        | exact ⟨hsx, Or.inl ⟨by omega, by unfold cntV; rw [if_neg (by omega), if_neg (by omega), if_neg (by omega), if_neg (by omega), if_neg (by omega), if_neg (by omega), if_neg (by omega), if_pos (by omega)]; exact zx⟩⟩
        | exact ⟨Scr.rf _, Or.inl ⟨by omega, by unfold cntV; first | rw [if_pos (by omega)] | rw [if_neg (by omega), if_neg (by omega), if_neg (by omega), if_neg (by omega), if_neg (by omega), if_neg (by omega), if_neg (by omega), if_neg (by omega), if_pos (by omega)] | rw [if_neg (by omega), if_neg (by omega), if_neg (by omega), if_neg (by omega), if_neg (by omega), if_neg (by omega), if_neg (by omega), if_neg (by omega), if_neg (by omega), if_pos (by omega)] | rw [if_neg (by omega), if_neg (by omega), if_neg (by omega), if_neg (by omega), if_neg (by omega), if_neg (by omega), if_neg (by omega), if_neg (by omega), if_neg (by omega), if_neg (by omega), if_pos (by omega)] | rw [if_neg (by omega), if_neg (by omega), if_neg (by omega), if_neg (by omega), if_neg (by omega), if_neg (by omega), if_neg (by omega), if_neg (by omega), if_neg (by omega), if_neg (by omega), if_neg (by omega)]⟩⟩
  ·
    refine v_tin (tgt := 152) 7 dX11_count_1 sw0 (by decide) (by decide) (by decide) rfl (by decide) ?_
    refine v_aload_n 0 (pc' := 153) rfl dX11_count_152 rfl rfl ?_
    refine v_aload_n 0 (pc' := 154) rfl dX11_count_153 rfl rfl ?_
    refine v_get (z := ((cdk s n : Nat) : Int)) (pc' := 157) rfl dX11_count_154 fk_RX11_149 ly_63 rfl (r1) ?_
    refine v_aload_n 0 (pc' := 158) rfl dX11_count_157 rfl rfl ?_
    refine v_get (z := ((cdk a n : Nat) : Int)) (pc' := 161) rfl dX11_count_158 fk_RX11_152 ly_63 rfl (r2) ?_
    refine v_cVi (pc' := 164) rfl dX11_count_161 lk_RX11_377 ly_63 rfl (c_symmetric l G rfl rfl hs ha hn1 hn7 w r0 hR) rfl rfl rfl (fun symmetric1 w9 hq9 => ?_)
    obtain ⟨hsx, zx⟩ := hq9
    refine v_iret dX11_count_164 (by decide) (rfl) ?_
    first
    | exact ⟨hsx, Or.inl ⟨by omega, zx.trans hz.symm⟩⟩
    | exact ⟨hsx, Or.inl ⟨by omega, hz.symm⟩⟩
    | exact ⟨hsx, Or.inr (Or.inl ⟨by omega, hjn, rfl⟩)⟩
    | exact ⟨hsx, Or.inr (Or.inr ⟨by omega, hjy, z11⟩)⟩
    | exact ⟨hsx, Or.inl ⟨by omega, by unfold cntV; rw [if_neg (by omega), if_neg (by omega), if_neg (by omega), if_neg (by omega), if_neg (by omega), if_neg (by omega), if_neg (by omega), if_pos (by omega)]; exact zx⟩⟩
    | exact ⟨Scr.rf _, Or.inl ⟨by omega, by unfold cntV; first | rw [if_pos (by omega)] | rw [if_neg (by omega), if_neg (by omega), if_neg (by omega), if_neg (by omega), if_neg (by omega), if_neg (by omega), if_neg (by omega), if_neg (by omega), if_pos (by omega)] | rw [if_neg (by omega), if_neg (by omega), if_neg (by omega), if_neg (by omega), if_neg (by omega), if_neg (by omega), if_neg (by omega), if_neg (by omega), if_neg (by omega), if_pos (by omega)] | rw [if_neg (by omega), if_neg (by omega), if_neg (by omega), if_neg (by omega), if_neg (by omega), if_neg (by omega), if_neg (by omega), if_neg (by omega), if_neg (by omega), if_neg (by omega), if_pos (by omega)] | rw [if_neg (by omega), if_neg (by omega), if_neg (by omega), if_neg (by omega), if_neg (by omega), if_neg (by omega), if_neg (by omega), if_neg (by omega), if_neg (by omega), if_neg (by omega), if_neg (by omega)]⟩⟩
  ·
    refine v_tin (tgt := 165) 8 dX11_count_1 sw0 (by decide) (by decide) (by decide) rfl (by decide) ?_
    refine v_aload_n 0 (pc' := 166) rfl dX11_count_165 rfl rfl ?_
    refine v_cVi (pc' := 169) rfl dX11_count_166 lk_RX11_311 ly_63 rfl (c_isOne l G hV w hM) rfl rfl rfl (fun isOne3 w10 hq10 => ?_)
    obtain ⟨f10, z10⟩ := hq10
    have r0 : w10 63 0 = (n : Int) := (f10 63 0 (by decide)).trans r0
    have r1 : w10 63 1 = ((cdk s n : Nat) : Int) := (f10 63 1 (by decide)).trans r1
    have r2 : w10 63 2 = ((cdk a n : Nat) : Int) := (f10 63 2 (by decide)).trans r2
    have r3 : w10 63 3 = ((facN n : Nat) : Int) := (f10 63 3 (by decide)).trans r3
    have r4 : w10 63 4 = ((kmany n : Nat) : Int) := (f10 63 4 (by decide)).trans r4
    have hA : w10 63 52 = ((al : Nat) : Int) := (f10 63 52 (by decide)).trans hA
    have hB : w10 63 16 = b := (f10 63 16 (by decide)).trans hB
    have hS : w10 63 53 = st := (f10 63 53 (by decide)).trans hS
    refine v_if_eq (pc' := 172) (tgt := 179) rfl dX11_count_169 (by decide) (jn_r z10) (fun c3 => ?_) (fun c3 => ?_)
    ·
      have hjn := jn_0 z10 (by omega)
      have hsx := Scr.of f10 (by decide)
      refine v_bipush (pc' := 181) rfl dX11_count_179 rfl ?_
      refine v_iret dX11_count_181 (by decide) (rfl) ?_
      first
      | exact ⟨hsx, Or.inl ⟨by omega, zx.trans hz.symm⟩⟩
      | exact ⟨hsx, Or.inl ⟨by omega, hz.symm⟩⟩
      | exact ⟨hsx, Or.inr (Or.inl ⟨by omega, hjn, rfl⟩)⟩
      | exact ⟨hsx, Or.inr (Or.inr ⟨by omega, hjy, z11⟩)⟩
      | exact ⟨hsx, Or.inl ⟨by omega, by unfold cntV; rw [if_neg (by omega), if_neg (by omega), if_neg (by omega), if_neg (by omega), if_neg (by omega), if_neg (by omega), if_neg (by omega), if_pos (by omega)]; exact zx⟩⟩
      | exact ⟨Scr.rf _, Or.inl ⟨by omega, by unfold cntV; first | rw [if_pos (by omega)] | rw [if_neg (by omega), if_neg (by omega), if_neg (by omega), if_neg (by omega), if_neg (by omega), if_neg (by omega), if_neg (by omega), if_neg (by omega), if_pos (by omega)] | rw [if_neg (by omega), if_neg (by omega), if_neg (by omega), if_neg (by omega), if_neg (by omega), if_neg (by omega), if_neg (by omega), if_neg (by omega), if_neg (by omega), if_pos (by omega)] | rw [if_neg (by omega), if_neg (by omega), if_neg (by omega), if_neg (by omega), if_neg (by omega), if_neg (by omega), if_neg (by omega), if_neg (by omega), if_neg (by omega), if_neg (by omega), if_pos (by omega)] | rw [if_neg (by omega), if_neg (by omega), if_neg (by omega), if_neg (by omega), if_neg (by omega), if_neg (by omega), if_neg (by omega), if_neg (by omega), if_neg (by omega), if_neg (by omega), if_neg (by omega)]⟩⟩
    ·
      have hjy := jn_1 z10 (by omega)
      refine v_aload_n 0 (pc' := 173) rfl dX11_count_172 rfl rfl ?_
      refine v_cVi (pc' := 176) rfl dX11_count_173 lk_RX11_401 ly_63 rfl (c_siblingsM l G h64 hord hset hV w10 (hM.s (Scr.of f10 (by decide))) (hR.s (Scr.of f10 (by decide)))) rfl rfl rfl (fun siblings1 w11 hq11 => ?_)
      obtain ⟨hs11, z11⟩ := hq11
      have hsx := (Scr.of f10 (by decide)).tr hs11
      refine v_goto (tgt := 181) dX11_count_176 (by decide) ?_
      refine v_iret dX11_count_181 (by decide) (rfl) ?_
      first
      | exact ⟨hsx, Or.inl ⟨by omega, zx.trans hz.symm⟩⟩
      | exact ⟨hsx, Or.inl ⟨by omega, hz.symm⟩⟩
      | exact ⟨hsx, Or.inr (Or.inl ⟨by omega, hjn, rfl⟩)⟩
      | exact ⟨hsx, Or.inr (Or.inr ⟨by omega, hjy, z11⟩)⟩
      | exact ⟨hsx, Or.inl ⟨by omega, by unfold cntV; rw [if_neg (by omega), if_neg (by omega), if_neg (by omega), if_neg (by omega), if_neg (by omega), if_neg (by omega), if_neg (by omega), if_pos (by omega)]; exact zx⟩⟩
      | exact ⟨Scr.rf _, Or.inl ⟨by omega, by unfold cntV; first | rw [if_pos (by omega)] | rw [if_neg (by omega), if_neg (by omega), if_neg (by omega), if_neg (by omega), if_neg (by omega), if_neg (by omega), if_neg (by omega), if_neg (by omega), if_pos (by omega)] | rw [if_neg (by omega), if_neg (by omega), if_neg (by omega), if_neg (by omega), if_neg (by omega), if_neg (by omega), if_neg (by omega), if_neg (by omega), if_neg (by omega), if_pos (by omega)] | rw [if_neg (by omega), if_neg (by omega), if_neg (by omega), if_neg (by omega), if_neg (by omega), if_neg (by omega), if_neg (by omega), if_neg (by omega), if_neg (by omega), if_neg (by omega), if_pos (by omega)] | rw [if_neg (by omega), if_neg (by omega), if_neg (by omega), if_neg (by omega), if_neg (by omega), if_neg (by omega), if_neg (by omega), if_neg (by omega), if_neg (by omega), if_neg (by omega), if_neg (by omega)]⟩⟩
  ·
    refine v_tin (tgt := 182) 9 dX11_count_1 sw0 (by decide) (by decide) (by decide) rfl (by decide) ?_
    refine v_aload_n 0 (pc' := 183) rfl dX11_count_182 rfl rfl ?_
    refine v_get (z := ((al : Nat) : Int)) (pc' := 186) rfl dX11_count_183 fk_RX11_404 ly_63 rfl (hA) ?_
    refine v_iret dX11_count_186 (by decide) (rfl) ?_
    first
    | exact ⟨hsx, Or.inl ⟨by omega, zx.trans hz.symm⟩⟩
    | exact ⟨hsx, Or.inl ⟨by omega, hz.symm⟩⟩
    | exact ⟨hsx, Or.inr (Or.inl ⟨by omega, hjn, rfl⟩)⟩
    | exact ⟨hsx, Or.inr (Or.inr ⟨by omega, hjy, z11⟩)⟩
    | exact ⟨hsx, Or.inl ⟨by omega, by unfold cntV; rw [if_neg (by omega), if_neg (by omega), if_neg (by omega), if_neg (by omega), if_neg (by omega), if_neg (by omega), if_neg (by omega), if_pos (by omega)]; exact zx⟩⟩
    | exact ⟨Scr.rf _, Or.inl ⟨by omega, by unfold cntV; first | rw [if_pos (by omega)] | rw [if_neg (by omega), if_neg (by omega), if_neg (by omega), if_neg (by omega), if_neg (by omega), if_neg (by omega), if_neg (by omega), if_neg (by omega), if_pos (by omega)] | rw [if_neg (by omega), if_neg (by omega), if_neg (by omega), if_neg (by omega), if_neg (by omega), if_neg (by omega), if_neg (by omega), if_neg (by omega), if_neg (by omega), if_pos (by omega)] | rw [if_neg (by omega), if_neg (by omega), if_neg (by omega), if_neg (by omega), if_neg (by omega), if_neg (by omega), if_neg (by omega), if_neg (by omega), if_neg (by omega), if_neg (by omega), if_pos (by omega)] | rw [if_neg (by omega), if_neg (by omega), if_neg (by omega), if_neg (by omega), if_neg (by omega), if_neg (by omega), if_neg (by omega), if_neg (by omega), if_neg (by omega), if_neg (by omega), if_neg (by omega)]⟩⟩
  ·
    refine v_tin (tgt := 187) 10 dX11_count_1 sw0 (by decide) (by decide) (by decide) rfl (by decide) ?_
    refine v_aload_n 0 (pc' := 188) rfl dX11_count_187 rfl rfl ?_
    refine v_get (z := b) (pc' := 191) rfl dX11_count_188 fk_RX11_191 ly_63 rfl (hB) ?_
    refine v_iret dX11_count_191 (by decide) (rfl) ?_
    first
    | exact ⟨hsx, Or.inl ⟨by omega, zx.trans hz.symm⟩⟩
    | exact ⟨hsx, Or.inl ⟨by omega, hz.symm⟩⟩
    | exact ⟨hsx, Or.inr (Or.inl ⟨by omega, hjn, rfl⟩)⟩
    | exact ⟨hsx, Or.inr (Or.inr ⟨by omega, hjy, z11⟩)⟩
    | exact ⟨hsx, Or.inl ⟨by omega, by unfold cntV; rw [if_neg (by omega), if_neg (by omega), if_neg (by omega), if_neg (by omega), if_neg (by omega), if_neg (by omega), if_neg (by omega), if_pos (by omega)]; exact zx⟩⟩
    | exact ⟨Scr.rf _, Or.inl ⟨by omega, by unfold cntV; first | rw [if_pos (by omega)] | rw [if_neg (by omega), if_neg (by omega), if_neg (by omega), if_neg (by omega), if_neg (by omega), if_neg (by omega), if_neg (by omega), if_neg (by omega), if_pos (by omega)] | rw [if_neg (by omega), if_neg (by omega), if_neg (by omega), if_neg (by omega), if_neg (by omega), if_neg (by omega), if_neg (by omega), if_neg (by omega), if_neg (by omega), if_pos (by omega)] | rw [if_neg (by omega), if_neg (by omega), if_neg (by omega), if_neg (by omega), if_neg (by omega), if_neg (by omega), if_neg (by omega), if_neg (by omega), if_neg (by omega), if_neg (by omega), if_pos (by omega)] | rw [if_neg (by omega), if_neg (by omega), if_neg (by omega), if_neg (by omega), if_neg (by omega), if_neg (by omega), if_neg (by omega), if_neg (by omega), if_neg (by omega), if_neg (by omega), if_neg (by omega)]⟩⟩
  ·
    refine v_tin (tgt := 192) 11 dX11_count_1 sw0 (by decide) (by decide) (by decide) rfl (by decide) ?_
    refine v_aload_n 0 (pc' := 193) rfl dX11_count_192 rfl rfl ?_
    refine v_get (z := st) (pc' := 196) rfl dX11_count_193 fk_RX11_407 ly_63 rfl (hS) ?_
    refine v_iret dX11_count_196 (by decide) (rfl) ?_
    first
    | exact ⟨hsx, Or.inl ⟨by omega, zx.trans hz.symm⟩⟩
    | exact ⟨hsx, Or.inl ⟨by omega, hz.symm⟩⟩
    | exact ⟨hsx, Or.inr (Or.inl ⟨by omega, hjn, rfl⟩)⟩
    | exact ⟨hsx, Or.inr (Or.inr ⟨by omega, hjy, z11⟩)⟩
    | exact ⟨hsx, Or.inl ⟨by omega, by unfold cntV; rw [if_neg (by omega), if_neg (by omega), if_neg (by omega), if_neg (by omega), if_neg (by omega), if_neg (by omega), if_neg (by omega), if_pos (by omega)]; exact zx⟩⟩
    | exact ⟨Scr.rf _, Or.inl ⟨by omega, by unfold cntV; first | rw [if_pos (by omega)] | rw [if_neg (by omega), if_neg (by omega), if_neg (by omega), if_neg (by omega), if_neg (by omega), if_neg (by omega), if_neg (by omega), if_neg (by omega), if_pos (by omega)] | rw [if_neg (by omega), if_neg (by omega), if_neg (by omega), if_neg (by omega), if_neg (by omega), if_neg (by omega), if_neg (by omega), if_neg (by omega), if_neg (by omega), if_pos (by omega)] | rw [if_neg (by omega), if_neg (by omega), if_neg (by omega), if_neg (by omega), if_neg (by omega), if_neg (by omega), if_neg (by omega), if_neg (by omega), if_neg (by omega), if_neg (by omega), if_pos (by omega)] | rw [if_neg (by omega), if_neg (by omega), if_neg (by omega), if_neg (by omega), if_neg (by omega), if_neg (by omega), if_neg (by omega), if_neg (by omega), if_neg (by omega), if_neg (by omega), if_neg (by omega)]⟩⟩
  ·
    refine v_tout (tgt := 197) dX11_count_1 (by omega) sw0 (by decide) ?_
    refine v_iconst (pc' := 198) rfl dX11_count_197 ?_
    refine v_iret dX11_count_198 (by decide) (rfl) ?_
    first
    | exact ⟨hsx, Or.inl ⟨by omega, zx.trans hz.symm⟩⟩
    | exact ⟨hsx, Or.inl ⟨by omega, hz.symm⟩⟩
    | exact ⟨hsx, Or.inr (Or.inl ⟨by omega, hjn, rfl⟩)⟩
    | exact ⟨hsx, Or.inr (Or.inr ⟨by omega, hjy, z11⟩)⟩
    | exact ⟨hsx, Or.inl ⟨by omega, by unfold cntV; rw [if_neg (by omega), if_neg (by omega), if_neg (by omega), if_neg (by omega), if_neg (by omega), if_neg (by omega), if_neg (by omega), if_pos (by omega)]; exact zx⟩⟩
    | exact ⟨Scr.rf _, Or.inl ⟨by omega, by unfold cntV; first | rw [if_pos (by omega)] | rw [if_neg (by omega), if_neg (by omega), if_neg (by omega), if_neg (by omega), if_neg (by omega), if_neg (by omega), if_neg (by omega), if_neg (by omega), if_pos (by omega)] | rw [if_neg (by omega), if_neg (by omega), if_neg (by omega), if_neg (by omega), if_neg (by omega), if_neg (by omega), if_neg (by omega), if_neg (by omega), if_neg (by omega), if_pos (by omega)] | rw [if_neg (by omega), if_neg (by omega), if_neg (by omega), if_neg (by omega), if_neg (by omega), if_neg (by omega), if_neg (by omega), if_neg (by omega), if_neg (by omega), if_neg (by omega), if_pos (by omega)] | rw [if_neg (by omega), if_neg (by omega), if_neg (by omega), if_neg (by omega), if_neg (by omega), if_neg (by omega), if_neg (by omega), if_neg (by omega), if_neg (by omega), if_neg (by omega), if_neg (by omega)]⟩⟩
def stW (T : Nat → Int) (x y : Nat) (i : Int) : Nat → Int := fun v => if (T x = i ∧ T y = -1) ∧ v = y then i + 1 else T v
def st4 (s a : Nat → Nat) (i : Int) (T : Nat → Int) (x : Nat) : Nat → Int := stW (stW (stW (stW T x (s x) i) (s x) x i) x (a x) i) (a x) x i
def rdW (s a : Nat → Nat) (i : Int) (T : Nat → Int) : Nat → Nat → Int
  | 0 => T
  | m + 1 => st4 s a i (rdW s a i T m) (m + 1)
def alW (n : Nat) (s a : Nat → Nat) (d : Nat) : Nat → Nat → Int
  | 0 => fun v => if v = d then 0 else -1
  | k + 1 => rdW s a (k : Int) (alW n s a d k) n
def TB (T : Nat → Int) : Prop := ∀ v, -1 ≤ T v ∧ T v ≤ 100
theorem TB.st {T : Nat → Int} (h : TB T) {x y : Nat} {i : Int} (h0 : 0 ≤ i) (h1 : i < 100) : TB (stW T x y i) := fun v => by
  have := h v
  unfold stW
  split <;> omega
theorem TB.st4 {T : Nat → Int} (h : TB T) {s a : Nat → Nat} {x : Nat} {i : Int} (h0 : 0 ≤ i) (h1 : i < 100) : TB (st4 s a i T x) := (((h.st h0 h1).st h0 h1).st h0 h1).st h0 h1
theorem TB.rd {T : Nat → Int} (h : TB T) {s a : Nat → Nat} {i : Int} (h0 : 0 ≤ i) (h1 : i < 100) : ∀ m, TB (rdW s a i T m)
  | 0 => h
  | m + 1 => (TB.rd h h0 h1 m).st4 h0 h1
theorem TB.al {n : Nat} {s a : Nat → Nat} {d : Nat} : ∀ k, k ≤ 90 → TB (alW n s a d k)
  | 0, _ => fun v => by show -1 ≤ (if v = d then (0 : Int) else -1) ∧ (if v = d then (0 : Int) else -1) ≤ 100; split <;> omega
  | k + 1, h => (TB.al k (by omega)).rd (by omega) (by omega) n
def TW (w : Wd) (n : Nat) (T : Nat → Int) : Prop := ∀ v, 1 ≤ v → v ≤ n → w 93 v = T v
def wayM (n : Nat) (s a : Nat → Nat) (d e : Nat) : Int := if alW n s a d n e = -1 then -2 else alW n s a d n e
set_option maxHeartbeats 4000000 in
set_option maxRecDepth 100000 in
theorem c_steps (l : Launch) (G : Gx) {x0 y0 i : Int} {x y n : Nat} {T : Nat → Int} (hx0 : x0 = (x : Nat)) (hy0 : y0 = (y : Nat)) (hi0 : 0 ≤ i) (hi1 : i < 100) (hx : 1 ≤ x ∧ x ≤ n) (hy : 1 ≤ y ∧ y ≤ n) (hn7 : n ≤ 7) (hB : TB T) (w : Wd) (hT : TW w n T) : Sp l G 0 mX11_steps [aR 63, aI (x0), aI (y0), aI (i)] w (fun _ w' => TW w' n (stW T x y i) ∧ Fr [93] w w') := by
  have hbx := hB x
  have hby := hB y
  refine Sp_of RX11 rfl (by decide +kernel) rfl (Nat.le_of_ble_eq_true rfl) ?_
  refine v_aload_n 0 (pc' := 1) rfl dX11_steps_0 rfl rfl ?_
  refine v_getR (pc' := 4) rfl dX11_steps_1 fk_RX11_99 ly_63 rfl ?_
  refine v_iload_n 1 (pc' := 5) rfl dX11_steps_4 rfl rfl ?_
  refine v_iald (z := (T x)) (pc' := 6) rfl dX11_steps_5 ly_93 (by omega) (by omega) rfl (by rw [show x0.toNat = x by omega]; exact hT x hx.1 hx.2) ?_
  refine v_iload_n 3 (pc' := 7) rfl dX11_steps_6 rfl rfl ?_
  refine v_icmp_ne (pc' := 10) (tgt := 29) rfl dX11_steps_7 (by decide) (by omega) (by omega) (fun c0 => ?_) (fun c0 => ?_)
  ·
    refine v_vret dX11_steps_29 ?_
    first
    | exact ⟨fun v p q => by
        rw [hw1, up_at]; unfold stW
        by_cases e : v = y
        · rw [if_pos ⟨rfl, by omega⟩, if_pos ⟨⟨by omega, by omega⟩, e⟩]
        · rw [if_neg (fun r => e (by omega)), if_neg (fun r => e r.2)]; exact hT v p q, by rw [hw1]; exact (Fr.rf _ _).up rfl⟩
    | exact ⟨fun v p q => by unfold stW; rw [if_neg (fun r => absurd r.1 (by omega))]; exact hT v p q, Fr.rf _ _⟩
  ·
    refine v_aload_n 0 (pc' := 11) rfl dX11_steps_10 rfl rfl ?_
    refine v_getR (pc' := 14) rfl dX11_steps_11 fk_RX11_99 ly_63 rfl ?_
    refine v_iload_n 2 (pc' := 15) rfl dX11_steps_14 rfl rfl ?_
    refine v_iald (z := (T y)) (pc' := 16) rfl dX11_steps_15 ly_93 (by omega) (by omega) rfl (by rw [show y0.toNat = y by omega]; exact hT y hy.1 hy.2) ?_
    refine v_iconst (pc' := 17) rfl dX11_steps_16 ?_
    refine v_icmp_ne (pc' := 20) (tgt := 29) rfl dX11_steps_17 (by decide) (by omega) (by omega) (fun c1 => ?_) (fun c1 => ?_)
    ·
      refine v_vret dX11_steps_29 ?_
      first
      | exact ⟨fun v p q => by
          rw [hw1, up_at]; unfold stW
          by_cases e : v = y
          · rw [if_pos ⟨rfl, by omega⟩, if_pos ⟨⟨by omega, by omega⟩, e⟩]
          · rw [if_neg (fun r => e (by omega)), if_neg (fun r => e r.2)]; exact hT v p q, by rw [hw1]; exact (Fr.rf _ _).up rfl⟩
      | exact ⟨fun v p q => by unfold stW; rw [if_neg (fun r => absurd r.1 (by omega))]; exact hT v p q, Fr.rf _ _⟩
    ·
      refine v_aload_n 0 (pc' := 21) rfl dX11_steps_20 rfl rfl ?_
      refine v_getR (pc' := 24) rfl dX11_steps_21 fk_RX11_99 ly_63 rfl ?_
      refine v_iload_n 2 (pc' := 25) rfl dX11_steps_24 rfl rfl ?_
      refine v_iload_n 3 (pc' := 26) rfl dX11_steps_25 rfl rfl ?_
      refine v_iconst (pc' := 27) rfl dX11_steps_26 ?_
      refine v_iadd (pc' := 28) rfl dX11_steps_27 ?_
      refine v_iast (pc' := 29) rfl dX11_steps_28 ly_93 (by omega) (by omega) rfl ?_
      refine v_nmw (fun w1 hw1 => ?_)
      refine v_vret dX11_steps_29 ?_
      first
      | exact ⟨fun v p q => by
          rw [hw1, up_at]; unfold stW
          by_cases e : v = y
          · rw [if_pos ⟨rfl, by omega⟩, if_pos ⟨⟨by omega, by omega⟩, e⟩]
          · rw [if_neg (fun r => e (by omega)), if_neg (fun r => e r.2)]; exact hT v p q, by rw [hw1]; exact (Fr.rf _ _).up rfl⟩
      | exact ⟨fun v p q => by unfold stW; rw [if_neg (fun r => absurd r.1 (by omega))]; exact hT v p q, Fr.rf _ _⟩
set_option maxHeartbeats 4000000 in
set_option maxRecDepth 100000 in
theorem c_wayM (l : Launch) (G : Gx) {d e : Int} (hd : rg d) (he : rg e) {n : Nat} {s a : Nat → Nat} (hV : MapV n s a) (w : Wd) (hM : RMW w n s a) : Sp l G 2 mX11_way [aR 63, aI (d), aI (e)] w (fun z w' => Scr w w' ∧ z = (if (dok n d ∧ dok n e) then wayM n s a d.toNat e.toNat else -1)) := by
  obtain ⟨⟨hn1, hn7⟩, hs, ha⟩ := id hV
  obtain ⟨r0, r1, r2⟩ := id hM
  refine Sp_of RX11 rfl (by decide +kernel) rfl (Nat.le_of_ble_eq_true rfl) ?_
  refine v_aload_n 0 (pc' := 1) rfl dX11_way_0 rfl rfl ?_
  refine v_iload_n 1 (pc' := 2) rfl dX11_way_1 rfl rfl ?_
  refine v_cVP (pc' := 5) rfl dX11_way_2 lk_RX11_129 ly_63 rfl (c_isDart l G hd hn7 w r0) rfl rfl rfl ?_
  refine v_nm (fun isDart1 hisDart1 => ?_)
  refine v_if_eq (pc' := 8) (tgt := 16) rfl dX11_way_5 (by decide) (inB_r hisDart1) (fun c0 => ?_) (fun c0 => ?_)
  ·
    have hz : ¬ (dok n d ∧ dok n e) := fun q => inB_0 hisDart1 (by omega) q.1
    refine v_iconst (pc' := 17) rfl dX11_way_16 ?_
    refine v_iret dX11_way_17 (by decide) (rfl) ?_
    first
    | exact ⟨Scr.rf _, by rw [if_neg hz]⟩
    | exact ⟨Scr.of hFk (by decide), by rw [if_pos hz]; unfold wayM; rw [hval, if_neg (by omega)]⟩
    | exact ⟨Scr.of hFk (by decide), by rw [if_pos hz]; unfold wayM; rw [hval, if_pos (by omega)]⟩
  ·
    have q1 := inB_1 hisDart1 (by omega)
    refine v_aload_n 0 (pc' := 9) rfl dX11_way_8 rfl rfl ?_
    refine v_iload_n 2 (pc' := 10) rfl dX11_way_9 rfl rfl ?_
    refine v_cVP (pc' := 13) rfl dX11_way_10 lk_RX11_129 ly_63 rfl (c_isDart l G he hn7 w r0) rfl rfl rfl ?_
    refine v_nm (fun isDart2 hisDart2 => ?_)
    refine v_if_ne (pc' := 16) (tgt := 18) rfl dX11_way_13 (by decide) (inB_r hisDart2) (fun c1 => ?_) (fun c1 => ?_)
    ·
      have q2 := inB_1 hisDart2 (by omega)
      have hz : dok n d ∧ dok n e := ⟨q1, q2⟩
      refine v_aload_n 0 (pc' := 19) rfl dX11_way_18 rfl rfl ?_
      refine v_aload_n 0 (pc' := 20) rfl dX11_way_19 rfl rfl ?_
      refine v_get (z := ((cdk s n : Nat) : Int)) (pc' := 23) rfl dX11_way_20 fk_RX11_149 ly_63 rfl (r1) ?_
      refine v_aload_n 0 (pc' := 24) rfl dX11_way_23 rfl rfl ?_
      refine v_getR (pc' := 27) rfl dX11_way_24 fk_RX11_47 ly_63 rfl ?_
      refine v_cVv (pc' := 30) rfl dX11_way_27 lk_RX11_133 ly_63 rfl (c_reads_76 l G (f := s) rfl hs hn1 hn7 w r0) rfl rfl rfl (fun reads1 w3 hq3 => ?_)
      obtain ⟨x3, f3⟩ := hq3
      have r0 : w3 63 0 = (n : Int) := (f3 63 0 (by decide)).trans r0
      have r1 : w3 63 1 = ((cdk s n : Nat) : Int) := (f3 63 1 (by decide)).trans r1
      have r2 : w3 63 2 = ((cdk a n : Nat) : Int) := (f3 63 2 (by decide)).trans r2
      refine v_aload_n 0 (pc' := 31) rfl dX11_way_30 rfl rfl ?_
      refine v_aload_n 0 (pc' := 32) rfl dX11_way_31 rfl rfl ?_
      refine v_get (z := ((cdk a n : Nat) : Int)) (pc' := 35) rfl dX11_way_32 fk_RX11_152 ly_63 rfl (r2) ?_
      refine v_aload_n 0 (pc' := 36) rfl dX11_way_35 rfl rfl ?_
      refine v_getR (pc' := 39) rfl dX11_way_36 fk_RX11_50 ly_63 rfl ?_
      refine v_cVv (pc' := 42) rfl dX11_way_39 lk_RX11_133 ly_63 rfl (c_reads_77 l G (f := a) rfl ha hn1 hn7 w3 r0) rfl rfl rfl (fun reads2 w4 hq4 => ?_)
      obtain ⟨x4, f4⟩ := hq4
      have hD4 : D2 w4 n s a := ⟨fun x p q => (f4 76 x rfl).trans (x3 x p q), x4⟩
      have hF4 : Fr [76, 77, 93] w w4 := (f3.mono rfl).trs (f4.mono rfl)
      have r0 : w4 63 0 = (n : Int) := (f4 63 0 (by decide)).trans r0
      have r1 : w4 63 1 = ((cdk s n : Nat) : Int) := (f4 63 1 (by decide)).trans r1
      have r2 : w4 63 2 = ((cdk a n : Nat) : Int) := (f4 63 2 (by decide)).trans r2
      refine v_iconst (pc' := 43) rfl dX11_way_42 ?_
      refine v_istore_n (ls' := [(3, _), (0, _), (1, _), (2, _)]) (pc' := 44) rfl dX11_way_43 rfl rfl rfl ?_
      refine v_ls [1, 2, 3, 0] rfl ?_
      refine v_loop2 44 (fun (i : Int) (wl : Wd) => ∃ m : Nat, i = (m : Int) + 1 ∧ m ≤ n ∧ (∀ v, 1 ≤ v → v ≤ m → wl 93 v = if v = d.toNat then 0 else -1) ∧ D2 wl n s a ∧ Fr [76, 77, 93] w wl) (fun (i : Int) (wl : Wd) => (8 - i).toNat) (fun (i : Int) (wl : Wd) => [(0, aR 63), (1, aI (d)), (2, aI (e)), (3, aI (i))]) (fun (i : Int) (wl : Wd) => []) (fun (i : Int) (wl : Wd) => wl) (fun i wl hI0 ih0 => ?_) (1) w4 (⟨0, rfl, Nat.zero_le _, fun v p q => absurd q (by omega), hD4, hF4⟩)
      obtain ⟨m, hi, hm, hZ, hD, hF⟩ := hI0
      have g0 := (hF 63 0 rfl).trans hM.1
      refine v_iload_n 3 (pc' := 45) rfl dX11_way_44 rfl rfl ?_
      refine v_aload_n 0 (pc' := 46) rfl dX11_way_45 rfl rfl ?_
      refine v_get (z := (n : Int)) (pc' := 49) rfl dX11_way_46 fk_RX11_125 ly_63 rfl (g0) ?_
      refine v_icmp_gt (pc' := 52) (tgt := 74) rfl dX11_way_49 (by decide) (by omega) (by omega) (fun c2 => ?_) (fun c2 => ?_)
      ·
        have hmn : m = n := by omega
        refine v_iconst (pc' := 75) rfl dX11_way_74 ?_
        refine v_istore_n (ls' := [(3, _), (0, _), (1, _), (2, _)]) (pc' := 76) rfl dX11_way_75 rfl rfl rfl ?_
        refine v_ls [1, 2, 3, 0] rfl ?_
        refine v_loop2 76 (fun (r : Int) (wm : Wd) => ∃ k : Nat, r = k ∧ k ≤ n ∧ TW wm n (alW n s a d.toNat k) ∧ D2 wm n s a ∧ Fr [76, 77, 93] w wm) (fun (r : Int) (wm : Wd) => (8 - r).toNat) (fun (r : Int) (wm : Wd) => [(0, aR 63), (1, aI (d)), (2, aI (e)), (3, aI (r))]) (fun (r : Int) (wm : Wd) => []) (fun (r : Int) (wm : Wd) => wm) (fun r wm hI1 ih1 => ?_) (0) wl (⟨0, rfl, Nat.zero_le _, fun v p q => hZ v p (by omega), hD, hF⟩)
        obtain ⟨k, hr, hk, hTk, hDk, hFk⟩ := hI1
        have g0 := (hFk 63 0 rfl).trans hM.1
        have hTBk := TB.al (n := n) (s := s) (a := a) (d := d.toNat) k (by omega)
        refine v_iload_n 3 (pc' := 77) rfl dX11_way_76 rfl rfl ?_
        refine v_aload_n 0 (pc' := 78) rfl dX11_way_77 rfl rfl ?_
        refine v_get (z := (n : Int)) (pc' := 81) rfl dX11_way_78 fk_RX11_125 ly_63 rfl (g0) ?_
        refine v_icmp_ge (pc' := 84) (tgt := 164) rfl dX11_way_81 (by decide) (by omega) (by omega) (fun c4 => ?_) (fun c4 => ?_)
        ·
          have hkn : k = n := by omega
          have hte := hTBk e.toNat
          have hval : alW n s a d.toNat n e.toNat = alW n s a d.toNat k e.toNat := by rw [hkn]
          refine v_aload_n 0 (pc' := 165) rfl dX11_way_164 rfl rfl ?_
          refine v_getR (pc' := 168) rfl dX11_way_165 fk_RX11_99 ly_63 rfl ?_
          refine v_iload_n 2 (pc' := 169) rfl dX11_way_168 rfl rfl ?_
          refine v_iald (z := (alW n s a d.toNat k e.toNat)) (pc' := 170) rfl dX11_way_169 ly_93 (by omega) (by omega) rfl (hTk _ (by omega) (by omega)) ?_
          refine v_iconst (pc' := 171) rfl dX11_way_170 ?_
          refine v_icmp_ne (pc' := 174) (tgt := 179) rfl dX11_way_171 (by decide) (by omega) (by omega) (fun c6 => ?_) (fun c6 => ?_)
          ·
            refine v_aload_n 0 (pc' := 180) rfl dX11_way_179 rfl rfl ?_
            refine v_getR (pc' := 183) rfl dX11_way_180 fk_RX11_99 ly_63 rfl ?_
            refine v_iload_n 2 (pc' := 184) rfl dX11_way_183 rfl rfl ?_
            refine v_iald (z := (alW n s a d.toNat k e.toNat)) (pc' := 185) rfl dX11_way_184 ly_93 (by omega) (by omega) rfl (hTk _ (by omega) (by omega)) ?_
            refine v_iret dX11_way_185 (by decide) (rfl) ?_
            first
            | exact ⟨Scr.rf _, by rw [if_neg hz]⟩
            | exact ⟨Scr.of hFk (by decide), by rw [if_pos hz]; unfold wayM; rw [hval, if_neg (by omega)]⟩
            | exact ⟨Scr.of hFk (by decide), by rw [if_pos hz]; unfold wayM; rw [hval, if_pos (by omega)]⟩
          ·
            refine v_bipush (pc' := 176) rfl dX11_way_174 rfl ?_
            refine v_goto (tgt := 185) dX11_way_176 (by decide) ?_
            refine v_iret dX11_way_185 (by decide) (rfl) ?_
            first
            | exact ⟨Scr.rf _, by rw [if_neg hz]⟩
            | exact ⟨Scr.of hFk (by decide), by rw [if_pos hz]; unfold wayM; rw [hval, if_neg (by omega)]⟩
            | exact ⟨Scr.of hFk (by decide), by rw [if_pos hz]; unfold wayM; rw [hval, if_pos (by omega)]⟩
        ·
          refine v_iconst (pc' := 85) rfl dX11_way_84 ?_
          refine v_istore (ls' := [(4, _), (0, _), (1, _), (2, _), (3, _)]) (pc' := 87) rfl dX11_way_85 rfl rfl ?_
          refine v_ls [1, 2, 3, 4, 0] rfl ?_
          refine v_loop2 87 (fun (x : Int) (wn : Wd) => ∃ m : Nat, x = (m : Int) + 1 ∧ m ≤ n ∧ TW wn n (rdW s a (k : Int) (alW n s a d.toNat k) m) ∧ D2 wn n s a ∧ Fr [76, 77, 93] w wn) (fun (x : Int) (wn : Wd) => (8 - x).toNat) (fun (x : Int) (wn : Wd) => [(0, aR 63), (1, aI (d)), (2, aI (e)), (3, aI (r)), (4, aI (x))]) (fun (x : Int) (wn : Wd) => []) (fun (x : Int) (wn : Wd) => wn) (fun x wn hI2 ih2 => ?_) (1) wm (⟨0, rfl, Nat.zero_le _, hTk, hDk, hFk⟩)
          obtain ⟨m, hx, hm, hTm, hDm, hFm⟩ := hI2
          have g0 := (hFm 63 0 rfl).trans hM.1
          have hTB := hTBk.rd (s := s) (a := a) (i := (k : Int)) (by omega) (by omega) m
          refine v_iload 4 (pc' := 89) rfl dX11_way_87 rfl ?_
          refine v_aload_n 0 (pc' := 90) rfl dX11_way_89 rfl rfl ?_
          refine v_get (z := (n : Int)) (pc' := 93) rfl dX11_way_90 fk_RX11_125 ly_63 rfl (g0) ?_
          refine v_icmp_gt (pc' := 96) (tgt := 158) rfl dX11_way_93 (by decide) (by omega) (by omega) (fun c5 => ?_) (fun c5 => ?_)
          ·
            have hme : m = n := by omega
            refine v_iinc (ls' := [(3, _), (0, _), (1, _), (2, _), (4, _)]) 3 (pc' := 161) rfl dX11_way_158 rfl rfl rfl ?_
            refine v_nl (fun r' hr' => ?_)
            refine v_goto (tgt := 76) dX11_way_161 (by decide) ?_
            refine v_ls [1, 2, 3, 0] rfl ?_
            exact ih1 (r') wn (⟨k + 1, by omega, by omega, by rw [hme] at hTm; exact hTm, hDm, hFm⟩) (by omega)
          ·
            have hsm := hs.1 (m + 1) (by omega) (by omega)
            have ham := ha.1 (m + 1) (by omega) (by omega)
            refine v_aload_n 0 (pc' := 97) rfl dX11_way_96 rfl rfl ?_
            refine v_iload 4 (pc' := 99) rfl dX11_way_97 rfl ?_
            refine v_aload_n 0 (pc' := 100) rfl dX11_way_99 rfl rfl ?_
            refine v_getR (pc' := 103) rfl dX11_way_100 fk_RX11_47 ly_63 rfl ?_
            refine v_iload 4 (pc' := 105) rfl dX11_way_103 rfl ?_
            refine v_iald (z := ((s (m + 1) : Nat) : Int)) (pc' := 106) rfl dX11_way_105 ly_76 (by omega) (by omega) rfl (by rw [show x.toNat = m + 1 by omega]; exact hDm.1 _ (by omega) (by omega)) ?_
            refine v_iload_n 3 (pc' := 107) rfl dX11_way_106 rfl rfl ?_
            refine v_cVv (pc' := 110) rfl dX11_way_107 lk_RX11_419 ly_63 rfl (c_steps l G (T := (rdW s a (k : Int) (alW n s a d.toNat k) m)) (y := s (m + 1)) (x := m + 1) (by omega) rfl (by omega) (by omega) ⟨by omega, by omega⟩ hsm hn7 hTB wn hTm) rfl rfl rfl (fun steps1 w6 hq6 => ?_)
            obtain ⟨t6, f6⟩ := hq6
            rw [hr] at t6
            have g0 : w6 63 0 = (n : Int) := (f6 63 0 (by decide)).trans g0
            refine v_aload_n 0 (pc' := 111) rfl dX11_way_110 rfl rfl ?_
            refine v_aload_n 0 (pc' := 112) rfl dX11_way_111 rfl rfl ?_
            refine v_getR (pc' := 115) rfl dX11_way_112 fk_RX11_47 ly_63 rfl ?_
            refine v_iload 4 (pc' := 117) rfl dX11_way_115 rfl ?_
            refine v_iald (z := ((s (m + 1) : Nat) : Int)) (pc' := 118) rfl dX11_way_117 ly_76 (by omega) (by omega) rfl (by rw [show x.toNat = m + 1 by omega, f6 76 _ rfl]; exact hDm.1 _ (by omega) (by omega)) ?_
            refine v_iload 4 (pc' := 120) rfl dX11_way_118 rfl ?_
            refine v_iload_n 3 (pc' := 121) rfl dX11_way_120 rfl rfl ?_
            refine v_cVv (pc' := 124) rfl dX11_way_121 lk_RX11_419 ly_63 rfl (c_steps l G (T := (stW (rdW s a (k : Int) (alW n s a d.toNat k) m) (m + 1) (s (m + 1)) (k : Int))) (x := s (m + 1)) (y := m + 1) rfl (by omega) (by omega) (by omega) hsm ⟨by omega, by omega⟩ hn7 (hTB.st (by omega) (by omega)) w6 t6) rfl rfl rfl (fun steps2 w7 hq7 => ?_)
            obtain ⟨t7, f7⟩ := hq7
            rw [hr] at t7
            have g0 : w7 63 0 = (n : Int) := (f7 63 0 (by decide)).trans g0
            refine v_aload_n 0 (pc' := 125) rfl dX11_way_124 rfl rfl ?_
            refine v_iload 4 (pc' := 127) rfl dX11_way_125 rfl ?_
            refine v_aload_n 0 (pc' := 128) rfl dX11_way_127 rfl rfl ?_
            refine v_getR (pc' := 131) rfl dX11_way_128 fk_RX11_50 ly_63 rfl ?_
            refine v_iload 4 (pc' := 133) rfl dX11_way_131 rfl ?_
            refine v_iald (z := ((a (m + 1) : Nat) : Int)) (pc' := 134) rfl dX11_way_133 ly_77 (by omega) (by omega) rfl (by rw [show x.toNat = m + 1 by omega, f7 77 _ rfl, f6 77 _ rfl]; exact hDm.2 _ (by omega) (by omega)) ?_
            refine v_iload_n 3 (pc' := 135) rfl dX11_way_134 rfl rfl ?_
            refine v_cVv (pc' := 138) rfl dX11_way_135 lk_RX11_419 ly_63 rfl (c_steps l G (T := (stW (stW (rdW s a (k : Int) (alW n s a d.toNat k) m) (m + 1) (s (m + 1)) (k : Int)) (s (m + 1)) (m + 1) (k : Int))) (x := m + 1) (y := a (m + 1)) (by omega) rfl (by omega) (by omega) ⟨by omega, by omega⟩ ham hn7 ((hTB.st (by omega) (by omega)).st (by omega) (by omega)) w7 t7) rfl rfl rfl (fun steps3 w8 hq8 => ?_)
            obtain ⟨t8, f8⟩ := hq8
            rw [hr] at t8
            have g0 : w8 63 0 = (n : Int) := (f8 63 0 (by decide)).trans g0
            refine v_aload_n 0 (pc' := 139) rfl dX11_way_138 rfl rfl ?_
            refine v_aload_n 0 (pc' := 140) rfl dX11_way_139 rfl rfl ?_
            refine v_getR (pc' := 143) rfl dX11_way_140 fk_RX11_50 ly_63 rfl ?_
            refine v_iload 4 (pc' := 145) rfl dX11_way_143 rfl ?_
            refine v_iald (z := ((a (m + 1) : Nat) : Int)) (pc' := 146) rfl dX11_way_145 ly_77 (by omega) (by omega) rfl (by rw [show x.toNat = m + 1 by omega, f8 77 _ rfl, f7 77 _ rfl, f6 77 _ rfl]; exact hDm.2 _ (by omega) (by omega)) ?_
            refine v_iload 4 (pc' := 148) rfl dX11_way_146 rfl ?_
            refine v_iload_n 3 (pc' := 149) rfl dX11_way_148 rfl rfl ?_
            refine v_cVv (pc' := 152) rfl dX11_way_149 lk_RX11_419 ly_63 rfl (c_steps l G (T := (stW (stW (stW (rdW s a (k : Int) (alW n s a d.toNat k) m) (m + 1) (s (m + 1)) (k : Int)) (s (m + 1)) (m + 1) (k : Int)) (m + 1) (a (m + 1)) (k : Int))) (x := a (m + 1)) (y := m + 1) rfl (by omega) (by omega) (by omega) ham ⟨by omega, by omega⟩ hn7 (((hTB.st (by omega) (by omega)).st (by omega) (by omega)).st (by omega) (by omega)) w8 t8) rfl rfl rfl (fun steps4 w9 hq9 => ?_)
            obtain ⟨t9, f9⟩ := hq9
            rw [hr] at t9
            have g0 : w9 63 0 = (n : Int) := (f9 63 0 (by decide)).trans g0
            refine v_iinc (ls' := [(4, _), (0, _), (1, _), (2, _), (3, _)]) 4 (pc' := 155) rfl dX11_way_152 rfl rfl rfl ?_
            refine v_nl (fun x' hx' => ?_)
            refine v_goto (tgt := 87) dX11_way_155 (by decide) ?_
            refine v_ls [1, 2, 3, 4, 0] rfl ?_
            exact ih2 (x') w9 (⟨m + 1, by omega, by omega, t9, ⟨fun x p q => by rw [f9 76 x rfl, f8 76 x rfl, f7 76 x rfl, f6 76 x rfl]; exact hDm.1 x p q, fun x p q => by rw [f9 77 x rfl, f8 77 x rfl, f7 77 x rfl, f6 77 x rfl]; exact hDm.2 x p q⟩, (((hFm.trs (f6.mono rfl)).trs (f7.mono rfl)).trs (f8.mono rfl)).trs (f9.mono rfl)⟩) (by omega)
      ·
        refine v_aload_n 0 (pc' := 53) rfl dX11_way_52 rfl rfl ?_
        refine v_getR (pc' := 56) rfl dX11_way_53 fk_RX11_99 ly_63 rfl ?_
        refine v_iload_n 3 (pc' := 57) rfl dX11_way_56 rfl rfl ?_
        have J67 : ∀ (tv : Int) (hJ : tv = if m + 1 = d.toNat then 0 else -1), V (mX l G 2 5 (some .int) (fun z w' => Scr w w' ∧ z = (if (dok n d ∧ dok n e) then wayM n s a d.toNat e.toNat else -1))) RX11 cX11_way 67 [(0, aR 63), (1, aI (d)), (2, aI (e)), (3, aI (i))] [aI (tv), aI (i), aR 93] wl := by
          intro tv hJ
          refine v_iast (pc' := 68) rfl dX11_way_67 ly_93 (by omega) (by omega) rfl ?_
          refine v_nmw (fun w5 hw5 => ?_)
          have g0 : w5 63 0 = (n : Int) := by rw [hw5, up_ne _ _ (by omega)]; exact g0
          refine v_iinc (ls' := [(3, _), (0, _), (1, _), (2, _)]) 3 (pc' := 71) rfl dX11_way_68 rfl rfl rfl ?_
          refine v_nl (fun i' hi' => ?_)
          refine v_goto (tgt := 44) dX11_way_71 (by decide) ?_
          refine v_ls [1, 2, 3, 0] rfl ?_
          exact ih0 (i') w5 (⟨m + 1, by omega, by omega, fun v p q => by
              rw [hw5, up_at]
              by_cases e : v = m + 1
              · rw [if_pos ⟨rfl, by omega⟩, hJ, e]
              · rw [if_neg (fun r => e (by omega))]; exact hZ v p (by omega), ⟨fun x p q => by rw [hw5, up_ne _ _ (by omega)]; exact hD.1 x p q, fun x p q => by rw [hw5, up_ne _ _ (by omega)]; exact hD.2 x p q⟩, by rw [hw5]; exact hF.up rfl⟩) (by omega)
        refine v_iload_n 3 (pc' := 58) rfl dX11_way_57 rfl rfl ?_
        refine v_iload_n 1 (pc' := 59) rfl dX11_way_58 rfl rfl ?_
        refine v_icmp_ne (pc' := 62) (tgt := 66) rfl dX11_way_59 (by decide) (by omega) (by omega) (fun c3 => ?_) (fun c3 => ?_)
        ·
          refine v_iconst (pc' := 67) rfl dX11_way_66 ?_
          exact J67 ((-1)) (by first | rw [if_pos (by omega)] | rw [if_neg (by omega)])
        ·
          refine v_iconst (pc' := 63) rfl dX11_way_62 ?_
          refine v_goto (tgt := 67) dX11_way_63 (by decide) ?_
          exact J67 (0) (by first | rw [if_pos (by omega)] | rw [if_neg (by omega)])
    ·
      have hz : ¬ (dok n d ∧ dok n e) := fun q => inB_0 hisDart2 (by omega) q.2
      refine v_iconst (pc' := 17) rfl dX11_way_16 ?_
      refine v_iret dX11_way_17 (by decide) (rfl) ?_
      first
      | exact ⟨Scr.rf _, by rw [if_neg hz]⟩
      | exact ⟨Scr.of hFk (by decide), by rw [if_pos hz]; unfold wayM; rw [hval, if_neg (by omega)]⟩
      | exact ⟨Scr.of hFk (by decide), by rw [if_pos hz]; unfold wayM; rw [hval, if_pos (by omega)]⟩

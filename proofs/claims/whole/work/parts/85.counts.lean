/-! ===== the reference: count, way ===== -/
set_option maxHeartbeats 4000000 in
set_option maxRecDepth 100000 in
theorem c_countM (l : Launch) (G : Gx) {what b st : Int} {al : Nat} (hwt : rg what) (h64 : OP64) (hord : ORD) (hset : SETC) (hblk : BLKD) {n : Nat} {s a : Nat → Nat} (hV : MapV n s a) (w : Wd) (hM : RMW w n s a) (hR : RTab w n) (hA : w 63 52 = (al : Nat)) (hB : w 63 16 = b) (hS : w 63 53 = st) : Sp l G 5 mX11_count [aR 63, aI (what)] w (fun z w' => Scr w w' ∧ CntP n s a al b st what z) := by
  obtain ⟨⟨hn1, hn7⟩, hs, ha⟩ := id hV
  obtain ⟨r0, r1, r2⟩ := id hM
  obtain ⟨r3, r4, rPK, rTK⟩ := id hR
  have hfc := fac_le hn1 hn7
  have hk15 := kmany_le n hn7
  refine Sp_of RX11 rfl (by decide +kernel) rfl (Nat.le_of_ble_eq_true rfl) ?_
  refine v_iload_n 1 (pc' := 1) rfl dX11_count_0 rfl rfl ?_
  rcases (show what = 0 ∨ what = 1 ∨ what = 2 ∨ what = 3 ∨ what = 4 ∨ what = 5 ∨ what = 6 ∨ what = 7 ∨ what = 8 ∨ what = 9 ∨ what = 10 ∨ what = 11 ∨ (what < 0 ∨ 11 < what) by omega) with sw0 | sw0 | sw0 | sw0 | sw0 | sw0 | sw0 | sw0 | sw0 | sw0 | sw0 | sw0 | sw0
  ·
    refine v_tin (tgt := 64) 0 dX11_count_1 sw0 (by decide) (by decide) (by decide) rfl (by decide) ?_
    refine v_aload_n 0 (pc' := 65) rfl dX11_count_64 rfl rfl ?_
    refine v_get (z := (n : Int)) (pc' := 68) rfl dX11_count_65 fk_RX11_125 ly_63 rfl (r0) ?_
    refine v_iret dX11_count_68 (by decide) (rfl) ?_
    first
    | exact ⟨hsx, Or.inl ⟨by omega, zx.trans hz.symm⟩⟩
    | exact ⟨hsx, Or.inl ⟨by omega, hz.symm⟩⟩
    | exact ⟨hsx, Or.inr (Or.inl ⟨by omega, hjn, rfl⟩)⟩
    | exact ⟨hsx, Or.inr (Or.inr ⟨by omega, hjy, z11⟩)⟩
    | exact ⟨hsx, Or.inl ⟨by omega, by unfold cntV; rw [if_neg (by omega), if_neg (by omega), if_neg (by omega), if_neg (by omega), if_neg (by omega), if_neg (by omega), if_neg (by omega), if_pos (by omega)]; exact zx⟩⟩
    | exact ⟨Scr.rf _, Or.inl ⟨by omega, by unfold cntV; first | rw [if_pos (by omega)] | rw [if_neg (by omega), if_neg (by omega), if_neg (by omega), if_neg (by omega), if_neg (by omega), if_neg (by omega), if_neg (by omega), if_neg (by omega), if_pos (by omega)] | rw [if_neg (by omega), if_neg (by omega), if_neg (by omega), if_neg (by omega), if_neg (by omega), if_neg (by omega), if_neg (by omega), if_neg (by omega), if_neg (by omega), if_pos (by omega)] | rw [if_neg (by omega), if_neg (by omega), if_neg (by omega), if_neg (by omega), if_neg (by omega), if_neg (by omega), if_neg (by omega), if_neg (by omega), if_neg (by omega), if_neg (by omega), if_pos (by omega)] | rw [if_neg (by omega), if_neg (by omega), if_neg (by omega), if_neg (by omega), if_neg (by omega), if_neg (by omega), if_neg (by omega), if_neg (by omega), if_neg (by omega), if_neg (by omega), if_neg (by omega)]⟩⟩
  ·
    refine v_tin (tgt := 69) 1 dX11_count_1 sw0 (by decide) (by decide) (by decide) rfl (by decide) ?_
    refine v_aload_n 0 (pc' := 70) rfl dX11_count_69 rfl rfl ?_
    refine v_cVi (pc' := 73) rfl dX11_count_70 lk_RX11_398 ly_63 rfl (c_partsM l G hV w hM hR) rfl rfl rfl (fun parts1 w1 hq1 => ?_)
    obtain ⟨hsx, zx⟩ := hq1
    have hz : cntV n s a al b st what = (partsN s a n : Int) := by unfold cntV; rw [if_neg (by omega), if_pos (by omega)]
    refine v_iret dX11_count_73 (by decide) (rfl) ?_
    first
    | exact ⟨hsx, Or.inl ⟨by omega, zx.trans hz.symm⟩⟩
    | exact ⟨hsx, Or.inl ⟨by omega, hz.symm⟩⟩
    | exact ⟨hsx, Or.inr (Or.inl ⟨by omega, hjn, rfl⟩)⟩
    | exact ⟨hsx, Or.inr (Or.inr ⟨by omega, hjy, z11⟩)⟩
    | exact ⟨hsx, Or.inl ⟨by omega, by unfold cntV; rw [if_neg (by omega), if_neg (by omega), if_neg (by omega), if_neg (by omega), if_neg (by omega), if_neg (by omega), if_neg (by omega), if_pos (by omega)]; exact zx⟩⟩
    | exact ⟨Scr.rf _, Or.inl ⟨by omega, by unfold cntV; first | rw [if_pos (by omega)] | rw [if_neg (by omega), if_neg (by omega), if_neg (by omega), if_neg (by omega), if_neg (by omega), if_neg (by omega), if_neg (by omega), if_neg (by omega), if_pos (by omega)] | rw [if_neg (by omega), if_neg (by omega), if_neg (by omega), if_neg (by omega), if_neg (by omega), if_neg (by omega), if_neg (by omega), if_neg (by omega), if_neg (by omega), if_pos (by omega)] | rw [if_neg (by omega), if_neg (by omega), if_neg (by omega), if_neg (by omega), if_neg (by omega), if_neg (by omega), if_neg (by omega), if_neg (by omega), if_neg (by omega), if_neg (by omega), if_pos (by omega)] | rw [if_neg (by omega), if_neg (by omega), if_neg (by omega), if_neg (by omega), if_neg (by omega), if_neg (by omega), if_neg (by omega), if_neg (by omega), if_neg (by omega), if_neg (by omega), if_neg (by omega)]⟩⟩
  ·
    refine v_tin (tgt := 74) 2 dX11_count_1 sw0 (by decide) (by decide) (by decide) rfl (by decide) ?_
    refine v_aload_n 0 (pc' := 75) rfl dX11_count_74 rfl rfl ?_
    refine v_cVi (pc' := 78) rfl dX11_count_75 lk_RX11_311 ly_63 rfl (c_isOne l G hV w hM) rfl rfl rfl (fun isOne1 w2 hq2 => ?_)
    obtain ⟨f2, z2⟩ := hq2
    have r0 : w2 63 0 = (n : Int) := (f2 63 0 (by decide)).trans r0
    have r1 : w2 63 1 = ((cdk s n : Nat) : Int) := (f2 63 1 (by decide)).trans r1
    have r2 : w2 63 2 = ((cdk a n : Nat) : Int) := (f2 63 2 (by decide)).trans r2
    have r3 : w2 63 3 = ((facN n : Nat) : Int) := (f2 63 3 (by decide)).trans r3
    have r4 : w2 63 4 = ((kmany n : Nat) : Int) := (f2 63 4 (by decide)).trans r4
    have hA : w2 63 52 = ((al : Nat) : Int) := (f2 63 52 (by decide)).trans hA
    have hB : w2 63 16 = b := (f2 63 16 (by decide)).trans hB
    have hS : w2 63 53 = st := (f2 63 53 (by decide)).trans hS
    refine v_if_eq (pc' := 81) (tgt := 96) rfl dX11_count_78 (by decide) (jn_r z2) (fun c0 => ?_) (fun c0 => ?_)
    ·
      have hjn := jn_0 z2 (by omega)
      have hsx := Scr.of f2 (by decide)
      have hz : cntV n s a al b st what = -2 := by unfold cntV; rw [if_neg (by omega), if_neg (by omega), if_pos (by omega)]; rw [hjn]; rfl
      refine v_bipush (pc' := 98) rfl dX11_count_96 rfl ?_
      refine v_iret dX11_count_98 (by decide) (rfl) ?_
      first
      | exact ⟨hsx, Or.inl ⟨by omega, zx.trans hz.symm⟩⟩
      | exact ⟨hsx, Or.inl ⟨by omega, hz.symm⟩⟩
      | exact ⟨hsx, Or.inr (Or.inl ⟨by omega, hjn, rfl⟩)⟩
      | exact ⟨hsx, Or.inr (Or.inr ⟨by omega, hjy, z11⟩)⟩
      | exact ⟨hsx, Or.inl ⟨by omega, by unfold cntV; rw [if_neg (by omega), if_neg (by omega), if_neg (by omega), if_neg (by omega), if_neg (by omega), if_neg (by omega), if_neg (by omega), if_pos (by omega)]; exact zx⟩⟩
      | exact ⟨Scr.rf _, Or.inl ⟨by omega, by unfold cntV; first | rw [if_pos (by omega)] | rw [if_neg (by omega), if_neg (by omega), if_neg (by omega), if_neg (by omega), if_neg (by omega), if_neg (by omega), if_neg (by omega), if_neg (by omega), if_pos (by omega)] | rw [if_neg (by omega), if_neg (by omega), if_neg (by omega), if_neg (by omega), if_neg (by omega), if_neg (by omega), if_neg (by omega), if_neg (by omega), if_neg (by omega), if_pos (by omega)] | rw [if_neg (by omega), if_neg (by omega), if_neg (by omega), if_neg (by omega), if_neg (by omega), if_neg (by omega), if_neg (by omega), if_neg (by omega), if_neg (by omega), if_neg (by omega), if_pos (by omega)] | rw [if_neg (by omega), if_neg (by omega), if_neg (by omega), if_neg (by omega), if_neg (by omega), if_neg (by omega), if_neg (by omega), if_neg (by omega), if_neg (by omega), if_neg (by omega), if_neg (by omega)]⟩⟩
    ·
      have hjy := jn_1 z2 (by omega)
      refine v_aload_n 0 (pc' := 82) rfl dX11_count_81 rfl rfl ?_
      refine v_aload_n 0 (pc' := 83) rfl dX11_count_82 rfl rfl ?_
      refine v_get (z := ((cdk s n : Nat) : Int)) (pc' := 86) rfl dX11_count_83 fk_RX11_149 ly_63 rfl (r1) ?_
      refine v_aload_n 0 (pc' := 87) rfl dX11_count_86 rfl rfl ?_
      refine v_get (z := ((cdk a n : Nat) : Int)) (pc' := 90) rfl dX11_count_87 fk_RX11_152 ly_63 rfl (r2) ?_
      refine v_cVi (pc' := 93) rfl dX11_count_90 lk_RX11_389 ly_63 rfl (c_genusOf l G rfl rfl hs ha hn1 hn7 w2 r0) rfl rfl rfl (fun genusOf1 w3 hq3 => ?_)
      obtain ⟨f3, z3⟩ := hq3
      have hsx := (Scr.of f2 (by decide)).tr (Scr.of f3 (by decide))
      have zx := z3
      have hz : cntV n s a al b st what = genusI s a (full n) := by unfold cntV; rw [if_neg (by omega), if_neg (by omega), if_pos (by omega)]; rw [hjy]; rfl
      refine v_goto (tgt := 98) dX11_count_93 (by decide) ?_
      refine v_iret dX11_count_98 (by decide) (rfl) ?_
      first
      | exact ⟨hsx, Or.inl ⟨by omega, zx.trans hz.symm⟩⟩
      | exact ⟨hsx, Or.inl ⟨by omega, hz.symm⟩⟩
      | exact ⟨hsx, Or.inr (Or.inl ⟨by omega, hjn, rfl⟩)⟩
      | exact ⟨hsx, Or.inr (Or.inr ⟨by omega, hjy, z11⟩)⟩
      | exact ⟨hsx, Or.inl ⟨by omega, by unfold cntV; rw [if_neg (by omega), if_neg (by omega), if_neg (by omega), if_neg (by omega), if_neg (by omega), if_neg (by omega), if_neg (by omega), if_pos (by omega)]; exact zx⟩⟩
      | exact ⟨Scr.rf _, Or.inl ⟨by omega, by unfold cntV; first | rw [if_pos (by omega)] | rw [if_neg (by omega), if_neg (by omega), if_neg (by omega), if_neg (by omega), if_neg (by omega), if_neg (by omega), if_neg (by omega), if_neg (by omega), if_pos (by omega)] | rw [if_neg (by omega), if_neg (by omega), if_neg (by omega), if_neg (by omega), if_neg (by omega), if_neg (by omega), if_neg (by omega), if_neg (by omega), if_neg (by omega), if_pos (by omega)] | rw [if_neg (by omega), if_neg (by omega), if_neg (by omega), if_neg (by omega), if_neg (by omega), if_neg (by omega), if_neg (by omega), if_neg (by omega), if_neg (by omega), if_neg (by omega), if_pos (by omega)] | rw [if_neg (by omega), if_neg (by omega), if_neg (by omega), if_neg (by omega), if_neg (by omega), if_neg (by omega), if_neg (by omega), if_neg (by omega), if_neg (by omega), if_neg (by omega), if_neg (by omega)]⟩⟩
  ·
    refine v_tin (tgt := 99) 3 dX11_count_1 sw0 (by decide) (by decide) (by decide) rfl (by decide) ?_
    refine v_aload_n 0 (pc' := 100) rfl dX11_count_99 rfl rfl ?_
    refine v_aload_n 0 (pc' := 101) rfl dX11_count_100 rfl rfl ?_
    refine v_get (z := ((cdk s n : Nat) : Int)) (pc' := 104) rfl dX11_count_101 fk_RX11_149 ly_63 rfl (r1) ?_
    refine v_aload_n 0 (pc' := 105) rfl dX11_count_104 rfl rfl ?_
    refine v_get (z := ((cdk a n : Nat) : Int)) (pc' := 108) rfl dX11_count_105 fk_RX11_152 ly_63 rfl (r2) ?_
    refine v_cVi (pc' := 111) rfl dX11_count_108 lk_RX11_386 ly_63 rfl (c_autsOf l G rfl rfl hs ha hn1 hn7 w r0 hR) rfl rfl rfl (fun autsOf1 w4 hq4 => ?_)
    obtain ⟨hsx, zx⟩ := hq4
    have hz : cntV n s a al b st what = (autI n s a : Int) := by unfold cntV; rw [if_neg (by omega), if_neg (by omega), if_neg (by omega), if_pos (by omega)]; rw [hset n s a hn1 hn7 hs ha]
    refine v_iret dX11_count_111 (by decide) (rfl) ?_
    first
    | exact ⟨hsx, Or.inl ⟨by omega, zx.trans hz.symm⟩⟩
    | exact ⟨hsx, Or.inl ⟨by omega, hz.symm⟩⟩
    | exact ⟨hsx, Or.inr (Or.inl ⟨by omega, hjn, rfl⟩)⟩
    | exact ⟨hsx, Or.inr (Or.inr ⟨by omega, hjy, z11⟩)⟩
    | exact ⟨hsx, Or.inl ⟨by omega, by unfold cntV; rw [if_neg (by omega), if_neg (by omega), if_neg (by omega), if_neg (by omega), if_neg (by omega), if_neg (by omega), if_neg (by omega), if_pos (by omega)]; exact zx⟩⟩
    | exact ⟨Scr.rf _, Or.inl ⟨by omega, by unfold cntV; first | rw [if_pos (by omega)] | rw [if_neg (by omega), if_neg (by omega), if_neg (by omega), if_neg (by omega), if_neg (by omega), if_neg (by omega), if_neg (by omega), if_neg (by omega), if_pos (by omega)] | rw [if_neg (by omega), if_neg (by omega), if_neg (by omega), if_neg (by omega), if_neg (by omega), if_neg (by omega), if_neg (by omega), if_neg (by omega), if_neg (by omega), if_pos (by omega)] | rw [if_neg (by omega), if_neg (by omega), if_neg (by omega), if_neg (by omega), if_neg (by omega), if_neg (by omega), if_neg (by omega), if_neg (by omega), if_neg (by omega), if_neg (by omega), if_pos (by omega)] | rw [if_neg (by omega), if_neg (by omega), if_neg (by omega), if_neg (by omega), if_neg (by omega), if_neg (by omega), if_neg (by omega), if_neg (by omega), if_neg (by omega), if_neg (by omega), if_neg (by omega)]⟩⟩
  ·
    refine v_tin (tgt := 112) 4 dX11_count_1 sw0 (by decide) (by decide) (by decide) rfl (by decide) ?_
    refine v_aload_n 0 (pc' := 113) rfl dX11_count_112 rfl rfl ?_
    refine v_aload_n 0 (pc' := 114) rfl dX11_count_113 rfl rfl ?_
    refine v_get (z := ((cdk s n : Nat) : Int)) (pc' := 117) rfl dX11_count_114 fk_RX11_149 ly_63 rfl (r1) ?_
    refine v_aload_n 0 (pc' := 118) rfl dX11_count_117 rfl rfl ?_
    refine v_get (z := ((cdk a n : Nat) : Int)) (pc' := 121) rfl dX11_count_118 fk_RX11_152 ly_63 rfl (r2) ?_
    refine v_cVi (pc' := 124) rfl dX11_count_121 lk_RX11_295 ly_63 rfl (c_laysGroup l G rfl rfl hs ha hn1 hn7 w r0 hR) rfl rfl rfl (fun laysGroup1 w5 hq5 => ?_)
    obtain ⟨hsx, -, zx⟩ := hq5
    have hz : cntV n s a al b st what = ((bfs n s a).1.length : Int) := by unfold cntV; rw [if_neg (by omega), if_neg (by omega), if_neg (by omega), if_neg (by omega), if_pos (by omega)]; rw [hord n s a hn1 hn7 hs ha]
    refine v_iret dX11_count_124 (by decide) (rfl) ?_
    first
    | exact ⟨hsx, Or.inl ⟨by omega, zx.trans hz.symm⟩⟩
    | exact ⟨hsx, Or.inl ⟨by omega, hz.symm⟩⟩
    | exact ⟨hsx, Or.inr (Or.inl ⟨by omega, hjn, rfl⟩)⟩
    | exact ⟨hsx, Or.inr (Or.inr ⟨by omega, hjy, z11⟩)⟩
    | exact ⟨hsx, Or.inl ⟨by omega, by unfold cntV; rw [if_neg (by omega), if_neg (by omega), if_neg (by omega), if_neg (by omega), if_neg (by omega), if_neg (by omega), if_neg (by omega), if_pos (by omega)]; exact zx⟩⟩
    | exact ⟨Scr.rf _, Or.inl ⟨by omega, by unfold cntV; first | rw [if_pos (by omega)] | rw [if_neg (by omega), if_neg (by omega), if_neg (by omega), if_neg (by omega), if_neg (by omega), if_neg (by omega), if_neg (by omega), if_neg (by omega), if_pos (by omega)] | rw [if_neg (by omega), if_neg (by omega), if_neg (by omega), if_neg (by omega), if_neg (by omega), if_neg (by omega), if_neg (by omega), if_neg (by omega), if_neg (by omega), if_pos (by omega)] | rw [if_neg (by omega), if_neg (by omega), if_neg (by omega), if_neg (by omega), if_neg (by omega), if_neg (by omega), if_neg (by omega), if_neg (by omega), if_neg (by omega), if_neg (by omega), if_pos (by omega)] | rw [if_neg (by omega), if_neg (by omega), if_neg (by omega), if_neg (by omega), if_neg (by omega), if_neg (by omega), if_neg (by omega), if_neg (by omega), if_neg (by omega), if_neg (by omega), if_neg (by omega)]⟩⟩
  ·
    refine v_tin (tgt := 125) 5 dX11_count_1 sw0 (by decide) (by decide) (by decide) rfl (by decide) ?_
    refine v_aload_n 0 (pc' := 126) rfl dX11_count_125 rfl rfl ?_
    refine v_iconst (pc' := 127) rfl dX11_count_126 ?_
    refine v_cVi (pc' := 130) rfl dX11_count_127 lk_RX11_330 ly_63 rfl (c_systemsM l G (wh := -1) (by decide) hblk hV w hM) rfl rfl rfl (fun systems1 w6 hq6 => ?_)
    obtain ⟨hsx, zx2⟩ := hq6
    have hz : cntV n s a al b st what = (if joinB s a n then ((sysL n s a).length : Int) else 0) := by unfold cntV; rw [if_neg (by omega), if_neg (by omega), if_neg (by omega), if_neg (by omega), if_neg (by omega), if_pos (by omega)]
    have zx : systems1 = if joinB s a n then ((sysL n s a).length : Int) else 0 := by
      rcases zx2 with q | q
      · rw [q.1]; exact q.2
      · rw [q.1]; exact q.2.1
    refine v_iret dX11_count_130 (by decide) (rfl) ?_
    first
    | exact ⟨hsx, Or.inl ⟨by omega, zx.trans hz.symm⟩⟩
    | exact ⟨hsx, Or.inl ⟨by omega, hz.symm⟩⟩
    | exact ⟨hsx, Or.inr (Or.inl ⟨by omega, hjn, rfl⟩)⟩
    | exact ⟨hsx, Or.inr (Or.inr ⟨by omega, hjy, z11⟩)⟩
    | exact ⟨hsx, Or.inl ⟨by omega, by unfold cntV; rw [if_neg (by omega), if_neg (by omega), if_neg (by omega), if_neg (by omega), if_neg (by omega), if_neg (by omega), if_neg (by omega), if_pos (by omega)]; exact zx⟩⟩
    | exact ⟨Scr.rf _, Or.inl ⟨by omega, by unfold cntV; first | rw [if_pos (by omega)] | rw [if_neg (by omega), if_neg (by omega), if_neg (by omega), if_neg (by omega), if_neg (by omega), if_neg (by omega), if_neg (by omega), if_neg (by omega), if_pos (by omega)] | rw [if_neg (by omega), if_neg (by omega), if_neg (by omega), if_neg (by omega), if_neg (by omega), if_neg (by omega), if_neg (by omega), if_neg (by omega), if_neg (by omega), if_pos (by omega)] | rw [if_neg (by omega), if_neg (by omega), if_neg (by omega), if_neg (by omega), if_neg (by omega), if_neg (by omega), if_neg (by omega), if_neg (by omega), if_neg (by omega), if_neg (by omega), if_pos (by omega)] | rw [if_neg (by omega), if_neg (by omega), if_neg (by omega), if_neg (by omega), if_neg (by omega), if_neg (by omega), if_neg (by omega), if_neg (by omega), if_neg (by omega), if_neg (by omega), if_neg (by omega)]⟩⟩
  ·
    refine v_tin (tgt := 131) 6 dX11_count_1 sw0 (by decide) (by decide) (by decide) rfl (by decide) ?_
    refine v_aload_n 0 (pc' := 132) rfl dX11_count_131 rfl rfl ?_
    refine v_cVi (pc' := 135) rfl dX11_count_132 lk_RX11_311 ly_63 rfl (c_isOne l G hV w hM) rfl rfl rfl (fun isOne2 w7 hq7 => ?_)
    obtain ⟨f7, z7⟩ := hq7
    have r0 : w7 63 0 = (n : Int) := (f7 63 0 (by decide)).trans r0
    have r1 : w7 63 1 = ((cdk s n : Nat) : Int) := (f7 63 1 (by decide)).trans r1
    have r2 : w7 63 2 = ((cdk a n : Nat) : Int) := (f7 63 2 (by decide)).trans r2
    have r3 : w7 63 3 = ((facN n : Nat) : Int) := (f7 63 3 (by decide)).trans r3
    have r4 : w7 63 4 = ((kmany n : Nat) : Int) := (f7 63 4 (by decide)).trans r4
    have hA : w7 63 52 = ((al : Nat) : Int) := (f7 63 52 (by decide)).trans hA
    have hB : w7 63 16 = b := (f7 63 16 (by decide)).trans hB
    have hS : w7 63 53 = st := (f7 63 53 (by decide)).trans hS
    refine v_if_eq (pc' := 138) (tgt := 150) rfl dX11_count_135 (by decide) (jn_r z7) (fun c1 => ?_) (fun c1 => ?_)
    ·
      have hjn := jn_0 z7 (by omega)
      have hsx := Scr.of f7 (by decide)
      have hz : cntV n s a al b st what = 0 := by unfold cntV; rw [if_neg (by omega), if_neg (by omega), if_neg (by omega), if_neg (by omega), if_neg (by omega), if_neg (by omega), if_pos (by omega)]; rw [hjn]; rfl
      refine v_iconst (pc' := 151) rfl dX11_count_150 ?_
      refine v_iret dX11_count_151 (by decide) (rfl) ?_
      first
      | exact ⟨hsx, Or.inl ⟨by omega, zx.trans hz.symm⟩⟩
      | exact ⟨hsx, Or.inl ⟨by omega, hz.symm⟩⟩
      | exact ⟨hsx, Or.inr (Or.inl ⟨by omega, hjn, rfl⟩)⟩
      | exact ⟨hsx, Or.inr (Or.inr ⟨by omega, hjy, z11⟩)⟩
      | exact ⟨hsx, Or.inl ⟨by omega, by unfold cntV; rw [if_neg (by omega), if_neg (by omega), if_neg (by omega), if_neg (by omega), if_neg (by omega), if_neg (by omega), if_neg (by omega), if_pos (by omega)]; exact zx⟩⟩
      | exact ⟨Scr.rf _, Or.inl ⟨by omega, by unfold cntV; first | rw [if_pos (by omega)] | rw [if_neg (by omega), if_neg (by omega), if_neg (by omega), if_neg (by omega), if_neg (by omega), if_neg (by omega), if_neg (by omega), if_neg (by omega), if_pos (by omega)] | rw [if_neg (by omega), if_neg (by omega), if_neg (by omega), if_neg (by omega), if_neg (by omega), if_neg (by omega), if_neg (by omega), if_neg (by omega), if_neg (by omega), if_pos (by omega)] | rw [if_neg (by omega), if_neg (by omega), if_neg (by omega), if_neg (by omega), if_neg (by omega), if_neg (by omega), if_neg (by omega), if_neg (by omega), if_neg (by omega), if_neg (by omega), if_pos (by omega)] | rw [if_neg (by omega), if_neg (by omega), if_neg (by omega), if_neg (by omega), if_neg (by omega), if_neg (by omega), if_neg (by omega), if_neg (by omega), if_neg (by omega), if_neg (by omega), if_neg (by omega)]⟩⟩
    ·
      have hjy := jn_1 z7 (by omega)
      refine v_aload_n 0 (pc' := 139) rfl dX11_count_138 rfl rfl ?_
      refine v_iconst (pc' := 140) rfl dX11_count_139 ?_
      refine v_cVi (pc' := 143) rfl dX11_count_140 lk_RX11_330 ly_63 rfl (c_systemsM l G (wh := -1) (by decide) hblk hV w7 (hM.s (Scr.of f7 (by decide)))) rfl rfl rfl (fun systems2 w8 hq8 => ?_)
      obtain ⟨hs8, zx2⟩ := hq8
      have hsx := (Scr.of f7 (by decide)).tr hs8
      have zx8 : systems2 = ((sysL n s a).length : Int) := by
        rcases zx2 with q | q
        · rw [hjy] at q; exact absurd q.1 (by decide)
        · exact q.2.1
      have hsr := sys_r hn7 zx2
      refine v_if_ne (pc' := 146) (tgt := 150) rfl dX11_count_143 (by decide) (hsr) (fun c2 => ?_) (fun c2 => ?_)
      ·
        have hz : cntV n s a al b st what = 0 := by unfold cntV; rw [if_neg (by omega), if_neg (by omega), if_neg (by omega), if_neg (by omega), if_neg (by omega), if_neg (by omega), if_pos (by omega)]; rw [hjy]; simp only [if_true]; rw [if_neg (by omega)]
        refine v_iconst (pc' := 151) rfl dX11_count_150 ?_
        refine v_iret dX11_count_151 (by decide) (rfl) ?_
        first
        | exact ⟨hsx, Or.inl ⟨by omega, zx.trans hz.symm⟩⟩
        | exact ⟨hsx, Or.inl ⟨by omega, hz.symm⟩⟩
        | exact ⟨hsx, Or.inr (Or.inl ⟨by omega, hjn, rfl⟩)⟩
        | exact ⟨hsx, Or.inr (Or.inr ⟨by omega, hjy, z11⟩)⟩
        | exact ⟨hsx, Or.inl ⟨by omega, by unfold cntV; rw [if_neg (by omega), if_neg (by omega), if_neg (by omega), if_neg (by omega), if_neg (by omega), if_neg (by omega), if_neg (by omega), if_pos (by omega)]; exact zx⟩⟩
        | exact ⟨Scr.rf _, Or.inl ⟨by omega, by unfold cntV; first | rw [if_pos (by omega)] | rw [if_neg (by omega), if_neg (by omega), if_neg (by omega), if_neg (by omega), if_neg (by omega), if_neg (by omega), if_neg (by omega), if_neg (by omega), if_pos (by omega)] | rw [if_neg (by omega), if_neg (by omega), if_neg (by omega), if_neg (by omega), if_neg (by omega), if_neg (by omega), if_neg (by omega), if_neg (by omega), if_neg (by omega), if_pos (by omega)] | rw [if_neg (by omega), if_neg (by omega), if_neg (by omega), if_neg (by omega), if_neg (by omega), if_neg (by omega), if_neg (by omega), if_neg (by omega), if_neg (by omega), if_neg (by omega), if_pos (by omega)] | rw [if_neg (by omega), if_neg (by omega), if_neg (by omega), if_neg (by omega), if_neg (by omega), if_neg (by omega), if_neg (by omega), if_neg (by omega), if_neg (by omega), if_neg (by omega), if_neg (by omega)]⟩⟩
      ·
        have hz : cntV n s a al b st what = 1 := by unfold cntV; rw [if_neg (by omega), if_neg (by omega), if_neg (by omega), if_neg (by omega), if_neg (by omega), if_neg (by omega), if_pos (by omega)]; rw [hjy]; simp only [if_true]; rw [if_pos (by omega)]
        refine v_iconst (pc' := 147) rfl dX11_count_146 ?_
        refine v_goto (tgt := 151) dX11_count_147 (by decide) ?_
        refine v_iret dX11_count_151 (by decide) (rfl) ?_
        first
        | exact ⟨hsx, Or.inl ⟨by omega, zx.trans hz.symm⟩⟩
        | exact ⟨hsx, Or.inl ⟨by omega, hz.symm⟩⟩
        | exact ⟨hsx, Or.inr (Or.inl ⟨by omega, hjn, rfl⟩)⟩
        | exact ⟨hsx, Or.inr (Or.inr ⟨by omega, hjy, z11⟩)⟩
        | exact ⟨hsx, Or.inl ⟨by omega, by unfold cntV; rw [if_neg (by omega), if_neg (by omega), if_neg (by omega), if_neg (by omega), if_neg (by omega), if_neg (by omega), if_neg (by omega), if_pos (by omega)]; exact zx⟩⟩
        | exact ⟨Scr.rf _, Or.inl ⟨by omega, by unfold cntV; first | rw [if_pos (by omega)] | rw [if_neg (by omega), if_neg (by omega), if_neg (by omega), if_neg (by omega), if_neg (by omega), if_neg (by omega), if_neg (by omega), if_neg (by omega), if_pos (by omega)] | rw [if_neg (by omega), if_neg (by omega), if_neg (by omega), if_neg (by omega), if_neg (by omega), if_neg (by omega), if_neg (by omega), if_neg (by omega), if_neg (by omega), if_pos (by omega)] | rw [if_neg (by omega), if_neg (by omega), if_neg (by omega), if_neg (by omega), if_neg (by omega), if_neg (by omega), if_neg (by omega), if_neg (by omega), if_neg (by omega), if_neg (by omega), if_pos (by omega)] | rw [if_neg (by omega), if_neg (by omega), if_neg (by omega), if_neg (by omega), if_neg (by omega), if_neg (by omega), if_neg (by omega), if_neg (by omega), if_neg (by omega), if_neg (by omega), if_neg (by omega)]⟩⟩
  ·
    refine v_tin (tgt := 152) 7 dX11_count_1 sw0 (by decide) (by decide) (by decide) rfl (by decide) ?_
    refine v_aload_n 0 (pc' := 153) rfl dX11_count_152 rfl rfl ?_
    refine v_aload_n 0 (pc' := 154) rfl dX11_count_153 rfl rfl ?_
    refine v_get (z := ((cdk s n : Nat) : Int)) (pc' := 157) rfl dX11_count_154 fk_RX11_149 ly_63 rfl (r1) ?_
    refine v_aload_n 0 (pc' := 158) rfl dX11_count_157 rfl rfl ?_
    refine v_get (z := ((cdk a n : Nat) : Int)) (pc' := 161) rfl dX11_count_158 fk_RX11_152 ly_63 rfl (r2) ?_
    refine v_cVi (pc' := 164) rfl dX11_count_161 lk_RX11_377 ly_63 rfl (c_symmetric l G rfl rfl hs ha hn1 hn7 w r0 hR) rfl rfl rfl (fun symmetric1 w9 hq9 => ?_)
    obtain ⟨hsx, zx⟩ := hq9
    refine v_iret dX11_count_164 (by decide) (rfl) ?_
    first
    | exact ⟨hsx, Or.inl ⟨by omega, zx.trans hz.symm⟩⟩
    | exact ⟨hsx, Or.inl ⟨by omega, hz.symm⟩⟩
    | exact ⟨hsx, Or.inr (Or.inl ⟨by omega, hjn, rfl⟩)⟩
    | exact ⟨hsx, Or.inr (Or.inr ⟨by omega, hjy, z11⟩)⟩
    | exact ⟨hsx, Or.inl ⟨by omega, by unfold cntV; rw [if_neg (by omega), if_neg (by omega), if_neg (by omega), if_neg (by omega), if_neg (by omega), if_neg (by omega), if_neg (by omega), if_pos (by omega)]; exact zx⟩⟩
    | exact ⟨Scr.rf _, Or.inl ⟨by omega, by unfold cntV; first | rw [if_pos (by omega)] | rw [if_neg (by omega), if_neg (by omega), if_neg (by omega), if_neg (by omega), if_neg (by omega), if_neg (by omega), if_neg (by omega), if_neg (by omega), if_pos (by omega)] | rw [if_neg (by omega), if_neg (by omega), if_neg (by omega), if_neg (by omega), if_neg (by omega), if_neg (by omega), if_neg (by omega), if_neg (by omega), if_neg (by omega), if_pos (by omega)] | rw [if_neg (by omega), if_neg (by omega), if_neg (by omega), if_neg (by omega), if_neg (by omega), if_neg (by omega), if_neg (by omega), if_neg (by omega), if_neg (by omega), if_neg (by omega), if_pos (by omega)] | rw [if_neg (by omega), if_neg (by omega), if_neg (by omega), if_neg (by omega), if_neg (by omega), if_neg (by omega), if_neg (by omega), if_neg (by omega), if_neg (by omega), if_neg (by omega), if_neg (by omega)]⟩⟩
  ·
    refine v_tin (tgt := 165) 8 dX11_count_1 sw0 (by decide) (by decide) (by decide) rfl (by decide) ?_
    refine v_aload_n 0 (pc' := 166) rfl dX11_count_165 rfl rfl ?_
    refine v_cVi (pc' := 169) rfl dX11_count_166 lk_RX11_311 ly_63 rfl (c_isOne l G hV w hM) rfl rfl rfl (fun isOne3 w10 hq10 => ?_)
    obtain ⟨f10, z10⟩ := hq10
    have r0 : w10 63 0 = (n : Int) := (f10 63 0 (by decide)).trans r0
    have r1 : w10 63 1 = ((cdk s n : Nat) : Int) := (f10 63 1 (by decide)).trans r1
    have r2 : w10 63 2 = ((cdk a n : Nat) : Int) := (f10 63 2 (by decide)).trans r2
    have r3 : w10 63 3 = ((facN n : Nat) : Int) := (f10 63 3 (by decide)).trans r3
    have r4 : w10 63 4 = ((kmany n : Nat) : Int) := (f10 63 4 (by decide)).trans r4
    have hA : w10 63 52 = ((al : Nat) : Int) := (f10 63 52 (by decide)).trans hA
    have hB : w10 63 16 = b := (f10 63 16 (by decide)).trans hB
    have hS : w10 63 53 = st := (f10 63 53 (by decide)).trans hS
    refine v_if_eq (pc' := 172) (tgt := 179) rfl dX11_count_169 (by decide) (jn_r z10) (fun c3 => ?_) (fun c3 => ?_)
    ·
      have hjn := jn_0 z10 (by omega)
      have hsx := Scr.of f10 (by decide)
      refine v_bipush (pc' := 181) rfl dX11_count_179 rfl ?_
      refine v_iret dX11_count_181 (by decide) (rfl) ?_
      first
      | exact ⟨hsx, Or.inl ⟨by omega, zx.trans hz.symm⟩⟩
      | exact ⟨hsx, Or.inl ⟨by omega, hz.symm⟩⟩
      | exact ⟨hsx, Or.inr (Or.inl ⟨by omega, hjn, rfl⟩)⟩
      | exact ⟨hsx, Or.inr (Or.inr ⟨by omega, hjy, z11⟩)⟩
      | exact ⟨hsx, Or.inl ⟨by omega, by unfold cntV; rw [if_neg (by omega), if_neg (by omega), if_neg (by omega), if_neg (by omega), if_neg (by omega), if_neg (by omega), if_neg (by omega), if_pos (by omega)]; exact zx⟩⟩
      | exact ⟨Scr.rf _, Or.inl ⟨by omega, by unfold cntV; first | rw [if_pos (by omega)] | rw [if_neg (by omega), if_neg (by omega), if_neg (by omega), if_neg (by omega), if_neg (by omega), if_neg (by omega), if_neg (by omega), if_neg (by omega), if_pos (by omega)] | rw [if_neg (by omega), if_neg (by omega), if_neg (by omega), if_neg (by omega), if_neg (by omega), if_neg (by omega), if_neg (by omega), if_neg (by omega), if_neg (by omega), if_pos (by omega)] | rw [if_neg (by omega), if_neg (by omega), if_neg (by omega), if_neg (by omega), if_neg (by omega), if_neg (by omega), if_neg (by omega), if_neg (by omega), if_neg (by omega), if_neg (by omega), if_pos (by omega)] | rw [if_neg (by omega), if_neg (by omega), if_neg (by omega), if_neg (by omega), if_neg (by omega), if_neg (by omega), if_neg (by omega), if_neg (by omega), if_neg (by omega), if_neg (by omega), if_neg (by omega)]⟩⟩
    ·
      have hjy := jn_1 z10 (by omega)
      refine v_aload_n 0 (pc' := 173) rfl dX11_count_172 rfl rfl ?_
      refine v_cVi (pc' := 176) rfl dX11_count_173 lk_RX11_401 ly_63 rfl (c_siblingsM l G h64 hord hset hV w10 (hM.s (Scr.of f10 (by decide))) (hR.s (Scr.of f10 (by decide)))) rfl rfl rfl (fun siblings1 w11 hq11 => ?_)
      obtain ⟨hs11, z11⟩ := hq11
      have hsx := (Scr.of f10 (by decide)).tr hs11
      refine v_goto (tgt := 181) dX11_count_176 (by decide) ?_
      refine v_iret dX11_count_181 (by decide) (rfl) ?_
      first
      | exact ⟨hsx, Or.inl ⟨by omega, zx.trans hz.symm⟩⟩
      | exact ⟨hsx, Or.inl ⟨by omega, hz.symm⟩⟩
      | exact ⟨hsx, Or.inr (Or.inl ⟨by omega, hjn, rfl⟩)⟩
      | exact ⟨hsx, Or.inr (Or.inr ⟨by omega, hjy, z11⟩)⟩
      | exact ⟨hsx, Or.inl ⟨by omega, by unfold cntV; rw [if_neg (by omega), if_neg (by omega), if_neg (by omega), if_neg (by omega), if_neg (by omega), if_neg (by omega), if_neg (by omega), if_pos (by omega)]; exact zx⟩⟩
      | exact ⟨Scr.rf _, Or.inl ⟨by omega, by unfold cntV; first | rw [if_pos (by omega)] | rw [if_neg (by omega), if_neg (by omega), if_neg (by omega), if_neg (by omega), if_neg (by omega), if_neg (by omega), if_neg (by omega), if_neg (by omega), if_pos (by omega)] | rw [if_neg (by omega), if_neg (by omega), if_neg (by omega), if_neg (by omega), if_neg (by omega), if_neg (by omega), if_neg (by omega), if_neg (by omega), if_neg (by omega), if_pos (by omega)] | rw [if_neg (by omega), if_neg (by omega), if_neg (by omega), if_neg (by omega), if_neg (by omega), if_neg (by omega), if_neg (by omega), if_neg (by omega), if_neg (by omega), if_neg (by omega), if_pos (by omega)] | rw [if_neg (by omega), if_neg (by omega), if_neg (by omega), if_neg (by omega), if_neg (by omega), if_neg (by omega), if_neg (by omega), if_neg (by omega), if_neg (by omega), if_neg (by omega), if_neg (by omega)]⟩⟩
  ·
    refine v_tin (tgt := 182) 9 dX11_count_1 sw0 (by decide) (by decide) (by decide) rfl (by decide) ?_
    refine v_aload_n 0 (pc' := 183) rfl dX11_count_182 rfl rfl ?_
    refine v_get (z := ((al : Nat) : Int)) (pc' := 186) rfl dX11_count_183 fk_RX11_404 ly_63 rfl (hA) ?_
    refine v_iret dX11_count_186 (by decide) (rfl) ?_
    first
    | exact ⟨hsx, Or.inl ⟨by omega, zx.trans hz.symm⟩⟩
    | exact ⟨hsx, Or.inl ⟨by omega, hz.symm⟩⟩
    | exact ⟨hsx, Or.inr (Or.inl ⟨by omega, hjn, rfl⟩)⟩
    | exact ⟨hsx, Or.inr (Or.inr ⟨by omega, hjy, z11⟩)⟩
    | exact ⟨hsx, Or.inl ⟨by omega, by unfold cntV; rw [if_neg (by omega), if_neg (by omega), if_neg (by omega), if_neg (by omega), if_neg (by omega), if_neg (by omega), if_neg (by omega), if_pos (by omega)]; exact zx⟩⟩
    | exact ⟨Scr.rf _, Or.inl ⟨by omega, by unfold cntV; first | rw [if_pos (by omega)] | rw [if_neg (by omega), if_neg (by omega), if_neg (by omega), if_neg (by omega), if_neg (by omega), if_neg (by omega), if_neg (by omega), if_neg (by omega), if_pos (by omega)] | rw [if_neg (by omega), if_neg (by omega), if_neg (by omega), if_neg (by omega), if_neg (by omega), if_neg (by omega), if_neg (by omega), if_neg (by omega), if_neg (by omega), if_pos (by omega)] | rw [if_neg (by omega), if_neg (by omega), if_neg (by omega), if_neg (by omega), if_neg (by omega), if_neg (by omega), if_neg (by omega), if_neg (by omega), if_neg (by omega), if_neg (by omega), if_pos (by omega)] | rw [if_neg (by omega), if_neg (by omega), if_neg (by omega), if_neg (by omega), if_neg (by omega), if_neg (by omega), if_neg (by omega), if_neg (by omega), if_neg (by omega), if_neg (by omega), if_neg (by omega)]⟩⟩
  ·
    refine v_tin (tgt := 187) 10 dX11_count_1 sw0 (by decide) (by decide) (by decide) rfl (by decide) ?_
    refine v_aload_n 0 (pc' := 188) rfl dX11_count_187 rfl rfl ?_
    refine v_get (z := b) (pc' := 191) rfl dX11_count_188 fk_RX11_191 ly_63 rfl (hB) ?_
    refine v_iret dX11_count_191 (by decide) (rfl) ?_
    first
    | exact ⟨hsx, Or.inl ⟨by omega, zx.trans hz.symm⟩⟩
    | exact ⟨hsx, Or.inl ⟨by omega, hz.symm⟩⟩
    | exact ⟨hsx, Or.inr (Or.inl ⟨by omega, hjn, rfl⟩)⟩
    | exact ⟨hsx, Or.inr (Or.inr ⟨by omega, hjy, z11⟩)⟩
    | exact ⟨hsx, Or.inl ⟨by omega, by unfold cntV; rw [if_neg (by omega), if_neg (by omega), if_neg (by omega), if_neg (by omega), if_neg (by omega), if_neg (by omega), if_neg (by omega), if_pos (by omega)]; exact zx⟩⟩
    | exact ⟨Scr.rf _, Or.inl ⟨by omega, by unfold cntV; first | rw [if_pos (by omega)] | rw [if_neg (by omega), if_neg (by omega), if_neg (by omega), if_neg (by omega), if_neg (by omega), if_neg (by omega), if_neg (by omega), if_neg (by omega), if_pos (by omega)] | rw [if_neg (by omega), if_neg (by omega), if_neg (by omega), if_neg (by omega), if_neg (by omega), if_neg (by omega), if_neg (by omega), if_neg (by omega), if_neg (by omega), if_pos (by omega)] | rw [if_neg (by omega), if_neg (by omega), if_neg (by omega), if_neg (by omega), if_neg (by omega), if_neg (by omega), if_neg (by omega), if_neg (by omega), if_neg (by omega), if_neg (by omega), if_pos (by omega)] | rw [if_neg (by omega), if_neg (by omega), if_neg (by omega), if_neg (by omega), if_neg (by omega), if_neg (by omega), if_neg (by omega), if_neg (by omega), if_neg (by omega), if_neg (by omega), if_neg (by omega)]⟩⟩
  ·
    refine v_tin (tgt := 192) 11 dX11_count_1 sw0 (by decide) (by decide) (by decide) rfl (by decide) ?_
    refine v_aload_n 0 (pc' := 193) rfl dX11_count_192 rfl rfl ?_
    refine v_get (z := st) (pc' := 196) rfl dX11_count_193 fk_RX11_407 ly_63 rfl (hS) ?_
    refine v_iret dX11_count_196 (by decide) (rfl) ?_
    first
    | exact ⟨hsx, Or.inl ⟨by omega, zx.trans hz.symm⟩⟩
    | exact ⟨hsx, Or.inl ⟨by omega, hz.symm⟩⟩
    | exact ⟨hsx, Or.inr (Or.inl ⟨by omega, hjn, rfl⟩)⟩
    | exact ⟨hsx, Or.inr (Or.inr ⟨by omega, hjy, z11⟩)⟩
    | exact ⟨hsx, Or.inl ⟨by omega, by unfold cntV; rw [if_neg (by omega), if_neg (by omega), if_neg (by omega), if_neg (by omega), if_neg (by omega), if_neg (by omega), if_neg (by omega), if_pos (by omega)]; exact zx⟩⟩
    | exact ⟨Scr.rf _, Or.inl ⟨by omega, by unfold cntV; first | rw [if_pos (by omega)] | rw [if_neg (by omega), if_neg (by omega), if_neg (by omega), if_neg (by omega), if_neg (by omega), if_neg (by omega), if_neg (by omega), if_neg (by omega), if_pos (by omega)] | rw [if_neg (by omega), if_neg (by omega), if_neg (by omega), if_neg (by omega), if_neg (by omega), if_neg (by omega), if_neg (by omega), if_neg (by omega), if_neg (by omega), if_pos (by omega)] | rw [if_neg (by omega), if_neg (by omega), if_neg (by omega), if_neg (by omega), if_neg (by omega), if_neg (by omega), if_neg (by omega), if_neg (by omega), if_neg (by omega), if_neg (by omega), if_pos (by omega)] | rw [if_neg (by omega), if_neg (by omega), if_neg (by omega), if_neg (by omega), if_neg (by omega), if_neg (by omega), if_neg (by omega), if_neg (by omega), if_neg (by omega), if_neg (by omega), if_neg (by omega)]⟩⟩
  ·
    refine v_tout (tgt := 197) dX11_count_1 (by omega) sw0 (by decide) ?_
    refine v_iconst (pc' := 198) rfl dX11_count_197 ?_
    refine v_iret dX11_count_198 (by decide) (rfl) ?_
    first
    | exact ⟨hsx, Or.inl ⟨by omega, zx.trans hz.symm⟩⟩
    | exact ⟨hsx, Or.inl ⟨by omega, hz.symm⟩⟩
    | exact ⟨hsx, Or.inr (Or.inl ⟨by omega, hjn, rfl⟩)⟩
    | exact ⟨hsx, Or.inr (Or.inr ⟨by omega, hjy, z11⟩)⟩
    | exact ⟨hsx, Or.inl ⟨by omega, by unfold cntV; rw [if_neg (by omega), if_neg (by omega), if_neg (by omega), if_neg (by omega), if_neg (by omega), if_neg (by omega), if_neg (by omega), if_pos (by omega)]; exact zx⟩⟩
    | exact ⟨Scr.rf _, Or.inl ⟨by omega, by unfold cntV; first | rw [if_pos (by omega)] | rw [if_neg (by omega), if_neg (by omega), if_neg (by omega), if_neg (by omega), if_neg (by omega), if_neg (by omega), if_neg (by omega), if_neg (by omega), if_pos (by omega)] | rw [if_neg (by omega), if_neg (by omega), if_neg (by omega), if_neg (by omega), if_neg (by omega), if_neg (by omega), if_neg (by omega), if_neg (by omega), if_neg (by omega), if_pos (by omega)] | rw [if_neg (by omega), if_neg (by omega), if_neg (by omega), if_neg (by omega), if_neg (by omega), if_neg (by omega), if_neg (by omega), if_neg (by omega), if_neg (by omega), if_neg (by omega), if_pos (by omega)] | rw [if_neg (by omega), if_neg (by omega), if_neg (by omega), if_neg (by omega), if_neg (by omega), if_neg (by omega), if_neg (by omega), if_neg (by omega), if_neg (by omega), if_neg (by omega), if_neg (by omega)]⟩⟩

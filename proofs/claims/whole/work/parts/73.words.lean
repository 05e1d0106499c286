/-! ===== the reference: meet, words, roots ===== -/
theorem oset_s (f : Nat → Nat) (x k : Nat) : oset f x (k + 1) = oset f x k ||| bt (pstep f k x) := rfl
theorem and2 (a b : Nat) : 2 * a &&& 2 * b = 2 * (a &&& b) := by
  rw [Nat.mul_comm 2 a, Nat.mul_comm 2 b, Nat.mul_comm 2 (a &&& b)]
  apply Nat.eq_of_testBit_eq
  intro i
  rw [Nat.testBit_and]
  cases i with
  | zero => simp [Nat.testBit_zero]
  | succ i => rw [Nat.testBit_succ, Nat.testBit_succ, Nat.testBit_succ, Nat.mul_div_cancel _ (by decide), Nat.mul_div_cancel _ (by decide), Nat.mul_div_cancel _ (by decide), Nat.testBit_and]
theorem bt2 {x : Nat} (h : 1 ≤ x) : 2 ^ x = 2 * bt x := by
  unfold bt
  rw [Nat.mul_comm, ← Nat.pow_succ]
  congr 1
  omega
theorem oset_1 (f : Nat → Nat) (x : Nat) : oset f x 1 = bt x := by
  show 0 ||| bt x = bt x
  exact Nat.zero_or _
set_option maxHeartbeats 4000000 in
set_option maxRecDepth 100000 in
theorem c_cycleSet (l : Launch) (G : Gx) {wh d : Int} {x : Nat} (hwh : rg wh) {n : Nat} {s a : Nat → Nat} (hV : MapV n s a) (hd : d = (x : Nat)) (h1 : 1 ≤ x) (h2 : x ≤ n) (w : Wd) (hM : RMW w n s a) : Sp l G 4 mX11_cycleSet [aR 63, aI (wh), aI (d)] w (fun z w' => Scr w w' ∧ z = ((2 * ringN (trF s a wh) x : Nat) : Int)) := by
  obtain ⟨⟨hn1, hn7⟩, hs, ha⟩ := id hV
  obtain ⟨r0, r1, r2⟩ := id hM
  have hft := trF_pm hV wh
  have hcy := ring_cyc (hft.mono hn7) h1 (show x ≤ 7 by omega)
  obtain ⟨hL1, hL7, hLo, hLx, hLd, -⟩ := hcy
  refine Sp_of RX11 rfl (by decide +kernel) rfl (Nat.le_of_ble_eq_true rfl) ?_
  refine v_aload_n 0 (pc' := 1) rfl dX11_cycleSet_0 rfl rfl ?_
  refine v_aload_n 0 (pc' := 2) rfl dX11_cycleSet_1 rfl rfl ?_
  refine v_iload_n 1 (pc' := 3) rfl dX11_cycleSet_2 rfl rfl ?_
  refine v_cVi (pc' := 6) rfl dX11_cycleSet_3 lk_RX11_200 ly_63 rfl (c_codeOf l G hwh hV w hM) rfl rfl rfl (fun codeOf1 w1 hq1 => ?_)
  obtain ⟨f1, z1⟩ := hq1
  have r0 : w1 63 0 = (n : Int) := (f1 63 0 (by decide)).trans r0
  have r1 : w1 63 1 = ((cdk s n : Nat) : Int) := (f1 63 1 (by decide)).trans r1
  have r2 : w1 63 2 = ((cdk a n : Nat) : Int) := (f1 63 2 (by decide)).trans r2
  refine v_aload_n 0 (pc' := 7) rfl dX11_cycleSet_6 rfl rfl ?_
  refine v_getR (pc' := 10) rfl dX11_cycleSet_7 fk_RX11_25 ly_63 rfl ?_
  refine v_cVv (pc' := 13) rfl dX11_cycleSet_10 lk_RX11_133 ly_63 rfl (c_reads_69 l G (f := (trF s a wh)) z1 hft hn1 hn7 w1 r0) rfl rfl rfl (fun reads1 w2 hq2 => ?_)
  obtain ⟨x2, f2⟩ := hq2
  have r0 : w2 63 0 = (n : Int) := (f2 63 0 (by decide)).trans r0
  have r1 : w2 63 1 = ((cdk s n : Nat) : Int) := (f2 63 1 (by decide)).trans r1
  have r2 : w2 63 2 = ((cdk a n : Nat) : Int) := (f2 63 2 (by decide)).trans r2
  refine v_iconst (pc' := 14) rfl dX11_cycleSet_13 ?_
  refine v_iload_n 2 (pc' := 15) rfl dX11_cycleSet_14 rfl rfl ?_
  refine v_ishl (z := ((2 ^ x : Nat) : Int)) (pc' := 16) rfl dX11_cycleSet_15 (iz_one_shl hd (by omega)) ?_
  refine v_nm (fun set' hset' => ?_)
  refine v_istore_n (ls' := [(3, _), (0, _), (1, _), (2, _)]) (pc' := 17) rfl dX11_cycleSet_16 rfl rfl rfl ?_
  refine v_aload_n 1 (pc' := 18) rfl dX11_cycleSet_17 rfl rfl ?_
  refine v_getR (pc' := 21) rfl dX11_cycleSet_18 fk_RX11_25 ly_63 rfl ?_
  refine v_iload_n 3 (pc' := 22) rfl dX11_cycleSet_21 rfl rfl ?_
  refine v_iald (z := (((trF s a wh) x : Nat) : Int)) (pc' := 23) rfl dX11_cycleSet_22 ly_69 (by omega) (by omega) rfl (by rw [show d.toNat = x by omega]; exact x2 x h1 h2) ?_
  refine v_nm (fun y' hy' => ?_)
  refine v_istore (ls' := [(4, _), (3, _), (0, _), (1, _), (2, _)]) (pc' := 25) rfl dX11_cycleSet_23 rfl rfl ?_
  refine v_ls [2, 3, 4, 1, 0] rfl ?_
  refine v_loop3 25 (fun (set : Int) (y : Int) (gk : Int) => ∃ j : Nat, gk = ((j + 1 : Nat) : Int) ∧ j + 1 ≤ popc (ringN (trF s a wh) x) ∧ y = (pstep (trF s a wh) (j + 1) x : Nat) ∧ set = ((2 * oset (trF s a wh) x (j + 1) : Nat) : Int)) (fun (set : Int) (y : Int) (gk : Int) => (8 - gk).toNat) (fun (set : Int) (y : Int) (gk : Int) => [(0, aR 63), (1, aI (wh)), (2, aI (d)), (3, aI (set)), (4, aI (y))]) (fun (set : Int) (y : Int) (gk : Int) => []) (fun (set : Int) (y : Int) (gk : Int) => w2) (fun set y gk hI0 ih0 => ?_) (set') (y') (1) (⟨0, rfl, by omega, hy', by rw [hset', oset_1, ← bt2 h1]⟩)
  obtain ⟨j, hgk, hj, hy, hset⟩ := hI0
  have hjn := pstep_in hft h1 h2 (j + 1)
  refine v_iload 4 (pc' := 27) rfl dX11_cycleSet_25 rfl ?_
  refine v_iload_n 2 (pc' := 28) rfl dX11_cycleSet_27 rfl rfl ?_
  refine v_icmp_eq (pc' := 31) (tgt := 50) rfl dX11_cycleSet_28 (by decide) (by omega) (by omega) (fun c0 => ?_) (fun c0 => ?_)
  ·
    have hje : j + 1 = popc (ringN (trF s a wh) x) := by
      rcases Nat.lt_or_ge (j + 1) (popc (ringN (trF s a wh) x)) with q | q
      · exact absurd (show pstep (trF s a wh) 0 x = pstep (trF s a wh) (j + 1) x by show x = _; omega) (hLd 0 (j + 1) (by omega) q)
      · omega
    refine v_iload_n 3 (pc' := 51) rfl dX11_cycleSet_50 rfl rfl ?_
    refine v_iret dX11_cycleSet_51 (by decide) (rfl) ?_
    exact ⟨(Scr.of f1 (by decide)).tr (Scr.of f2 (by decide)), by rw [hset, hje, ← hLo]⟩
  ·
    have hjl : j + 2 ≤ popc (ringN (trF s a wh) x) := by
      rcases Nat.lt_or_ge (j + 1) (popc (ringN (trF s a wh) x)) with q | q
      · omega
      · exact absurd (show pstep (trF s a wh) (j + 1) x = x by rw [show j + 1 = popc (ringN (trF s a wh) x) by omega]; exact hLx) (by omega)
    refine v_iload_n 3 (pc' := 32) rfl dX11_cycleSet_31 rfl rfl ?_
    refine v_iconst (pc' := 33) rfl dX11_cycleSet_32 ?_
    refine v_iload 4 (pc' := 35) rfl dX11_cycleSet_33 rfl ?_
    refine v_ishl (z := ((2 ^ (pstep (trF s a wh) (j + 1) x) : Nat) : Int)) (pc' := 36) rfl dX11_cycleSet_35 (iz_one_shl hy (by omega)) ?_
    refine v_ior (z := ((2 * oset (trF s a wh) x (j + 1 + 1) : Nat) : Int)) (pc' := 37) rfl dX11_cycleSet_36 (by rw [oset_s, ← or2b _ hjn.1]; exact iz_orE hset rfl) ?_
    refine v_nm (fun set' hset' => ?_)
    refine v_istore_n (ls' := [(3, _), (0, _), (1, _), (2, _), (4, _)]) (pc' := 38) rfl dX11_cycleSet_37 rfl rfl rfl ?_
    refine v_aload_n 1 (pc' := 39) rfl dX11_cycleSet_38 rfl rfl ?_
    refine v_getR (pc' := 42) rfl dX11_cycleSet_39 fk_RX11_25 ly_63 rfl ?_
    refine v_iload 4 (pc' := 44) rfl dX11_cycleSet_42 rfl ?_
    refine v_iald (z := ((pstep (trF s a wh) (j + 1 + 1) x : Nat) : Int)) (pc' := 45) rfl dX11_cycleSet_44 ly_69 (by omega) (by omega) rfl (by rw [show y.toNat = pstep (trF s a wh) (j + 1) x by omega, pstep_s (trF s a wh) (j + 1) x]; exact x2 _ hjn.1 hjn.2) ?_
    refine v_nm (fun y' hy' => ?_)
    refine v_istore (ls' := [(4, _), (3, _), (0, _), (1, _), (2, _)]) (pc' := 47) rfl dX11_cycleSet_45 rfl rfl ?_
    refine v_goto (tgt := 25) dX11_cycleSet_47 (by decide) ?_
    refine v_ls [2, 3, 4, 1, 0] rfl ?_
    exact ih0 (set') (y') (gk + 1) (⟨j + 1, by omega, by omega, hy', hset'⟩) (by omega)
set_option maxHeartbeats 4000000 in
set_option maxRecDepth 100000 in
theorem c_meetM (l : Launch) (G : Gx) {wh d vh e : Int} (hwh : rg wh) (hd : rg d) (hvh : rg vh) (he : rg e) {n : Nat} {s a : Nat → Nat} (hV : MapV n s a) (w : Wd) (hM : RMW w n s a) (hR : RTab w n) : Sp l G 5 mX11_meet [aR 63, aI (wh), aI (d), aI (vh), aI (e)] w (fun z w' => Scr w w' ∧ z = if (tok wh ∧ tok vh ∧ dok n d ∧ dok n e) then (popc ((ringN (trF s a wh) d.toNat) &&& (ringN (trF s a vh) e.toNat)) : Int) else -1) := by
  obtain ⟨⟨hn1, hn7⟩, hs, ha⟩ := id hV
  obtain ⟨r0, r1, r2⟩ := id hM
  obtain ⟨r3, r4, rPK, rTK⟩ := id hR
  have hfc := fac_le hn1 hn7
  have hk15 := kmany_le n hn7
  have hft := trF_pm hV wh
  refine Sp_of RX11 rfl (by decide +kernel) rfl (Nat.le_of_ble_eq_true rfl) ?_
  refine v_iload_n 1 (pc' := 1) rfl dX11_meet_0 rfl rfl ?_
  refine v_cSP (pc' := 4) rfl dX11_meet_1 lk_RX11_261 rfl (c_isThree l G hwh w) rfl rfl rfl ?_
  refine v_nm (fun isThree1 hisThree1 => ?_)
  refine v_if_eq (pc' := 7) (tgt := 31) rfl dX11_meet_4 (by decide) (inB_r hisThree1) (fun c0 => ?_) (fun c0 => ?_)
  ·
    have q1 := inB_0 hisThree1 (by omega)
    have hz : ¬ (tok wh ∧ tok vh ∧ dok n d ∧ dok n e) := fun q => by have := q.1; omega
    refine v_iconst (pc' := 32) rfl dX11_meet_31 ?_
    refine v_iret dX11_meet_32 (by decide) (rfl) ?_
    first | exact ⟨Scr.rf _, by rw [if_neg hz]⟩ | exact ⟨f5.tr f6, by rw [if_pos hy, hbits1, popc_2 _ hal]⟩
  ·
    have q1 := inB_1 hisThree1 (by omega)
    refine v_aload_n 0 (pc' := 8) rfl dX11_meet_7 rfl rfl ?_
    refine v_iload_n 2 (pc' := 9) rfl dX11_meet_8 rfl rfl ?_
    refine v_cVP (pc' := 12) rfl dX11_meet_9 lk_RX11_129 ly_63 rfl (c_isDart l G hd hn7 w r0) rfl rfl rfl ?_
    refine v_nm (fun isDart1 hisDart1 => ?_)
    refine v_if_eq (pc' := 15) (tgt := 31) rfl dX11_meet_12 (by decide) (inB_r hisDart1) (fun c1 => ?_) (fun c1 => ?_)
    ·
      have q2 := inB_0 hisDart1 (by omega)
      have hz : ¬ (tok wh ∧ tok vh ∧ dok n d ∧ dok n e) := fun q => q2 q.2.2.1
      refine v_iconst (pc' := 32) rfl dX11_meet_31 ?_
      refine v_iret dX11_meet_32 (by decide) (rfl) ?_
      first | exact ⟨Scr.rf _, by rw [if_neg hz]⟩ | exact ⟨f5.tr f6, by rw [if_pos hy, hbits1, popc_2 _ hal]⟩
    ·
      have q2 := inB_1 hisDart1 (by omega)
      refine v_iload_n 3 (pc' := 16) rfl dX11_meet_15 rfl rfl ?_
      refine v_cSP (pc' := 19) rfl dX11_meet_16 lk_RX11_261 rfl (c_isThree l G hvh w) rfl rfl rfl ?_
      refine v_nm (fun isThree2 hisThree2 => ?_)
      refine v_if_eq (pc' := 22) (tgt := 31) rfl dX11_meet_19 (by decide) (inB_r hisThree2) (fun c2 => ?_) (fun c2 => ?_)
      ·
        have q3 := inB_0 hisThree2 (by omega)
        have hz : ¬ (tok wh ∧ tok vh ∧ dok n d ∧ dok n e) := fun q => by have := q.2.1; omega
        refine v_iconst (pc' := 32) rfl dX11_meet_31 ?_
        refine v_iret dX11_meet_32 (by decide) (rfl) ?_
        first | exact ⟨Scr.rf _, by rw [if_neg hz]⟩ | exact ⟨f5.tr f6, by rw [if_pos hy, hbits1, popc_2 _ hal]⟩
      ·
        have q3 := inB_1 hisThree2 (by omega)
        refine v_aload_n 0 (pc' := 23) rfl dX11_meet_22 rfl rfl ?_
        refine v_iload 4 (pc' := 25) rfl dX11_meet_23 rfl ?_
        refine v_cVP (pc' := 28) rfl dX11_meet_25 lk_RX11_129 ly_63 rfl (c_isDart l G he hn7 w r0) rfl rfl rfl ?_
        refine v_nm (fun isDart2 hisDart2 => ?_)
        refine v_if_ne (pc' := 31) (tgt := 33) rfl dX11_meet_28 (by decide) (inB_r hisDart2) (fun c3 => ?_) (fun c3 => ?_)
        ·
          have q4 := inB_1 hisDart2 (by omega)
          have hy : (tok wh ∧ tok vh ∧ dok n d ∧ dok n e) := ⟨by omega, by omega, q2, q4⟩
          refine v_aload_n 0 (pc' := 34) rfl dX11_meet_33 rfl rfl ?_
          refine v_iload_n 1 (pc' := 35) rfl dX11_meet_34 rfl rfl ?_
          refine v_iload_n 2 (pc' := 36) rfl dX11_meet_35 rfl rfl ?_
          refine v_cVi (pc' := 39) rfl dX11_meet_36 lk_RX11_422 ly_63 rfl (c_cycleSet l G (x := d.toNat) hwh hV (by omega) (by omega) (by omega) w hM) rfl rfl rfl (fun cycleSet1 w5 hq5 => ?_)
          obtain ⟨f5, z5⟩ := hq5
          refine v_aload_n 0 (pc' := 40) rfl dX11_meet_39 rfl rfl ?_
          refine v_iload_n 3 (pc' := 41) rfl dX11_meet_40 rfl rfl ?_
          refine v_iload 4 (pc' := 43) rfl dX11_meet_41 rfl ?_
          refine v_cVi (pc' := 46) rfl dX11_meet_43 lk_RX11_422 ly_63 rfl (c_cycleSet l G (x := e.toNat) hvh hV (by omega) (by omega) (by omega) w5 (hM.s f5)) rfl rfl rfl (fun cycleSet2 w6 hq6 => ?_)
          obtain ⟨f6, z6⟩ := hq6
          have hal := and_lt7 (b := (ringN (trF s a vh) e.toNat)) (ringN_lt (x := d.toNat) (hft.b7 hn7) (by omega) (by omega))
          refine v_iand (z := ((2 * ((ringN (trF s a wh) d.toNat) &&& (ringN (trF s a vh) e.toNat)) : Nat) : Int)) (pc' := 47) rfl dX11_meet_46 (by rw [← and2]; exact iz_andE z5 z6) ?_
          refine v_cSP (pc' := 50) rfl dX11_meet_47 lk_RX11_283 rfl (c_bits l G (S := 2 * ((ringN (trF s a wh) d.toNat) &&& (ringN (trF s a vh) e.toNat))) rfl (by omega) w6) rfl rfl rfl ?_
          refine v_nm (fun bits1 hbits1 => ?_)
          refine v_iret dX11_meet_50 (by decide) (rfl) ?_
          first | exact ⟨Scr.rf _, by rw [if_neg hz]⟩ | exact ⟨f5.tr f6, by rw [if_pos hy, hbits1, popc_2 _ hal]⟩
        ·
          have q4 := inB_0 hisDart2 (by omega)
          have hz : ¬ (tok wh ∧ tok vh ∧ dok n d ∧ dok n e) := fun q => q4 q.2.2.2
          refine v_iconst (pc' := 32) rfl dX11_meet_31 ?_
          refine v_iret dX11_meet_32 (by decide) (rfl) ?_
          first | exact ⟨Scr.rf _, by rw [if_neg hz]⟩ | exact ⟨f5.tr f6, by rw [if_pos hy, hbits1, popc_2 _ hal]⟩
set_option maxHeartbeats 4000000 in
set_option maxRecDepth 100000 in
theorem c_letterOf (l : Launch) (G : Gx) {c : Int} (hc : rg c) {n : Nat} {s a : Nat → Nat} (hV : MapV n s a) (w : Wd) (hM : RMW w n s a) : Sp l G 4 mX11_letterOf [aR 63, aI (c)] w (fun z w' => Fr [69, 70] w w' ∧ z = if letOk c then (cdk (letF s a c) n : Int) else -1) := by
  obtain ⟨⟨hn1, hn7⟩, hs, ha⟩ := id hV
  obtain ⟨r0, r1, r2⟩ := id hM
  refine Sp_of RX11 rfl (by decide +kernel) rfl (Nat.le_of_ble_eq_true rfl) ?_
  refine v_iload_n 1 (pc' := 1) rfl dX11_letterOf_0 rfl rfl ?_
  rcases (show c = 65 ∨ c = 70 ∨ c = 83 ∨ c = 97 ∨ c = 102 ∨ c = 115 ∨ (c ≠ 65 ∧ c ≠ 70 ∧ c ≠ 83 ∧ c ≠ 97 ∧ c ≠ 102 ∧ c ≠ 115) by omega) with sw0 | sw0 | sw0 | sw0 | sw0 | sw0 | sw0
  ·
    refine v_lsw (off := 84) (tgt := 85) dX11_letterOf_1 (by decide) (by omega) (by rw [sw0]; decide) (by decide) ?_
    have hz : (if letOk c then (cdk (letF s a c) n : Int) else -1) = (cdk (pinv a) n : Nat) := by rw [if_pos (by omega)]; unfold letF; rw [if_neg (by omega)]; rw [if_neg (by omega)]; rw [if_neg (by omega)]; rw [if_neg (by omega)]; rw [if_pos (by omega)]
    refine v_aload_n 0 (pc' := 86) rfl dX11_letterOf_85 rfl rfl ?_
    refine v_aload_n 0 (pc' := 87) rfl dX11_letterOf_86 rfl rfl ?_
    refine v_get (z := ((cdk a n : Nat) : Int)) (pc' := 90) rfl dX11_letterOf_87 fk_RX11_152 ly_63 rfl (r2) ?_
    refine v_cVi (pc' := 93) rfl dX11_letterOf_90 lk_RX11_145 ly_63 rfl (c_backM l G rfl ha hn1 hn7 w r0) rfl rfl rfl (fun back2 w3 hq3 => ?_)
    refine v_iret dX11_letterOf_93 (by decide) (rfl) ?_
    first | exact ⟨f1, z1.trans hz.symm⟩ | exact ⟨hq2.1, hq2.2.trans hz.symm⟩ | exact ⟨hq3.1, hq3.2.trans hz.symm⟩ | exact ⟨f4.trs hq5.1, hq5.2.trans hz.symm⟩ | exact ⟨Fr.rf _ _, hz.symm⟩
  ·
    refine v_lsw (off := 93) (tgt := 94) dX11_letterOf_1 (by decide) (by omega) (by rw [sw0]; decide) (by decide) ?_
    have hz : (if letOk c then (cdk (letF s a c) n : Int) else -1) = (cdk (pinv (pface s a)) n : Nat) := by rw [if_pos (by omega)]; unfold letF; rw [if_neg (by omega)]; rw [if_neg (by omega)]; rw [if_neg (by omega)]; rw [if_neg (by omega)]; rw [if_neg (by omega)]; 
    refine v_aload_n 0 (pc' := 95) rfl dX11_letterOf_94 rfl rfl ?_
    refine v_aload_n 0 (pc' := 96) rfl dX11_letterOf_95 rfl rfl ?_
    refine v_iconst (pc' := 97) rfl dX11_letterOf_96 ?_
    refine v_cVi (pc' := 100) rfl dX11_letterOf_97 lk_RX11_200 ly_63 rfl (c_codeOf l G (wh := 2) (by decide) hV w hM) rfl rfl rfl (fun codeOf2 w4 hq4 => ?_)
    obtain ⟨f4, z4⟩ := hq4
    rw [trF_2 rfl] at z4
    have r0 : w4 63 0 = (n : Int) := (f4 63 0 (by decide)).trans r0
    have r1 : w4 63 1 = ((cdk s n : Nat) : Int) := (f4 63 1 (by decide)).trans r1
    have r2 : w4 63 2 = ((cdk a n : Nat) : Int) := (f4 63 2 (by decide)).trans r2
    refine v_cVi (pc' := 103) rfl dX11_letterOf_100 lk_RX11_145 ly_63 rfl (c_backM l G z4 (Pm.face hn7 hs ha) hn1 hn7 w4 r0) rfl rfl rfl (fun back3 w5 hq5 => ?_)
    refine v_iret dX11_letterOf_103 (by decide) (rfl) ?_
    first | exact ⟨f1, z1.trans hz.symm⟩ | exact ⟨hq2.1, hq2.2.trans hz.symm⟩ | exact ⟨hq3.1, hq3.2.trans hz.symm⟩ | exact ⟨f4.trs hq5.1, hq5.2.trans hz.symm⟩ | exact ⟨Fr.rf _ _, hz.symm⟩
  ·
    refine v_lsw (off := 75) (tgt := 76) dX11_letterOf_1 (by decide) (by omega) (by rw [sw0]; decide) (by decide) ?_
    have hz : (if letOk c then (cdk (letF s a c) n : Int) else -1) = (cdk (pinv s) n : Nat) := by rw [if_pos (by omega)]; unfold letF; rw [if_neg (by omega)]; rw [if_neg (by omega)]; rw [if_neg (by omega)]; rw [if_pos (by omega)]
    refine v_aload_n 0 (pc' := 77) rfl dX11_letterOf_76 rfl rfl ?_
    refine v_aload_n 0 (pc' := 78) rfl dX11_letterOf_77 rfl rfl ?_
    refine v_get (z := ((cdk s n : Nat) : Int)) (pc' := 81) rfl dX11_letterOf_78 fk_RX11_149 ly_63 rfl (r1) ?_
    refine v_cVi (pc' := 84) rfl dX11_letterOf_81 lk_RX11_145 ly_63 rfl (c_backM l G rfl hs hn1 hn7 w r0) rfl rfl rfl (fun back1 w2 hq2 => ?_)
    refine v_iret dX11_letterOf_84 (by decide) (rfl) ?_
    first | exact ⟨f1, z1.trans hz.symm⟩ | exact ⟨hq2.1, hq2.2.trans hz.symm⟩ | exact ⟨hq3.1, hq3.2.trans hz.symm⟩ | exact ⟨f4.trs hq5.1, hq5.2.trans hz.symm⟩ | exact ⟨Fr.rf _ _, hz.symm⟩
  ·
    refine v_lsw (off := 64) (tgt := 65) dX11_letterOf_1 (by decide) (by omega) (by rw [sw0]; decide) (by decide) ?_
    have hz : (if letOk c then (cdk (letF s a c) n : Int) else -1) = (cdk (a) n : Nat) := by rw [if_pos (by omega)]; unfold letF; rw [if_neg (by omega)]; rw [if_pos (by omega)]
    refine v_aload_n 0 (pc' := 66) rfl dX11_letterOf_65 rfl rfl ?_
    refine v_get (z := ((cdk a n : Nat) : Int)) (pc' := 69) rfl dX11_letterOf_66 fk_RX11_152 ly_63 rfl (r2) ?_
    refine v_iret dX11_letterOf_69 (by decide) (rfl) ?_
    first | exact ⟨f1, z1.trans hz.symm⟩ | exact ⟨hq2.1, hq2.2.trans hz.symm⟩ | exact ⟨hq3.1, hq3.2.trans hz.symm⟩ | exact ⟨f4.trs hq5.1, hq5.2.trans hz.symm⟩ | exact ⟨Fr.rf _ _, hz.symm⟩
  ·
    refine v_lsw (off := 69) (tgt := 70) dX11_letterOf_1 (by decide) (by omega) (by rw [sw0]; decide) (by decide) ?_
    have hz : (if letOk c then (cdk (letF s a c) n : Int) else -1) = (cdk (pface s a) n : Nat) := by rw [if_pos (by omega)]; unfold letF; rw [if_neg (by omega)]; rw [if_neg (by omega)]; rw [if_pos (by omega)]
    refine v_aload_n 0 (pc' := 71) rfl dX11_letterOf_70 rfl rfl ?_
    refine v_iconst (pc' := 72) rfl dX11_letterOf_71 ?_
    refine v_cVi (pc' := 75) rfl dX11_letterOf_72 lk_RX11_200 ly_63 rfl (c_codeOf l G (wh := 2) (by decide) hV w hM) rfl rfl rfl (fun codeOf1 w1 hq1 => ?_)
    obtain ⟨f1, z1⟩ := hq1
    rw [trF_2 rfl] at z1
    refine v_iret dX11_letterOf_75 (by decide) (rfl) ?_
    first | exact ⟨f1, z1.trans hz.symm⟩ | exact ⟨hq2.1, hq2.2.trans hz.symm⟩ | exact ⟨hq3.1, hq3.2.trans hz.symm⟩ | exact ⟨f4.trs hq5.1, hq5.2.trans hz.symm⟩ | exact ⟨Fr.rf _ _, hz.symm⟩
  ·
    refine v_lsw (off := 59) (tgt := 60) dX11_letterOf_1 (by decide) (by omega) (by rw [sw0]; decide) (by decide) ?_
    have hz : (if letOk c then (cdk (letF s a c) n : Int) else -1) = (cdk (s) n : Nat) := by rw [if_pos (by omega)]; unfold letF; rw [if_pos (by omega)]
    refine v_aload_n 0 (pc' := 61) rfl dX11_letterOf_60 rfl rfl ?_
    refine v_get (z := ((cdk s n : Nat) : Int)) (pc' := 64) rfl dX11_letterOf_61 fk_RX11_149 ly_63 rfl (r1) ?_
    refine v_iret dX11_letterOf_64 (by decide) (rfl) ?_
    first | exact ⟨f1, z1.trans hz.symm⟩ | exact ⟨hq2.1, hq2.2.trans hz.symm⟩ | exact ⟨hq3.1, hq3.2.trans hz.symm⟩ | exact ⟨f4.trs hq5.1, hq5.2.trans hz.symm⟩ | exact ⟨Fr.rf _ _, hz.symm⟩
  ·
    refine v_lsw (off := 103) (tgt := 104) dX11_letterOf_1 (by decide) (by omega) (by simp only [Op.lookupswitch.offset]; rw [if_neg (by omega), if_neg (by omega), if_neg (by omega), if_neg (by omega), if_neg (by omega), if_neg (by omega)]) (by decide) ?_
    have hz : (if letOk c then (cdk (letF s a c) n : Int) else -1) = -1 := if_neg (by omega)
    refine v_iconst (pc' := 105) rfl dX11_letterOf_104 ?_
    refine v_iret dX11_letterOf_105 (by decide) (rfl) ?_
    first | exact ⟨f1, z1.trans hz.symm⟩ | exact ⟨hq2.1, hq2.2.trans hz.symm⟩ | exact ⟨hq3.1, hq3.2.trans hz.symm⟩ | exact ⟨f4.trs hq5.1, hq5.2.trans hz.symm⟩ | exact ⟨Fr.rf _ _, hz.symm⟩
theorem let_sby {t : Int} (h0 : 0 ≤ t) (h : t ≤ 255) : (letOk (sby t) ↔ letOk t) ∧ (letOk t → sby t = t) ∧ rg (sby t) := by
  unfold sby letOk
  split <;> omega
def ScW (w w' : Wd) : Prop := ∀ o j, keepB o j = true → ¬ (o = 63 ∧ j = 16) → w' o j = w o j
theorem ScW.tr {w w1 w2 : Wd} (h : ScW w w1) (h2 : Scr w1 w2) : ScW w w2 := fun o j k q => (h2 o j k).trans (h o j k q)
theorem ScW.n {w w' : Wd} {n : Nat} {s a : Nat → Nat} (h : RMW w n s a) (hs : ScW w w') : RMW w' n s a := ⟨(hs 63 0 (by decide) (by decide)).trans h.1, (hs 63 1 (by decide) (by decide)).trans h.2.1, (hs 63 2 (by decide) (by decide)).trans h.2.2⟩
theorem ScW.t {w w' : Wd} {n : Nat} (h : RTab w n) (hs : ScW w w') : RTab w' n := h.fr (hs 63 3 (by decide) (by decide)) (hs 63 4 (by decide) (by decide)) (fun o h1 h2 j => hs o j (by
  unfold keepB; rw [if_neg (by omega)]; simp [Nat.blt]; omega) (by omega))
def WrdM (n : Nat) (s a : Nat → Nat) (T : Nat → Int) (k z : Int) : Prop := (spI s a T k.toNat 0 pid < 0 ∧ z = spI s a T k.toNat 0 pid) ∨ ∃ g, Pm n g ∧ spI s a T k.toNat 0 pid = (hx g : Nat) ∧ z = (cdk g n : Nat)
set_option maxHeartbeats 4000000 in
set_option maxRecDepth 100000 in
theorem c_readsWord (l : Launch) (G : Gx) {k : Int} {T : Nat → Int} (hk : 0 ≤ k ∧ k ≤ 120) (hT : ∀ j, j < 120 → 0 ≤ T j ∧ T j ≤ 255) {n : Nat} {s a : Nat → Nat} (hV : MapV n s a) (w : Wd) (hM : RMW w n s a) (hTp : TpM w T) : Sp l G 5 mX11_readsWord [aR 63, aI (k)] w (fun z w' => ScW w w' ∧ w' 63 16 = 0 ∧ WrdM n s a T k z) := by
  obtain ⟨⟨hn1, hn7⟩, hs, ha⟩ := id hV
  obtain ⟨r0, r1, r2⟩ := id hM
  refine Sp_of RX11 rfl (by decide +kernel) rfl (Nat.le_of_ble_eq_true rfl) ?_
  refine v_aload_n 0 (pc' := 1) rfl dX11_readsWord_0 rfl rfl ?_
  refine v_iconst (pc' := 2) rfl dX11_readsWord_1 ?_
  refine v_put (pc' := 5) rfl dX11_readsWord_2 fi_RX11_191 ly_63 rfl ?_
  refine v_nmw (fun w1 hw1 => ?_)
  have r0 : w1 63 0 = (n : Int) := by rw [hw1, up_ne _ _ (by omega)]; exact r0
  have r1 : w1 63 1 = ((cdk s n : Nat) : Int) := by rw [hw1, up_ne _ _ (by omega)]; exact r1
  have r2 : w1 63 2 = ((cdk a n : Nat) : Int) := by rw [hw1, up_ne _ _ (by omega)]; exact r2
  have F63_16 : w1 63 16 = 0 := by rw [hw1, up_eq]
  refine v_aload_n 0 (pc' := 6) rfl dX11_readsWord_5 rfl rfl ?_
  refine v_cVP (pc' := 9) rfl dX11_readsWord_6 lk_RX11_187 ly_63 rfl (c_stays l G hn7 w1 r0) rfl rfl rfl ?_
  refine v_nm (fun stays1 hstays1 => ?_)
  refine v_istore_n (ls' := [(2, _), (0, _), (1, _)]) (pc' := 10) rfl dX11_readsWord_9 rfl rfl rfl ?_
  refine v_iconst (pc' := 11) rfl dX11_readsWord_10 ?_
  refine v_istore_n (ls' := [(3, _), (2, _), (0, _), (1, _)]) (pc' := 12) rfl dX11_readsWord_11 rfl rfl rfl ?_
  refine v_ls [2, 3, 1, 0] rfl ?_
  refine v_loop3 12 (fun (p : Int) (i : Int) (wl : Wd) => ∃ (m iN : Nat) (f : Nat → Nat), i = iN ∧ iN + m = k.toNat ∧ Pm n f ∧ p = (cdk f n : Nat) ∧ spI s a T m iN f = spI s a T k.toNat 0 pid ∧ wl 63 16 = 0 ∧ ScW w wl) (fun (p : Int) (i : Int) (wl : Wd) => (k - i).toNat) (fun (p : Int) (i : Int) (wl : Wd) => [(0, aR 63), (1, aI (k)), (2, aI (p)), (3, aI (i))]) (fun (p : Int) (i : Int) (wl : Wd) => []) (fun (p : Int) (i : Int) (wl : Wd) => wl) (fun p i wl hI0 ih0 => ?_) (stays1) (0) w1 (⟨k.toNat, 0, pid, rfl, by omega, pm_id n, hstays1, rfl, by rw [hw1, up_eq], fun o j _ q => by rw [hw1, up_ne _ _ q]⟩)
  obtain ⟨m, iN, f, hi, him, hf, hp, hR, h16, hsc⟩ := hI0
  have g0 := (hsc 63 0 (by decide) (by decide)).trans hM.1
  refine v_iload_n 3 (pc' := 13) rfl dX11_readsWord_12 rfl rfl ?_
  refine v_iload_n 1 (pc' := 14) rfl dX11_readsWord_13 rfl rfl ?_
  refine v_icmp_ge (pc' := 17) (tgt := 55) rfl dX11_readsWord_14 (by decide) (by omega) (by omega) (fun c0 => ?_) (fun c0 => ?_)
  ·
    have hm0 : m = 0 := by omega
    subst hm0
    refine v_iload_n 2 (pc' := 56) rfl dX11_readsWord_55 rfl rfl ?_
    refine v_iret dX11_readsWord_56 (by decide) (rfl) ?_
    first | exact ⟨hsc.tr (Scr.of f3 (by decide)), by rw [f3 63 16 rfl]; exact h16, Or.inl ⟨by rw [← hR]; simp only [spI]; rw [if_neg hno]; omega, by rw [← hR]; simp only [spI]; rw [if_neg hno]; omega⟩⟩ | exact ⟨hsc, h16, Or.inr ⟨f, hf, by rw [← hR]; rfl, hp⟩⟩
  ·
    obtain ⟨m0, rfl⟩ : ∃ x, m = x + 1 := ⟨m - 1, by omega⟩
    have hls := let_sby (hT iN (by omega)).1 (hT iN (by omega)).2
    refine v_aload_n 0 (pc' := 18) rfl dX11_readsWord_17 rfl rfl ?_
    refine v_aload_n 0 (pc' := 19) rfl dX11_readsWord_18 rfl rfl ?_
    refine v_getR (pc' := 22) rfl dX11_readsWord_19 fk_RX11_40 ly_63 rfl ?_
    refine v_iload_n 3 (pc' := 23) rfl dX11_readsWord_22 rfl rfl ?_
    refine v_bald (z := (sby (T iN))) (pc' := 24) rfl dX11_readsWord_23 ly_74 (by omega) (by omega) rfl (by rw [show i.toNat = iN by omega, hsc 74 iN rfl (by omega)]; exact hTp iN (by omega)) ?_
    refine v_cVi (pc' := 27) rfl dX11_readsWord_24 lk_RX11_410 ly_63 rfl (c_letterOf l G (c := sby (T iN)) hls.2.2 hV wl (ScW.n hM hsc)) rfl rfl rfl (fun letterOf1 w3 hq3 => ?_)
    obtain ⟨f3, z3⟩ := hq3
    refine v_istore (ls' := [(4, _), (0, _), (1, _), (2, _), (3, _)]) (pc' := 29) rfl dX11_readsWord_27 rfl rfl ?_
    refine v_iload 0 (pc' := 31) rfl dX11_readsWord_29 rfl ?_
    refine v_iconst (pc' := 32) rfl dX11_readsWord_31 ?_
    refine v_icmp_ne (pc' := 35) (tgt := 41) rfl dX11_readsWord_32 (by decide) (by rw [z3]; split; have := cd_le (letF_pm hV (sby (T iN))) hn7 (Nat.le_refl n); omega; decide) (by decide) (fun c1 => ?_) (fun c1 => ?_)
    ·
      have hok : letOk (T iN) := Classical.byContradiction (fun q => by rw [if_neg (fun e => q (hls.1.mp e))] at z3; exact c1 z3)
      refine v_aload_n 1 (pc' := 42) rfl dX11_readsWord_41 rfl rfl ?_
      refine v_iload_n 3 (pc' := 43) rfl dX11_readsWord_42 rfl rfl ?_
      refine v_iload 0 (pc' := 45) rfl dX11_readsWord_43 rfl ?_
      refine v_cVi (pc' := 48) rfl dX11_readsWord_45 lk_RX11_141 ly_63 rfl (c_thenM l G hp (z3.trans (by rw [if_pos (hls.1.mpr hok), hls.2.1 hok])) hf (letF_pm hV _) hn1 hn7 w3 ((f3 63 0 rfl).trans g0)) rfl rfl rfl (fun then1 w4 hq4 => ?_)
      obtain ⟨f4, z4⟩ := hq4
      refine v_istore_n (ls' := [(2, _), (4, _), (0, _), (1, _), (3, _)]) (pc' := 49) rfl dX11_readsWord_48 rfl rfl rfl ?_
      refine v_iinc (ls' := [(3, _), (2, _), (4, _), (0, _), (1, _)]) 4 (pc' := 52) rfl dX11_readsWord_49 rfl rfl rfl ?_
      refine v_nl (fun i' hi' => ?_)
      refine v_goto (tgt := 12) dX11_readsWord_52 (by decide) ?_
      refine v_ls [3, 4, 1, 0] rfl ?_
      exact ih0 (then1) (i') w4 (⟨m0, iN + 1, pcomp f (letF s a (T iN)), by omega, by omega, hf.comp (letF_pm hV _), z4, by rw [← hR]; simp only [spI]; rw [if_pos hok], by rw [f4 63 16 rfl, f3 63 16 rfl]; exact h16, (hsc.tr (Scr.of f3 (by decide))).tr (Scr.of f4 (by decide))⟩) (by omega)
    ·
      have hno : ¬ letOk (T iN) := fun q => by rw [if_pos (hls.1.mpr q)] at z3; omega
      refine v_sipush (pc' := 38) rfl dX11_readsWord_35 rfl ?_
      refine v_iload_n 4 (pc' := 39) rfl dX11_readsWord_38 rfl rfl ?_
      refine v_isub (pc' := 40) rfl dX11_readsWord_39 ?_
      refine v_iret dX11_readsWord_40 (by decide) (rfl) ?_
      first | exact ⟨hsc.tr (Scr.of f3 (by decide)), by rw [f3 63 16 rfl]; exact h16, Or.inl ⟨by rw [← hR]; simp only [spI]; rw [if_neg hno]; omega, by rw [← hR]; simp only [spI]; rw [if_neg hno]; omega⟩⟩ | exact ⟨hsc, h16, Or.inr ⟨f, hf, by rw [← hR]; rfl, hp⟩⟩
def WlkM (w : Wd) (n : Nat) (s a : Nat → Nat) (T : Nat → Int) (b d k z : Int) (w' : Wd) : Prop :=
  (¬ (dok n d ∧ 1 ≤ k ∧ k ≤ 60 ∧ k ≤ b) ∧ w' = w ∧ z = -1) ∨
  ((dok n d ∧ 1 ≤ k ∧ k ≤ 60 ∧ k ≤ b) ∧ ScW w w' ∧ w' 63 16 = 0 ∧ ((spI s a T k.toNat 0 pid < 0 ∧ z = spI s a T k.toNat 0 pid) ∨ ∃ g, Pm n g ∧ spI s a T k.toNat 0 pid = (hx g : Nat) ∧ z = g d.toNat))
theorem WrdM.rg {n : Nat} {s a : Nat → Nat} {T : Nat → Int} {k z : Int} (hV : MapV n s a) (hk : k ≤ 120) (h : WrdM n s a T k z) : rg z := by
  rcases h with ⟨h1, h2⟩ | ⟨g, hg, -, h⟩
  · have := spI_in hV T k.toNat 0 pid (pm_id n)
    rcases this with ⟨g, hg, e⟩ | ⟨-, e⟩ <;> omega
  · have := cd_le hg hV.1.2 (Nat.le_refl n); omega
set_option maxHeartbeats 4000000 in
set_option maxRecDepth 100000 in
theorem c_walkM (l : Launch) (G : Gx) {d k b : Int} {T : Nat → Int} (hd : rg d) (hk : rg k) (hb : rg b) (hT : ∀ j, j < 120 → 0 ≤ T j ∧ T j ≤ 255) {n : Nat} {s a : Nat → Nat} (hV : MapV n s a) (w : Wd) (hM : RMW w n s a) (hB : w 63 16 = b) (hTp : TpM w T) : Sp l G 6 mX11_walk [aR 63, aI (d), aI (k)] w (fun z w' => WlkM w n s a T b d k z w') := by
  obtain ⟨⟨hn1, hn7⟩, hs, ha⟩ := id hV
  obtain ⟨r0, r1, r2⟩ := id hM
  refine Sp_of RX11 rfl (by decide +kernel) rfl (Nat.le_of_ble_eq_true rfl) ?_
  refine v_aload_n 0 (pc' := 1) rfl dX11_walk_0 rfl rfl ?_
  refine v_iload_n 1 (pc' := 2) rfl dX11_walk_1 rfl rfl ?_
  refine v_cVP (pc' := 5) rfl dX11_walk_2 lk_RX11_129 ly_63 rfl (c_isDart l G hd hn7 w r0) rfl rfl rfl ?_
  refine v_nm (fun isDart1 hisDart1 => ?_)
  refine v_if_eq (pc' := 8) (tgt := 16) rfl dX11_walk_5 (by decide) (inB_r hisDart1) (fun c0 => ?_) (fun c0 => ?_)
  ·
    have q1 := inB_0 hisDart1 (by omega)
    refine v_iconst (pc' := 17) rfl dX11_walk_16 ?_
    refine v_iret dX11_walk_17 (by decide) (rfl) ?_
    first | exact Or.inl ⟨fun q => q1 q.1, rfl, rfl⟩ | exact Or.inl ⟨fun q => q2 q.2, rfl, rfl⟩ | exact Or.inr ⟨⟨q1, q2⟩, s3, t3, Or.inl hneg⟩ | exact Or.inr ⟨⟨q1, q2⟩, s3.tr (Scr.of f4 (by decide)), by rw [f4 63 16 rfl]; exact t3, Or.inr ⟨g, hg, he, z4⟩⟩
  ·
    have q1 := inB_1 hisDart1 (by omega)
    refine v_aload_n 0 (pc' := 9) rfl dX11_walk_8 rfl rfl ?_
    refine v_iload_n 2 (pc' := 10) rfl dX11_walk_9 rfl rfl ?_
    refine v_cVP (pc' := 13) rfl dX11_walk_10 lk_RX11_222 ly_63 rfl (c_hasText l G hk hb w hB) rfl rfl rfl ?_
    refine v_nm (fun hasText1 hhasText1 => ?_)
    refine v_if_ne (pc' := 16) (tgt := 18) rfl dX11_walk_13 (by decide) (inB_r hhasText1) (fun c1 => ?_) (fun c1 => ?_)
    ·
      have q2 := inB_1 hhasText1 (by omega)
      refine v_aload_n 0 (pc' := 19) rfl dX11_walk_18 rfl rfl ?_
      refine v_iload_n 2 (pc' := 20) rfl dX11_walk_19 rfl rfl ?_
      refine v_cVi (pc' := 23) rfl dX11_walk_20 lk_RX11_413 ly_63 rfl (c_readsWord l G (by omega) hT hV w hM hTp) rfl rfl rfl (fun readsWord1 w3 hq3 => ?_)
      obtain ⟨s3, t3, z3⟩ := hq3
      have hzr := z3.rg hV (by omega)
      refine v_istore_n (ls' := [(3, _), (0, _), (1, _), (2, _)]) (pc' := 24) rfl dX11_walk_23 rfl rfl rfl ?_
      refine v_iload_n 0 (pc' := 25) rfl dX11_walk_24 rfl rfl ?_
      refine v_if_ge (pc' := 28) (tgt := 32) rfl dX11_walk_25 (by decide) (hzr) (fun c2 => ?_) (fun c2 => ?_)
      ·
        obtain ⟨g, hg, he, hz⟩ := z3.resolve_left (by omega)
        refine v_aload_n 1 (pc' := 33) rfl dX11_walk_32 rfl rfl ?_
        refine v_iload_n 0 (pc' := 34) rfl dX11_walk_33 rfl rfl ?_
        refine v_iload_n 2 (pc' := 35) rfl dX11_walk_34 rfl rfl ?_
        refine v_cVi (pc' := 38) rfl dX11_walk_35 lk_RX11_273 ly_63 rfl (c_bringsTo l G (x := d.toNat) hz hg hn1 hn7 (by omega) (by omega) (by omega) w3 (ScW.n hM s3).1) rfl rfl rfl (fun bringsTo1 w4 hq4 => ?_)
        obtain ⟨f4, z4⟩ := hq4
        refine v_iret dX11_walk_38 (by decide) (rfl) ?_
        first | exact Or.inl ⟨fun q => q1 q.1, rfl, rfl⟩ | exact Or.inl ⟨fun q => q2 q.2, rfl, rfl⟩ | exact Or.inr ⟨⟨q1, q2⟩, s3, t3, Or.inl hneg⟩ | exact Or.inr ⟨⟨q1, q2⟩, s3.tr (Scr.of f4 (by decide)), by rw [f4 63 16 rfl]; exact t3, Or.inr ⟨g, hg, he, z4⟩⟩
      ·
        have hneg : spI s a T k.toNat 0 pid < 0 ∧ readsWord1 = spI s a T k.toNat 0 pid := by
          rcases z3 with h | ⟨g, hg, -, h⟩
          · exact h
          · omega
        refine v_iload_n 0 (pc' := 29) rfl dX11_walk_28 rfl rfl ?_
        refine v_goto (tgt := 38) dX11_walk_29 (by decide) ?_
        refine v_iret dX11_walk_38 (by decide) (rfl) ?_
        first | exact Or.inl ⟨fun q => q1 q.1, rfl, rfl⟩ | exact Or.inl ⟨fun q => q2 q.2, rfl, rfl⟩ | exact Or.inr ⟨⟨q1, q2⟩, s3, t3, Or.inl hneg⟩ | exact Or.inr ⟨⟨q1, q2⟩, s3.tr (Scr.of f4 (by decide)), by rw [f4 63 16 rfl]; exact t3, Or.inr ⟨g, hg, he, z4⟩⟩
    ·
      have q2 := inB_0 hhasText1 (by omega)
      refine v_iconst (pc' := 17) rfl dX11_walk_16 ?_
      refine v_iret dX11_walk_17 (by decide) (rfl) ?_
      first | exact Or.inl ⟨fun q => q1 q.1, rfl, rfl⟩ | exact Or.inl ⟨fun q => q2 q.2, rfl, rfl⟩ | exact Or.inr ⟨⟨q1, q2⟩, s3, t3, Or.inl hneg⟩ | exact Or.inr ⟨⟨q1, q2⟩, s3.tr (Scr.of f4 (by decide)), by rw [f4 63 16 rfl]; exact t3, Or.inr ⟨g, hg, he, z4⟩⟩
theorem root_iff {n K : Nat} {q p : Nat → Nat} (h7 : n ≤ 7) (hq : Pm n q) (hp : Pm n p) : rootB q K p 7 = true ↔ ppow q K = p := by
  have key : ∀ k, rootB q K p k = true ↔ ∀ x, 1 ≤ x → x ≤ k → pstep q K x = p x := fun k => by
    induction k with
    | zero => exact ⟨fun _ x a b => by omega, fun _ => rfl⟩
    | succ k ih =>
      simp only [rootB, Bool.and_eq_true, beq_iff_eq]
      rw [ih]
      constructor
      · rintro ⟨h, e⟩ x a b
        by_cases r : x = k + 1
        · rw [r]; exact e
        · exact h x a (by omega)
      · intro h
        exact ⟨fun x a b => h x a (by omega), h (k + 1) (by omega) (Nat.le_refl _)⟩
  rw [key 7]
  exact ⟨fun h => (ppow_pm hq K).ext7 hp h7 h7 (fun x a b => h x a b), fun h x _ _ => congrFun h x⟩
set_option maxHeartbeats 4000000 in
set_option maxRecDepth 100000 in
theorem c_rootsM (l : Launch) (G : Gx) {wh k i0 : Int} (hwh : rg wh) (hk : rg k) (hri : rg i0) {n : Nat} {s a : Nat → Nat} (hV : MapV n s a) (w : Wd) (hM : RMW w n s a) (hR : RTab w n) : Sp l G 4 mX11_roots [aR 63, aI (wh), aI (k), aI (i0)] w (fun z w' => Scr w w' ∧ RotP n s a wh k i0 z) := by
  obtain ⟨⟨hn1, hn7⟩, hs, ha⟩ := id hV
  obtain ⟨r0, r1, r2⟩ := id hM
  obtain ⟨r3, r4, rPK, rTK⟩ := id hR
  have hfc := fac_le hn1 hn7
  have hk15 := kmany_le n hn7
  have hft := trF_pm hV wh
  have hfl := cd_le hft hn7 (Nat.le_refl n)
  refine Sp_of RX11 rfl (by decide +kernel) rfl (Nat.le_of_ble_eq_true rfl) ?_
  refine v_iload_n 1 (pc' := 1) rfl dX11_roots_0 rfl rfl ?_
  refine v_cSP (pc' := 4) rfl dX11_roots_1 lk_RX11_261 rfl (c_isThree l G hwh w) rfl rfl rfl ?_
  refine v_nm (fun isThree1 hisThree1 => ?_)
  refine v_if_eq (pc' := 7) (tgt := 22) rfl dX11_roots_4 (by decide) (inB_r hisThree1) (fun c0 => ?_) (fun c0 => ?_)
  ·
    have q1 := inB_0 hisThree1 (by omega)
    have hz : ¬ (tok wh ∧ (1 ≤ k ∧ k ≤ 12) ∧ -1 ≤ i0) := fun q => by have := q.1; omega
    refine v_iconst (pc' := 23) rfl dX11_roots_22 ?_
    refine v_iret dX11_roots_23 (by decide) (rfl) ?_
    first | exact ⟨Scr.rf _, Or.inl ⟨hz, rfl⟩⟩ | exact ⟨hsc.tr (Scr.of f4 (by decide)), Or.inr ⟨hy, by rw [pick_hit hjF hP (by omega)]⟩⟩ | exact ⟨hsc, Or.inr ⟨hy, by rw [pick_all (by omega), hm, hje]⟩⟩ | exact ⟨hsc, Or.inr ⟨hy, by rw [pick_no (by omega) (by rw [← hje]; omega)]⟩⟩
  ·
    have q1 := inB_1 hisThree1 (by omega)
    refine v_iload_n 2 (pc' := 8) rfl dX11_roots_7 rfl rfl ?_
    refine v_iconst (pc' := 9) rfl dX11_roots_8 ?_
    refine v_bipush (pc' := 11) rfl dX11_roots_9 rfl ?_
    refine v_cSP (pc' := 14) rfl dX11_roots_11 lk_RX11_121 rfl (c_in l G hk (by decide) (by decide) w) rfl rfl rfl ?_
    refine v_nm (fun in1 hin1 => ?_)
    refine v_if_eq (pc' := 17) (tgt := 22) rfl dX11_roots_14 (by decide) (inB_r hin1) (fun c1 => ?_) (fun c1 => ?_)
    ·
      have q2 := inB_0 hin1 (by omega)
      have hz : ¬ (tok wh ∧ (1 ≤ k ∧ k ≤ 12) ∧ -1 ≤ i0) := fun q => q2 q.2.1
      refine v_iconst (pc' := 23) rfl dX11_roots_22 ?_
      refine v_iret dX11_roots_23 (by decide) (rfl) ?_
      first | exact ⟨Scr.rf _, Or.inl ⟨hz, rfl⟩⟩ | exact ⟨hsc.tr (Scr.of f4 (by decide)), Or.inr ⟨hy, by rw [pick_hit hjF hP (by omega)]⟩⟩ | exact ⟨hsc, Or.inr ⟨hy, by rw [pick_all (by omega), hm, hje]⟩⟩ | exact ⟨hsc, Or.inr ⟨hy, by rw [pick_no (by omega) (by rw [← hje]; omega)]⟩⟩
    ·
      have q2 := inB_1 hin1 (by omega)
      refine v_iload_n 3 (pc' := 18) rfl dX11_roots_17 rfl rfl ?_
      refine v_iconst (pc' := 19) rfl dX11_roots_18 ?_
      refine v_icmp_ge (pc' := 22) (tgt := 24) rfl dX11_roots_19 (by decide) (by omega) (by omega) (fun c2 => ?_) (fun c2 => ?_)
      ·
        have hy : (tok wh ∧ (1 ≤ k ∧ k ≤ 12) ∧ -1 ≤ i0) := ⟨by omega, q2, by omega⟩
        refine v_aload_n 0 (pc' := 25) rfl dX11_roots_24 rfl rfl ?_
        refine v_iload_n 1 (pc' := 26) rfl dX11_roots_25 rfl rfl ?_
        refine v_cVi (pc' := 29) rfl dX11_roots_26 lk_RX11_200 ly_63 rfl (c_codeOf l G hwh hV w hM) rfl rfl rfl (fun codeOf1 w3 hq3 => ?_)
        obtain ⟨fc, zc⟩ := hq3
        refine v_istore (ls' := [(4, _), (0, _), (1, _), (2, _), (3, _)]) (pc' := 31) rfl dX11_roots_29 rfl rfl ?_
        refine v_iconst (pc' := 32) rfl dX11_roots_31 ?_
        refine v_istore (ls' := [(5, _), (4, _), (0, _), (1, _), (2, _), (3, _)]) (pc' := 34) rfl dX11_roots_32 rfl rfl ?_
        refine v_iconst (pc' := 35) rfl dX11_roots_34 ?_
        refine v_istore (ls' := [(6, _), (5, _), (4, _), (0, _), (1, _), (2, _), (3, _)]) (pc' := 37) rfl dX11_roots_35 rfl rfl ?_
        refine v_ls [3, 4, 5, 6, 2, 1, 0] rfl ?_
        refine v_loop3 37 (fun (m : Int) (u : Int) (wl : Wd) => ∃ j : Nat, u = j ∧ j ≤ facN n ∧ m = ((fil (rotB n (trF s a wh) k.toNat) j).length : Nat) ∧ (i0 = -1 ∨ m ≤ i0) ∧ Scr w wl) (fun (m : Int) (u : Int) (wl : Wd) => (5040 - u).toNat) (fun (m : Int) (u : Int) (wl : Wd) => [(0, aR 63), (1, aI (wh)), (2, aI (k)), (3, aI (i0)), (4, aI (codeOf1)), (5, aI (m)), (6, aI (u))]) (fun (m : Int) (u : Int) (wl : Wd) => []) (fun (m : Int) (u : Int) (wl : Wd) => wl) (fun m u wl hI0 ih0 => ?_) (0) (0) w3 (⟨0, rfl, by omega, rfl, by omega, Scr.of fc (by decide)⟩)
        obtain ⟨j, hu, hjk, hm, him, hsc⟩ := hI0
        have hfl2 := fil_len (rotB n (trF s a wh) k.toNat) j
        have g0 := (hsc 63 0 (by decide)).trans hM.1
        have g3 := (hsc 63 3 (by decide)).trans hR.1
        refine v_iload 6 (pc' := 39) rfl dX11_roots_37 rfl ?_
        refine v_aload_n 0 (pc' := 40) rfl dX11_roots_39 rfl rfl ?_
        refine v_get (z := ((facN n : Nat) : Int)) (pc' := 43) rfl dX11_roots_40 fk_RX11_165 ly_63 rfl (g3) ?_
        refine v_icmp_ge (pc' := 46) (tgt := 92) rfl dX11_roots_43 (by decide) (by omega) (by omega) (fun c3 => ?_) (fun c3 => ?_)
        ·
          have hje : j = facN n := by omega
          refine v_iload_n 3 (pc' := 93) rfl dX11_roots_92 rfl rfl ?_
          refine v_iconst (pc' := 94) rfl dX11_roots_93 ?_
          refine v_icmp_ne (pc' := 97) (tgt := 102) rfl dX11_roots_94 (by decide) (by omega) (by omega) (fun c6 => ?_) (fun c6 => ?_)
          ·
            refine v_bipush (pc' := 104) rfl dX11_roots_102 rfl ?_
            refine v_iret dX11_roots_104 (by decide) (rfl) ?_
            first | exact ⟨Scr.rf _, Or.inl ⟨hz, rfl⟩⟩ | exact ⟨hsc.tr (Scr.of f4 (by decide)), Or.inr ⟨hy, by rw [pick_hit hjF hP (by omega)]⟩⟩ | exact ⟨hsc, Or.inr ⟨hy, by rw [pick_all (by omega), hm, hje]⟩⟩ | exact ⟨hsc, Or.inr ⟨hy, by rw [pick_no (by omega) (by rw [← hje]; omega)]⟩⟩
          ·
            refine v_iload 5 (pc' := 99) rfl dX11_roots_97 rfl ?_
            refine v_goto (tgt := 104) dX11_roots_99 (by decide) ?_
            refine v_iret dX11_roots_104 (by decide) (rfl) ?_
            first | exact ⟨Scr.rf _, Or.inl ⟨hz, rfl⟩⟩ | exact ⟨hsc.tr (Scr.of f4 (by decide)), Or.inr ⟨hy, by rw [pick_hit hjF hP (by omega)]⟩⟩ | exact ⟨hsc, Or.inr ⟨hy, by rw [pick_all (by omega), hm, hje]⟩⟩ | exact ⟨hsc, Or.inr ⟨hy, by rw [pick_no (by omega) (by rw [← hje]; omega)]⟩⟩
        ·
          have hjF : j < facN n := by omega
          have hpj := pn_at hn1 hn7 hjF
          refine v_aload_n 0 (pc' := 47) rfl dX11_roots_46 rfl rfl ?_
          refine v_aload_n 0 (pc' := 48) rfl dX11_roots_47 rfl rfl ?_
          refine v_getR (pc' := 51) rfl dX11_roots_48 fk_RX11_7 ly_63 rfl ?_
          refine v_iload 6 (pc' := 53) rfl dX11_roots_51 rfl ?_
          refine v_iald (z := ((cdk (pn n j) n : Nat) : Int)) (pc' := 54) rfl dX11_roots_53 ly_64 (by omega) (by omega) rfl (by rw [show u.toNat = j by omega, hsc 64 j rfl]; exact (rPK j (by omega)).1) ?_
          refine v_iload_n 2 (pc' := 55) rfl dX11_roots_54 rfl rfl ?_
          refine v_cVi (pc' := 58) rfl dX11_roots_55 lk_RX11_416 ly_63 rfl (c_powerOf l G (K := k.toNat) (f := pn n j) rfl hpj.1 hn1 hn7 (by omega) (by omega) wl g0) rfl rfl rfl (fun powerOf1 w4 hq4 => ?_)
          obtain ⟨f4, z4⟩ := hq4
          have hpl := cd_le (ppow_pm hpj.1 k.toNat) hn7 (Nat.le_refl n)
          refine v_iload 4 (pc' := 60) rfl dX11_roots_58 rfl ?_
          refine v_icmp_eq (pc' := 63) (tgt := 66) rfl dX11_roots_60 (by decide) (by omega) (by omega) (fun c4 => ?_) (fun c4 => ?_)
          ·
            have hP : rotB n (trF s a wh) k.toNat j = true := (root_iff hn7 hpj.1 hft).mpr ((cd_inj (ppow_pm hpj.1 k.toNat) hft hn7).mp (by omega))
            refine v_iload 5 (pc' := 68) rfl dX11_roots_66 rfl ?_
            refine v_iload_n 3 (pc' := 69) rfl dX11_roots_68 rfl rfl ?_
            refine v_icmp_ne (pc' := 72) (tgt := 80) rfl dX11_roots_69 (by decide) (by omega) (by omega) (fun c5 => ?_) (fun c5 => ?_)
            ·
              refine v_iload 5 (pc' := 82) rfl dX11_roots_80 rfl ?_
              refine v_iconst (pc' := 83) rfl dX11_roots_82 ?_
              refine v_iadd (pc' := 84) rfl dX11_roots_83 ?_
              refine v_nm (fun m' hm' => ?_)
              refine v_istore (ls' := [(5, _), (0, _), (1, _), (2, _), (3, _), (4, _), (6, _)]) (pc' := 86) rfl dX11_roots_84 rfl rfl ?_
              refine v_iinc (ls' := [(6, _), (5, _), (0, _), (1, _), (2, _), (3, _), (4, _)]) 6 (pc' := 89) rfl dX11_roots_86 rfl rfl rfl ?_
              refine v_nl (fun u' hu' => ?_)
              refine v_goto (tgt := 37) dX11_roots_89 (by decide) ?_
              refine v_ls [2, 3, 4, 5, 6, 1, 0] rfl ?_
              exact ih0 (m') (u') w4 (⟨j + 1, by omega, by omega, by rw [fil_s, if_pos hP, List.length_append]; simp; omega, by omega, hsc.tr (Scr.of f4 (by decide))⟩) (by omega)
            ·
              refine v_aload_n 0 (pc' := 73) rfl dX11_roots_72 rfl rfl ?_
              refine v_getR (pc' := 76) rfl dX11_roots_73 fk_RX11_7 ly_63 rfl ?_
              refine v_iload 6 (pc' := 78) rfl dX11_roots_76 rfl ?_
              refine v_iald (z := ((cdk (pn n j) n : Nat) : Int)) (pc' := 79) rfl dX11_roots_78 ly_64 (by omega) (by omega) rfl (by rw [show u.toNat = j by omega, f4 64 j rfl, hsc 64 j rfl]; exact (rPK j (by omega)).1) ?_
              refine v_iret dX11_roots_79 (by decide) (rfl) ?_
              first | exact ⟨Scr.rf _, Or.inl ⟨hz, rfl⟩⟩ | exact ⟨hsc.tr (Scr.of f4 (by decide)), Or.inr ⟨hy, by rw [pick_hit hjF hP (by omega)]⟩⟩ | exact ⟨hsc, Or.inr ⟨hy, by rw [pick_all (by omega), hm, hje]⟩⟩ | exact ⟨hsc, Or.inr ⟨hy, by rw [pick_no (by omega) (by rw [← hje]; omega)]⟩⟩
          ·
            have hP : ¬ rotB n (trF s a wh) k.toNat j = true := fun q => by
              have e := (root_iff hn7 hpj.1 hft).mp q
              rw [e] at z4; omega
            refine v_goto (tgt := 86) dX11_roots_63 (by decide) ?_
            refine v_iinc (ls' := [(6, _), (0, _), (1, _), (2, _), (3, _), (4, _), (5, _)]) 6 (pc' := 89) rfl dX11_roots_86 rfl rfl rfl ?_
            refine v_nl (fun u' hu' => ?_)
            refine v_goto (tgt := 37) dX11_roots_89 (by decide) ?_
            refine v_ls [1, 2, 3, 4, 5, 6, 0] rfl ?_
            exact ih0 (m) (u') w4 (⟨j + 1, by omega, by omega, by rw [fil_s, if_neg hP]; exact hm, him, hsc.tr (Scr.of f4 (by decide))⟩) (by omega)
      ·
        have hz : ¬ (tok wh ∧ (1 ≤ k ∧ k ≤ 12) ∧ -1 ≤ i0) := by omega
        refine v_iconst (pc' := 23) rfl dX11_roots_22 ?_
        refine v_iret dX11_roots_23 (by decide) (rfl) ?_
        first | exact ⟨Scr.rf _, Or.inl ⟨hz, rfl⟩⟩ | exact ⟨hsc.tr (Scr.of f4 (by decide)), Or.inr ⟨hy, by rw [pick_hit hjF hP (by omega)]⟩⟩ | exact ⟨hsc, Or.inr ⟨hy, by rw [pick_all (by omega), hm, hje]⟩⟩ | exact ⟨hsc, Or.inr ⟨hy, by rw [pick_no (by omega) (by rw [← hje]; omega)]⟩⟩

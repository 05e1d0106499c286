/-! ===== the reference: siblings, genera, thirds ===== -/
def SETC : Prop := ∀ (n : Nat) (s a : Nat → Nat), 1 ≤ n → n ≤ 7 → Pm n s → Pm n a → setC n s a = autI n s a
def genB (n i1 i2 : Nat) (g : Int) (i : Nat) : Bool := (kindN (pn n i) n == kT n i2 && joinB (leastF (kT n i1) n) (pn n i) n) && decide (genusI (leastF (kT n i1) n) (pn n i) (full n) = g)
def GENH : Prop := ∀ (n i1 i2 : Nat) (g : Int), 1 ≤ n → n ≤ 7 → i1 < kmany n → i2 < kmany n → 0 ≤ g → g ≤ 3 → ((cntI (genB n i1 i2 g) (facN n) : Nat) : Int) * (membersN (kT n i1) n : Int) = genI n i1 i2 g
theorem CLM.kg {w w' : Wd} {n i1 i2 i3 k : Nat} (h : CLM w n i1 i2 i3 k) (hg : Kg w w') : CLM w' n i1 i2 i3 k := h.fr (hg.1 46 (by decide)) (fun j => hg.2 88 j rfl) (fun j => hg.2 89 j rfl)
theorem KIx.get {n : Nat} {f : Nat → Nat} {z : Int} (h : KIx n f z) : ∃ k : Nat, k < kmany n ∧ z = k ∧ kindN f n = kT n k := by
  obtain ⟨k, a, b, c⟩ := h
  exact ⟨k, b, a, c.symm⟩
theorem genB_at {n i1 i2 i : Nat} {g : Int} (h : genB n i1 i2 g i = true) : kindN (pn n i) n = kT n i2 ∧ joinB (leastF (kT n i1) n) (pn n i) n = true ∧ genusI (leastF (kT n i1) n) (pn n i) (full n) = g := by
  unfold genB at h
  simp only [Bool.and_eq_true, beq_iff_eq, decide_eq_true_eq] at h
  exact ⟨h.1.1, h.1.2, h.2⟩
theorem genB_m {n i1 i2 i : Nat} {g : Int} (h1 : kindN (pn n i) n = kT n i2) (h2 : joinB (leastF (kT n i1) n) (pn n i) n = true) (h3 : genusI (leastF (kT n i1) n) (pn n i) (full n) = g) : genB n i1 i2 g i = true := by
  unfold genB
  simp only [Bool.and_eq_true, beq_iff_eq, decide_eq_true_eq]
  exact ⟨⟨h1, h2⟩, h3⟩
theorem genusI_rg {n : Nat} {f g : Nat → Nat} (h7 : n ≤ 7) (hf : Pm n f) (hg : Pm n g) : -100 ≤ genusI f g (full n) ∧ genusI f g (full n) ≤ 100 := by
  unfold genusI
  rw [rings_full hf h7, rings_full hg h7, rings_full (Pm.face h7 hf hg) h7]
  have d := full_popc n (by omega)
  have a := lst_le f n
  have b := lst_le g n
  have c := lst_le (pface f g) n
  exact tdiv_le (A := 100) (by omega) (by omega)
set_option maxHeartbeats 4000000 in
set_option maxRecDepth 100000 in
theorem c_siblingsM (l : Launch) (G : Gx) (h64 : OP64) (hord : ORD) (hset : SETC) {n : Nat} {s a : Nat → Nat} (hV : MapV n s a) (w : Wd) (hM : RMW w n s a) (hR : RTab w n) : Sp l G 4 mX11_siblings [aR 63] w (fun z w' => Scr w w' ∧ SibP n s a z) := by
  obtain ⟨⟨hn1, hn7⟩, hs, ha⟩ := id hV
  obtain ⟨r0, r1, r2⟩ := id hM
  obtain ⟨r3, r4, rPK, rTK⟩ := id hR
  have hfc := fac_le hn1 hn7
  have hk15 := kmany_le n hn7
  refine Sp_of RX11 rfl (by decide +kernel) rfl (Nat.le_of_ble_eq_true rfl) ?_
  refine v_aload_n 0 (pc' := 1) rfl dX11_siblings_0 rfl rfl ?_
  refine v_aload_n 0 (pc' := 2) rfl dX11_siblings_1 rfl rfl ?_
  refine v_get (z := ((cdk s n : Nat) : Int)) (pc' := 5) rfl dX11_siblings_2 fk_RX11_149 ly_63 rfl (r1) ?_
  refine v_cVR (pc' := 8) rfl dX11_siblings_5 lk_RX11_355 ly_63 rfl (c_kindOfCode l G rfl hs hn1 hn7 w r3 rPK) rfl rfl rfl (fun kindOfCode1 hkindOfCode1 => ?_)
  obtain ⟨i1, h1, hkz1, hkk1⟩ := hkindOfCode1.get
  have hSp := lp_pm hn7 h1
  refine v_istore_n (ls' := [(1, _), (0, _)]) (pc' := 9) rfl dX11_siblings_8 rfl rfl rfl ?_
  refine v_aload_n 1 (pc' := 10) rfl dX11_siblings_9 rfl rfl ?_
  refine v_aload_n 1 (pc' := 11) rfl dX11_siblings_10 rfl rfl ?_
  refine v_get (z := ((cdk s n : Nat) : Int)) (pc' := 14) rfl dX11_siblings_11 fk_RX11_149 ly_63 rfl (r1) ?_
  refine v_aload_n 1 (pc' := 15) rfl dX11_siblings_14 rfl rfl ?_
  refine v_get (z := ((cdk a n : Nat) : Int)) (pc' := 18) rfl dX11_siblings_15 fk_RX11_152 ly_63 rfl (r2) ?_
  refine v_cVi (pc' := 21) rfl dX11_siblings_18 lk_RX11_386 ly_63 rfl (c_autsOf l G rfl rfl hs ha hn1 hn7 w hM.1 hR) rfl rfl rfl (fun autsOf1 w2 hq2 => ?_)
  obtain ⟨hs2, z2⟩ := hq2
  have r0 : w2 63 0 = (n : Int) := (hs2 63 0 (by decide)).trans r0
  have r1 : w2 63 1 = ((cdk s n : Nat) : Int) := (hs2 63 1 (by decide)).trans r1
  have r2 : w2 63 2 = ((cdk a n : Nat) : Int) := (hs2 63 2 (by decide)).trans r2
  have r3 : w2 63 3 = ((facN n : Nat) : Int) := (hs2 63 3 (by decide)).trans r3
  have r4 : w2 63 4 = ((kmany n : Nat) : Int) := (hs2 63 4 (by decide)).trans r4
  refine v_istore_n (ls' := [(2, _), (1, _), (0, _)]) (pc' := 22) rfl dX11_siblings_21 rfl rfl rfl ?_
  refine v_aload_n 2 (pc' := 23) rfl dX11_siblings_22 rfl rfl ?_
  refine v_aload_n 2 (pc' := 24) rfl dX11_siblings_23 rfl rfl ?_
  refine v_get (z := ((cdk s n : Nat) : Int)) (pc' := 27) rfl dX11_siblings_24 fk_RX11_149 ly_63 rfl (r1) ?_
  refine v_aload_n 2 (pc' := 28) rfl dX11_siblings_27 rfl rfl ?_
  refine v_get (z := ((cdk a n : Nat) : Int)) (pc' := 31) rfl dX11_siblings_28 fk_RX11_152 ly_63 rfl (r2) ?_
  refine v_cVi (pc' := 34) rfl dX11_siblings_31 lk_RX11_295 ly_63 rfl (c_laysGroupK l G rfl rfl hs ha hn1 hn7 w2 ((hs2 63 0 (by decide)).trans hM.1) (hR.s hs2)) rfl rfl rfl (fun laysGroup1 w3 hq3 => ?_)
  obtain ⟨hkg3, hg3, z3⟩ := hq3
  have hs3 := hkg3.scr
  have r0 : w3 63 0 = (n : Int) := (hs3 63 0 (by decide)).trans r0
  have r1 : w3 63 1 = ((cdk s n : Nat) : Int) := (hs3 63 1 (by decide)).trans r1
  have r2 : w3 63 2 = ((cdk a n : Nat) : Int) := (hs3 63 2 (by decide)).trans r2
  have r3 : w3 63 3 = ((facN n : Nat) : Int) := (hs3 63 3 (by decide)).trans r3
  have r4 : w3 63 4 = ((kmany n : Nat) : Int) := (hs3 63 4 (by decide)).trans r4
  refine v_istore_n (ls' := [(3, _), (2, _), (1, _), (0, _)]) (pc' := 35) rfl dX11_siblings_34 rfl rfl rfl ?_
  refine v_aload_n 3 (pc' := 36) rfl dX11_siblings_35 rfl rfl ?_
  refine v_iload_n 2 (pc' := 37) rfl dX11_siblings_36 rfl rfl ?_
  refine v_aload_n 3 (pc' := 38) rfl dX11_siblings_37 rfl rfl ?_
  refine v_aload_n 3 (pc' := 39) rfl dX11_siblings_38 rfl rfl ?_
  refine v_get (z := ((cdk a n : Nat) : Int)) (pc' := 42) rfl dX11_siblings_39 fk_RX11_152 ly_63 rfl (r2) ?_
  refine v_cVR (pc' := 45) rfl dX11_siblings_42 lk_RX11_355 ly_63 rfl (c_kindOfCode l G rfl ha hn1 hn7 w3 ((hs2.tr hs3) 63 3 (by decide) |>.trans hR.1) (fun i hi => by rw [(hs2.tr hs3) 64 i rfl, (hs2.tr hs3) 65 i rfl]; exact rPK i hi)) rfl rfl rfl (fun kindOfCode2 hkindOfCode2 => ?_)
  obtain ⟨i2, h2, hkz2, hkk2⟩ := hkindOfCode2.get
  refine v_aload_n 3 (pc' := 46) rfl dX11_siblings_45 rfl rfl ?_
  refine v_aload_n 3 (pc' := 47) rfl dX11_siblings_46 rfl rfl ?_
  refine v_aload_n 3 (pc' := 48) rfl dX11_siblings_47 rfl rfl ?_
  refine v_get (z := ((cdk s n : Nat) : Int)) (pc' := 51) rfl dX11_siblings_48 fk_RX11_149 ly_63 rfl (r1) ?_
  refine v_aload_n 3 (pc' := 52) rfl dX11_siblings_51 rfl rfl ?_
  refine v_get (z := ((cdk a n : Nat) : Int)) (pc' := 55) rfl dX11_siblings_52 fk_RX11_152 ly_63 rfl (r2) ?_
  refine v_cVi (pc' := 58) rfl dX11_siblings_55 lk_RX11_155 ly_63 rfl (c_facesOfM l G rfl rfl hs ha hn1 hn7 w3 ((hs2.tr hs3) 63 0 (by decide) |>.trans hM.1)) rfl rfl rfl (fun facesOf1 w5 hq5 => ?_)
  obtain ⟨f5, z5⟩ := hq5
  have hs5 := (hs2.tr hs3).tr (Scr.of f5 (by decide))
  refine v_cVR (pc' := 61) rfl dX11_siblings_58 lk_RX11_355 ly_63 rfl (c_kindOfCode l G z5 (Pm.face hn7 hs ha) hn1 hn7 w5 ((hs5 63 3 (by decide)).trans hR.1) (fun i hi => by rw [hs5 64 i rfl, hs5 65 i rfl]; exact rPK i hi)) rfl rfl rfl (fun kindOfCode3 hkindOfCode3 => ?_)
  obtain ⟨i3, h3, hkz3, hkk3⟩ := hkindOfCode3.get
  refine v_cVv (pc' := 64) rfl dX11_siblings_61 lk_RX11_374 ly_63 rfl (c_laysClasses l G hn1 hn7 h1 h2 h3 hkz1 hkz2 hkz3 h64 w5 ((hs5 63 0 (by decide)).trans hM.1) (hR.s hs5)) rfl rfl rfl (fun laysClasses1 w7 hq7 => ?_)
  obtain ⟨hsc, hCL0⟩ := hq7
  have hs7 := hs5.tr hsc
  have hl64 : (clL n i1 i2 i3).length ≤ 64 := h64 n i1 i2 i3 hn1 hn7 h1 h2 h3
  refine v_iconst (pc' := 65) rfl dX11_siblings_64 ?_
  refine v_istore (ls' := [(4, _), (3, _), (2, _), (1, _), (0, _)]) (pc' := 67) rfl dX11_siblings_65 rfl rfl ?_
  refine v_iconst (pc' := 68) rfl dX11_siblings_67 ?_
  refine v_istore (ls' := [(5, _), (4, _), (3, _), (2, _), (1, _), (0, _)]) (pc' := 70) rfl dX11_siblings_68 rfl rfl ?_
  refine v_ls [5, 4, 3, 2, 1, 0] rfl ?_
  refine v_loop3 70 (fun (many : Int) (i : Int) (wl : Wd) => ∃ k : Nat, i = k ∧ k ≤ (clL n i1 i2 i3).length ∧ many = (sibC n (leastF (kT n i1) n) (clL n i1 i2 i3) (setC n s a) (chnN n s a) k : Nat) ∧ CLM wl n i1 i2 i3 (facN n) ∧ Scr w wl) (fun (many : Int) (i : Int) (wl : Wd) => (64 - i).toNat) (fun (many : Int) (i : Int) (wl : Wd) => [(0, aR 63), (1, aI (kindOfCode1)), (2, aI (autsOf1)), (3, aI (laysGroup1)), (4, aI (many)), (5, aI (i))]) (fun (many : Int) (i : Int) (wl : Wd) => []) (fun (many : Int) (i : Int) (wl : Wd) => wl) (fun many i wl hI0 ih0 => ?_) (0) (0) w7 (⟨0, rfl, by omega, rfl, hCL0, hs7⟩)
  obtain ⟨k, hi, hk, hmany, hCL, hsl⟩ := hI0
  have hcm : wl 63 46 = ((clL n i1 i2 i3).length : Nat) := hCL.1
  refine v_iload 5 (pc' := 72) rfl dX11_siblings_70 rfl ?_
  refine v_aload_n 0 (pc' := 73) rfl dX11_siblings_72 rfl rfl ?_
  refine v_get (z := (((clL n i1 i2 i3).length : Nat) : Int)) (pc' := 76) rfl dX11_siblings_73 fk_RX11_371 ly_63 rfl (hcm) ?_
  refine v_icmp_ge (pc' := 79) (tgt := 127) rfl dX11_siblings_76 (by decide) (by omega) (by omega) (fun c0 => ?_) (fun c0 => ?_)
  ·
    have hke : k = (clL n i1 i2 i3).length := by omega
    refine v_iload 4 (pc' := 129) rfl dX11_siblings_127 rfl ?_
    refine v_iret dX11_siblings_129 (by decide) (rfl) ?_
    exact ⟨hsl, i1, i2, i3, ⟨h1, h2, h3⟩, ⟨hkk1, hkk2, hkk3⟩, by rw [hmany, hke]⟩
  ·
    have hkl : k < (clL n i1 i2 i3).length := by omega
    have hAp := (pn_at hn1 hn7 (clL_lt hkl)).1
    have hau5 := autN_le hn1 hn7 hSp (pn n ((clL n i1 i2 i3).getD k 0))
    have hse := hset n s a hn1 hn7 hs ha
    have hai : autI n s a ≤ 5040 := Nat.le_trans (cntI_le _ _) hfc.2
    refine v_iload 4 (pc' := 81) rfl dX11_siblings_79 rfl ?_
    have J118 : ∀ (bv : Int) (wj : Wd) (hJ : (bv = if autN n (leastF (kT n i1) n) (pn n ((clL n i1 i2 i3).getD k 0)) = setC n s a ∧ chnN n (leastF (kT n i1) n) (pn n ((clL n i1 i2 i3).getD k 0)) = chnN n s a then 1 else 0) ∧ CLM wj n i1 i2 i3 (facN n) ∧ Scr w wj), V (mX l G 4 6 (some .int) (fun z w' => Scr w w' ∧ SibP n s a z)) RX11 cX11_siblings 118 [(0, aR 63), (1, aI (kindOfCode1)), (2, aI (autsOf1)), (3, aI (laysGroup1)), (4, aI (many)), (5, aI (i))] [aI (bv), aI (many)] wj := by
      intro bv wj hJ
      obtain ⟨hbv, hCLj, hsj⟩ := hJ
      have hJ118 : many + bv = ((sibC n (leastF (kT n i1) n) (clL n i1 i2 i3) (setC n s a) (chnN n s a) (k + 1) : Nat) : Int) := by
        simp only [sibC]
        rw [hmany, hbv]
        by_cases q : autN n (leastF (kT n i1) n) (pn n ((clL n i1 i2 i3).getD k 0)) = setC n s a ∧ chnN n (leastF (kT n i1) n) (pn n ((clL n i1 i2 i3).getD k 0)) = chnN n s a
        · rw [if_pos q, if_pos q]; rfl
        · rw [if_neg q, if_neg q]; rfl
      refine v_iadd (pc' := 119) rfl dX11_siblings_118 ?_
      refine v_nm (fun many' hmany' => ?_)
      refine v_istore (ls' := [(4, _), (0, _), (1, _), (2, _), (3, _), (5, _)]) (pc' := 121) rfl dX11_siblings_119 rfl rfl ?_
      refine v_iinc (ls' := [(5, _), (4, _), (0, _), (1, _), (2, _), (3, _)]) 5 (pc' := 124) rfl dX11_siblings_121 rfl rfl rfl ?_
      refine v_nl (fun i' hi' => ?_)
      refine v_goto (tgt := 70) dX11_siblings_124 (by decide) ?_
      refine v_ls [2, 3, 4, 5, 1, 0] rfl ?_
      exact ih0 (many') (i') wj (⟨k + 1, by omega, by omega, hmany'.trans hJ118, hCLj, hsj⟩) (by omega)
    refine v_aload_n 0 (pc' := 82) rfl dX11_siblings_81 rfl rfl ?_
    refine v_getR (pc' := 85) rfl dX11_siblings_82 fk_RX11_86 ly_63 rfl ?_
    refine v_iload 5 (pc' := 87) rfl dX11_siblings_85 rfl ?_
    refine v_iald (z := ((autN n (leastF (kT n i1) n) (pn n ((clL n i1 i2 i3).getD k 0)) : Nat) : Int)) (pc' := 88) rfl dX11_siblings_87 ly_89 (by omega) (by omega) rfl (by rw [show i.toNat = k by omega]; exact (hCL.2 k hkl).2) ?_
    refine v_iload_n 2 (pc' := 89) rfl dX11_siblings_88 rfl rfl ?_
    refine v_icmp_ne (pc' := 92) (tgt := 117) rfl dX11_siblings_89 (by decide) (by omega) (by omega) (fun c1 => ?_) (fun c1 => ?_)
    ·
      refine v_iconst (pc' := 118) rfl dX11_siblings_117 ?_
      exact J118 (0) wl (⟨by rw [if_neg (fun q => c1 (by omega))], hCL, hsl⟩)
    ·
      refine v_aload_n 0 (pc' := 93) rfl dX11_siblings_92 rfl rfl ?_
      refine v_aload_n 0 (pc' := 94) rfl dX11_siblings_93 rfl rfl ?_
      refine v_getR (pc' := 97) rfl dX11_siblings_94 fk_RX11_22 ly_63 rfl ?_
      refine v_iload_n 1 (pc' := 98) rfl dX11_siblings_97 rfl rfl ?_
      refine v_iald (z := ((cdk (leastF (kT n i1) n) n : Nat) : Int)) (pc' := 99) rfl dX11_siblings_98 ly_68 (by omega) (by omega) rfl (by rw [show kindOfCode1.toNat = i1 by omega, hsl 68 i1 rfl]; exact (rTK i1 h1).2.2) ?_
      refine v_aload_n 0 (pc' := 100) rfl dX11_siblings_99 rfl rfl ?_
      refine v_getR (pc' := 103) rfl dX11_siblings_100 fk_RX11_83 ly_63 rfl ?_
      refine v_iload 5 (pc' := 105) rfl dX11_siblings_103 rfl ?_
      refine v_iald (z := ((cdk (pn n ((clL n i1 i2 i3).getD k 0)) n : Nat) : Int)) (pc' := 106) rfl dX11_siblings_105 ly_88 (by omega) (by omega) rfl (by rw [show i.toNat = k by omega]; exact (hCL.2 k hkl).1) ?_
      refine v_cVi (pc' := 109) rfl dX11_siblings_106 lk_RX11_295 ly_63 rfl (c_laysGroupK l G rfl rfl hSp hAp hn1 hn7 wl ((hsl 63 0 (by decide)).trans hM.1) (hR.s hsl)) rfl rfl rfl (fun laysGroup2 w8 hq8 => ?_)
      obtain ⟨hkg8, hg8, z8⟩ := hq8
      have hs8 := hkg8.scr
      have hCL8 := hCL.kg hkg8
      have hor := hord n (leastF (kT n i1) n) (pn n ((clL n i1 i2 i3).getD k 0)) hn1 hn7 hSp hAp
      have hor2 := hord n s a hn1 hn7 hs ha
      have hB8 := (bfsI_BI hn1 hn7 hSp hAp 5040).len hn1 hn7
      have hB3 := (bfsI_BI hn1 hn7 hs ha 5040).len hn1 hn7
      rw [show bfsI n s a 5040 = bfs n s a from rfl] at hB3
      rw [show bfsI n (leastF (kT n i1) n) (pn n ((clL n i1 i2 i3).getD k 0)) 5040 = bfs n (leastF (kT n i1) n) (pn n ((clL n i1 i2 i3).getD k 0)) from rfl] at hB8
      refine v_iload_n 3 (pc' := 110) rfl dX11_siblings_109 rfl rfl ?_
      refine v_icmp_ne (pc' := 113) (tgt := 117) rfl dX11_siblings_110 (by decide) (by omega) (by omega) (fun c2 => ?_) (fun c2 => ?_)
      ·
        refine v_iconst (pc' := 118) rfl dX11_siblings_117 ?_
        exact J118 (0) w8 (⟨by first | rw [if_pos ⟨by omega, by omega⟩] | rw [if_neg (fun q => c2 (by omega))], hCL8, hsl.tr hs8⟩)
      ·
        refine v_iconst (pc' := 114) rfl dX11_siblings_113 ?_
        refine v_goto (tgt := 118) dX11_siblings_114 (by decide) ?_
        exact J118 (1) w8 (⟨by first | rw [if_pos ⟨by omega, by omega⟩] | rw [if_neg (fun q => c2 (by omega))], hCL8, hsl.tr hs8⟩)
set_option maxHeartbeats 4000000 in
set_option maxRecDepth 100000 in
theorem c_generaM (l : Launch) (G : Gx) {t1 t2 g : Int} (hr1 : rg t1) (hr2 : rg t2) (hg : rg g) (hsz : OPSZ) (hgen : GENH) {n : Nat} {s a : Nat → Nat} (hV : MapV n s a) (w : Wd) (hM : RMW w n s a) (hR : RTab w n) : Sp l G 4 mX11_genera [aR 63, aI (t1), aI (t2), aI (g)] w (fun z w' => Scr w w' ∧ GenP n t1 t2 g z) := by
  obtain ⟨⟨hn1, hn7⟩, hs, ha⟩ := id hV
  obtain ⟨r0, r1, r2⟩ := id hM
  obtain ⟨r3, r4, rPK, rTK⟩ := id hR
  have hfc := fac_le hn1 hn7
  have hk15 := kmany_le n hn7
  refine Sp_of RX11 rfl (by decide +kernel) rfl (Nat.le_of_ble_eq_true rfl) ?_
  refine v_aload_n 0 (pc' := 1) rfl dX11_genera_0 rfl rfl ?_
  refine v_iload_n 1 (pc' := 2) rfl dX11_genera_1 rfl rfl ?_
  refine v_cVR (pc' := 5) rfl dX11_genera_2 lk_RX11_178 ly_63 rfl (c_kindOf l G (n := n) (t := t1) hr1 hn1 hn7 w r4 (fun k hk => (rTK k hk).1)) rfl rfl rfl (fun kindOf1 hkindOf1 => ?_)
  refine v_iconst (pc' := 6) rfl dX11_genera_5 ?_
  refine v_icmp_eq (pc' := 9) (tgt := 27) rfl dX11_genera_6 (by decide) (KX_r hn7 hkindOf1) (by decide) (fun c0 => ?_) (fun c0 => ?_)
  ·
    have hno := KX_no hkindOf1 (by omega)
    have hz : ¬ KN2 n t1 t2 := fun q => hno q.1
    refine v_ldc2 (z := (-1)) (pc' := 30) rfl dX11_genera_27 kc_RX11_361 ?_
    refine v_lret dX11_genera_30 ?_
    first
    | exact ⟨Scr.rf _, Or.inl ⟨fun q => hz q.1, rfl⟩⟩
    | exact ⟨Scr.rf _, Or.inl ⟨fun q => hn2 q.2, rfl⟩⟩
    | exact ⟨hsc, Or.inr ⟨i1, i2, ⟨h1, h2⟩, ⟨hkt1.symm, hkt2.symm⟩, hy2, by rw [hsum, hje]; exact hgen n i1 i2 g hn1 hn7 h1 h2 hy2.1 hy2.2⟩⟩
  ·
    obtain ⟨i1, hkz1, h1, hkt1⟩ := KX_at hkindOf1 (by omega)
    refine v_aload_n 0 (pc' := 10) rfl dX11_genera_9 rfl rfl ?_
    refine v_iload_n 2 (pc' := 11) rfl dX11_genera_10 rfl rfl ?_
    refine v_cVR (pc' := 14) rfl dX11_genera_11 lk_RX11_178 ly_63 rfl (c_kindOf l G (n := n) (t := t2) hr2 hn1 hn7 w r4 (fun k hk => (rTK k hk).1)) rfl rfl rfl (fun kindOf2 hkindOf2 => ?_)
    refine v_iconst (pc' := 15) rfl dX11_genera_14 ?_
    refine v_icmp_eq (pc' := 18) (tgt := 27) rfl dX11_genera_15 (by decide) (KX_r hn7 hkindOf2) (by decide) (fun c1 => ?_) (fun c1 => ?_)
    ·
      have hno := KX_no hkindOf2 (by omega)
      have hz : ¬ KN2 n t1 t2 := fun q => hno q.2
      refine v_ldc2 (z := (-1)) (pc' := 30) rfl dX11_genera_27 kc_RX11_361 ?_
      refine v_lret dX11_genera_30 ?_
      first
      | exact ⟨Scr.rf _, Or.inl ⟨fun q => hz q.1, rfl⟩⟩
      | exact ⟨Scr.rf _, Or.inl ⟨fun q => hn2 q.2, rfl⟩⟩
      | exact ⟨hsc, Or.inr ⟨i1, i2, ⟨h1, h2⟩, ⟨hkt1.symm, hkt2.symm⟩, hy2, by rw [hsum, hje]; exact hgen n i1 i2 g hn1 hn7 h1 h2 hy2.1 hy2.2⟩⟩
    ·
      obtain ⟨i2, hkz2, h2, hkt2⟩ := KX_at hkindOf2 (by omega)
      refine v_iload_n 3 (pc' := 19) rfl dX11_genera_18 rfl rfl ?_
      refine v_iconst (pc' := 20) rfl dX11_genera_19 ?_
      refine v_iconst (pc' := 21) rfl dX11_genera_20 ?_
      refine v_cSP (pc' := 24) rfl dX11_genera_21 lk_RX11_121 rfl (c_in l G hg (by decide) (by decide) w) rfl rfl rfl ?_
      refine v_nm (fun in1 hin1 => ?_)
      refine v_if_ne (pc' := 27) (tgt := 31) rfl dX11_genera_24 (by decide) (in_r hin1) (fun c2 => ?_) (fun c2 => ?_)
      ·
        have hy2 := in_1 hin1 (by omega)
        have hSp := lp_pm hn7 h1
        have hmb := (kt_ok n (by omega) i1 h1).2.2
        refine v_aload_n 0 (pc' := 32) rfl dX11_genera_31 rfl rfl ?_
        refine v_getR (pc' := 35) rfl dX11_genera_32 fk_RX11_22 ly_63 rfl ?_
        refine v_aload_n 0 (pc' := 36) rfl dX11_genera_35 rfl rfl ?_
        refine v_iload_n 1 (pc' := 37) rfl dX11_genera_36 rfl rfl ?_
        refine v_cVR (pc' := 40) rfl dX11_genera_37 lk_RX11_178 ly_63 rfl (c_kindOf l G (n := n) (t := t1) hr1 hn1 hn7 w r4 (fun k hk => (rTK k hk).1)) rfl rfl rfl (fun kindOf3 hkindOf3 => ?_)
        have hkz3 := KX_is hn7 hkindOf3 h1 hkt1.symm
        refine v_iald (z := ((cdk (leastF (kT n i1) n) n : Nat) : Int)) (pc' := 41) rfl dX11_genera_40 ly_68 (by omega) (by omega) rfl (by rw [show kindOf3.toNat = i1 by omega]; exact (rTK i1 h1).2.2) ?_
        refine v_nm (fun sv' hsv' => ?_)
        refine v_istore (ls' := [(4, _), (0, _), (1, _), (2, _), (3, _)]) (pc' := 43) rfl dX11_genera_41 rfl rfl ?_
        refine v_lconst (z := 0) (pc' := 44) rfl dX11_genera_43 rfl ?_
        refine v_lstore (ls' := [(5, _), (4, _), (0, _), (1, _), (2, _), (3, _)]) (pc' := 46) rfl dX11_genera_44 rfl rfl ?_
        refine v_iconst (pc' := 47) rfl dX11_genera_46 ?_
        refine v_istore (ls' := [(7, _), (5, _), (4, _), (0, _), (1, _), (2, _), (3, _)]) (pc' := 49) rfl dX11_genera_47 rfl rfl ?_
        refine v_ls [3, 4, 5, 6, 2, 1, 0] rfl ?_
        refine v_loop3 49 (fun (sum : Int) (i : Int) (wl : Wd) => ∃ j : Nat, i = j ∧ j ≤ facN n ∧ sum = (cntI (genB n i1 i2 g) j : Nat) ∧ Scr w wl) (fun (sum : Int) (i : Int) (wl : Wd) => (5040 - i).toNat) (fun (sum : Int) (i : Int) (wl : Wd) => [(0, aR 63), (1, aI (t1)), (2, aI (t2)), (3, aI (g)), (4, aI (sv')), (5, aL (sum)), (7, aI (i))]) (fun (sum : Int) (i : Int) (wl : Wd) => []) (fun (sum : Int) (i : Int) (wl : Wd) => wl) (fun sum i wl hI0 ih0 => ?_) (0) (0) w (⟨0, rfl, by omega, rfl, Scr.rf _⟩)
        obtain ⟨j, hi, hj, hsum, hsc⟩ := hI0
        have g0 := (hsc 63 0 (by decide)).trans hM.1
        have g3 := (hsc 63 3 (by decide)).trans hR.1
        have g4 := (hsc 63 4 (by decide)).trans hR.2.1
        have hcle := cntI_le (genB n i1 i2 g) j
        refine v_iload 6 (pc' := 51) rfl dX11_genera_49 rfl ?_
        refine v_aload_n 0 (pc' := 52) rfl dX11_genera_51 rfl rfl ?_
        refine v_get (z := ((facN n : Nat) : Int)) (pc' := 55) rfl dX11_genera_52 fk_RX11_165 ly_63 rfl (g3) ?_
        refine v_icmp_ge (pc' := 58) (tgt := 123) rfl dX11_genera_55 (by decide) (by omega) (by omega) (fun c3 => ?_) (fun c3 => ?_)
        ·
          have hje : j = facN n := by omega
          refine v_lload 5 (pc' := 125) rfl dX11_genera_123 rfl ?_
          refine v_aload_n 0 (pc' := 126) rfl dX11_genera_125 rfl rfl ?_
          refine v_getR (pc' := 129) rfl dX11_genera_126 fk_RX11_19 ly_63 rfl ?_
          refine v_aload_n 0 (pc' := 130) rfl dX11_genera_129 rfl rfl ?_
          refine v_iload_n 1 (pc' := 131) rfl dX11_genera_130 rfl rfl ?_
          refine v_cVR (pc' := 134) rfl dX11_genera_131 lk_RX11_178 ly_63 rfl (c_kindOf l G (n := n) (t := t1) hr1 hn1 hn7 wl ((hsc 63 4 (by decide)).trans r4) (fun k hk => (hsc 66 k rfl).trans (rTK k hk).1)) rfl rfl rfl (fun kindOf5 hkindOf5 => ?_)
          have hkz5 := KX_is hn7 hkindOf5 h1 hkt1.symm
          refine v_iald (z := ((membersN (kT n i1) n : Nat) : Int)) (pc' := 135) rfl dX11_genera_134 ly_67 (by omega) (by omega) rfl (by rw [show kindOf5.toNat = i1 by omega, hsc 67 i1 rfl, (rTK i1 h1).2.1, hsz n i1 hn1 hn7 h1]) ?_
          refine v_i2l (pc' := 136) rfl dX11_genera_135 (by omega) ?_
          refine v_lmul (pc' := 137) rfl dX11_genera_136 ?_
          refine v_lret dX11_genera_137 ?_
          first
          | exact ⟨Scr.rf _, Or.inl ⟨fun q => hz q.1, rfl⟩⟩
          | exact ⟨Scr.rf _, Or.inl ⟨fun q => hn2 q.2, rfl⟩⟩
          | exact ⟨hsc, Or.inr ⟨i1, i2, ⟨h1, h2⟩, ⟨hkt1.symm, hkt2.symm⟩, hy2, by rw [hsum, hje]; exact hgen n i1 i2 g hn1 hn7 h1 h2 hy2.1 hy2.2⟩⟩
        ·
          have hpj := pn_at hn1 hn7 (show j < facN n by omega)
          obtain ⟨kJ, hkJ1, hkJ2, hkJ3⟩ := (rPK j (by omega)).2
          have hkx : KIx n (pn n j) (kJ : Int) := ⟨kJ, rfl, hkJ1, hkJ2⟩
          refine v_lload 5 (pc' := 60) rfl dX11_genera_58 rfl ?_
          have J113 : ∀ (bv : Int) (wj : Wd) (hJ : (bv = if (genB n i1 i2 g) j = true then 1 else 0) ∧ Scr w wj), V (mX l G 4 8 (some .long) (fun z w' => Scr w w' ∧ GenP n t1 t2 g z)) RX11 cX11_genera 113 [(0, aR 63), (1, aI (t1)), (2, aI (t2)), (3, aI (g)), (4, aI (sv')), (5, aL (sum)), (7, aI (i))] [aI (bv), aL (sum)] wj := by
            intro bv wj hJ
            obtain ⟨hbv, hsj⟩ := hJ
            have hJ113 : sum + bv = ((cntI (genB n i1 i2 g) (j + 1) : Nat) : Int) := by
              rw [cntI_s, hsum, hbv]
              by_cases q : (genB n i1 i2 g) j = true
              · rw [if_pos q, if_pos q]; rfl
              · rw [if_neg q, if_neg q]; rfl
            have hbr : rg bv := by rw [hbv]; split <;> decide
            refine v_i2l (pc' := 114) rfl dX11_genera_113 (by omega) ?_
            refine v_ladd (pc' := 115) rfl dX11_genera_114 ?_
            refine v_nmL (fun sum' hsum' => ?_)
            refine v_lstore (ls' := [(5, _), (0, _), (1, _), (2, _), (3, _), (4, _), (7, _)]) (pc' := 117) rfl dX11_genera_115 rfl rfl ?_
            refine v_iinc (ls' := [(7, _), (5, _), (0, _), (1, _), (2, _), (3, _), (4, _)]) 6 (pc' := 120) rfl dX11_genera_117 rfl rfl rfl ?_
            refine v_nl (fun i' hi' => ?_)
            refine v_goto (tgt := 49) dX11_genera_120 (by decide) ?_
            refine v_ls [2, 3, 4, 5, 6, 1, 0] rfl ?_
            exact ih0 (sum') (i') wj (⟨j + 1, by omega, by omega, hsum'.trans hJ113, hsj⟩) (by omega)
          refine v_aload_n 0 (pc' := 61) rfl dX11_genera_60 rfl rfl ?_
          refine v_getR (pc' := 64) rfl dX11_genera_61 fk_RX11_13 ly_63 rfl ?_
          refine v_iload 6 (pc' := 66) rfl dX11_genera_64 rfl ?_
          refine v_iald (z := ((kJ : Nat) : Int)) (pc' := 67) rfl dX11_genera_66 ly_65 (by omega) (by omega) rfl (by rw [show i.toNat = j by omega, hsc 65 j rfl]; exact hkJ3) ?_
          refine v_aload_n 0 (pc' := 68) rfl dX11_genera_67 rfl rfl ?_
          refine v_iload_n 2 (pc' := 69) rfl dX11_genera_68 rfl rfl ?_
          refine v_cVR (pc' := 72) rfl dX11_genera_69 lk_RX11_178 ly_63 rfl (c_kindOf l G (n := n) (t := t2) hr2 hn1 hn7 wl ((hsc 63 4 (by decide)).trans r4) (fun k hk => (hsc 66 k rfl).trans (rTK k hk).1)) rfl rfl rfl (fun kindOf4 hkindOf4 => ?_)
          have hkz4 := KX_is hn7 hkindOf4 h2 hkt2.symm
          refine v_icmp_ne (pc' := 75) (tgt := 112) rfl dX11_genera_72 (by decide) (by omega) (by omega) (fun c4 => ?_) (fun c4 => ?_)
          ·
            have hk2i := hkx.iff hn7 hkz4 h2
            refine v_iconst (pc' := 113) rfl dX11_genera_112 ?_
            exact J113 (0) wl (⟨by rw [if_neg (fun q => c4 (hk2i.mpr (genB_at q).1))], hsc⟩)
          ·
            have hk2i := hkx.iff hn7 hkz4 h2
            have heq2 := hk2i.mp (by omega)
            refine v_aload_n 0 (pc' := 76) rfl dX11_genera_75 rfl rfl ?_
            refine v_iload 4 (pc' := 78) rfl dX11_genera_76 rfl ?_
            refine v_aload_n 0 (pc' := 79) rfl dX11_genera_78 rfl rfl ?_
            refine v_getR (pc' := 82) rfl dX11_genera_79 fk_RX11_7 ly_63 rfl ?_
            refine v_iload 6 (pc' := 84) rfl dX11_genera_82 rfl ?_
            refine v_iald (z := ((cdk (pn n j) n : Nat) : Int)) (pc' := 85) rfl dX11_genera_84 ly_64 (by omega) (by omega) rfl (by rw [show i.toNat = j by omega, hsc 64 j rfl]; exact (rPK j (by omega)).1) ?_
            refine v_cVi (pc' := 88) rfl dX11_genera_85 lk_RX11_280 ly_63 rfl (c_isConnected l G hsv' rfl hSp hpj.1 hn1 hn7 wl g0) rfl rfl rfl (fun isConnected1 w6 hq6 => ?_)
            obtain ⟨f6, z6⟩ := hq6
            have g0 : w6 63 0 = (n : Int) := (f6 63 0 (by decide)).trans g0
            have g3 : w6 63 3 = ((facN n : Nat) : Int) := (f6 63 3 (by decide)).trans g3
            have g4 : w6 63 4 = ((kmany n : Nat) : Int) := (f6 63 4 (by decide)).trans g4
            refine v_if_eq (pc' := 91) (tgt := 112) rfl dX11_genera_88 (by decide) (jn_r z6) (fun c5 => ?_) (fun c5 => ?_)
            ·
              refine v_iconst (pc' := 113) rfl dX11_genera_112 ?_
              exact J113 (0) w6 (⟨by rw [if_neg (fun q => by have e := (genB_at q).2.1; rw [jn_0 z6 (by omega)] at e; exact absurd e (by decide))], hsc.tr (Scr.of f6 (by decide))⟩)
            ·
              have hjy := jn_1 z6 (by omega)
              refine v_aload_n 0 (pc' := 92) rfl dX11_genera_91 rfl rfl ?_
              refine v_iload 4 (pc' := 94) rfl dX11_genera_92 rfl ?_
              refine v_aload_n 0 (pc' := 95) rfl dX11_genera_94 rfl rfl ?_
              refine v_getR (pc' := 98) rfl dX11_genera_95 fk_RX11_7 ly_63 rfl ?_
              refine v_iload 6 (pc' := 100) rfl dX11_genera_98 rfl ?_
              refine v_iald (z := ((cdk (pn n j) n : Nat) : Int)) (pc' := 101) rfl dX11_genera_100 ly_64 (by omega) (by omega) rfl (by rw [show i.toNat = j by omega, f6 64 j rfl, hsc 64 j rfl]; exact (rPK j (by omega)).1) ?_
              refine v_cVi (pc' := 104) rfl dX11_genera_101 lk_RX11_389 ly_63 rfl (c_genusOf l G hsv' rfl hSp hpj.1 hn1 hn7 w6 g0) rfl rfl rfl (fun genusOf1 w7 hq7 => ?_)
              obtain ⟨f7, z7⟩ := hq7
              have hgr := genusI_rg hn7 hSp hpj.1
              have g0 : w7 63 0 = (n : Int) := (f7 63 0 (by decide)).trans g0
              have g3 : w7 63 3 = ((facN n : Nat) : Int) := (f7 63 3 (by decide)).trans g3
              have g4 : w7 63 4 = ((kmany n : Nat) : Int) := (f7 63 4 (by decide)).trans g4
              refine v_iload_n 3 (pc' := 105) rfl dX11_genera_104 rfl rfl ?_
              refine v_icmp_ne (pc' := 108) (tgt := 112) rfl dX11_genera_105 (by decide) (by omega) (by omega) (fun c6 => ?_) (fun c6 => ?_)
              ·
                refine v_iconst (pc' := 113) rfl dX11_genera_112 ?_
                exact J113 (0) w7 (⟨by first | rw [if_pos (genB_m heq2 hjy (by omega))] | rw [if_neg (fun q => c6 (by have e := (genB_at q).2.2; omega))], (hsc.tr (Scr.of f6 (by decide))).tr (Scr.of f7 (by decide))⟩)
              ·
                refine v_iconst (pc' := 109) rfl dX11_genera_108 ?_
                refine v_goto (tgt := 113) dX11_genera_109 (by decide) ?_
                exact J113 (1) w7 (⟨by first | rw [if_pos (genB_m heq2 hjy (by omega))] | rw [if_neg (fun q => c6 (by have e := (genB_at q).2.2; omega))], (hsc.tr (Scr.of f6 (by decide))).tr (Scr.of f7 (by decide))⟩)
      ·
        have hn2 := in_0 hin1 (by omega)
        refine v_ldc2 (z := (-1)) (pc' := 30) rfl dX11_genera_27 kc_RX11_361 ?_
        refine v_lret dX11_genera_30 ?_
        first
        | exact ⟨Scr.rf _, Or.inl ⟨fun q => hz q.1, rfl⟩⟩
        | exact ⟨Scr.rf _, Or.inl ⟨fun q => hn2 q.2, rfl⟩⟩
        | exact ⟨hsc, Or.inr ⟨i1, i2, ⟨h1, h2⟩, ⟨hkt1.symm, hkt2.symm⟩, hy2, by rw [hsum, hje]; exact hgen n i1 i2 g hn1 hn7 h1 h2 hy2.1 hy2.2⟩⟩
theorem tPA_iff {n : Nat} {S : Nat → Nat} {t2 t3 i : Nat} : tPA n S t2 t3 i = true ↔ kindN (pn n i) n = t2 ∧ kindN (pcomp S (pn n i)) n = t3 := by
  unfold tPA; rw [Bool.and_eq_true, beq_iff_eq, beq_iff_eq]
theorem thr_no {n : Nat} {S : Nat → Nat} {t2 j : Nat} (h : ¬ kindN (pn n j) n = t2) (t3 : Nat) : cntI (tPA n S t2 t3) (j + 1) = cntI (tPA n S t2 t3) j := by
  rw [cntI_s, if_neg (fun q => h (tPA_iff.mp q).1)]; rfl
theorem thr_yes {n : Nat} {S : Nat → Nat} {t2 j k : Nat} (h7 : n ≤ 7) (h : kindN (pn n j) n = t2) (hk : k < kmany n) (e : kT n k = kindN (pcomp S (pn n j)) n) {x : Nat} (hx : x < kmany n) : (0 < cntI (tPA n S t2 (kT n x)) (j + 1)) ↔ (x = k ∨ 0 < cntI (tPA n S t2 (kT n x)) j) := by
  rw [cntI_s]
  by_cases q : x = k
  · rw [if_pos (tPA_iff.mpr ⟨h, by rw [q, e]⟩)]
    exact ⟨fun _ => Or.inl q, fun _ => by omega⟩
  · rw [if_neg (fun r => q (kT_inj n (by omega) x hx k hk (by rw [e]; exact (tPA_iff.mp r).2.symm)))]
    exact ⟨fun r => Or.inr (by omega), fun r => by omega⟩
set_option maxHeartbeats 4000000 in
set_option maxRecDepth 100000 in
theorem c_thirdsM (l : Launch) (G : Gx) {t1 t2 i0 : Int} (hr1 : rg t1) (hr2 : rg t2) (hri : rg i0) {n : Nat} {s a : Nat → Nat} (hV : MapV n s a) (w : Wd) (hM : RMW w n s a) (hR : RTab w n) : Sp l G 3 mX11_thirds [aR 63, aI (t1), aI (t2), aI (i0)] w (fun z w' => Scr w w' ∧ ThrP n t1 t2 i0 z) := by
  obtain ⟨⟨hn1, hn7⟩, hs, ha⟩ := id hV
  obtain ⟨r0, r1, r2⟩ := id hM
  obtain ⟨r3, r4, rPK, rTK⟩ := id hR
  have hfc := fac_le hn1 hn7
  have hk15 := kmany_le n hn7
  refine Sp_of RX11 rfl (by decide +kernel) rfl (Nat.le_of_ble_eq_true rfl) ?_
  refine v_aload_n 0 (pc' := 1) rfl dX11_thirds_0 rfl rfl ?_
  refine v_iload_n 1 (pc' := 2) rfl dX11_thirds_1 rfl rfl ?_
  refine v_cVR (pc' := 5) rfl dX11_thirds_2 lk_RX11_178 ly_63 rfl (c_kindOf l G (n := n) (t := t1) hr1 hn1 hn7 w r4 (fun k hk => (rTK k hk).1)) rfl rfl rfl (fun kindOf1 hkindOf1 => ?_)
  refine v_iconst (pc' := 6) rfl dX11_thirds_5 ?_
  refine v_icmp_eq (pc' := 9) (tgt := 23) rfl dX11_thirds_6 (by decide) (KX_r hn7 hkindOf1) (by decide) (fun c0 => ?_) (fun c0 => ?_)
  ·
    have hno := KX_no hkindOf1 (by omega)
    have hz : ¬ KN2 n t1 t2 := fun q => hno q.1
    refine v_iconst (pc' := 24) rfl dX11_thirds_23 ?_
    refine v_iret dX11_thirds_24 (by decide) (rfl) ?_
    first | exact ⟨Scr.rf _, Or.inl ⟨fun q => hz q.1, rfl⟩⟩ | exact ⟨Scr.rf _, Or.inl ⟨fun q => hn2 q.2, rfl⟩⟩
  ·
    obtain ⟨i1, hkz1, h1, hkt1⟩ := KX_at hkindOf1 (by omega)
    refine v_aload_n 0 (pc' := 10) rfl dX11_thirds_9 rfl rfl ?_
    refine v_iload_n 2 (pc' := 11) rfl dX11_thirds_10 rfl rfl ?_
    refine v_cVR (pc' := 14) rfl dX11_thirds_11 lk_RX11_178 ly_63 rfl (c_kindOf l G (n := n) (t := t2) hr2 hn1 hn7 w r4 (fun k hk => (rTK k hk).1)) rfl rfl rfl (fun kindOf2 hkindOf2 => ?_)
    refine v_iconst (pc' := 15) rfl dX11_thirds_14 ?_
    refine v_icmp_eq (pc' := 18) (tgt := 23) rfl dX11_thirds_15 (by decide) (KX_r hn7 hkindOf2) (by decide) (fun c1 => ?_) (fun c1 => ?_)
    ·
      have hno := KX_no hkindOf2 (by omega)
      have hz : ¬ KN2 n t1 t2 := fun q => hno q.2
      refine v_iconst (pc' := 24) rfl dX11_thirds_23 ?_
      refine v_iret dX11_thirds_24 (by decide) (rfl) ?_
      first | exact ⟨Scr.rf _, Or.inl ⟨fun q => hz q.1, rfl⟩⟩ | exact ⟨Scr.rf _, Or.inl ⟨fun q => hn2 q.2, rfl⟩⟩
    ·
      obtain ⟨i2, hkz2, h2, hkt2⟩ := KX_at hkindOf2 (by omega)
      refine v_iload_n 3 (pc' := 19) rfl dX11_thirds_18 rfl rfl ?_
      refine v_iconst (pc' := 20) rfl dX11_thirds_19 ?_
      refine v_icmp_ge (pc' := 23) (tgt := 25) rfl dX11_thirds_20 (by decide) (by omega) (by omega) (fun c2 => ?_) (fun c2 => ?_)
      ·
        have hSp := lp_pm hn7 h1
        refine v_iconst (pc' := 26) rfl dX11_thirds_25 ?_
        refine v_istore (ls' := [(4, _), (0, _), (1, _), (2, _), (3, _)]) (pc' := 28) rfl dX11_thirds_26 rfl rfl ?_
        refine v_ls [1, 2, 3, 4, 0] rfl ?_
        refine v_loop2 28 (fun (i : Int) (wl : Wd) => ∃ j : Nat, i = j ∧ j ≤ kmany n ∧ (∀ x, x < j → wl 90 x = 0) ∧ Scr w wl) (fun (i : Int) (wl : Wd) => (16 - i).toNat) (fun (i : Int) (wl : Wd) => [(0, aR 63), (1, aI (t1)), (2, aI (t2)), (3, aI (i0)), (4, aI (i))]) (fun (i : Int) (wl : Wd) => []) (fun (i : Int) (wl : Wd) => wl) (fun i wl hI0 ih0 => ?_) (0) w (⟨0, rfl, by omega, fun x hx => absurd hx (Nat.not_lt_zero _), Scr.rf _⟩)
        obtain ⟨j, hi, hj, hZ, hsc⟩ := hI0
        have g0 := (hsc 63 0 (by decide)).trans hM.1
        have g3 := (hsc 63 3 (by decide)).trans hR.1
        have g4 := (hsc 63 4 (by decide)).trans hR.2.1
        refine v_iload 4 (pc' := 30) rfl dX11_thirds_28 rfl ?_
        refine v_aload_n 0 (pc' := 31) rfl dX11_thirds_30 rfl rfl ?_
        refine v_get (z := ((kmany n : Nat) : Int)) (pc' := 34) rfl dX11_thirds_31 fk_RX11_168 ly_63 rfl (g4) ?_
        refine v_icmp_ge (pc' := 37) (tgt := 51) rfl dX11_thirds_34 (by decide) (by omega) (by omega) (fun c3 => ?_) (fun c3 => ?_)
        ·
          have hje : j = kmany n := by omega
          refine v_aload_n 0 (pc' := 52) rfl dX11_thirds_51 rfl rfl ?_
          refine v_getR (pc' := 55) rfl dX11_thirds_52 fk_RX11_22 ly_63 rfl ?_
          refine v_aload_n 0 (pc' := 56) rfl dX11_thirds_55 rfl rfl ?_
          refine v_iload_n 1 (pc' := 57) rfl dX11_thirds_56 rfl rfl ?_
          refine v_cVR (pc' := 60) rfl dX11_thirds_57 lk_RX11_178 ly_63 rfl (c_kindOf l G (n := n) (t := t1) hr1 hn1 hn7 wl ((hsc 63 4 (by decide)).trans r4) (fun k hk => (hsc 66 k rfl).trans (rTK k hk).1)) rfl rfl rfl (fun kindOf3 hkindOf3 => ?_)
          have hkz3 := KX_is hn7 hkindOf3 h1 hkt1.symm
          refine v_iald (z := ((cdk (leastF (kT n i1) n) n : Nat) : Int)) (pc' := 61) rfl dX11_thirds_60 ly_68 (by omega) (by omega) rfl (by rw [show kindOf3.toNat = i1 by omega, hsc 68 i1 rfl]; exact (rTK i1 h1).2.2) ?_
          refine v_nm (fun sv' hsv' => ?_)
          refine v_istore (ls' := [(4, _), (0, _), (1, _), (2, _), (3, _)]) (pc' := 63) rfl dX11_thirds_61 rfl rfl ?_
          refine v_iconst (pc' := 64) rfl dX11_thirds_63 ?_
          refine v_istore (ls' := [(5, _), (4, _), (0, _), (1, _), (2, _), (3, _)]) (pc' := 66) rfl dX11_thirds_64 rfl rfl ?_
          refine v_ls [2, 3, 4, 5, 1, 0] rfl ?_
          refine v_loop2 66 (fun (i5 : Int) (wm : Wd) => ∃ j : Nat, i5 = j ∧ j ≤ facN n ∧ (∀ x, x < kmany n → wm 90 x = if 0 < cntI (tPA n (leastF (kT n i1) n) (kT n i2) (kT n x)) j then 1 else 0) ∧ Scr w wm) (fun (i5 : Int) (wm : Wd) => (5040 - i5).toNat) (fun (i5 : Int) (wm : Wd) => [(0, aR 63), (1, aI (t1)), (2, aI (t2)), (3, aI (i0)), (4, aI (sv')), (5, aI (i5))]) (fun (i5 : Int) (wm : Wd) => []) (fun (i5 : Int) (wm : Wd) => wm) (fun i5 wm hI1 ih1 => ?_) (0) wl (⟨0, rfl, by omega, fun x hx => hZ x (by omega), hsc⟩)
          clear hZ hi hje hj j
          obtain ⟨j, hi, hj, hT, hsm⟩ := hI1
          have g0 := (hsm 63 0 (by decide)).trans hM.1
          have g3 := (hsm 63 3 (by decide)).trans hR.1
          have g4 := (hsm 63 4 (by decide)).trans hR.2.1
          refine v_iload 5 (pc' := 68) rfl dX11_thirds_66 rfl ?_
          refine v_aload_n 0 (pc' := 69) rfl dX11_thirds_68 rfl rfl ?_
          refine v_get (z := ((facN n : Nat) : Int)) (pc' := 72) rfl dX11_thirds_69 fk_RX11_165 ly_63 rfl (g3) ?_
          refine v_icmp_ge (pc' := 75) (tgt := 119) rfl dX11_thirds_72 (by decide) (by omega) (by omega) (fun c4 => ?_) (fun c4 => ?_)
          ·
            have hje : j = facN n := by omega
            refine v_iconst (pc' := 120) rfl dX11_thirds_119 ?_
            refine v_istore (ls' := [(5, _), (0, _), (1, _), (2, _), (3, _), (4, _)]) (pc' := 122) rfl dX11_thirds_120 rfl rfl ?_
            refine v_iconst (pc' := 123) rfl dX11_thirds_122 ?_
            refine v_istore (ls' := [(6, _), (5, _), (0, _), (1, _), (2, _), (3, _), (4, _)]) (pc' := 125) rfl dX11_thirds_123 rfl rfl ?_
            refine v_ls [2, 3, 4, 5, 6, 1, 0] rfl ?_
            refine v_loop2 125 (fun (many : Int) (k6 : Int) => ∃ k : Nat, k6 = k ∧ k ≤ kmany n ∧ many = ((fil (thrB n i1 i2) k).length : Nat) ∧ (i0 = -1 ∨ i0 < -1 ∨ ((fil (thrB n i1 i2) k).length : Int) ≤ i0)) (fun (many : Int) (k6 : Int) => (16 - k6).toNat) (fun (many : Int) (k6 : Int) => [(0, aR 63), (1, aI (t1)), (2, aI (t2)), (3, aI (i0)), (4, aI (sv')), (5, aI (many)), (6, aI (k6))]) (fun (many : Int) (k6 : Int) => []) (fun (many : Int) (k6 : Int) => wm) (fun many k6 hI2 ih2 => ?_) (0) (0) (⟨0, rfl, by omega, rfl, by show i0 = -1 ∨ i0 < -1 ∨ (0 : Int) ≤ i0; omega⟩)
            obtain ⟨k, hk6, hk, hmany, hno0⟩ := hI2
            have hfl := fil_len (thrB n i1 i2) k
            refine v_iload 6 (pc' := 127) rfl dX11_thirds_125 rfl ?_
            refine v_aload_n 0 (pc' := 128) rfl dX11_thirds_127 rfl rfl ?_
            refine v_get (z := ((kmany n : Nat) : Int)) (pc' := 131) rfl dX11_thirds_128 fk_RX11_168 ly_63 rfl (g4) ?_
            refine v_icmp_ge (pc' := 134) (tgt := 173) rfl dX11_thirds_131 (by decide) (by omega) (by omega) (fun c6 => ?_) (fun c6 => ?_)
            ·
              have hke : k = kmany n := by omega
              have J185 : ∀ (zz : Int) (hJ : ThrP n t1 t2 i0 zz), V (mX l G 3 7 (some .int) (fun z w' => Scr w w' ∧ ThrP n t1 t2 i0 z)) RX11 cX11_thirds 185 [(0, aR 63)] [aI (zz)] wm := by
                intro zz hJ
                have hzz := hJ
                refine v_iret dX11_thirds_185 (by decide) (rfl) ?_
                exact ⟨hsm, hzz⟩
              refine v_iload_n 3 (pc' := 174) rfl dX11_thirds_173 rfl rfl ?_
              refine v_iconst (pc' := 175) rfl dX11_thirds_174 ?_
              refine v_icmp_ne (pc' := 178) (tgt := 183) rfl dX11_thirds_175 (by decide) (by omega) (by omega) (fun c9 => ?_) (fun c9 => ?_)
              ·
                refine v_bipush (pc' := 185) rfl dX11_thirds_183 rfl ?_
                refine v_ls [0] rfl ?_
                exact J185 ((-2)) (Or.inr ⟨i1, i2, ⟨h1, h2⟩, ⟨hkt1.symm, hkt2.symm⟩, by omega, by rw [pick_no (by omega) (by rw [← hke]; omega)]⟩)
              ·
                refine v_iload 5 (pc' := 180) rfl dX11_thirds_178 rfl ?_
                refine v_goto (tgt := 185) dX11_thirds_180 (by decide) ?_
                refine v_ls [0] rfl ?_
                exact J185 (many) (Or.inr ⟨i1, i2, ⟨h1, h2⟩, ⟨hkt1.symm, hkt2.symm⟩, by omega, by rw [pick_all (by omega), hmany, hke]⟩)
            ·
              have hkl : k < kmany n := by omega
              refine v_aload_n 0 (pc' := 135) rfl dX11_thirds_134 rfl rfl ?_
              refine v_getR (pc' := 138) rfl dX11_thirds_135 fk_RX11_89 ly_63 rfl ?_
              refine v_iload 6 (pc' := 140) rfl dX11_thirds_138 rfl ?_
              refine v_zald (z := (if (thrB n i1 i2) k = true then (1 : Int) else 0)) (pc' := 141) rfl dX11_thirds_140 ly_90 (by omega) (by omega) rfl (by rw [show k6.toNat = k by omega, hT k hkl, hje]; unfold thrB; simp only [decide_eq_true_eq]) ?_
              refine v_if_ne (pc' := 144) (tgt := 147) rfl dX11_thirds_141 (by decide) (by split <;> decide) (fun c7 => ?_) (fun c7 => ?_)
              ·
                have hyb : (thrB n i1 i2) k = true := by
                  by_cases q : (thrB n i1 i2) k = true
                  · exact q
                  · rw [if_neg q] at c7; omega
                refine v_iload 5 (pc' := 149) rfl dX11_thirds_147 rfl ?_
                refine v_iload_n 3 (pc' := 150) rfl dX11_thirds_149 rfl rfl ?_
                refine v_icmp_ne (pc' := 153) (tgt := 161) rfl dX11_thirds_150 (by decide) (by omega) (by omega) (fun c8 => ?_) (fun c8 => ?_)
                ·
                  refine v_iload 5 (pc' := 163) rfl dX11_thirds_161 rfl ?_
                  refine v_iconst (pc' := 164) rfl dX11_thirds_163 ?_
                  refine v_iadd (pc' := 165) rfl dX11_thirds_164 ?_
                  refine v_nm (fun many' hmany' => ?_)
                  refine v_istore (ls' := [(5, _), (0, _), (1, _), (2, _), (3, _), (4, _), (6, _)]) (pc' := 167) rfl dX11_thirds_165 rfl rfl ?_
                  refine v_iinc (ls' := [(6, _), (5, _), (0, _), (1, _), (2, _), (3, _), (4, _)]) 6 (pc' := 170) rfl dX11_thirds_167 rfl rfl rfl ?_
                  refine v_nl (fun k6' hk6' => ?_)
                  refine v_goto (tgt := 125) dX11_thirds_170 (by decide) ?_
                  refine v_ls [2, 3, 4, 5, 6, 1, 0] rfl ?_
                  exact ih2 (many') (k6') (⟨k + 1, by omega, by omega, by rw [fil_s, if_pos hyb, List.length_append]; simp; omega, by rw [fil_s, if_pos hyb, List.length_append]; simp; omega⟩) (by omega)
                ·
                  refine v_aload_n 0 (pc' := 154) rfl dX11_thirds_153 rfl rfl ?_
                  refine v_getR (pc' := 157) rfl dX11_thirds_154 fk_RX11_16 ly_63 rfl ?_
                  refine v_iload 6 (pc' := 159) rfl dX11_thirds_157 rfl ?_
                  refine v_iald (z := ((kT n k : Nat) : Int)) (pc' := 160) rfl dX11_thirds_159 ly_66 (by omega) (by omega) rfl (by rw [show k6.toNat = k by omega, hsm 66 k rfl]; exact (rTK k hkl).1) ?_
                  refine v_iret dX11_thirds_160 (by decide) (rfl) ?_
                  exact ⟨hsm, Or.inr ⟨i1, i2, ⟨h1, h2⟩, ⟨hkt1.symm, hkt2.symm⟩, by omega, by rw [pick_hit hkl hyb (by omega)]⟩⟩
              ·
                have hnb : ¬ (thrB n i1 i2) k = true := fun q => by rw [if_pos q] at c7; omega
                refine v_goto (tgt := 167) dX11_thirds_144 (by decide) ?_
                refine v_iinc (ls' := [(6, _), (0, _), (1, _), (2, _), (3, _), (4, _), (5, _)]) 6 (pc' := 170) rfl dX11_thirds_167 rfl rfl rfl ?_
                refine v_nl (fun k6' hk6' => ?_)
                refine v_goto (tgt := 125) dX11_thirds_170 (by decide) ?_
                refine v_ls [1, 2, 3, 4, 5, 6, 0] rfl ?_
                exact ih2 (many) (k6') (⟨k + 1, by omega, by omega, by rw [fil_s, if_neg hnb]; exact hmany, by rw [fil_s, if_neg hnb]; exact hno0⟩) (by omega)
          ·
            have hpj := pn_at hn1 hn7 (show j < facN n by omega)
            obtain ⟨kJ, hkJ1, hkJ2, hkJ3⟩ := (rPK j (by omega)).2
            have hkx : KIx n (pn n j) (kJ : Int) := ⟨kJ, rfl, hkJ1, hkJ2⟩
            refine v_aload_n 0 (pc' := 76) rfl dX11_thirds_75 rfl rfl ?_
            refine v_getR (pc' := 79) rfl dX11_thirds_76 fk_RX11_13 ly_63 rfl ?_
            refine v_iload 5 (pc' := 81) rfl dX11_thirds_79 rfl ?_
            refine v_iald (z := ((kJ : Nat) : Int)) (pc' := 82) rfl dX11_thirds_81 ly_65 (by omega) (by omega) rfl (by rw [show i5.toNat = j by omega, hsm 65 j rfl]; exact hkJ3) ?_
            refine v_aload_n 0 (pc' := 83) rfl dX11_thirds_82 rfl rfl ?_
            refine v_iload_n 2 (pc' := 84) rfl dX11_thirds_83 rfl rfl ?_
            refine v_cVR (pc' := 87) rfl dX11_thirds_84 lk_RX11_178 ly_63 rfl (c_kindOf l G (n := n) (t := t2) hr2 hn1 hn7 wm ((hsm 63 4 (by decide)).trans r4) (fun k hk => (hsm 66 k rfl).trans (rTK k hk).1)) rfl rfl rfl (fun kindOf4 hkindOf4 => ?_)
            have hkz4 := KX_is hn7 hkindOf4 h2 hkt2.symm
            have hk2i := hkx.iff hn7 hkz4 h2
            refine v_icmp_ne (pc' := 90) (tgt := 113) rfl dX11_thirds_87 (by decide) (by omega) (by omega) (fun c5 => ?_) (fun c5 => ?_)
            ·
              refine v_iinc (ls' := [(5, _), (0, _), (1, _), (2, _), (3, _), (4, _)]) 5 (pc' := 116) rfl dX11_thirds_113 rfl rfl rfl ?_
              refine v_nl (fun i5' hi5' => ?_)
              refine v_goto (tgt := 66) dX11_thirds_116 (by decide) ?_
              refine v_ls [1, 2, 3, 4, 5, 0] rfl ?_
              exact ih1 (i5') wm (⟨j + 1, by omega, by omega, fun x hx => by rw [thr_no (fun q => c5 (hk2i.mpr q))]; exact hT x hx, hsm⟩) (by omega)
            ·
              have heq2 := hk2i.mp (by omega)
              refine v_aload_n 0 (pc' := 91) rfl dX11_thirds_90 rfl rfl ?_
              refine v_getR (pc' := 94) rfl dX11_thirds_91 fk_RX11_89 ly_63 rfl ?_
              refine v_aload_n 0 (pc' := 95) rfl dX11_thirds_94 rfl rfl ?_
              refine v_aload_n 0 (pc' := 96) rfl dX11_thirds_95 rfl rfl ?_
              refine v_iload 4 (pc' := 98) rfl dX11_thirds_96 rfl ?_
              refine v_aload_n 0 (pc' := 99) rfl dX11_thirds_98 rfl rfl ?_
              refine v_getR (pc' := 102) rfl dX11_thirds_99 fk_RX11_7 ly_63 rfl ?_
              refine v_iload 5 (pc' := 104) rfl dX11_thirds_102 rfl ?_
              refine v_iald (z := ((cdk (pn n j) n : Nat) : Int)) (pc' := 105) rfl dX11_thirds_104 ly_64 (by omega) (by omega) rfl (by rw [show i5.toNat = j by omega, hsm 64 j rfl]; exact (rPK j (by omega)).1) ?_
              refine v_cVi (pc' := 108) rfl dX11_thirds_105 lk_RX11_155 ly_63 rfl (c_facesOfM l G hsv' rfl hSp hpj.1 hn1 hn7 wm g0) rfl rfl rfl (fun facesOf1 w6 hq6 => ?_)
              obtain ⟨f6, z6⟩ := hq6
              have g0 : w6 63 0 = (n : Int) := (f6 63 0 (by decide)).trans g0
              have g3 : w6 63 3 = ((facN n : Nat) : Int) := (f6 63 3 (by decide)).trans g3
              have g4 : w6 63 4 = ((kmany n : Nat) : Int) := (f6 63 4 (by decide)).trans g4
              refine v_cVR (pc' := 111) rfl dX11_thirds_108 lk_RX11_355 ly_63 rfl (c_kindOfCode l G z6 (Pm.face hn7 hSp hpj.1) hn1 hn7 w6 g3 (fun i hi => by rw [f6 64 i rfl, f6 65 i rfl, hsm 64 i rfl, hsm 65 i rfl]; exact rPK i hi)) rfl rfl rfl (fun kindOfCode1 hkindOfCode1 => ?_)
              obtain ⟨i3, h3, hkz5, hkk3⟩ := hkindOfCode1.get
              rw [kind_face hn1 hn7 hSp hpj.1] at hkk3
              refine v_iconst (pc' := 112) rfl dX11_thirds_111 ?_
              refine v_zast (z := 1) (pc' := 113) rfl dX11_thirds_112 ly_90 (by omega) (by omega) rfl (rfl) ?_
              refine v_nmw (fun w8 hw8 => ?_)
              have g0 : w8 63 0 = (n : Int) := by rw [hw8, up_ne _ _ (by omega)]; exact g0
              have g3 : w8 63 3 = ((facN n : Nat) : Int) := by rw [hw8, up_ne _ _ (by omega)]; exact g3
              have g4 : w8 63 4 = ((kmany n : Nat) : Int) := by rw [hw8, up_ne _ _ (by omega)]; exact g4
              refine v_iinc (ls' := [(5, _), (0, _), (1, _), (2, _), (3, _), (4, _)]) 5 (pc' := 116) rfl dX11_thirds_113 rfl rfl rfl ?_
              refine v_nl (fun i5' hi5' => ?_)
              refine v_goto (tgt := 66) dX11_thirds_116 (by decide) ?_
              refine v_ls [1, 2, 3, 4, 5, 0] rfl ?_
              exact ih1 (i5') w8 (⟨j + 1, by omega, by omega, fun x hx => by
                  have hy := thr_yes hn7 heq2 h3 hkk3.symm hx
                  rw [hw8, up_at]
                  by_cases q : x = i3
                  · rw [if_pos ⟨rfl, by omega⟩, if_pos (hy.mpr (Or.inl q))]
                  · rw [if_neg (fun e => q (by omega)), f6 90 x rfl, hT x hx]
                    by_cases r : 0 < cntI (tPA n (leastF (kT n i1) n) (kT n i2) (kT n x)) j
                    · rw [if_pos r, if_pos (hy.mpr (Or.inr r))]
                    · rw [if_neg r, if_neg (fun e => (hy.mp e).elim q r)], by rw [hw8]; exact (hsm.tr (Scr.of f6 (by decide))).up (keepB_ne (by decide) _ 0)⟩) (by omega)
        ·
          refine v_aload_n 0 (pc' := 38) rfl dX11_thirds_37 rfl rfl ?_
          refine v_getR (pc' := 41) rfl dX11_thirds_38 fk_RX11_89 ly_63 rfl ?_
          refine v_iload 4 (pc' := 43) rfl dX11_thirds_41 rfl ?_
          refine v_iconst (pc' := 44) rfl dX11_thirds_43 ?_
          refine v_zast (z := 0) (pc' := 45) rfl dX11_thirds_44 ly_90 (by omega) (by omega) rfl (rfl) ?_
          refine v_nmw (fun w3 hw3 => ?_)
          have g0 : w3 63 0 = (n : Int) := by rw [hw3, up_ne _ _ (by omega)]; exact g0
          have g3 : w3 63 3 = ((facN n : Nat) : Int) := by rw [hw3, up_ne _ _ (by omega)]; exact g3
          have g4 : w3 63 4 = ((kmany n : Nat) : Int) := by rw [hw3, up_ne _ _ (by omega)]; exact g4
          refine v_iinc (ls' := [(4, _), (0, _), (1, _), (2, _), (3, _)]) 4 (pc' := 48) rfl dX11_thirds_45 rfl rfl rfl ?_
          refine v_nl (fun i' hi' => ?_)
          refine v_goto (tgt := 28) dX11_thirds_48 (by decide) ?_
          refine v_ls [1, 2, 3, 4, 0] rfl ?_
          exact ih0 (i') w3 (⟨j + 1, by omega, by omega, fun x hx => by
              rw [hw3, up_at]
              by_cases q : x = j
              · rw [if_pos ⟨rfl, by omega⟩]
              · rw [if_neg (fun e => q (by omega))]; exact hZ x (by omega), by rw [hw3]; exact hsc.up (keepB_ne (by decide) _ 0)⟩) (by omega)
      ·
        have hn2 : ¬ (-1 ≤ i0) := by omega
        refine v_iconst (pc' := 24) rfl dX11_thirds_23 ?_
        refine v_iret dX11_thirds_24 (by decide) (rfl) ?_
        first | exact ⟨Scr.rf _, Or.inl ⟨fun q => hz q.1, rfl⟩⟩ | exact ⟨Scr.rf _, Or.inl ⟨fun q => hn2 q.2, rfl⟩⟩

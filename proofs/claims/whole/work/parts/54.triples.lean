/-! ===== DrawnMaps: triples, connectedMaps, genera, thirds ===== -/
def fil (P : Nat → Bool) (m : Nat) : List Nat := (List.range m).filter P
theorem fil_s (P : Nat → Bool) (k : Nat) : fil P (k + 1) = if P k = true then fil P k ++ [k] else fil P k := by
  unfold fil
  rw [List.range_succ, List.filter_append]
  by_cases h : P k = true
  · rw [if_pos h]; simp [h]
  · rw [if_neg h]; simp [h]
theorem fil_at {P : Nat → Bool} {k m : Nat} (h : k < m) (hP : P k = true) : (fil P k).length < (fil P m).length ∧ (fil P m).getD (fil P k).length 0 = k := by
  have pre : ∀ j, k + 1 ≤ j → ∃ Y, fil P j = fil P k ++ k :: Y := by
    intro j hj
    induction j with
    | zero => omega
    | succ j ih =>
      by_cases q : j = k
      · subst q; exact ⟨[], by rw [fil_s, if_pos hP]⟩
      · obtain ⟨Y, e⟩ := ih (by omega)
        rw [fil_s]
        split
        · exact ⟨Y ++ [j], by rw [e]; simp⟩
        · exact ⟨Y, e⟩
  obtain ⟨Y, e⟩ := pre m (by omega)
  rw [e]
  refine ⟨by rw [List.length_append, List.length_cons]; omega, ?_⟩
  rw [List.getD_eq_getElem?_getD, List.getElem?_append_right (Nat.le_refl _), Nat.sub_self]; rfl
theorem fil_len (P : Nat → Bool) : ∀ k, (fil P k).length ≤ k
  | 0 => Nat.le_refl _
  | k + 1 => by
    have := fil_len P k
    rw [fil_s]; split
    · rw [List.length_append]; simp; omega
    · omega
def pickI (L : List Nat) (v : Nat → Int) (i : Int) : Int := if i = -1 then (L.length : Int) else if i < (L.length : Int) then v (L.getD i.toNat 0) else -2
theorem pick_hit {P : Nat → Bool} {k m : Nat} {v : Nat → Int} {i : Int} (h : k < m) (hP : P k = true) (hi : i = ((fil P k).length : Nat)) : pickI (fil P m) v i = v k := by
  have := fil_at h hP
  unfold pickI
  rw [if_neg (by omega), if_pos (by omega), hi, Int.toNat_natCast, this.2]
theorem pick_all {L : List Nat} {v : Nat → Int} {i : Int} (hi : i = -1) : pickI L v i = (L.length : Nat) := if_pos hi
theorem pick_no {L : List Nat} {v : Nat → Int} {i : Int} (hi : i ≠ -1) (h : (L.length : Int) ≤ i) : pickI L v i = -2 := by
  unfold pickI; rw [if_neg hi, if_neg (by omega)]
def KN3 (n : Nat) (t1 t2 t3 : Int) : Prop := kndB n t1 = true ∧ kndB n t2 = true ∧ kndB n t3 = true
def conI (n i1 i2 i3 : Nat) : Int := (membersN (kT n i1) n : Int) * ((cntI (tPC n (leastF (kT n i1) n) (kT n i2) (kT n i3)) (facN n) : Nat) : Int)
def triI (n i1 i2 i3 : Nat) (what : Int) : Int :=
  if what = 0 then (membersN (kT n i1) n : Int) * ((cntI (tPA n (leastF (kT n i1) n) (kT n i2) (kT n i3)) (facN n) : Nat) : Int)
  else if what = 1 then conI n i1 i2 i3 else if what = 2 then bcI n i1 i2 i3 else -1
def TriP (n : Nat) (t1 t2 t3 what z : Int) : Prop := (¬ KN3 n t1 t2 t3 ∧ z = -1) ∨
  ∃ i1 i2 i3, (i1 < kmany n ∧ i2 < kmany n ∧ i3 < kmany n) ∧ (t1 = (kT n i1 : Nat) ∧ t2 = (kT n i2 : Nat) ∧ t3 = (kT n i3 : Nat)) ∧ z = triI n i1 i2 i3 what
theorem CInv_tal {w' : Wd} {n i1 i2 : Nat} (hn1 : 1 ≤ n) (hn7 : n ≤ 7) (h1 : i1 < kmany n) (h2 : i2 < kmany n) (a : CP w' n) (b : w' 19 6 = (kT n i1 : Nat) ∧ w' 19 7 = (kT n i2 : Nat)) (c : CT w' n i1 i2 (facN n)) (d : LisOK w' n) : CInv w' :=
  Or.inr ⟨n, ⟨hn1, hn7⟩, a, Or.inr ⟨i1, i2, ⟨h1, h2⟩, b.1, b.2, c⟩, d⟩
theorem cnt_rg {n : Nat} (hn1 : 1 ≤ n) (hn7 : n ≤ 7) (P : Nat → Bool) : cntI P (facN n) ≤ 5040 := by
  have := cntI_le P (facN n)
  have := fac_le hn1 hn7
  omega
set_option maxHeartbeats 4000000 in
set_option maxRecDepth 100000 in
theorem c_connectedMaps (l : Launch) (G : Gx) {t1 t2 t3 : Int} {n : Nat} {s a : Nat → Nat} (hV : MapV n s a) {i1 i2 i3 : Nat} (h1 : i1 < kmany n) (h2 : i2 < kmany n) (ht1 : t1 = (kT n i1 : Nat)) (ht2 : t2 = (kT n i2 : Nat)) (h3 : i3 < kmany n) (ht3 : t3 = (kT n i3 : Nat)) (w : Wd) (hM : MapW w n s a) (hI : CInv w) : Sp l G 6 mX10_connectedMaps [aR 0, aI (t1), aI (t2), aI (t3)] w (fun z w' => Fr [19, 20, 21, 22, 23] w w' ∧ CInv w' ∧ z = conI n i1 i2 i3) := by
  obtain ⟨⟨hn1, hn7⟩, hs, ha⟩ := id hV
  obtain ⟨m0, m1, m2⟩ := id hM
  have hmb := (kt_ok n (by omega) i1 h1).2.2
  have hcb := cnt_rg hn1 hn7 (tPC n (leastF (kT n i1) n) (kT n i2) (kT n i3))
  refine Sp_of RX10 rfl (by decide +kernel) rfl (Nat.le_of_ble_eq_true rfl) ?_
  refine v_aload_n 0 (pc' := 1) rfl dX10_connectedMaps_0 rfl rfl ?_
  refine v_getR (pc' := 4) rfl dX10_connectedMaps_1 fk_RX10_55 ly_0 rfl ?_
  refine v_aload_n 0 (pc' := 5) rfl dX10_connectedMaps_4 rfl rfl ?_
  refine v_getR (pc' := 8) rfl dX10_connectedMaps_5 fk_RX10_16 ly_0 rfl ?_
  refine v_get (z := (n : Int)) (pc' := 11) rfl dX10_connectedMaps_8 fk_RX10_81 ly_2 rfl (m0) ?_
  refine v_iload_n 1 (pc' := 12) rfl dX10_connectedMaps_11 rfl rfl ?_
  refine v_iload_n 2 (pc' := 13) rfl dX10_connectedMaps_12 rfl rfl ?_
  refine v_cVv (pc' := 16) rfl dX10_connectedMaps_13 lk_RX10_298 ly_19 rfl (c_tally l G (n := n) rfl hn1 hn7 h1 h2 ht1 ht2 w hI) rfl rfl rfl (fun tally1 w1 hq1 => ?_)
  obtain ⟨tP, tK, tC, tL, f1⟩ := hq1
  have hI2 := CInv_tal hn1 hn7 h1 h2 tP tK tC tL
  have g2 := tP.1
  have m0 : w1 2 0 = (n : Int) := (f1 2 0 (by decide)).trans m0
  have m1 : w1 2 1 = ((hx s : Nat) : Int) := (f1 2 1 (by decide)).trans m1
  have m2 : w1 2 2 = ((hx a : Nat) : Int) := (f1 2 2 (by decide)).trans m2
  refine v_iload_n 1 (pc' := 17) rfl dX10_connectedMaps_16 rfl rfl ?_
  refine v_aload_n 0 (pc' := 18) rfl dX10_connectedMaps_17 rfl rfl ?_
  refine v_getR (pc' := 21) rfl dX10_connectedMaps_18 fk_RX10_16 ly_0 rfl ?_
  refine v_get (z := (n : Int)) (pc' := 24) rfl dX10_connectedMaps_21 fk_RX10_81 ly_2 rfl (m0) ?_
  refine v_cSP (pc' := 27) rfl dX10_connectedMaps_24 lk_RX10_289 rfl (c_members l G ht1 (by have := kT_le hn7 h1; omega) (kt_ok n (by omega) _ h1).2.1.1 (kt_ok n (by omega) _ h1).2.1.2 rfl hn1 hn7 w1) rfl rfl rfl ?_
  refine v_nm (fun members1 hmembers1 => ?_)
  refine v_i2l (pc' := 28) rfl dX10_connectedMaps_27 (by omega) ?_
  refine v_aload_n 0 (pc' := 29) rfl dX10_connectedMaps_28 rfl rfl ?_
  refine v_getR (pc' := 32) rfl dX10_connectedMaps_29 fk_RX10_55 ly_0 rfl ?_
  refine v_iload_n 3 (pc' := 33) rfl dX10_connectedMaps_32 rfl rfl ?_
  refine v_cVP (pc' := 36) rfl dX10_connectedMaps_33 lk_RX10_312 ly_19 rfl (c_foundConnected l G hn1 hn7 h3 ht3 w1 g2 tC) rfl rfl rfl ?_
  refine v_nm (fun foundConnected1 hfoundConnected1 => ?_)
  refine v_i2l (pc' := 37) rfl dX10_connectedMaps_36 (by omega) ?_
  refine v_lmul (pc' := 38) rfl dX10_connectedMaps_37 ?_
  refine v_lret dX10_connectedMaps_38 ?_
  exact ⟨f1, hI2, by unfold conI; rw [hmembers1, hfoundConnected1]⟩
set_option maxHeartbeats 4000000 in
set_option maxRecDepth 100000 in
theorem c_triples (l : Launch) (G : Gx) {t1 t2 t3 what : Int} (hr1 : rg t1) (hr2 : rg t2) (hr3 : rg t3) (hwt : rg what) {n : Nat} {s a : Nat → Nat} (hV : MapV n s a) (w : Wd) (hM : MapW w n s a) (hI : CInv w) : Sp l G 10 mX10_triples [aR 0, aI (t1), aI (t2), aI (t3), aI (what)] w (fun z w' => Fr [19, 20, 21, 22, 23] w w' ∧ CInv w' ∧ TriP n t1 t2 t3 what z) := by
  obtain ⟨⟨hn1, hn7⟩, hs, ha⟩ := id hV
  obtain ⟨m0, m1, m2⟩ := id hM
  refine Sp_of RX10 rfl (by decide +kernel) rfl (Nat.le_of_ble_eq_true rfl) ?_
  refine v_aload_n 0 (pc' := 1) rfl dX10_triples_0 rfl rfl ?_
  refine v_iload_n 1 (pc' := 2) rfl dX10_triples_1 rfl rfl ?_
  refine v_cVP (pc' := 5) rfl dX10_triples_2 lk_RX10_250 ly_0 rfl (c_kindStands l G hr1 hV w hM) rfl rfl rfl ?_
  refine v_nm (fun kindStands1 hkindStands1 => ?_)
  refine v_if_eq (pc' := 8) (tgt := 24) rfl dX10_triples_5 (by decide) (kn_r hkindStands1) (fun c0 => ?_) (fun c0 => ?_)
  ·
    have q1 := kn_0 hkindStands1 (by omega)
    have hz : ¬ KN3 n t1 t2 t3 := fun q => q1 q.1
    refine v_ldc2 (z := (-1)) (pc' := 27) rfl dX10_triples_24 kc_RX10_296 ?_
    refine v_lret dX10_triples_27 ?_
    first | exact ⟨Fr.rf _ _, hI, Or.inl ⟨hz, rfl⟩⟩ | exact ⟨f1, hI2, Or.inr ⟨i1, i2, i3, ⟨h1, h2, h3⟩, ⟨ht1, ht2, ht3⟩, by rw [hT, hmembers1, hfound1]⟩⟩ | exact ⟨hq7.1, hq7.2.1, Or.inr ⟨i1, i2, i3, ⟨h1, h2, h3⟩, ⟨ht1, ht2, ht3⟩, hq7.2.2.trans hT.symm⟩⟩ | exact ⟨Fr.rf _ _, hI, Or.inr ⟨i1, i2, i3, ⟨h1, h2, h3⟩, ⟨ht1, ht2, ht3⟩, hbyCharacters1.trans hT.symm⟩⟩ | exact ⟨Fr.rf _ _, hI, Or.inr ⟨i1, i2, i3, ⟨h1, h2, h3⟩, ⟨ht1, ht2, ht3⟩, hT.symm⟩⟩
  ·
    have q1 := kn_1 hkindStands1 (by omega)
    refine v_aload_n 0 (pc' := 9) rfl dX10_triples_8 rfl rfl ?_
    refine v_iload_n 2 (pc' := 10) rfl dX10_triples_9 rfl rfl ?_
    refine v_cVP (pc' := 13) rfl dX10_triples_10 lk_RX10_250 ly_0 rfl (c_kindStands l G hr2 hV w hM) rfl rfl rfl ?_
    refine v_nm (fun kindStands2 hkindStands2 => ?_)
    refine v_if_eq (pc' := 16) (tgt := 24) rfl dX10_triples_13 (by decide) (kn_r hkindStands2) (fun c1 => ?_) (fun c1 => ?_)
    ·
      have q2 := kn_0 hkindStands2 (by omega)
      have hz : ¬ KN3 n t1 t2 t3 := fun q => q2 q.2.1
      refine v_ldc2 (z := (-1)) (pc' := 27) rfl dX10_triples_24 kc_RX10_296 ?_
      refine v_lret dX10_triples_27 ?_
      first | exact ⟨Fr.rf _ _, hI, Or.inl ⟨hz, rfl⟩⟩ | exact ⟨f1, hI2, Or.inr ⟨i1, i2, i3, ⟨h1, h2, h3⟩, ⟨ht1, ht2, ht3⟩, by rw [hT, hmembers1, hfound1]⟩⟩ | exact ⟨hq7.1, hq7.2.1, Or.inr ⟨i1, i2, i3, ⟨h1, h2, h3⟩, ⟨ht1, ht2, ht3⟩, hq7.2.2.trans hT.symm⟩⟩ | exact ⟨Fr.rf _ _, hI, Or.inr ⟨i1, i2, i3, ⟨h1, h2, h3⟩, ⟨ht1, ht2, ht3⟩, hbyCharacters1.trans hT.symm⟩⟩ | exact ⟨Fr.rf _ _, hI, Or.inr ⟨i1, i2, i3, ⟨h1, h2, h3⟩, ⟨ht1, ht2, ht3⟩, hT.symm⟩⟩
    ·
      have q2 := kn_1 hkindStands2 (by omega)
      refine v_aload_n 0 (pc' := 17) rfl dX10_triples_16 rfl rfl ?_
      refine v_iload_n 3 (pc' := 18) rfl dX10_triples_17 rfl rfl ?_
      refine v_cVP (pc' := 21) rfl dX10_triples_18 lk_RX10_250 ly_0 rfl (c_kindStands l G hr3 hV w hM) rfl rfl rfl ?_
      refine v_nm (fun kindStands3 hkindStands3 => ?_)
      refine v_if_ne (pc' := 24) (tgt := 28) rfl dX10_triples_21 (by decide) (kn_r hkindStands3) (fun c2 => ?_) (fun c2 => ?_)
      ·
        have q3 := kn_1 hkindStands3 (by omega)
        obtain ⟨i1, h1, ht1'⟩ := kndB_iff.mp q1
        obtain ⟨i2, h2, ht2'⟩ := kndB_iff.mp q2
        obtain ⟨i3, h3, ht3'⟩ := kndB_iff.mp q3
        have ht1 := ht1'.symm
        have ht2 := ht2'.symm
        have ht3 := ht3'.symm
        have hmb := (kt_ok n (by omega) i1 h1).2.2
        have hcb := cnt_rg hn1 hn7 (tPA n (leastF (kT n i1) n) (kT n i2) (kT n i3))
        refine v_iload 4 (pc' := 30) rfl dX10_triples_28 rfl ?_
        rcases (show what = 0 ∨ what = 1 ∨ what = 2 ∨ (what < 0 ∨ 2 < what) by omega) with sw0 | sw0 | sw0 | sw0
        ·
          refine v_tin (tgt := 56) 0 dX10_triples_30 sw0 (by decide) (by decide) (by decide) rfl (by decide) ?_
          have hT : triI n i1 i2 i3 what = (membersN (kT n i1) n : Int) * ((cntI (tPA n (leastF (kT n i1) n) (kT n i2) (kT n i3)) (facN n) : Nat) : Int) := by unfold triI; rw [if_pos sw0]
          refine v_aload_n 0 (pc' := 57) rfl dX10_triples_56 rfl rfl ?_
          refine v_getR (pc' := 60) rfl dX10_triples_57 fk_RX10_55 ly_0 rfl ?_
          refine v_aload_n 0 (pc' := 61) rfl dX10_triples_60 rfl rfl ?_
          refine v_getR (pc' := 64) rfl dX10_triples_61 fk_RX10_16 ly_0 rfl ?_
          refine v_get (z := (n : Int)) (pc' := 67) rfl dX10_triples_64 fk_RX10_81 ly_2 rfl (m0) ?_
          refine v_iload_n 1 (pc' := 68) rfl dX10_triples_67 rfl rfl ?_
          refine v_iload_n 2 (pc' := 69) rfl dX10_triples_68 rfl rfl ?_
          refine v_cVv (pc' := 72) rfl dX10_triples_69 lk_RX10_298 ly_19 rfl (c_tally l G (n := n) rfl hn1 hn7 h1 h2 ht1 ht2 w hI) rfl rfl rfl (fun tally1 w4 hq4 => ?_)
          obtain ⟨tP, tK, tC, tL, f1⟩ := hq4
          have hI2 := CInv_tal hn1 hn7 h1 h2 tP tK tC tL
          have g2 := tP.1
          have m0 : w4 2 0 = (n : Int) := (f1 2 0 (by decide)).trans m0
          have m1 : w4 2 1 = ((hx s : Nat) : Int) := (f1 2 1 (by decide)).trans m1
          have m2 : w4 2 2 = ((hx a : Nat) : Int) := (f1 2 2 (by decide)).trans m2
          refine v_iload_n 1 (pc' := 73) rfl dX10_triples_72 rfl rfl ?_
          refine v_aload_n 0 (pc' := 74) rfl dX10_triples_73 rfl rfl ?_
          refine v_getR (pc' := 77) rfl dX10_triples_74 fk_RX10_16 ly_0 rfl ?_
          refine v_get (z := (n : Int)) (pc' := 80) rfl dX10_triples_77 fk_RX10_81 ly_2 rfl (m0) ?_
          refine v_cSP (pc' := 83) rfl dX10_triples_80 lk_RX10_289 rfl (c_members l G ht1 (by have := kT_le hn7 h1; omega) (kt_ok n (by omega) _ h1).2.1.1 (kt_ok n (by omega) _ h1).2.1.2 rfl hn1 hn7 w4) rfl rfl rfl ?_
          refine v_nm (fun members1 hmembers1 => ?_)
          refine v_i2l (pc' := 84) rfl dX10_triples_83 (by omega) ?_
          refine v_aload_n 0 (pc' := 85) rfl dX10_triples_84 rfl rfl ?_
          refine v_getR (pc' := 88) rfl dX10_triples_85 fk_RX10_55 ly_0 rfl ?_
          refine v_iload_n 3 (pc' := 89) rfl dX10_triples_88 rfl rfl ?_
          refine v_cVP (pc' := 92) rfl dX10_triples_89 lk_RX10_301 ly_19 rfl (c_found1 l G hn1 hn7 h3 ht3 w4 g2 tC) rfl rfl rfl ?_
          refine v_nm (fun found1 hfound1 => ?_)
          refine v_i2l (pc' := 93) rfl dX10_triples_92 (by omega) ?_
          refine v_lmul (pc' := 94) rfl dX10_triples_93 ?_
          refine v_lret dX10_triples_94 ?_
          first | exact ⟨Fr.rf _ _, hI, Or.inl ⟨hz, rfl⟩⟩ | exact ⟨f1, hI2, Or.inr ⟨i1, i2, i3, ⟨h1, h2, h3⟩, ⟨ht1, ht2, ht3⟩, by rw [hT, hmembers1, hfound1]⟩⟩ | exact ⟨hq7.1, hq7.2.1, Or.inr ⟨i1, i2, i3, ⟨h1, h2, h3⟩, ⟨ht1, ht2, ht3⟩, hq7.2.2.trans hT.symm⟩⟩ | exact ⟨Fr.rf _ _, hI, Or.inr ⟨i1, i2, i3, ⟨h1, h2, h3⟩, ⟨ht1, ht2, ht3⟩, hbyCharacters1.trans hT.symm⟩⟩ | exact ⟨Fr.rf _ _, hI, Or.inr ⟨i1, i2, i3, ⟨h1, h2, h3⟩, ⟨ht1, ht2, ht3⟩, hT.symm⟩⟩
        ·
          refine v_tin (tgt := 95) 1 dX10_triples_30 sw0 (by decide) (by decide) (by decide) rfl (by decide) ?_
          have hT : triI n i1 i2 i3 what = conI n i1 i2 i3 := by unfold triI; rw [if_neg (by omega), if_pos sw0]
          refine v_aload_n 0 (pc' := 96) rfl dX10_triples_95 rfl rfl ?_
          refine v_iload_n 1 (pc' := 97) rfl dX10_triples_96 rfl rfl ?_
          refine v_iload_n 2 (pc' := 98) rfl dX10_triples_97 rfl rfl ?_
          refine v_iload_n 3 (pc' := 99) rfl dX10_triples_98 rfl rfl ?_
          refine v_cVl (pc' := 102) rfl dX10_triples_99 lk_RX10_304 ly_0 rfl (c_connectedMaps l G hV h1 h2 ht1 ht2 h3 ht3 w hM hI) rfl rfl rfl (fun connectedMaps1 w7 hq7 => ?_)
          refine v_lret dX10_triples_102 ?_
          first | exact ⟨Fr.rf _ _, hI, Or.inl ⟨hz, rfl⟩⟩ | exact ⟨f1, hI2, Or.inr ⟨i1, i2, i3, ⟨h1, h2, h3⟩, ⟨ht1, ht2, ht3⟩, by rw [hT, hmembers1, hfound1]⟩⟩ | exact ⟨hq7.1, hq7.2.1, Or.inr ⟨i1, i2, i3, ⟨h1, h2, h3⟩, ⟨ht1, ht2, ht3⟩, hq7.2.2.trans hT.symm⟩⟩ | exact ⟨Fr.rf _ _, hI, Or.inr ⟨i1, i2, i3, ⟨h1, h2, h3⟩, ⟨ht1, ht2, ht3⟩, hbyCharacters1.trans hT.symm⟩⟩ | exact ⟨Fr.rf _ _, hI, Or.inr ⟨i1, i2, i3, ⟨h1, h2, h3⟩, ⟨ht1, ht2, ht3⟩, hT.symm⟩⟩
        ·
          refine v_tin (tgt := 103) 2 dX10_triples_30 sw0 (by decide) (by decide) (by decide) rfl (by decide) ?_
          have hT : triI n i1 i2 i3 what = bcI n i1 i2 i3 := by unfold triI; rw [if_neg (by omega), if_neg (by omega), if_pos sw0]
          refine v_iload_n 1 (pc' := 104) rfl dX10_triples_103 rfl rfl ?_
          refine v_iload_n 2 (pc' := 105) rfl dX10_triples_104 rfl rfl ?_
          refine v_iload_n 3 (pc' := 106) rfl dX10_triples_105 rfl rfl ?_
          refine v_aload_n 0 (pc' := 107) rfl dX10_triples_106 rfl rfl ?_
          refine v_getR (pc' := 110) rfl dX10_triples_107 fk_RX10_16 ly_0 rfl ?_
          refine v_get (z := (n : Int)) (pc' := 113) rfl dX10_triples_110 fk_RX10_81 ly_2 rfl (m0) ?_
          refine v_cSPL (pc' := 116) rfl dX10_triples_113 lk_RX10_308 rfl (c_byCharacters l G ht1 ht2 ht3 rfl hn1 hn7 h1 h2 h3 w) rfl rfl rfl ?_
          refine v_nmL (fun byCharacters1 hbyCharacters1 => ?_)
          refine v_lret dX10_triples_116 ?_
          first | exact ⟨Fr.rf _ _, hI, Or.inl ⟨hz, rfl⟩⟩ | exact ⟨f1, hI2, Or.inr ⟨i1, i2, i3, ⟨h1, h2, h3⟩, ⟨ht1, ht2, ht3⟩, by rw [hT, hmembers1, hfound1]⟩⟩ | exact ⟨hq7.1, hq7.2.1, Or.inr ⟨i1, i2, i3, ⟨h1, h2, h3⟩, ⟨ht1, ht2, ht3⟩, hq7.2.2.trans hT.symm⟩⟩ | exact ⟨Fr.rf _ _, hI, Or.inr ⟨i1, i2, i3, ⟨h1, h2, h3⟩, ⟨ht1, ht2, ht3⟩, hbyCharacters1.trans hT.symm⟩⟩ | exact ⟨Fr.rf _ _, hI, Or.inr ⟨i1, i2, i3, ⟨h1, h2, h3⟩, ⟨ht1, ht2, ht3⟩, hT.symm⟩⟩
        ·
          refine v_tout (tgt := 117) dX10_triples_30 (by omega) sw0 (by decide) ?_
          have hT : triI n i1 i2 i3 what = -1 := by unfold triI; rw [if_neg (by omega), if_neg (by omega), if_neg (by omega)]
          refine v_ldc2 (z := (-1)) (pc' := 120) rfl dX10_triples_117 kc_RX10_296 ?_
          refine v_lret dX10_triples_120 ?_
          first | exact ⟨Fr.rf _ _, hI, Or.inl ⟨hz, rfl⟩⟩ | exact ⟨f1, hI2, Or.inr ⟨i1, i2, i3, ⟨h1, h2, h3⟩, ⟨ht1, ht2, ht3⟩, by rw [hT, hmembers1, hfound1]⟩⟩ | exact ⟨hq7.1, hq7.2.1, Or.inr ⟨i1, i2, i3, ⟨h1, h2, h3⟩, ⟨ht1, ht2, ht3⟩, hq7.2.2.trans hT.symm⟩⟩ | exact ⟨Fr.rf _ _, hI, Or.inr ⟨i1, i2, i3, ⟨h1, h2, h3⟩, ⟨ht1, ht2, ht3⟩, hbyCharacters1.trans hT.symm⟩⟩ | exact ⟨Fr.rf _ _, hI, Or.inr ⟨i1, i2, i3, ⟨h1, h2, h3⟩, ⟨ht1, ht2, ht3⟩, hT.symm⟩⟩
      ·
        have q3 := kn_0 hkindStands3 (by omega)
        have hz : ¬ KN3 n t1 t2 t3 := fun q => q3 q.2.2
        refine v_ldc2 (z := (-1)) (pc' := 27) rfl dX10_triples_24 kc_RX10_296 ?_
        refine v_lret dX10_triples_27 ?_
        first | exact ⟨Fr.rf _ _, hI, Or.inl ⟨hz, rfl⟩⟩ | exact ⟨f1, hI2, Or.inr ⟨i1, i2, i3, ⟨h1, h2, h3⟩, ⟨ht1, ht2, ht3⟩, by rw [hT, hmembers1, hfound1]⟩⟩ | exact ⟨hq7.1, hq7.2.1, Or.inr ⟨i1, i2, i3, ⟨h1, h2, h3⟩, ⟨ht1, ht2, ht3⟩, hq7.2.2.trans hT.symm⟩⟩ | exact ⟨Fr.rf _ _, hI, Or.inr ⟨i1, i2, i3, ⟨h1, h2, h3⟩, ⟨ht1, ht2, ht3⟩, hbyCharacters1.trans hT.symm⟩⟩ | exact ⟨Fr.rf _ _, hI, Or.inr ⟨i1, i2, i3, ⟨h1, h2, h3⟩, ⟨ht1, ht2, ht3⟩, hT.symm⟩⟩
theorem partsT_ok : ∀ n : Nat, n < 8 → ∀ i : Nat, i < kmany n → 1 ≤ partsT (kT n i) ∧ partsT (kT n i) ≤ 7 := by decide +kernel
def genS (n i1 i2 : Nat) (third : Int) : Nat → Int
  | 0 => 0
  | k + 1 => genS n i1 i2 third k + (if (partsT (kT n k) : Int) = third then ((cntI (tPC n (leastF (kT n i1) n) (kT n i2) (kT n k)) (facN n) : Nat) : Int) else 0)
theorem genS_le {n : Nat} (hn1 : 1 ≤ n) (hn7 : n ≤ 7) (i1 i2 : Nat) (third : Int) : ∀ k : Nat, 0 ≤ genS n i1 i2 third k ∧ genS n i1 i2 third k ≤ 5040 * (k : Int)
  | 0 => by simp [genS]
  | k + 1 => by
    have := genS_le hn1 hn7 i1 i2 third k
    have := cnt_rg hn1 hn7 (tPC n (leastF (kT n i1) n) (kT n i2) (kT n k))
    simp only [genS]
    split <;> omega
def genI (n i1 i2 : Nat) (g : Int) : Int := genS n i1 i2 ((n : Int) + 2 - 2 * g - (partsT (kT n i1) : Int) - (partsT (kT n i2) : Int)) (kmany n) * (membersN (kT n i1) n : Int)
def KN2 (n : Nat) (t1 t2 : Int) : Prop := kndB n t1 = true ∧ kndB n t2 = true
def GenP (n : Nat) (t1 t2 g z : Int) : Prop := (¬ (KN2 n t1 t2 ∧ 0 ≤ g ∧ g ≤ 3) ∧ z = -1) ∨
  ∃ i1 i2, (i1 < kmany n ∧ i2 < kmany n) ∧ (t1 = (kT n i1 : Nat) ∧ t2 = (kT n i2 : Nat)) ∧ (0 ≤ g ∧ g ≤ 3) ∧ z = genI n i1 i2 g
set_option maxHeartbeats 4000000 in
set_option maxRecDepth 100000 in
theorem c_genera (l : Launch) (G : Gx) {t1 t2 g : Int} (hr1 : rg t1) (hr2 : rg t2) (hg : rg g) {n : Nat} {s a : Nat → Nat} (hV : MapV n s a) (w : Wd) (hM : MapW w n s a) (hI : CInv w) : Sp l G 6 mX10_genera [aR 0, aI (t1), aI (t2), aI (g)] w (fun z w' => Fr [19, 20, 21, 22, 23] w w' ∧ CInv w' ∧ GenP n t1 t2 g z) := by
  obtain ⟨⟨hn1, hn7⟩, hs, ha⟩ := id hV
  obtain ⟨m0, m1, m2⟩ := id hM
  have hkm := kmany_le n hn7
  refine Sp_of RX10 rfl (by decide +kernel) rfl (Nat.le_of_ble_eq_true rfl) ?_
  refine v_aload_n 0 (pc' := 1) rfl dX10_genera_0 rfl rfl ?_
  refine v_iload_n 1 (pc' := 2) rfl dX10_genera_1 rfl rfl ?_
  refine v_cVP (pc' := 5) rfl dX10_genera_2 lk_RX10_250 ly_0 rfl (c_kindStands l G hr1 hV w hM) rfl rfl rfl ?_
  refine v_nm (fun kindStands1 hkindStands1 => ?_)
  refine v_if_eq (pc' := 8) (tgt := 25) rfl dX10_genera_5 (by decide) (kn_r hkindStands1) (fun c0 => ?_) (fun c0 => ?_)
  ·
    have q1 := kn_0 hkindStands1 (by omega)
    have hz : ¬ (KN2 n t1 t2 ∧ 0 ≤ g ∧ g ≤ 3) := fun q => q1 q.1.1
    refine v_ldc2 (z := (-1)) (pc' := 28) rfl dX10_genera_25 kc_RX10_296 ?_
    refine v_lret dX10_genera_28 ?_
    first | exact ⟨Fr.rf _ _, hI, Or.inl ⟨hz, rfl⟩⟩ | exact ⟨f1, hI2, Or.inr ⟨i1, i2, ⟨h1, h2⟩, ⟨ht1, ht2⟩, by omega, by unfold genI; rw [hsum, hke, hmembers1]⟩⟩
  ·
    have q1 := kn_1 hkindStands1 (by omega)
    refine v_aload_n 0 (pc' := 9) rfl dX10_genera_8 rfl rfl ?_
    refine v_iload_n 2 (pc' := 10) rfl dX10_genera_9 rfl rfl ?_
    refine v_cVP (pc' := 13) rfl dX10_genera_10 lk_RX10_250 ly_0 rfl (c_kindStands l G hr2 hV w hM) rfl rfl rfl ?_
    refine v_nm (fun kindStands2 hkindStands2 => ?_)
    refine v_if_eq (pc' := 16) (tgt := 25) rfl dX10_genera_13 (by decide) (kn_r hkindStands2) (fun c1 => ?_) (fun c1 => ?_)
    ·
      have q2 := kn_0 hkindStands2 (by omega)
      have hz : ¬ (KN2 n t1 t2 ∧ 0 ≤ g ∧ g ≤ 3) := fun q => q2 q.1.2
      refine v_ldc2 (z := (-1)) (pc' := 28) rfl dX10_genera_25 kc_RX10_296 ?_
      refine v_lret dX10_genera_28 ?_
      first | exact ⟨Fr.rf _ _, hI, Or.inl ⟨hz, rfl⟩⟩ | exact ⟨f1, hI2, Or.inr ⟨i1, i2, ⟨h1, h2⟩, ⟨ht1, ht2⟩, by omega, by unfold genI; rw [hsum, hke, hmembers1]⟩⟩
    ·
      have q2 := kn_1 hkindStands2 (by omega)
      have hz2 : ¬ (0 ≤ g ∧ g ≤ 3) → ¬ (KN2 n t1 t2 ∧ 0 ≤ g ∧ g ≤ 3) := fun a b => a b.2
      refine v_iload_n 3 (pc' := 17) rfl dX10_genera_16 rfl rfl ?_
      refine v_if_lt (pc' := 20) (tgt := 25) rfl dX10_genera_17 (by decide) (by omega) (fun c2 => ?_) (fun c2 => ?_)
      ·
        have hz := hz2 (by omega)
        refine v_ldc2 (z := (-1)) (pc' := 28) rfl dX10_genera_25 kc_RX10_296 ?_
        refine v_lret dX10_genera_28 ?_
        first | exact ⟨Fr.rf _ _, hI, Or.inl ⟨hz, rfl⟩⟩ | exact ⟨f1, hI2, Or.inr ⟨i1, i2, ⟨h1, h2⟩, ⟨ht1, ht2⟩, by omega, by unfold genI; rw [hsum, hke, hmembers1]⟩⟩
      ·
        refine v_iload_n 3 (pc' := 21) rfl dX10_genera_20 rfl rfl ?_
        refine v_iconst (pc' := 22) rfl dX10_genera_21 ?_
        refine v_icmp_le (pc' := 25) (tgt := 29) rfl dX10_genera_22 (by decide) (by omega) (by omega) (fun c3 => ?_) (fun c3 => ?_)
        ·
          obtain ⟨i1, h1, ht1'⟩ := kndB_iff.mp q1
          obtain ⟨i2, h2, ht2'⟩ := kndB_iff.mp q2
          have ht1 := ht1'.symm
          have ht2 := ht2'.symm
          have hmb := (kt_ok n (by omega) i1 h1).2.2
          have p1 := partsT_ok n (by omega) i1 h1
          have p2 := partsT_ok n (by omega) i2 h2
          refine v_aload_n 0 (pc' := 30) rfl dX10_genera_29 rfl rfl ?_
          refine v_getR (pc' := 33) rfl dX10_genera_30 fk_RX10_55 ly_0 rfl ?_
          refine v_aload_n 0 (pc' := 34) rfl dX10_genera_33 rfl rfl ?_
          refine v_getR (pc' := 37) rfl dX10_genera_34 fk_RX10_16 ly_0 rfl ?_
          refine v_get (z := (n : Int)) (pc' := 40) rfl dX10_genera_37 fk_RX10_81 ly_2 rfl (m0) ?_
          refine v_iload_n 1 (pc' := 41) rfl dX10_genera_40 rfl rfl ?_
          refine v_iload_n 2 (pc' := 42) rfl dX10_genera_41 rfl rfl ?_
          refine v_cVv (pc' := 45) rfl dX10_genera_42 lk_RX10_298 ly_19 rfl (c_tally l G (n := n) rfl hn1 hn7 h1 h2 ht1 ht2 w hI) rfl rfl rfl (fun tally1 w3 hq3 => ?_)
          obtain ⟨tP, tK, tC, tL, f1⟩ := hq3
          have hI2 := CInv_tal hn1 hn7 h1 h2 tP tK tC tL
          have g2 := tP.1
          have m0 : w3 2 0 = (n : Int) := (f1 2 0 (by decide)).trans m0
          have m1 : w3 2 1 = ((hx s : Nat) : Int) := (f1 2 1 (by decide)).trans m1
          have m2 : w3 2 2 = ((hx a : Nat) : Int) := (f1 2 2 (by decide)).trans m2
          refine v_aload_n 0 (pc' := 46) rfl dX10_genera_45 rfl rfl ?_
          refine v_getR (pc' := 49) rfl dX10_genera_46 fk_RX10_16 ly_0 rfl ?_
          refine v_get (z := (n : Int)) (pc' := 52) rfl dX10_genera_49 fk_RX10_81 ly_2 rfl (m0) ?_
          refine v_iconst (pc' := 53) rfl dX10_genera_52 ?_
          refine v_iadd (pc' := 54) rfl dX10_genera_53 ?_
          refine v_iconst (pc' := 55) rfl dX10_genera_54 ?_
          refine v_iload_n 3 (pc' := 56) rfl dX10_genera_55 rfl rfl ?_
          refine v_imul (pc' := 57) rfl dX10_genera_56 ?_
          refine v_isub (pc' := 58) rfl dX10_genera_57 ?_
          refine v_iload_n 1 (pc' := 59) rfl dX10_genera_58 rfl rfl ?_
          refine v_cSP (pc' := 62) rfl dX10_genera_59 lk_RX10_326 rfl (c_parts5 l G ht1 (by have := kT_le hn7 h1; omega) w3) rfl rfl rfl ?_
          refine v_nm (fun parts1 hparts1 => ?_)
          refine v_isub (pc' := 63) rfl dX10_genera_62 ?_
          refine v_iload_n 2 (pc' := 64) rfl dX10_genera_63 rfl rfl ?_
          refine v_cSP (pc' := 67) rfl dX10_genera_64 lk_RX10_326 rfl (c_parts5 l G ht2 (by have := kT_le hn7 h2; omega) w3) rfl rfl rfl ?_
          refine v_nm (fun parts2 hparts2 => ?_)
          refine v_isub (pc' := 68) rfl dX10_genera_67 ?_
          refine v_nm (fun third' hthird' => ?_)
          refine v_istore (ls' := [(4, _), (0, _), (1, _), (2, _), (3, _)]) (pc' := 70) rfl dX10_genera_68 rfl rfl ?_
          refine v_lconst (z := 0) (pc' := 71) rfl dX10_genera_70 rfl ?_
          refine v_lstore (ls' := [(5, _), (4, _), (0, _), (1, _), (2, _), (3, _)]) (pc' := 73) rfl dX10_genera_71 rfl rfl ?_
          refine v_iconst (pc' := 74) rfl dX10_genera_73 ?_
          refine v_istore (ls' := [(7, _), (5, _), (4, _), (0, _), (1, _), (2, _), (3, _)]) (pc' := 76) rfl dX10_genera_74 rfl rfl ?_
          refine v_ls [3, 4, 5, 6, 2, 1, 0] rfl ?_
          refine v_loop2 76 (fun (sum : Int) (i : Int) => ∃ k : Nat, i = k ∧ k ≤ kmany n ∧ sum = genS n i1 i2 ((n : Int) + 2 - 2 * g - (partsT (kT n i1) : Int) - (partsT (kT n i2) : Int)) k) (fun (sum : Int) (i : Int) => (15 - i).toNat) (fun (sum : Int) (i : Int) => [(0, aR 0), (1, aI (t1)), (2, aI (t2)), (3, aI (g)), (4, aI (third')), (5, aL (sum)), (7, aI (i))]) (fun (sum : Int) (i : Int) => []) (fun (sum : Int) (i : Int) => w3) (fun sum i hI0 ih0 => ?_) (0) (0) (⟨0, rfl, by omega, rfl⟩)
          obtain ⟨k, hi, hkk, hsum⟩ := hI0
          have hgl := genS_le hn1 hn7 i1 i2 ((n : Int) + 2 - 2 * g - (partsT (kT n i1) : Int) - (partsT (kT n i2) : Int)) k
          refine v_iload 6 (pc' := 78) rfl dX10_genera_76 rfl ?_
          refine v_aload_n 0 (pc' := 79) rfl dX10_genera_78 rfl rfl ?_
          refine v_getR (pc' := 82) rfl dX10_genera_79 fk_RX10_16 ly_0 rfl ?_
          refine v_get (z := (n : Int)) (pc' := 85) rfl dX10_genera_82 fk_RX10_81 ly_2 rfl (m0) ?_
          refine v_cSP (pc' := 88) rfl dX10_genera_85 lk_RX10_283 rfl (c_many l G rfl hn1 hn7 w3) rfl rfl rfl ?_
          refine v_nm (fun many1 hmany1 => ?_)
          refine v_icmp_ge (pc' := 91) (tgt := 136) rfl dX10_genera_88 (by decide) (by omega) (by omega) (fun c4 => ?_) (fun c4 => ?_)
          ·
            have hke : k = kmany n := by omega
            refine v_lload 5 (pc' := 138) rfl dX10_genera_136 rfl ?_
            refine v_iload_n 1 (pc' := 139) rfl dX10_genera_138 rfl rfl ?_
            refine v_aload_n 0 (pc' := 140) rfl dX10_genera_139 rfl rfl ?_
            refine v_getR (pc' := 143) rfl dX10_genera_140 fk_RX10_16 ly_0 rfl ?_
            refine v_get (z := (n : Int)) (pc' := 146) rfl dX10_genera_143 fk_RX10_81 ly_2 rfl (m0) ?_
            refine v_cSP (pc' := 149) rfl dX10_genera_146 lk_RX10_289 rfl (c_members l G ht1 (by have := kT_le hn7 h1; omega) (kt_ok n (by omega) _ h1).2.1.1 (kt_ok n (by omega) _ h1).2.1.2 rfl hn1 hn7 w3) rfl rfl rfl ?_
            refine v_nm (fun members1 hmembers1 => ?_)
            refine v_i2l (pc' := 150) rfl dX10_genera_149 (by omega) ?_
            refine v_lmul (pc' := 151) rfl dX10_genera_150 ?_
            refine v_lret dX10_genera_151 ?_
            first | exact ⟨Fr.rf _ _, hI, Or.inl ⟨hz, rfl⟩⟩ | exact ⟨f1, hI2, Or.inr ⟨i1, i2, ⟨h1, h2⟩, ⟨ht1, ht2⟩, by omega, by unfold genI; rw [hsum, hke, hmembers1]⟩⟩
          ·
            have hk : k < kmany n := by omega
            have p3 := partsT_ok n (by omega) k hk
            have hcb := cnt_rg hn1 hn7 (tPC n (leastF (kT n i1) n) (kT n i2) (kT n k))
            refine v_aload_n 0 (pc' := 92) rfl dX10_genera_91 rfl rfl ?_
            refine v_getR (pc' := 95) rfl dX10_genera_92 fk_RX10_16 ly_0 rfl ?_
            refine v_get (z := (n : Int)) (pc' := 98) rfl dX10_genera_95 fk_RX10_81 ly_2 rfl (m0) ?_
            refine v_iload 6 (pc' := 100) rfl dX10_genera_98 rfl ?_
            refine v_cSP (pc' := 103) rfl dX10_genera_100 lk_RX10_286 rfl (c_nth l G rfl hn1 hn7 hi hk w3) rfl rfl rfl ?_
            refine v_nm (fun nth1 hnth1 => ?_)
            refine v_istore (ls' := [(8, _), (0, _), (1, _), (2, _), (3, _), (4, _), (5, _), (7, _)]) (pc' := 105) rfl dX10_genera_103 rfl rfl ?_
            refine v_iload 0 (pc' := 107) rfl dX10_genera_105 rfl ?_
            refine v_cSP (pc' := 110) rfl dX10_genera_107 lk_RX10_326 rfl (c_parts5 l G hnth1 (by have := kT_le hn7 hk; omega) w3) rfl rfl rfl ?_
            refine v_nm (fun parts3 hparts3 => ?_)
            refine v_iload 5 (pc' := 112) rfl dX10_genera_110 rfl ?_
            refine v_icmp_ne (pc' := 115) (tgt := 130) rfl dX10_genera_112 (by decide) (by omega) (by omega) (fun c5 => ?_) (fun c5 => ?_)
            ·
              have hA : ¬ (partsT (kT n k) : Int) = ((n : Int) + 2 - 2 * g - (partsT (kT n i1) : Int) - (partsT (kT n i2) : Int)) := by omega
              refine v_iinc (ls' := [(7, _), (8, _), (0, _), (1, _), (2, _), (3, _), (4, _), (5, _)]) 7 (pc' := 133) rfl dX10_genera_130 rfl rfl rfl ?_
              refine v_nl (fun i' hi' => ?_)
              refine v_goto (tgt := 76) dX10_genera_133 (by decide) ?_
              refine v_ls [2, 3, 4, 5, 6, 7, 0] rfl ?_
              exact ih0 (sum) (i') (⟨k + 1, by omega, by omega, by simp only [genS]; rw [if_neg hA]; omega⟩) (by omega)
            ·
              have hA : (partsT (kT n k) : Int) = ((n : Int) + 2 - 2 * g - (partsT (kT n i1) : Int) - (partsT (kT n i2) : Int)) := by omega
              refine v_lload 6 (pc' := 117) rfl dX10_genera_115 rfl ?_
              refine v_aload_n 1 (pc' := 118) rfl dX10_genera_117 rfl rfl ?_
              refine v_getR (pc' := 121) rfl dX10_genera_118 fk_RX10_55 ly_0 rfl ?_
              refine v_iload 0 (pc' := 123) rfl dX10_genera_121 rfl ?_
              refine v_cVP (pc' := 126) rfl dX10_genera_123 lk_RX10_312 ly_19 rfl (c_foundConnected l G hn1 hn7 hk hnth1 w3 g2 tC) rfl rfl rfl ?_
              refine v_nm (fun foundConnected1 hfoundConnected1 => ?_)
              refine v_i2l (pc' := 127) rfl dX10_genera_126 (by omega) ?_
              refine v_ladd (pc' := 128) rfl dX10_genera_127 ?_
              refine v_nmL (fun sum' hsum' => ?_)
              refine v_lstore (ls' := [(5, _), (8, _), (0, _), (1, _), (2, _), (3, _), (4, _), (7, _)]) (pc' := 130) rfl dX10_genera_128 rfl rfl ?_
              refine v_iinc (ls' := [(7, _), (5, _), (8, _), (0, _), (1, _), (2, _), (3, _), (4, _)]) 7 (pc' := 133) rfl dX10_genera_130 rfl rfl rfl ?_
              refine v_nl (fun i' hi' => ?_)
              refine v_goto (tgt := 76) dX10_genera_133 (by decide) ?_
              refine v_ls [3, 4, 5, 6, 7, 1, 0] rfl ?_
              exact ih0 (sum') (i') (⟨k + 1, by omega, by omega, by simp only [genS]; rw [if_pos hA]; omega⟩) (by omega)
        ·
          have hz := hz2 (by omega)
          refine v_ldc2 (z := (-1)) (pc' := 28) rfl dX10_genera_25 kc_RX10_296 ?_
          refine v_lret dX10_genera_28 ?_
          first | exact ⟨Fr.rf _ _, hI, Or.inl ⟨hz, rfl⟩⟩ | exact ⟨f1, hI2, Or.inr ⟨i1, i2, ⟨h1, h2⟩, ⟨ht1, ht2⟩, by omega, by unfold genI; rw [hsum, hke, hmembers1]⟩⟩
def thrB (n i1 i2 : Nat) (k : Nat) : Bool := decide (0 < cntI (tPA n (leastF (kT n i1) n) (kT n i2) (kT n k)) (facN n))
def ThrP (n : Nat) (t1 t2 i z : Int) : Prop := (¬ (KN2 n t1 t2 ∧ -1 ≤ i) ∧ z = -1) ∨
  ∃ i1 i2, (i1 < kmany n ∧ i2 < kmany n) ∧ (t1 = (kT n i1 : Nat) ∧ t2 = (kT n i2 : Nat)) ∧ -1 ≤ i ∧ z = pickI (fil (thrB n i1 i2) (kmany n)) (fun k => (kT n k : Int)) i
set_option maxHeartbeats 4000000 in
set_option maxRecDepth 100000 in
theorem c_thirds (l : Launch) (G : Gx) {t1 t2 i0 : Int} (hr1 : rg t1) (hr2 : rg t2) (hri : rg i0) {n : Nat} {s a : Nat → Nat} (hV : MapV n s a) (w : Wd) (hM : MapW w n s a) (hI : CInv w) : Sp l G 6 mX10_thirds [aR 0, aI (t1), aI (t2), aI (i0)] w (fun z w' => Fr [19, 20, 21, 22, 23] w w' ∧ CInv w' ∧ ThrP n t1 t2 i0 z) := by
  obtain ⟨⟨hn1, hn7⟩, hs, ha⟩ := id hV
  obtain ⟨m0, m1, m2⟩ := id hM
  have hkm := kmany_le n hn7
  refine Sp_of RX10 rfl (by decide +kernel) rfl (Nat.le_of_ble_eq_true rfl) ?_
  refine v_aload_n 0 (pc' := 1) rfl dX10_thirds_0 rfl rfl ?_
  refine v_iload_n 1 (pc' := 2) rfl dX10_thirds_1 rfl rfl ?_
  refine v_cVP (pc' := 5) rfl dX10_thirds_2 lk_RX10_250 ly_0 rfl (c_kindStands l G hr1 hV w hM) rfl rfl rfl ?_
  refine v_nm (fun kindStands1 hkindStands1 => ?_)
  refine v_if_eq (pc' := 8) (tgt := 21) rfl dX10_thirds_5 (by decide) (kn_r hkindStands1) (fun c0 => ?_) (fun c0 => ?_)
  ·
    have q1 := kn_0 hkindStands1 (by omega)
    have hz : ¬ (KN2 n t1 t2 ∧ -1 ≤ i0) := fun q => q1 q.1.1
    refine v_iconst (pc' := 22) rfl dX10_thirds_21 ?_
    refine v_iret dX10_thirds_22 (by decide) (rfl) ?_
    first | exact ⟨Fr.rf _ _, hI, Or.inl ⟨hz, rfl⟩⟩ | exact ⟨f1, hI2, Or.inr ⟨i1, i2, ⟨h1, h2⟩, ⟨ht1, ht2⟩, by omega, by rw [pick_hit hkl hP (by omega)]; exact hnth1⟩⟩ | exact ⟨f1, hI2, Or.inr ⟨i1, i2, ⟨h1, h2⟩, ⟨ht1, ht2⟩, by omega, by rw [pick_all (by omega), hm, hke]⟩⟩ | exact ⟨f1, hI2, Or.inr ⟨i1, i2, ⟨h1, h2⟩, ⟨ht1, ht2⟩, by omega, by rw [pick_no (by omega) (by rw [← hke]; omega)]⟩⟩
  ·
    have q1 := kn_1 hkindStands1 (by omega)
    refine v_aload_n 0 (pc' := 9) rfl dX10_thirds_8 rfl rfl ?_
    refine v_iload_n 2 (pc' := 10) rfl dX10_thirds_9 rfl rfl ?_
    refine v_cVP (pc' := 13) rfl dX10_thirds_10 lk_RX10_250 ly_0 rfl (c_kindStands l G hr2 hV w hM) rfl rfl rfl ?_
    refine v_nm (fun kindStands2 hkindStands2 => ?_)
    refine v_if_eq (pc' := 16) (tgt := 21) rfl dX10_thirds_13 (by decide) (kn_r hkindStands2) (fun c1 => ?_) (fun c1 => ?_)
    ·
      have q2 := kn_0 hkindStands2 (by omega)
      have hz : ¬ (KN2 n t1 t2 ∧ -1 ≤ i0) := fun q => q2 q.1.2
      refine v_iconst (pc' := 22) rfl dX10_thirds_21 ?_
      refine v_iret dX10_thirds_22 (by decide) (rfl) ?_
      first | exact ⟨Fr.rf _ _, hI, Or.inl ⟨hz, rfl⟩⟩ | exact ⟨f1, hI2, Or.inr ⟨i1, i2, ⟨h1, h2⟩, ⟨ht1, ht2⟩, by omega, by rw [pick_hit hkl hP (by omega)]; exact hnth1⟩⟩ | exact ⟨f1, hI2, Or.inr ⟨i1, i2, ⟨h1, h2⟩, ⟨ht1, ht2⟩, by omega, by rw [pick_all (by omega), hm, hke]⟩⟩ | exact ⟨f1, hI2, Or.inr ⟨i1, i2, ⟨h1, h2⟩, ⟨ht1, ht2⟩, by omega, by rw [pick_no (by omega) (by rw [← hke]; omega)]⟩⟩
    ·
      have q2 := kn_1 hkindStands2 (by omega)
      have hz2 : ¬ (-1 ≤ i0) → ¬ (KN2 n t1 t2 ∧ -1 ≤ i0) := fun a b => a b.2
      refine v_iload_n 3 (pc' := 17) rfl dX10_thirds_16 rfl rfl ?_
      refine v_iconst (pc' := 18) rfl dX10_thirds_17 ?_
      refine v_icmp_ge (pc' := 21) (tgt := 23) rfl dX10_thirds_18 (by decide) (by omega) (by omega) (fun c2 => ?_) (fun c2 => ?_)
      ·
        obtain ⟨i1, h1, ht1'⟩ := kndB_iff.mp q1
        obtain ⟨i2, h2, ht2'⟩ := kndB_iff.mp q2
        have ht1 := ht1'.symm
        have ht2 := ht2'.symm
        refine v_aload_n 0 (pc' := 24) rfl dX10_thirds_23 rfl rfl ?_
        refine v_getR (pc' := 27) rfl dX10_thirds_24 fk_RX10_55 ly_0 rfl ?_
        refine v_aload_n 0 (pc' := 28) rfl dX10_thirds_27 rfl rfl ?_
        refine v_getR (pc' := 31) rfl dX10_thirds_28 fk_RX10_16 ly_0 rfl ?_
        refine v_get (z := (n : Int)) (pc' := 34) rfl dX10_thirds_31 fk_RX10_81 ly_2 rfl (m0) ?_
        refine v_iload_n 1 (pc' := 35) rfl dX10_thirds_34 rfl rfl ?_
        refine v_iload_n 2 (pc' := 36) rfl dX10_thirds_35 rfl rfl ?_
        refine v_cVv (pc' := 39) rfl dX10_thirds_36 lk_RX10_298 ly_19 rfl (c_tally l G (n := n) rfl hn1 hn7 h1 h2 ht1 ht2 w hI) rfl rfl rfl (fun tally1 w3 hq3 => ?_)
        obtain ⟨tP, tK, tC, tL, f1⟩ := hq3
        have hI2 := CInv_tal hn1 hn7 h1 h2 tP tK tC tL
        have g2 := tP.1
        have m0 : w3 2 0 = (n : Int) := (f1 2 0 (by decide)).trans m0
        have m1 : w3 2 1 = ((hx s : Nat) : Int) := (f1 2 1 (by decide)).trans m1
        have m2 : w3 2 2 = ((hx a : Nat) : Int) := (f1 2 2 (by decide)).trans m2
        refine v_iconst (pc' := 40) rfl dX10_thirds_39 ?_
        refine v_istore (ls' := [(4, _), (0, _), (1, _), (2, _), (3, _)]) (pc' := 42) rfl dX10_thirds_40 rfl rfl ?_
        refine v_iconst (pc' := 43) rfl dX10_thirds_42 ?_
        refine v_istore (ls' := [(5, _), (4, _), (0, _), (1, _), (2, _), (3, _)]) (pc' := 45) rfl dX10_thirds_43 rfl rfl ?_
        refine v_ls [2, 3, 4, 5, 1, 0] rfl ?_
        refine v_loop2 45 (fun (m : Int) (k : Int) => ∃ j : Nat, k = j ∧ j ≤ kmany n ∧ m = ((fil (thrB n i1 i2) j).length : Nat) ∧ (i0 = -1 ∨ m ≤ i0)) (fun (m : Int) (k : Int) => (15 - k).toNat) (fun (m : Int) (k : Int) => [(0, aR 0), (1, aI (t1)), (2, aI (t2)), (3, aI (i0)), (4, aI (m)), (5, aI (k))]) (fun (m : Int) (k : Int) => []) (fun (m : Int) (k : Int) => w3) (fun m k hI0 ih0 => ?_) (0) (0) (⟨0, rfl, by omega, rfl, by omega⟩)
        obtain ⟨j, hk, hjk, hm, him⟩ := hI0
        have hfl := fil_len (thrB n i1 i2) j
        refine v_iload 5 (pc' := 47) rfl dX10_thirds_45 rfl ?_
        refine v_aload_n 0 (pc' := 48) rfl dX10_thirds_47 rfl rfl ?_
        refine v_getR (pc' := 51) rfl dX10_thirds_48 fk_RX10_16 ly_0 rfl ?_
        refine v_get (z := (n : Int)) (pc' := 54) rfl dX10_thirds_51 fk_RX10_81 ly_2 rfl (m0) ?_
        refine v_cSP (pc' := 57) rfl dX10_thirds_54 lk_RX10_283 rfl (c_many l G rfl hn1 hn7 w3) rfl rfl rfl ?_
        refine v_nm (fun many1 hmany1 => ?_)
        refine v_icmp_ge (pc' := 60) (tgt := 104) rfl dX10_thirds_57 (by decide) (by omega) (by omega) (fun c3 => ?_) (fun c3 => ?_)
        ·
          have hke : j = kmany n := by omega
          refine v_iload_n 3 (pc' := 105) rfl dX10_thirds_104 rfl rfl ?_
          refine v_iconst (pc' := 106) rfl dX10_thirds_105 ?_
          refine v_icmp_ne (pc' := 109) (tgt := 114) rfl dX10_thirds_106 (by decide) (by omega) (by omega) (fun c6 => ?_) (fun c6 => ?_)
          ·
            refine v_bipush (pc' := 116) rfl dX10_thirds_114 rfl ?_
            refine v_iret dX10_thirds_116 (by decide) (rfl) ?_
            first | exact ⟨Fr.rf _ _, hI, Or.inl ⟨hz, rfl⟩⟩ | exact ⟨f1, hI2, Or.inr ⟨i1, i2, ⟨h1, h2⟩, ⟨ht1, ht2⟩, by omega, by rw [pick_hit hkl hP (by omega)]; exact hnth1⟩⟩ | exact ⟨f1, hI2, Or.inr ⟨i1, i2, ⟨h1, h2⟩, ⟨ht1, ht2⟩, by omega, by rw [pick_all (by omega), hm, hke]⟩⟩ | exact ⟨f1, hI2, Or.inr ⟨i1, i2, ⟨h1, h2⟩, ⟨ht1, ht2⟩, by omega, by rw [pick_no (by omega) (by rw [← hke]; omega)]⟩⟩
          ·
            refine v_iload 4 (pc' := 111) rfl dX10_thirds_109 rfl ?_
            refine v_goto (tgt := 116) dX10_thirds_111 (by decide) ?_
            refine v_iret dX10_thirds_116 (by decide) (rfl) ?_
            first | exact ⟨Fr.rf _ _, hI, Or.inl ⟨hz, rfl⟩⟩ | exact ⟨f1, hI2, Or.inr ⟨i1, i2, ⟨h1, h2⟩, ⟨ht1, ht2⟩, by omega, by rw [pick_hit hkl hP (by omega)]; exact hnth1⟩⟩ | exact ⟨f1, hI2, Or.inr ⟨i1, i2, ⟨h1, h2⟩, ⟨ht1, ht2⟩, by omega, by rw [pick_all (by omega), hm, hke]⟩⟩ | exact ⟨f1, hI2, Or.inr ⟨i1, i2, ⟨h1, h2⟩, ⟨ht1, ht2⟩, by omega, by rw [pick_no (by omega) (by rw [← hke]; omega)]⟩⟩
        ·
          have hkl : j < kmany n := by omega
          have hcb := cnt_rg hn1 hn7 (tPA n (leastF (kT n i1) n) (kT n i2) (kT n j))
          refine v_aload_n 0 (pc' := 61) rfl dX10_thirds_60 rfl rfl ?_
          refine v_getR (pc' := 64) rfl dX10_thirds_61 fk_RX10_16 ly_0 rfl ?_
          refine v_get (z := (n : Int)) (pc' := 67) rfl dX10_thirds_64 fk_RX10_81 ly_2 rfl (m0) ?_
          refine v_iload 5 (pc' := 69) rfl dX10_thirds_67 rfl ?_
          refine v_cSP (pc' := 72) rfl dX10_thirds_69 lk_RX10_286 rfl (c_nth l G rfl hn1 hn7 hk hkl w3) rfl rfl rfl ?_
          refine v_nm (fun nth1 hnth1 => ?_)
          refine v_istore (ls' := [(6, _), (0, _), (1, _), (2, _), (3, _), (4, _), (5, _)]) (pc' := 74) rfl dX10_thirds_72 rfl rfl ?_
          refine v_aload_n 1 (pc' := 75) rfl dX10_thirds_74 rfl rfl ?_
          refine v_getR (pc' := 78) rfl dX10_thirds_75 fk_RX10_55 ly_0 rfl ?_
          refine v_iload 0 (pc' := 80) rfl dX10_thirds_78 rfl ?_
          refine v_cVP (pc' := 83) rfl dX10_thirds_80 lk_RX10_301 ly_19 rfl (c_found1 l G hn1 hn7 hkl hnth1 w3 g2 tC) rfl rfl rfl ?_
          refine v_nm (fun found1 hfound1 => ?_)
          refine v_if_le (pc' := 86) (tgt := 98) rfl dX10_thirds_83 (by decide) (by omega) (fun c4 => ?_) (fun c4 => ?_)
          ·
            have hP : ¬ thrB n i1 i2 j = true := by unfold thrB; rw [decide_eq_true_eq]; omega
            refine v_iinc (ls' := [(5, _), (6, _), (0, _), (1, _), (2, _), (3, _), (4, _)]) 6 (pc' := 101) rfl dX10_thirds_98 rfl rfl rfl ?_
            refine v_nl (fun k' hk' => ?_)
            refine v_goto (tgt := 45) dX10_thirds_101 (by decide) ?_
            refine v_ls [2, 3, 4, 5, 6, 0] rfl ?_
            exact ih0 (m) (k') (⟨j + 1, by omega, by omega, by rw [fil_s, if_neg hP]; exact hm, him⟩) (by omega)
          ·
            have hP : thrB n i1 i2 j = true := by unfold thrB; rw [decide_eq_true_eq]; omega
            refine v_iload 5 (pc' := 88) rfl dX10_thirds_86 rfl ?_
            refine v_iload_n 4 (pc' := 89) rfl dX10_thirds_88 rfl rfl ?_
            refine v_icmp_ne (pc' := 92) (tgt := 95) rfl dX10_thirds_89 (by decide) (by omega) (by omega) (fun c5 => ?_) (fun c5 => ?_)
            ·
              refine v_iinc (ls' := [(4, _), (6, _), (0, _), (1, _), (2, _), (3, _), (5, _)]) 5 (pc' := 98) rfl dX10_thirds_95 rfl rfl rfl ?_
              refine v_nl (fun m' hm' => ?_)
              refine v_iinc (ls' := [(5, _), (4, _), (6, _), (0, _), (1, _), (2, _), (3, _)]) 6 (pc' := 101) rfl dX10_thirds_98 rfl rfl rfl ?_
              refine v_nl (fun k' hk' => ?_)
              refine v_goto (tgt := 45) dX10_thirds_101 (by decide) ?_
              refine v_ls [3, 4, 5, 6, 1, 0] rfl ?_
              exact ih0 (m') (k') (⟨j + 1, by omega, by omega, by rw [fil_s, if_pos hP, List.length_append]; simp; omega, by omega⟩) (by omega)
            ·
              refine v_iload 0 (pc' := 94) rfl dX10_thirds_92 rfl ?_
              refine v_iret dX10_thirds_94 (by decide) (rfl) ?_
              first | exact ⟨Fr.rf _ _, hI, Or.inl ⟨hz, rfl⟩⟩ | exact ⟨f1, hI2, Or.inr ⟨i1, i2, ⟨h1, h2⟩, ⟨ht1, ht2⟩, by omega, by rw [pick_hit hkl hP (by omega)]; exact hnth1⟩⟩ | exact ⟨f1, hI2, Or.inr ⟨i1, i2, ⟨h1, h2⟩, ⟨ht1, ht2⟩, by omega, by rw [pick_all (by omega), hm, hke]⟩⟩ | exact ⟨f1, hI2, Or.inr ⟨i1, i2, ⟨h1, h2⟩, ⟨ht1, ht2⟩, by omega, by rw [pick_no (by omega) (by rw [← hke]; omega)]⟩⟩
      ·
        have hz := hz2 (by omega)
        refine v_iconst (pc' := 22) rfl dX10_thirds_21 ?_
        refine v_iret dX10_thirds_22 (by decide) (rfl) ?_
        first | exact ⟨Fr.rf _ _, hI, Or.inl ⟨hz, rfl⟩⟩ | exact ⟨f1, hI2, Or.inr ⟨i1, i2, ⟨h1, h2⟩, ⟨ht1, ht2⟩, by omega, by rw [pick_hit hkl hP (by omega)]; exact hnth1⟩⟩ | exact ⟨f1, hI2, Or.inr ⟨i1, i2, ⟨h1, h2⟩, ⟨ht1, ht2⟩, by omega, by rw [pick_all (by omega), hm, hke]⟩⟩ | exact ⟨f1, hI2, Or.inr ⟨i1, i2, ⟨h1, h2⟩, ⟨ht1, ht2⟩, by omega, by rw [pick_no (by omega) (by rw [← hke]; omega)]⟩⟩

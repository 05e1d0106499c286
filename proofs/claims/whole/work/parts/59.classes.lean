/-! ===== DrawnMaps: classes, siblings, count ===== -/
def OP64 : Prop := ∀ n i1 i2 i3 : Nat, 1 ≤ n → n ≤ 7 → i1 < kmany n → i2 < kmany n → i3 < kmany n → (opnL n (leastF (kT n i1) n) (kT n i2) (kT n i3) (facN n)).length ≤ 64
def clL (n i1 i2 i3 : Nat) : List Nat := opnL n (leastF (kT n i1) n) (kT n i2) (kT n i3) (facN n)
theorem clL_lt {n i1 i2 i3 j : Nat} (h : j < (clL n i1 i2 i3).length) : (clL n i1 i2 i3).getD j 0 < facN n := by
  have := getD_mem (L := clL n i1 i2 i3) (d := 0) h
  unfold clL opnL at this
  exact List.mem_range.mp (List.mem_filter.mp this).1
theorem CInv.fr {w w' : Wd} (h : CInv w) (hf : ∀ o, 19 ≤ o → o ≤ 26 → ∀ j, w' o j = w o j) : CInv w' := by
  have e19 := hf 19 (by omega) (by omega)
  have e20 := hf 20 (by omega) (by omega)
  have e21 := hf 21 (by omega) (by omega)
  have e22 := hf 22 (by omega) (by omega)
  have e23 := hf 23 (by omega) (by omega)
  have e25 := hf 25 (by omega) (by omega)
  have e26 := hf 26 (by omega) (by omega)
  unfold CInv at *
  rcases h with h | ⟨n, hn, a, b, c⟩
  · exact Or.inl (by rw [e19]; exact h)
  · exact Or.inr ⟨n, hn, a.fr (e19 2) (e19 3) (fun j => ⟨e20 j, e21 j⟩), b.fr (e19 6) (e19 7) (fun j => ⟨e22 j, e23 j⟩), c.fr (fun j _ => e19 j) (fun j => ⟨e25 j, e26 j⟩)⟩
theorem CInv.frs {w w' : Wd} (h : CInv w) {cs : List Nat} (hf : Fr cs w w') (hc : [19, 20, 21, 22, 23, 24, 25, 26].all (fun o => !cs.contains o) = true) : CInv w' := h.fr (fun o h1 h2 j => hf o j (by
  have := List.all_eq_true.mp hc o (by simp; omega)
  simpa using this))
theorem CInv_lis {w' : Wd} {n i1 i2 i3 : Nat} (hn1 : 1 ≤ n) (hn7 : n ≤ 7) (h1 : i1 < kmany n) (h2 : i2 < kmany n) (h3 : i3 < kmany n) (a : CP w' n) (b : w' 19 11 = (kT n i1 : Nat) ∧ w' 19 12 = (kT n i2 : Nat) ∧ w' 19 13 = (kT n i3 : Nat)) (c : CLW w' n i1 i2 i3 (facN n)) (d : TalOK w' n) : CInv w' :=
  Or.inr ⟨n, ⟨hn1, hn7⟩, a, d, Or.inr ⟨i1, i2, i3, ⟨h1, h2, h3⟩, b.1, b.2.1, b.2.2, c⟩⟩
noncomputable def clsV (n : Nat) (S A : Nat → Nat) (what : Int) : Int :=
  if what = 0 then (cdk S n : Int) else if what = 1 then (cdk A n : Int) else if what = 2 then (autN n S A : Int) else if what = 3 then (chnN n S A : Int) else (symM n S A 4 : Int)
set_option maxHeartbeats 4000000 in
set_option maxRecDepth 100000 in
theorem c_ofClass (l : Launch) (G : Gx) {p q i0 what : Int} {S A : Nat → Nat} {j : Nat} (hp : p = (hx S : Nat)) (hq : q = (hx A : Nat)) (hi0 : i0 = j) (hj : j < 64) (hwt : rg what ∧ 0 ≤ what) {n : Nat} {s a : Nat → Nat} (hV : MapV n s a) (hS : Pm n S) (hA : Pm n A) (w : Wd) (hM : MapW w n s a) (hau : w 26 j = (autN n S A : Nat)) : Sp l G 12 mX10_ofClass [aR 0, aI (p), aI (q), aI (i0), aI (what)] w (fun z w' => Fr [7, 8, 9, 10, 11, 12, 13] w w' ∧ z = clsV n S A what) := by
  obtain ⟨⟨hn1, hn7⟩, hs, ha⟩ := id hV
  obtain ⟨m0, m1, m2⟩ := id hM
  refine Sp_of RX10 rfl (by decide +kernel) rfl (Nat.le_of_ble_eq_true rfl) ?_
  refine v_iload 4 (pc' := 2) rfl dX10_ofClass_0 rfl ?_
  rcases (show what = 0 ∨ what = 1 ∨ what = 2 ∨ what = 3 ∨ (what < 0 ∨ 3 < what) by omega) with sw0 | sw0 | sw0 | sw0 | sw0
  ·
    refine v_tin (tgt := 32) 0 dX10_ofClass_2 sw0 (by decide) (by decide) (by decide) rfl (by decide) ?_
    have hz : clsV n S A what = (cdk S n : Int) := by unfold clsV; rw [if_pos sw0]
    refine v_iload_n 1 (pc' := 33) rfl dX10_ofClass_32 rfl rfl ?_
    refine v_aload_n 0 (pc' := 34) rfl dX10_ofClass_33 rfl rfl ?_
    refine v_getR (pc' := 37) rfl dX10_ofClass_34 fk_RX10_16 ly_0 rfl ?_
    refine v_get (z := (n : Int)) (pc' := 40) rfl dX10_ofClass_37 fk_RX10_81 ly_2 rfl (m0) ?_
    refine v_cSP (pc' := 43) rfl dX10_ofClass_40 lk_RX10_105 rfl (c_digits l G hp (hS.B hn7) rfl hn7 w) rfl rfl rfl ?_
    refine v_nm (fun digits1 hdigits1 => ?_)
    refine v_iret dX10_ofClass_43 (by decide) (rfl) ?_
    first | exact ⟨Fr.rf _ _, by rw [hz]; exact hdigits1⟩ | exact ⟨Fr.rf _ _, by rw [hz]; exact hdigits2⟩ | exact ⟨Fr.rf _ _, by rw [hz]; exact hauts1.trans hau⟩ | exact ⟨hq4.2.mono rfl, by rw [hz]; exact hq4.1⟩ | exact ⟨hq5.1.mono rfl, by rw [hz]; exact hq5.2⟩
  ·
    refine v_tin (tgt := 44) 1 dX10_ofClass_2 sw0 (by decide) (by decide) (by decide) rfl (by decide) ?_
    have hz : clsV n S A what = (cdk A n : Int) := by unfold clsV; rw [if_neg (by omega), if_pos sw0]
    refine v_iload_n 2 (pc' := 45) rfl dX10_ofClass_44 rfl rfl ?_
    refine v_aload_n 0 (pc' := 46) rfl dX10_ofClass_45 rfl rfl ?_
    refine v_getR (pc' := 49) rfl dX10_ofClass_46 fk_RX10_16 ly_0 rfl ?_
    refine v_get (z := (n : Int)) (pc' := 52) rfl dX10_ofClass_49 fk_RX10_81 ly_2 rfl (m0) ?_
    refine v_cSP (pc' := 55) rfl dX10_ofClass_52 lk_RX10_105 rfl (c_digits l G hq (hA.B hn7) rfl hn7 w) rfl rfl rfl ?_
    refine v_nm (fun digits2 hdigits2 => ?_)
    refine v_iret dX10_ofClass_55 (by decide) (rfl) ?_
    first | exact ⟨Fr.rf _ _, by rw [hz]; exact hdigits1⟩ | exact ⟨Fr.rf _ _, by rw [hz]; exact hdigits2⟩ | exact ⟨Fr.rf _ _, by rw [hz]; exact hauts1.trans hau⟩ | exact ⟨hq4.2.mono rfl, by rw [hz]; exact hq4.1⟩ | exact ⟨hq5.1.mono rfl, by rw [hz]; exact hq5.2⟩
  ·
    refine v_tin (tgt := 56) 2 dX10_ofClass_2 sw0 (by decide) (by decide) (by decide) rfl (by decide) ?_
    have hz : clsV n S A what = (autN n S A : Int) := by unfold clsV; rw [if_neg (by omega), if_neg (by omega), if_pos sw0]
    refine v_aload_n 0 (pc' := 57) rfl dX10_ofClass_56 rfl rfl ?_
    refine v_getR (pc' := 60) rfl dX10_ofClass_57 fk_RX10_55 ly_0 rfl ?_
    refine v_iload_n 3 (pc' := 61) rfl dX10_ofClass_60 rfl rfl ?_
    refine v_cVP (pc' := 64) rfl dX10_ofClass_61 lk_RX10_231 ly_19 rfl (c_auts1 l G hi0 hj w) rfl rfl rfl ?_
    refine v_nm (fun auts1 hauts1 => ?_)
    refine v_iret dX10_ofClass_64 (by decide) (rfl) ?_
    first | exact ⟨Fr.rf _ _, by rw [hz]; exact hdigits1⟩ | exact ⟨Fr.rf _ _, by rw [hz]; exact hdigits2⟩ | exact ⟨Fr.rf _ _, by rw [hz]; exact hauts1.trans hau⟩ | exact ⟨hq4.2.mono rfl, by rw [hz]; exact hq4.1⟩ | exact ⟨hq5.1.mono rfl, by rw [hz]; exact hq5.2⟩
  ·
    refine v_tin (tgt := 65) 3 dX10_ofClass_2 sw0 (by decide) (by decide) (by decide) rfl (by decide) ?_
    have hz : clsV n S A what = (chnN n S A : Int) := by unfold clsV; rw [if_neg (by omega), if_neg (by omega), if_neg (by omega), if_pos sw0]
    refine v_aload_n 0 (pc' := 66) rfl dX10_ofClass_65 rfl rfl ?_
    refine v_getR (pc' := 69) rfl dX10_ofClass_66 fk_RX10_34 ly_0 rfl ?_
    refine v_aload_n 0 (pc' := 70) rfl dX10_ofClass_69 rfl rfl ?_
    refine v_getR (pc' := 73) rfl dX10_ofClass_70 fk_RX10_16 ly_0 rfl ?_
    refine v_get (z := (n : Int)) (pc' := 76) rfl dX10_ofClass_73 fk_RX10_81 ly_2 rfl (m0) ?_
    refine v_iload_n 1 (pc' := 77) rfl dX10_ofClass_76 rfl rfl ?_
    refine v_iload_n 2 (pc' := 78) rfl dX10_ofClass_77 rfl rfl ?_
    refine v_cVi (pc' := 81) rfl dX10_ofClass_78 lk_RX10_203 ly_11 rfl (c_order2 l G (n := n) rfl hn1 hn7 hp hq hS hA w) rfl rfl rfl (fun order1 w4 hq4 => ?_)
    refine v_iret dX10_ofClass_81 (by decide) (rfl) ?_
    first | exact ⟨Fr.rf _ _, by rw [hz]; exact hdigits1⟩ | exact ⟨Fr.rf _ _, by rw [hz]; exact hdigits2⟩ | exact ⟨Fr.rf _ _, by rw [hz]; exact hauts1.trans hau⟩ | exact ⟨hq4.2.mono rfl, by rw [hz]; exact hq4.1⟩ | exact ⟨hq5.1.mono rfl, by rw [hz]; exact hq5.2⟩
  ·
    refine v_tout (tgt := 82) dX10_ofClass_2 (by omega) sw0 (by decide) ?_
    have hz : clsV n S A what = (symM n S A 4 : Int) := by unfold clsV; rw [if_neg (by omega), if_neg (by omega), if_neg (by omega), if_neg (by omega)]
    refine v_aload_n 0 (pc' := 83) rfl dX10_ofClass_82 rfl rfl ?_
    refine v_getR (pc' := 86) rfl dX10_ofClass_83 fk_RX10_27 ly_0 rfl ?_
    refine v_aload_n 0 (pc' := 87) rfl dX10_ofClass_86 rfl rfl ?_
    refine v_getR (pc' := 90) rfl dX10_ofClass_87 fk_RX10_16 ly_0 rfl ?_
    refine v_get (z := (n : Int)) (pc' := 93) rfl dX10_ofClass_90 fk_RX10_81 ly_2 rfl (m0) ?_
    refine v_iload_n 1 (pc' := 94) rfl dX10_ofClass_93 rfl rfl ?_
    refine v_iload_n 2 (pc' := 95) rfl dX10_ofClass_94 rfl rfl ?_
    refine v_cVi (pc' := 98) rfl dX10_ofClass_95 lk_RX10_208 ly_7 rfl (c_symmetries l G (n := n) rfl hn1 hn7 hS hA hp hq w) rfl rfl rfl (fun symmetries1 w5 hq5 => ?_)
    refine v_iret dX10_ofClass_98 (by decide) (rfl) ?_
    first | exact ⟨Fr.rf _ _, by rw [hz]; exact hdigits1⟩ | exact ⟨Fr.rf _ _, by rw [hz]; exact hdigits2⟩ | exact ⟨Fr.rf _ _, by rw [hz]; exact hauts1.trans hau⟩ | exact ⟨hq4.2.mono rfl, by rw [hz]; exact hq4.1⟩ | exact ⟨hq5.1.mono rfl, by rw [hz]; exact hq5.2⟩
def ClsP (n : Nat) (t1 t2 t3 i what z : Int) : Prop := (¬ (KN3 n t1 t2 t3 ∧ -1 ≤ i ∧ 0 ≤ what ∧ what ≤ 4) ∧ z = -1) ∨
  ∃ i1 i2 i3, (i1 < kmany n ∧ i2 < kmany n ∧ i3 < kmany n) ∧ (t1 = (kT n i1 : Nat) ∧ t2 = (kT n i2 : Nat) ∧ t3 = (kT n i3 : Nat)) ∧ (-1 ≤ i ∧ 0 ≤ what ∧ what ≤ 4) ∧
    z = if i = -1 then ((clL n i1 i2 i3).length : Int) else if ((clL n i1 i2 i3).length : Int) ≤ i then -2 else clsV n (leastF (kT n i1) n) (pn n ((clL n i1 i2 i3).getD i.toNat 0)) what
set_option maxHeartbeats 4000000 in
set_option maxRecDepth 100000 in
theorem c_classes (l : Launch) (G : Gx) {t1 t2 t3 i what : Int} (hr1 : rg t1) (hr2 : rg t2) (hr3 : rg t3) (hri : rg i) (hwt : rg what) (h64 : OP64) {n : Nat} {s a : Nat → Nat} (hV : MapV n s a) (w : Wd) (hM : MapW w n s a) (hI : CInv w) : Sp l G 13 mX10_classes [aR 0, aI (t1), aI (t2), aI (t3), aI (i), aI (what)] w (fun z w' => Fr [7, 8, 9, 10, 11, 12, 13, 19, 20, 21, 24, 25, 26] w w' ∧ CInv w' ∧ ClsP n t1 t2 t3 i what z) := by
  obtain ⟨⟨hn1, hn7⟩, hs, ha⟩ := id hV
  obtain ⟨m0, m1, m2⟩ := id hM
  refine Sp_of RX10 rfl (by decide +kernel) rfl (Nat.le_of_ble_eq_true rfl) ?_
  refine v_aload_n 0 (pc' := 1) rfl dX10_classes_0 rfl rfl ?_
  refine v_iload_n 1 (pc' := 2) rfl dX10_classes_1 rfl rfl ?_
  refine v_cVP (pc' := 5) rfl dX10_classes_2 lk_RX10_250 ly_0 rfl (c_kindStands l G hr1 hV w hM) rfl rfl rfl ?_
  refine v_nm (fun kindStands1 hkindStands1 => ?_)
  refine v_if_eq (pc' := 8) (tgt := 24) rfl dX10_classes_5 (by decide) (kn_r hkindStands1) (fun c0 => ?_) (fun c0 => ?_)
  ·
    have q1 := kn_0 hkindStands1 (by omega)
    have hz : ¬ (KN3 n t1 t2 t3 ∧ -1 ≤ i ∧ 0 ≤ what ∧ what ≤ 4) := fun q => q1 q.1.1
    refine v_iconst (pc' := 25) rfl dX10_classes_24 ?_
    refine v_iret dX10_classes_25 (by decide) (rfl) ?_
    first | exact ⟨Fr.rf _ _, hI, Or.inl ⟨hz, rfl⟩⟩ | exact ⟨f1.mono rfl, hI2, Or.inr ⟨i1, i2, i3, ⟨h1, h2, h3⟩, ⟨ht1, ht2, ht3⟩, by omega, by rw [if_pos (by omega)]⟩⟩ | exact ⟨f1.mono rfl, hI2, Or.inr ⟨i1, i2, i3, ⟨h1, h2, h3⟩, ⟨ht1, ht2, ht3⟩, by omega, by rw [if_neg (by omega), if_pos (by omega)]⟩⟩ | exact ⟨(f1.mono rfl).trs (hq6.1.mono rfl), hI2.frs hq6.1 rfl, Or.inr ⟨i1, i2, i3, ⟨h1, h2, h3⟩, ⟨ht1, ht2, ht3⟩, by omega, by rw [if_neg (by omega), if_neg (by omega)]; exact hq6.2⟩⟩
  ·
    have q1 := kn_1 hkindStands1 (by omega)
    refine v_aload_n 0 (pc' := 9) rfl dX10_classes_8 rfl rfl ?_
    refine v_iload_n 2 (pc' := 10) rfl dX10_classes_9 rfl rfl ?_
    refine v_cVP (pc' := 13) rfl dX10_classes_10 lk_RX10_250 ly_0 rfl (c_kindStands l G hr2 hV w hM) rfl rfl rfl ?_
    refine v_nm (fun kindStands2 hkindStands2 => ?_)
    refine v_if_eq (pc' := 16) (tgt := 24) rfl dX10_classes_13 (by decide) (kn_r hkindStands2) (fun c1 => ?_) (fun c1 => ?_)
    ·
      have q2 := kn_0 hkindStands2 (by omega)
      have hz : ¬ (KN3 n t1 t2 t3 ∧ -1 ≤ i ∧ 0 ≤ what ∧ what ≤ 4) := fun q => q2 q.1.2.1
      refine v_iconst (pc' := 25) rfl dX10_classes_24 ?_
      refine v_iret dX10_classes_25 (by decide) (rfl) ?_
      first | exact ⟨Fr.rf _ _, hI, Or.inl ⟨hz, rfl⟩⟩ | exact ⟨f1.mono rfl, hI2, Or.inr ⟨i1, i2, i3, ⟨h1, h2, h3⟩, ⟨ht1, ht2, ht3⟩, by omega, by rw [if_pos (by omega)]⟩⟩ | exact ⟨f1.mono rfl, hI2, Or.inr ⟨i1, i2, i3, ⟨h1, h2, h3⟩, ⟨ht1, ht2, ht3⟩, by omega, by rw [if_neg (by omega), if_pos (by omega)]⟩⟩ | exact ⟨(f1.mono rfl).trs (hq6.1.mono rfl), hI2.frs hq6.1 rfl, Or.inr ⟨i1, i2, i3, ⟨h1, h2, h3⟩, ⟨ht1, ht2, ht3⟩, by omega, by rw [if_neg (by omega), if_neg (by omega)]; exact hq6.2⟩⟩
    ·
      have q2 := kn_1 hkindStands2 (by omega)
      refine v_aload_n 0 (pc' := 17) rfl dX10_classes_16 rfl rfl ?_
      refine v_iload_n 3 (pc' := 18) rfl dX10_classes_17 rfl rfl ?_
      refine v_cVP (pc' := 21) rfl dX10_classes_18 lk_RX10_250 ly_0 rfl (c_kindStands l G hr3 hV w hM) rfl rfl rfl ?_
      refine v_nm (fun kindStands3 hkindStands3 => ?_)
      refine v_if_ne (pc' := 24) (tgt := 26) rfl dX10_classes_21 (by decide) (kn_r hkindStands3) (fun c2 => ?_) (fun c2 => ?_)
      ·
        have q3 := kn_1 hkindStands3 (by omega)
        have hz2 : ¬ (-1 ≤ i ∧ 0 ≤ what ∧ what ≤ 4) → ¬ (KN3 n t1 t2 t3 ∧ -1 ≤ i ∧ 0 ≤ what ∧ what ≤ 4) := fun a b => a b.2
        obtain ⟨i1, h1, ht1'⟩ := kndB_iff.mp q1
        obtain ⟨i2, h2, ht2'⟩ := kndB_iff.mp q2
        obtain ⟨i3, h3, ht3'⟩ := kndB_iff.mp q3
        have ht1 := ht1'.symm
        have ht2 := ht2'.symm
        have ht3 := ht3'.symm
        refine v_iload 4 (pc' := 28) rfl dX10_classes_26 rfl ?_
        refine v_iconst (pc' := 29) rfl dX10_classes_28 ?_
        refine v_icmp_lt (pc' := 32) (tgt := 43) rfl dX10_classes_29 (by decide) (by omega) (by omega) (fun c3 => ?_) (fun c3 => ?_)
        ·
          have hz := hz2 (by omega)
          refine v_iconst (pc' := 44) rfl dX10_classes_43 ?_
          refine v_iret dX10_classes_44 (by decide) (rfl) ?_
          first | exact ⟨Fr.rf _ _, hI, Or.inl ⟨hz, rfl⟩⟩ | exact ⟨f1.mono rfl, hI2, Or.inr ⟨i1, i2, i3, ⟨h1, h2, h3⟩, ⟨ht1, ht2, ht3⟩, by omega, by rw [if_pos (by omega)]⟩⟩ | exact ⟨f1.mono rfl, hI2, Or.inr ⟨i1, i2, i3, ⟨h1, h2, h3⟩, ⟨ht1, ht2, ht3⟩, by omega, by rw [if_neg (by omega), if_pos (by omega)]⟩⟩ | exact ⟨(f1.mono rfl).trs (hq6.1.mono rfl), hI2.frs hq6.1 rfl, Or.inr ⟨i1, i2, i3, ⟨h1, h2, h3⟩, ⟨ht1, ht2, ht3⟩, by omega, by rw [if_neg (by omega), if_neg (by omega)]; exact hq6.2⟩⟩
        ·
          refine v_iload 5 (pc' := 34) rfl dX10_classes_32 rfl ?_
          refine v_if_lt (pc' := 37) (tgt := 43) rfl dX10_classes_34 (by decide) (by omega) (fun c4 => ?_) (fun c4 => ?_)
          ·
            have hz := hz2 (by omega)
            refine v_iconst (pc' := 44) rfl dX10_classes_43 ?_
            refine v_iret dX10_classes_44 (by decide) (rfl) ?_
            first | exact ⟨Fr.rf _ _, hI, Or.inl ⟨hz, rfl⟩⟩ | exact ⟨f1.mono rfl, hI2, Or.inr ⟨i1, i2, i3, ⟨h1, h2, h3⟩, ⟨ht1, ht2, ht3⟩, by omega, by rw [if_pos (by omega)]⟩⟩ | exact ⟨f1.mono rfl, hI2, Or.inr ⟨i1, i2, i3, ⟨h1, h2, h3⟩, ⟨ht1, ht2, ht3⟩, by omega, by rw [if_neg (by omega), if_pos (by omega)]⟩⟩ | exact ⟨(f1.mono rfl).trs (hq6.1.mono rfl), hI2.frs hq6.1 rfl, Or.inr ⟨i1, i2, i3, ⟨h1, h2, h3⟩, ⟨ht1, ht2, ht3⟩, by omega, by rw [if_neg (by omega), if_neg (by omega)]; exact hq6.2⟩⟩
          ·
            refine v_iload 5 (pc' := 39) rfl dX10_classes_37 rfl ?_
            refine v_iconst (pc' := 40) rfl dX10_classes_39 ?_
            refine v_icmp_le (pc' := 43) (tgt := 45) rfl dX10_classes_40 (by decide) (by omega) (by omega) (fun c5 => ?_) (fun c5 => ?_)
            ·
              refine v_aload_n 0 (pc' := 46) rfl dX10_classes_45 rfl rfl ?_
              refine v_getR (pc' := 49) rfl dX10_classes_46 fk_RX10_55 ly_0 rfl ?_
              refine v_aload_n 0 (pc' := 50) rfl dX10_classes_49 rfl rfl ?_
              refine v_getR (pc' := 53) rfl dX10_classes_50 fk_RX10_27 ly_0 rfl ?_
              refine v_aload_n 0 (pc' := 54) rfl dX10_classes_53 rfl rfl ?_
              refine v_getR (pc' := 57) rfl dX10_classes_54 fk_RX10_16 ly_0 rfl ?_
              refine v_get (z := (n : Int)) (pc' := 60) rfl dX10_classes_57 fk_RX10_81 ly_2 rfl (m0) ?_
              refine v_iload_n 1 (pc' := 61) rfl dX10_classes_60 rfl rfl ?_
              refine v_iload_n 2 (pc' := 62) rfl dX10_classes_61 rfl rfl ?_
              refine v_iload_n 3 (pc' := 63) rfl dX10_classes_62 rfl rfl ?_
              refine v_cVv (pc' := 66) rfl dX10_classes_63 lk_RX10_224 ly_19 rfl (c_list l G (n := n) rfl hn1 hn7 h1 h2 h3 ht1 ht2 ht3 (h64 n i1 i2 i3 hn1 hn7 h1 h2 h3) w hI) rfl rfl rfl (fun list1 w4 hq4 => ?_)
              obtain ⟨lP, lK, lC, lT, f1⟩ := hq4
              have hI2 := CInv_lis hn1 hn7 h1 h2 h3 lP lK lC lT
              have hM2 : MapW w4 n s a := ⟨(f1 2 0 rfl).trans m0, (f1 2 1 rfl).trans m1, (f1 2 2 rfl).trans m2⟩
              have l14 : w4 19 14 = ((clL n i1 i2 i3).length : Nat) := lC.1
              have l15 := lC.2.1
              have hl64 : (clL n i1 i2 i3).length ≤ 64 := h64 n i1 i2 i3 hn1 hn7 h1 h2 h3
              have m0 : w4 2 0 = (n : Int) := (f1 2 0 (by decide)).trans m0
              have m1 : w4 2 1 = ((hx s : Nat) : Int) := (f1 2 1 (by decide)).trans m1
              have m2 : w4 2 2 = ((hx a : Nat) : Int) := (f1 2 2 (by decide)).trans m2
              refine v_iload 4 (pc' := 68) rfl dX10_classes_66 rfl ?_
              refine v_iconst (pc' := 69) rfl dX10_classes_68 ?_
              refine v_icmp_ne (pc' := 72) (tgt := 80) rfl dX10_classes_69 (by decide) (by omega) (by omega) (fun c6 => ?_) (fun c6 => ?_)
              ·
                refine v_iload 4 (pc' := 82) rfl dX10_classes_80 rfl ?_
                refine v_aload_n 0 (pc' := 83) rfl dX10_classes_82 rfl rfl ?_
                refine v_getR (pc' := 86) rfl dX10_classes_83 fk_RX10_55 ly_0 rfl ?_
                refine v_get (z := (((clL n i1 i2 i3).length : Nat) : Int)) (pc' := 89) rfl dX10_classes_86 fk_RX10_228 ly_19 rfl (l14) ?_
                refine v_icmp_lt (pc' := 92) (tgt := 97) rfl dX10_classes_89 (by decide) (by omega) (by omega) (fun c7 => ?_) (fun c7 => ?_)
                ·
                  have hil : i.toNat < (clL n i1 i2 i3).length := by omega
                  have hcl : w4 25 i.toNat = (hx (pn n ((clL n i1 i2 i3).getD i.toNat 0)) : Nat) ∧ w4 26 i.toNat = (autN n (leastF (kT n i1) n) (pn n ((clL n i1 i2 i3).getD i.toNat 0)) : Nat) := lC.2.2 i.toNat hil
                  refine v_aload_n 0 (pc' := 98) rfl dX10_classes_97 rfl rfl ?_
                  refine v_aload_n 0 (pc' := 99) rfl dX10_classes_98 rfl rfl ?_
                  refine v_getR (pc' := 102) rfl dX10_classes_99 fk_RX10_55 ly_0 rfl ?_
                  refine v_get (z := ((hx (leastF (kT n i1) n) : Nat) : Int)) (pc' := 105) rfl dX10_classes_102 fk_RX10_233 ly_19 rfl (l15) ?_
                  refine v_aload_n 0 (pc' := 106) rfl dX10_classes_105 rfl rfl ?_
                  refine v_getR (pc' := 109) rfl dX10_classes_106 fk_RX10_55 ly_0 rfl ?_
                  refine v_iload 4 (pc' := 111) rfl dX10_classes_109 rfl ?_
                  refine v_cVP (pc' := 114) rfl dX10_classes_111 lk_RX10_235 ly_19 rfl (c_white1 l G (i := i.toNat) (by omega) (by omega) w4) rfl rfl rfl ?_
                  refine v_nm (fun white1 hwhite1 => ?_)
                  refine v_iload 4 (pc' := 116) rfl dX10_classes_114 rfl ?_
                  refine v_iload 5 (pc' := 118) rfl dX10_classes_116 rfl ?_
                  refine v_cVi (pc' := 121) rfl dX10_classes_118 lk_RX10_315 ly_0 rfl (c_ofClass l G (S := leastF (kT n i1) n) (A := pn n ((clL n i1 i2 i3).getD i.toNat 0)) (j := i.toNat) rfl (hwhite1.trans hcl.1) (by omega) (by omega) ⟨hwt, by omega⟩ hV (lp_pm hn7 h1) (pn_at hn1 hn7 (clL_lt hil)).1 w4 hM2 hcl.2) rfl rfl rfl (fun ofClass1 w6 hq6 => ?_)
                  refine v_iret dX10_classes_121 (by decide) (rfl) ?_
                  first | exact ⟨Fr.rf _ _, hI, Or.inl ⟨hz, rfl⟩⟩ | exact ⟨f1.mono rfl, hI2, Or.inr ⟨i1, i2, i3, ⟨h1, h2, h3⟩, ⟨ht1, ht2, ht3⟩, by omega, by rw [if_pos (by omega)]⟩⟩ | exact ⟨f1.mono rfl, hI2, Or.inr ⟨i1, i2, i3, ⟨h1, h2, h3⟩, ⟨ht1, ht2, ht3⟩, by omega, by rw [if_neg (by omega), if_pos (by omega)]⟩⟩ | exact ⟨(f1.mono rfl).trs (hq6.1.mono rfl), hI2.frs hq6.1 rfl, Or.inr ⟨i1, i2, i3, ⟨h1, h2, h3⟩, ⟨ht1, ht2, ht3⟩, by omega, by rw [if_neg (by omega), if_neg (by omega)]; exact hq6.2⟩⟩
                ·
                  refine v_bipush (pc' := 94) rfl dX10_classes_92 rfl ?_
                  refine v_goto (tgt := 121) dX10_classes_94 (by decide) ?_
                  refine v_iret dX10_classes_121 (by decide) (rfl) ?_
                  first | exact ⟨Fr.rf _ _, hI, Or.inl ⟨hz, rfl⟩⟩ | exact ⟨f1.mono rfl, hI2, Or.inr ⟨i1, i2, i3, ⟨h1, h2, h3⟩, ⟨ht1, ht2, ht3⟩, by omega, by rw [if_pos (by omega)]⟩⟩ | exact ⟨f1.mono rfl, hI2, Or.inr ⟨i1, i2, i3, ⟨h1, h2, h3⟩, ⟨ht1, ht2, ht3⟩, by omega, by rw [if_neg (by omega), if_pos (by omega)]⟩⟩ | exact ⟨(f1.mono rfl).trs (hq6.1.mono rfl), hI2.frs hq6.1 rfl, Or.inr ⟨i1, i2, i3, ⟨h1, h2, h3⟩, ⟨ht1, ht2, ht3⟩, by omega, by rw [if_neg (by omega), if_neg (by omega)]; exact hq6.2⟩⟩
              ·
                refine v_aload_n 0 (pc' := 73) rfl dX10_classes_72 rfl rfl ?_
                refine v_getR (pc' := 76) rfl dX10_classes_73 fk_RX10_55 ly_0 rfl ?_
                refine v_get (z := (((clL n i1 i2 i3).length : Nat) : Int)) (pc' := 79) rfl dX10_classes_76 fk_RX10_228 ly_19 rfl (l14) ?_
                refine v_iret dX10_classes_79 (by decide) (rfl) ?_
                first | exact ⟨Fr.rf _ _, hI, Or.inl ⟨hz, rfl⟩⟩ | exact ⟨f1.mono rfl, hI2, Or.inr ⟨i1, i2, i3, ⟨h1, h2, h3⟩, ⟨ht1, ht2, ht3⟩, by omega, by rw [if_pos (by omega)]⟩⟩ | exact ⟨f1.mono rfl, hI2, Or.inr ⟨i1, i2, i3, ⟨h1, h2, h3⟩, ⟨ht1, ht2, ht3⟩, by omega, by rw [if_neg (by omega), if_pos (by omega)]⟩⟩ | exact ⟨(f1.mono rfl).trs (hq6.1.mono rfl), hI2.frs hq6.1 rfl, Or.inr ⟨i1, i2, i3, ⟨h1, h2, h3⟩, ⟨ht1, ht2, ht3⟩, by omega, by rw [if_neg (by omega), if_neg (by omega)]; exact hq6.2⟩⟩
            ·
              have hz := hz2 (by omega)
              refine v_iconst (pc' := 44) rfl dX10_classes_43 ?_
              refine v_iret dX10_classes_44 (by decide) (rfl) ?_
              first | exact ⟨Fr.rf _ _, hI, Or.inl ⟨hz, rfl⟩⟩ | exact ⟨f1.mono rfl, hI2, Or.inr ⟨i1, i2, i3, ⟨h1, h2, h3⟩, ⟨ht1, ht2, ht3⟩, by omega, by rw [if_pos (by omega)]⟩⟩ | exact ⟨f1.mono rfl, hI2, Or.inr ⟨i1, i2, i3, ⟨h1, h2, h3⟩, ⟨ht1, ht2, ht3⟩, by omega, by rw [if_neg (by omega), if_pos (by omega)]⟩⟩ | exact ⟨(f1.mono rfl).trs (hq6.1.mono rfl), hI2.frs hq6.1 rfl, Or.inr ⟨i1, i2, i3, ⟨h1, h2, h3⟩, ⟨ht1, ht2, ht3⟩, by omega, by rw [if_neg (by omega), if_neg (by omega)]; exact hq6.2⟩⟩
      ·
        have q3 := kn_0 hkindStands3 (by omega)
        have hz : ¬ (KN3 n t1 t2 t3 ∧ -1 ≤ i ∧ 0 ≤ what ∧ what ≤ 4) := fun q => q3 q.1.2.2
        refine v_iconst (pc' := 25) rfl dX10_classes_24 ?_
        refine v_iret dX10_classes_25 (by decide) (rfl) ?_
        first | exact ⟨Fr.rf _ _, hI, Or.inl ⟨hz, rfl⟩⟩ | exact ⟨f1.mono rfl, hI2, Or.inr ⟨i1, i2, i3, ⟨h1, h2, h3⟩, ⟨ht1, ht2, ht3⟩, by omega, by rw [if_pos (by omega)]⟩⟩ | exact ⟨f1.mono rfl, hI2, Or.inr ⟨i1, i2, i3, ⟨h1, h2, h3⟩, ⟨ht1, ht2, ht3⟩, by omega, by rw [if_neg (by omega), if_pos (by omega)]⟩⟩ | exact ⟨(f1.mono rfl).trs (hq6.1.mono rfl), hI2.frs hq6.1 rfl, Or.inr ⟨i1, i2, i3, ⟨h1, h2, h3⟩, ⟨ht1, ht2, ht3⟩, by omega, by rw [if_neg (by omega), if_neg (by omega)]; exact hq6.2⟩⟩
def sibC (n : Nat) (S : Nat → Nat) (L : List Nat) (au od : Nat) : Nat → Nat
  | 0 => 0
  | k + 1 => sibC n S L au od k + (if autN n S (pn n (L.getD k 0)) = au ∧ chnN n S (pn n (L.getD k 0)) = od then 1 else 0)
theorem sibC_le (n : Nat) (S : Nat → Nat) (L : List Nat) (au od : Nat) : ∀ k, sibC n S L au od k ≤ k
  | 0 => Nat.le_refl _
  | k + 1 => by have := sibC_le n S L au od k; simp only [sibC]; split <;> omega
def SibP (n : Nat) (s a : Nat → Nat) (z : Int) : Prop := ∃ i1 i2 i3, (i1 < kmany n ∧ i2 < kmany n ∧ i3 < kmany n) ∧ (kindN s n = kT n i1 ∧ kindN a n = kT n i2 ∧ kindN (pface s a) n = kT n i3) ∧
  z = (sibC n (leastF (kT n i1) n) (clL n i1 i2 i3) (setC n s a) (chnN n s a) (clL n i1 i2 i3).length : Nat)
theorem chnN_le {n : Nat} (hn7 : n ≤ 7) (s a : Nat → Nat) : chnN n s a ≤ 117649 := by
  unfold chnN
  have h := fndL_le (chnC n s a) (n - 1) (by omega)
  have : 7 ^ (n - 1) ≤ 7 ^ 6 := Nat.pow_le_pow_right (by decide) (by omega)
  exact Nat.le_trans h (Nat.le_trans this (by decide))
theorem cntG_len {P : (Nat → Nat) → Bool} (L : List (Nat → Nat)) : ∀ k, cntG P L k ≤ k
  | 0 => Nat.le_refl _
  | k + 1 => by have := cntG_len (P := P) L k; simp only [cntG]; split <;> omega
theorem autN_le {n : Nat} (hn1 : 1 ≤ n) (hn7 : n ≤ 7) {S : Nat → Nat} (hS : Pm n S) (A : Nat → Nat) : autN n S A ≤ 5040 := by
  have h := cntG_len (P := fun r => hx (pconj A r) == hx A) (gathL n S S) (gathL n S S).length
  have := gathL_len hn1 hn7 hS hS
  have := fac_le hn1 hn7
  unfold autN; omega
theorem cntU_len {V : Nat → Nat} (m : Nat) : ∀ k, cntU V m k ≤ k
  | 0 => Nat.le_refl _
  | k + 1 => by have := cntU_len (V := V) m k; simp only [cntU]; split <;> omega
theorem setC_le {n : Nat} (hn1 : 1 ≤ n) (hn7 : n ≤ 7) {s : Nat → Nat} (hs : Pm n s) (a : Nat → Nat) : setC n s a ≤ 5040 := by
  have h := cntU_len (V := setV n s a) (setA n s a) (gathL n s (canS n s)).length
  have := gathL_len hn1 hn7 hs (canS_pm hn1 hn7 hs)
  have := fac_le hn1 hn7
  unfold setC; omega
set_option maxHeartbeats 4000000 in
set_option maxRecDepth 100000 in
theorem c_siblings (l : Launch) (G : Gx) (h64 : OP64) {n : Nat} {s a : Nat → Nat} (hV : MapV n s a) (w : Wd) (hM : MapW w n s a) (hI : CInv w) : Sp l G 11 mX10_siblings [aR 0] w (fun z w' => Fr [7, 8, 9, 10, 11, 12, 13, 19, 20, 21, 24, 25, 26] w w' ∧ CInv w' ∧ SibP n s a z) := by
  obtain ⟨⟨hn1, hn7⟩, hs, ha⟩ := id hV
  obtain ⟨m0, m1, m2⟩ := id hM
  obtain ⟨i1, h1, hk1⟩ := kf_type hn1 hn7 hs
  obtain ⟨i2, h2, hk2⟩ := kf_type hn1 hn7 ha
  obtain ⟨i3, h3, hk3⟩ := kf_type hn1 hn7 (Pm.face hn7 hs ha)
  have hl64 : (clL n i1 i2 i3).length ≤ 64 := h64 n i1 i2 i3 hn1 hn7 h1 h2 h3
  have hsc := setC_le hn1 hn7 hs a
  have hcc := chnN_le hn7 s a
  have hSm := lp_pm hn7 h1
  refine Sp_of RX10 rfl (by decide +kernel) rfl (Nat.le_of_ble_eq_true rfl) ?_
  refine v_aload_n 0 (pc' := 1) rfl dX10_siblings_0 rfl rfl ?_
  refine v_getR (pc' := 4) rfl dX10_siblings_1 fk_RX10_16 ly_0 rfl ?_
  refine v_get (z := (n : Int)) (pc' := 7) rfl dX10_siblings_4 fk_RX10_81 ly_2 rfl (m0) ?_
  refine v_nm (fun n1' hn1' => ?_)
  refine v_istore_n (ls' := [(1, _), (0, _)]) (pc' := 8) rfl dX10_siblings_7 rfl rfl rfl ?_
  refine v_aload_n 1 (pc' := 9) rfl dX10_siblings_8 rfl rfl ?_
  refine v_getR (pc' := 12) rfl dX10_siblings_9 fk_RX10_27 ly_0 rfl ?_
  refine v_iload_n 0 (pc' := 13) rfl dX10_siblings_12 rfl rfl ?_
  refine v_aload_n 1 (pc' := 14) rfl dX10_siblings_13 rfl rfl ?_
  refine v_getR (pc' := 17) rfl dX10_siblings_14 fk_RX10_16 ly_0 rfl ?_
  refine v_get (z := ((hx s : Nat) : Int)) (pc' := 20) rfl dX10_siblings_17 fk_RX10_87 ly_2 rfl (m1) ?_
  refine v_aload_n 1 (pc' := 21) rfl dX10_siblings_20 rfl rfl ?_
  refine v_getR (pc' := 24) rfl dX10_siblings_21 fk_RX10_16 ly_0 rfl ?_
  refine v_get (z := ((hx a : Nat) : Int)) (pc' := 27) rfl dX10_siblings_24 fk_RX10_90 ly_2 rfl (m2) ?_
  refine v_cVv (pc' := 30) rfl dX10_siblings_27 lk_RX10_146 ly_7 rfl (c_settle l G (n := n) hn1' hn1 hn7 hs ha rfl rfl w) rfl rfl rfl (fun settle1 w1 hq1 => ?_)
  obtain ⟨f1, s7, s8, s9⟩ := hq1
  have m0 : w1 2 0 = (n : Int) := (f1 2 0 (by decide)).trans m0
  have m1 : w1 2 1 = ((hx s : Nat) : Int) := (f1 2 1 (by decide)).trans m1
  have m2 : w1 2 2 = ((hx a : Nat) : Int) := (f1 2 2 (by decide)).trans m2
  refine v_aload_n 1 (pc' := 31) rfl dX10_siblings_30 rfl rfl ?_
  refine v_getR (pc' := 34) rfl dX10_siblings_31 fk_RX10_27 ly_0 rfl ?_
  refine v_get (z := ((setC n s a : Nat) : Int)) (pc' := 37) rfl dX10_siblings_34 fk_RX10_200 ly_7 rfl (s9) ?_
  refine v_nm (fun au' hau' => ?_)
  refine v_istore_n (ls' := [(2, _), (1, _), (0, _)]) (pc' := 38) rfl dX10_siblings_37 rfl rfl rfl ?_
  refine v_aload_n 2 (pc' := 39) rfl dX10_siblings_38 rfl rfl ?_
  refine v_getR (pc' := 42) rfl dX10_siblings_39 fk_RX10_34 ly_0 rfl ?_
  refine v_iload_n 1 (pc' := 43) rfl dX10_siblings_42 rfl rfl ?_
  refine v_aload_n 2 (pc' := 44) rfl dX10_siblings_43 rfl rfl ?_
  refine v_getR (pc' := 47) rfl dX10_siblings_44 fk_RX10_16 ly_0 rfl ?_
  refine v_get (z := ((hx s : Nat) : Int)) (pc' := 50) rfl dX10_siblings_47 fk_RX10_87 ly_2 rfl (m1) ?_
  refine v_aload_n 2 (pc' := 51) rfl dX10_siblings_50 rfl rfl ?_
  refine v_getR (pc' := 54) rfl dX10_siblings_51 fk_RX10_16 ly_0 rfl ?_
  refine v_get (z := ((hx a : Nat) : Int)) (pc' := 57) rfl dX10_siblings_54 fk_RX10_90 ly_2 rfl (m2) ?_
  refine v_cVi (pc' := 60) rfl dX10_siblings_57 lk_RX10_203 ly_11 rfl (c_order2 l G (n := n) hn1' hn1 hn7 rfl rfl hs ha w1) rfl rfl rfl (fun order1 w2 hq2 => ?_)
  obtain ⟨o2, f2⟩ := hq2
  have hI3 := (hI.frs f1 rfl).frs f2 rfl
  have m0 : w2 2 0 = (n : Int) := (f2 2 0 (by decide)).trans m0
  have m1 : w2 2 1 = ((hx s : Nat) : Int) := (f2 2 1 (by decide)).trans m1
  have m2 : w2 2 2 = ((hx a : Nat) : Int) := (f2 2 2 (by decide)).trans m2
  have s9 : w2 7 9 = ((setC n s a : Nat) : Int) := (f2 7 9 (by decide)).trans s9
  refine v_istore_n (ls' := [(3, _), (2, _), (1, _), (0, _)]) (pc' := 61) rfl dX10_siblings_60 rfl rfl rfl ?_
  refine v_aload_n 3 (pc' := 62) rfl dX10_siblings_61 rfl rfl ?_
  refine v_getR (pc' := 65) rfl dX10_siblings_62 fk_RX10_16 ly_0 rfl ?_
  refine v_get (z := ((hx s : Nat) : Int)) (pc' := 68) rfl dX10_siblings_65 fk_RX10_87 ly_2 rfl (m1) ?_
  refine v_aload_n 3 (pc' := 69) rfl dX10_siblings_68 rfl rfl ?_
  refine v_getR (pc' := 72) rfl dX10_siblings_69 fk_RX10_16 ly_0 rfl ?_
  refine v_get (z := ((hx a : Nat) : Int)) (pc' := 75) rfl dX10_siblings_72 fk_RX10_90 ly_2 rfl (m2) ?_
  refine v_cSP (pc' := 78) rfl dX10_siblings_75 lk_RX10_156 rfl (c_faces l G rfl rfl (hs.mono hn7) (ha.mono hn7) w2) rfl rfl rfl ?_
  refine v_nm (fun faces1 hfaces1 => ?_)
  refine v_iload_n 2 (pc' := 79) rfl dX10_siblings_78 rfl rfl ?_
  refine v_cSP (pc' := 82) rfl dX10_siblings_79 lk_RX10_159 rfl (c_kind l G hfaces1 ((Pm.face hn7 hs ha).b7 hn7) hn1' hn7 w2) rfl rfl rfl ?_
  refine v_nm (fun kind1 hkind1 => ?_)
  refine v_istore (ls' := [(4, _), (3, _), (2, _), (1, _), (0, _)]) (pc' := 84) rfl dX10_siblings_82 rfl rfl ?_
  refine v_aload_n 4 (pc' := 85) rfl dX10_siblings_84 rfl rfl ?_
  refine v_getR (pc' := 88) rfl dX10_siblings_85 fk_RX10_55 ly_0 rfl ?_
  refine v_aload_n 4 (pc' := 89) rfl dX10_siblings_88 rfl rfl ?_
  refine v_getR (pc' := 92) rfl dX10_siblings_89 fk_RX10_27 ly_0 rfl ?_
  refine v_iload_n 3 (pc' := 93) rfl dX10_siblings_92 rfl rfl ?_
  refine v_aload_n 4 (pc' := 94) rfl dX10_siblings_93 rfl rfl ?_
  refine v_getR (pc' := 97) rfl dX10_siblings_94 fk_RX10_16 ly_0 rfl ?_
  refine v_get (z := ((hx s : Nat) : Int)) (pc' := 100) rfl dX10_siblings_97 fk_RX10_87 ly_2 rfl (m1) ?_
  refine v_iload_n 3 (pc' := 101) rfl dX10_siblings_100 rfl rfl ?_
  refine v_cSP (pc' := 104) rfl dX10_siblings_101 lk_RX10_159 rfl (c_kind l G rfl (hs.b7 hn7) hn1' hn7 w2) rfl rfl rfl ?_
  refine v_nm (fun kind2 hkind2 => ?_)
  refine v_aload_n 4 (pc' := 105) rfl dX10_siblings_104 rfl rfl ?_
  refine v_getR (pc' := 108) rfl dX10_siblings_105 fk_RX10_16 ly_0 rfl ?_
  refine v_get (z := ((hx a : Nat) : Int)) (pc' := 111) rfl dX10_siblings_108 fk_RX10_90 ly_2 rfl (m2) ?_
  refine v_iload_n 3 (pc' := 112) rfl dX10_siblings_111 rfl rfl ?_
  refine v_cSP (pc' := 115) rfl dX10_siblings_112 lk_RX10_159 rfl (c_kind l G rfl (ha.b7 hn7) hn1' hn7 w2) rfl rfl rfl ?_
  refine v_nm (fun kind3 hkind3 => ?_)
  refine v_iload 0 (pc' := 117) rfl dX10_siblings_115 rfl ?_
  refine v_cVv (pc' := 120) rfl dX10_siblings_117 lk_RX10_224 ly_19 rfl (c_list l G (n := n) hn1' hn1 hn7 h1 h2 h3 (hkind2.trans (by rw [hk1])) (hkind3.trans (by rw [hk2])) (hkind1.trans (by rw [hk3])) (h64 n i1 i2 i3 hn1 hn7 h1 h2 h3) w2 hI3) rfl rfl rfl (fun list1 w7 hq7 => ?_)
  obtain ⟨lP, lK, lC, lT, f7⟩ := hq7
  have hI4 := CInv_lis hn1 hn7 h1 h2 h3 lP lK lC lT
  have l14 : w7 19 14 = ((clL n i1 i2 i3).length : Nat) := lC.1
  have l15 := lC.2.1
  refine v_iconst (pc' := 121) rfl dX10_siblings_120 ?_
  refine v_istore (ls' := [(5, _), (4, _), (3, _), (2, _), (1, _), (0, _)]) (pc' := 123) rfl dX10_siblings_121 rfl rfl ?_
  refine v_iconst (pc' := 124) rfl dX10_siblings_123 ?_
  refine v_istore (ls' := [(6, _), (5, _), (4, _), (3, _), (2, _), (1, _), (0, _)]) (pc' := 126) rfl dX10_siblings_124 rfl rfl ?_
  refine v_ls [6, 5, 4, 3, 2, 1, 0] rfl ?_
  refine v_loop3 126 (fun (al : Int) (i : Int) (wl : Wd) => ∃ k : Nat, i = k ∧ k ≤ (clL n i1 i2 i3).length ∧ al = (sibC n (leastF (kT n i1) n) (clL n i1 i2 i3) (setC n s a) (chnN n s a) k : Nat) ∧ Fr [11, 12, 13] w7 wl) (fun (al : Int) (i : Int) (wl : Wd) => (64 - i).toNat) (fun (al : Int) (i : Int) (wl : Wd) => [(0, aR 0), (1, aI (n1')), (2, aI (au')), (3, aI (order1)), (4, aI (kind1)), (5, aI (al)), (6, aI (i))]) (fun (al : Int) (i : Int) (wl : Wd) => []) (fun (al : Int) (i : Int) (wl : Wd) => wl) (fun al i wl hI0 ih0 => ?_) (0) (0) w7 (⟨0, rfl, by omega, rfl, Fr.rf _ _⟩)
  obtain ⟨k, hi, hk, hal, hfl⟩ := hI0
  have g14 := (hfl 19 14 rfl).trans l14
  have g15 := (hfl 19 15 rfl).trans l15
  have hsl := sibC_le n (leastF (kT n i1) n) (clL n i1 i2 i3) (setC n s a) (chnN n s a) k
  refine v_iload 6 (pc' := 128) rfl dX10_siblings_126 rfl ?_
  refine v_aload_n 0 (pc' := 129) rfl dX10_siblings_128 rfl rfl ?_
  refine v_getR (pc' := 132) rfl dX10_siblings_129 fk_RX10_55 ly_0 rfl ?_
  refine v_get (z := (((clL n i1 i2 i3).length : Nat) : Int)) (pc' := 135) rfl dX10_siblings_132 fk_RX10_228 ly_19 rfl (g14) ?_
  refine v_icmp_ge (pc' := 138) (tgt := 188) rfl dX10_siblings_135 (by decide) (by omega) (by omega) (fun c0 => ?_) (fun c0 => ?_)
  ·
    have hke : k = (clL n i1 i2 i3).length := by omega
    refine v_iload 5 (pc' := 190) rfl dX10_siblings_188 rfl ?_
    refine v_iret dX10_siblings_190 (by decide) (rfl) ?_
    exact ⟨(((f1.mono rfl).trs (f2.mono rfl)).trs (f7.mono rfl)).trs (hfl.mono rfl), hI4.frs hfl rfl, i1, i2, i3, ⟨h1, h2, h3⟩, ⟨hk1, hk2, hk3⟩, by rw [hal, hke]⟩
  ·
    have hkl : k < (clL n i1 i2 i3).length := by omega
    have hcl : w7 25 k = (hx (pn n ((clL n i1 i2 i3).getD k 0)) : Nat) ∧ w7 26 k = (autN n (leastF (kT n i1) n) (pn n ((clL n i1 i2 i3).getD k 0)) : Nat) := lC.2.2 k hkl
    have hAm := (pn_at hn1 hn7 (clL_lt hkl)).1
    have hau := autN_le hn1 hn7 hSm (pn n ((clL n i1 i2 i3).getD k 0))
    refine v_aload_n 0 (pc' := 139) rfl dX10_siblings_138 rfl rfl ?_
    refine v_getR (pc' := 142) rfl dX10_siblings_139 fk_RX10_55 ly_0 rfl ?_
    refine v_iload 6 (pc' := 144) rfl dX10_siblings_142 rfl ?_
    refine v_cVP (pc' := 147) rfl dX10_siblings_144 lk_RX10_231 ly_19 rfl (c_auts1 l G (i := k) hi (by omega) wl) rfl rfl rfl ?_
    refine v_nm (fun auts1 hauts1 => ?_)
    refine v_iload_n 2 (pc' := 148) rfl dX10_siblings_147 rfl rfl ?_
    refine v_icmp_ne (pc' := 151) (tgt := 182) rfl dX10_siblings_148 (by decide) (by rw [hauts1, hfl 26 k rfl, hcl.2]; omega) (by omega) (fun c1 => ?_) (fun c1 => ?_)
    ·
      have hne : ¬ autN n (leastF (kT n i1) n) (pn n ((clL n i1 i2 i3).getD k 0)) = setC n s a := fun q => c1 (by rw [hauts1, hfl 26 k rfl, hcl.2]; omega)
      refine v_iinc (ls' := [(6, _), (0, _), (1, _), (2, _), (3, _), (4, _), (5, _)]) 6 (pc' := 185) rfl dX10_siblings_182 rfl rfl rfl ?_
      refine v_nl (fun i' hi' => ?_)
      refine v_goto (tgt := 126) dX10_siblings_185 (by decide) ?_
      refine v_ls [1, 2, 3, 4, 5, 6, 0] rfl ?_
      exact ih0 (al) (i') wl (⟨k + 1, by omega, by omega, by simp only [sibC]; rw [if_neg (fun q => by omega)]; omega, hfl⟩) (by omega)
    ·
      have heq : autN n (leastF (kT n i1) n) (pn n ((clL n i1 i2 i3).getD k 0)) = setC n s a := by
        rw [hauts1, hfl 26 k rfl, hcl.2] at c1
        omega
      refine v_aload_n 0 (pc' := 152) rfl dX10_siblings_151 rfl rfl ?_
      refine v_getR (pc' := 155) rfl dX10_siblings_152 fk_RX10_34 ly_0 rfl ?_
      refine v_iload_n 1 (pc' := 156) rfl dX10_siblings_155 rfl rfl ?_
      refine v_aload_n 0 (pc' := 157) rfl dX10_siblings_156 rfl rfl ?_
      refine v_getR (pc' := 160) rfl dX10_siblings_157 fk_RX10_55 ly_0 rfl ?_
      refine v_get (z := ((hx (leastF (kT n i1) n) : Nat) : Int)) (pc' := 163) rfl dX10_siblings_160 fk_RX10_233 ly_19 rfl (g15) ?_
      refine v_aload_n 0 (pc' := 164) rfl dX10_siblings_163 rfl rfl ?_
      refine v_getR (pc' := 167) rfl dX10_siblings_164 fk_RX10_55 ly_0 rfl ?_
      refine v_iload 6 (pc' := 169) rfl dX10_siblings_167 rfl ?_
      refine v_cVP (pc' := 172) rfl dX10_siblings_169 lk_RX10_235 ly_19 rfl (c_white1 l G (i := k) hi (by omega) wl) rfl rfl rfl ?_
      refine v_nm (fun white1 hwhite1 => ?_)
      refine v_cVi (pc' := 175) rfl dX10_siblings_172 lk_RX10_203 ly_11 rfl (c_order2 l G (n := n) hn1' hn1 hn7 rfl (hwhite1.trans ((hfl 25 k rfl).trans hcl.1)) hSm hAm wl) rfl rfl rfl (fun order2 w10 hq10 => ?_)
      obtain ⟨o9, f9⟩ := hq10
      have hcA := chnN_le hn7 (leastF (kT n i1) n) (pn n ((clL n i1 i2 i3).getD k 0))
      refine v_iload_n 3 (pc' := 176) rfl dX10_siblings_175 rfl rfl ?_
      refine v_icmp_ne (pc' := 179) (tgt := 182) rfl dX10_siblings_176 (by decide) (by rw [o9]; omega) (by omega) (fun c2 => ?_) (fun c2 => ?_)
      ·
        refine v_iinc (ls' := [(6, _), (0, _), (1, _), (2, _), (3, _), (4, _), (5, _)]) 6 (pc' := 185) rfl dX10_siblings_182 rfl rfl rfl ?_
        refine v_nl (fun i' hi' => ?_)
        refine v_goto (tgt := 126) dX10_siblings_185 (by decide) ?_
        refine v_ls [1, 2, 3, 4, 5, 6, 0] rfl ?_
        exact ih0 (al) (i') w10 (⟨k + 1, by omega, by omega, by simp only [sibC]; rw [if_neg (fun q => by omega)]; omega, hfl.trs f9⟩) (by omega)
      ·
        refine v_iinc (ls' := [(5, _), (0, _), (1, _), (2, _), (3, _), (4, _), (6, _)]) 5 (pc' := 182) rfl dX10_siblings_179 rfl rfl rfl ?_
        refine v_nl (fun al' hal' => ?_)
        refine v_iinc (ls' := [(6, _), (5, _), (0, _), (1, _), (2, _), (3, _), (4, _)]) 6 (pc' := 185) rfl dX10_siblings_182 rfl rfl rfl ?_
        refine v_nl (fun i' hi' => ?_)
        refine v_goto (tgt := 126) dX10_siblings_185 (by decide) ?_
        refine v_ls [2, 3, 4, 5, 6, 1, 0] rfl ?_
        exact ih0 (al') (i') w10 (⟨k + 1, by omega, by omega, by simp only [sibC]; rw [if_pos ⟨by omega, by omega⟩]; omega, hfl.trs f9⟩) (by omega)

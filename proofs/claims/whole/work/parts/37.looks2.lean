def cycI (f : Nat → Nat) (n : Nat) (what : Int) : Int :=
  if what = 0 then (ringsN f (full n) : Int) else if what = 1 then (restN f n : Int) else if what = 2 then (orderN f n : Int)
  else if what = 3 then band ((n : Int) - (ringsN f (full n) : Int)) 1 else -1
def partI (s a : Nat → Nat) (d what : Int) : Int :=
  if what = 0 then (lowN (reachN s a d.toNat) : Int) else if what = 1 then (popc (reachN s a d.toNat) : Int)
  else if what = 2 then genusI s a (reachN s a d.toNat) else -1
theorem reachN_nz {s a : Nat → Nat} (hs : P7 s) (ha : P7 a) {x : Nat} (h1 : 1 ≤ x) (h2 : x ≤ 7) : reachN s a x ≠ 0 := by
  intro e
  have h := (reach_spec hs ha h1 h2).1
  rw [e] at h
  exact h (Nat.zero_and _)
set_option maxHeartbeats 4000000 in
set_option maxRecDepth 100000 in
theorem c_cycles (l : Launch) (G : Gx) {wh what : Int} (hwh : rg wh) (hwt : rg what) {n : Nat} {s a : Nat → Nat} (hV : MapV n s a) (w : Wd) (hM : MapW w n s a) : SpP l G 4 mX10_cycles [aR 0, aI (wh), aI (what)] w ((if tok wh then cycI (trF s a wh) n what else -1)) := by
  obtain ⟨⟨hn1, hn7⟩, hs, ha⟩ := id hV
  obtain ⟨m0, m1, m2⟩ := id hM
  have hf := trF_pm hV wh
  refine Sp_of RX10 rfl (by decide +kernel) rfl (Nat.le_of_ble_eq_true rfl) ?_
  refine v_aload_n 0 (pc' := 1) rfl dX10_cycles_0 rfl rfl ?_
  refine v_iload_n 1 (pc' := 2) rfl dX10_cycles_1 rfl rfl ?_
  refine v_cVP (pc' := 5) rfl dX10_cycles_2 lk_RX10_101 ly_0 rfl (c_turn l G hwh hV w hM) rfl rfl rfl ?_
  refine v_nm (fun turn1 hturn1 => ?_)
  refine v_istore_n (ls' := [(3, _), (0, _), (1, _), (2, _)]) (pc' := 6) rfl dX10_cycles_5 rfl rfl rfl ?_
  refine v_iload_n 0 (pc' := 7) rfl dX10_cycles_6 rfl rfl ?_
  refine v_if_ne (pc' := 10) (tgt := 12) rfl dX10_cycles_7 (by decide) (by have := (trI_0 hV (wh := wh)).2; omega) (fun c0 => ?_) (fun c0 => ?_)
  ·
    have hz : tok wh := tok_of hV (by omega)
    have hT : turn1 = (hx (trF s a wh) : Nat) := hturn1.trans (trI_ok hz)
    refine v_aload_n 1 (pc' := 13) rfl dX10_cycles_12 rfl rfl ?_
    refine v_getR (pc' := 16) rfl dX10_cycles_13 fk_RX10_16 ly_0 rfl ?_
    refine v_get (z := (n : Int)) (pc' := 19) rfl dX10_cycles_16 fk_RX10_81 ly_2 rfl (m0) ?_
    refine v_cSP (pc' := 22) rfl dX10_cycles_19 lk_RX10_162 rfl (c_darts l G rfl hn7 w) rfl rfl rfl ?_
    refine v_nm (fun darts1 hdarts1 => ?_)
    refine v_istore (ls' := [(4, _), (3, _), (0, _), (1, _), (2, _)]) (pc' := 24) rfl dX10_cycles_22 rfl rfl ?_
    refine v_iload_n 4 (pc' := 25) rfl dX10_cycles_24 rfl rfl ?_
    rcases (show what = 0 ∨ what = 1 ∨ what = 2 ∨ what = 3 ∨ (what < 0 ∨ 3 < what) by omega) with sw0 | sw0 | sw0 | sw0 | sw0
    ·
      refine v_tin (tgt := 56) 0 dX10_cycles_25 sw0 (by decide) (by decide) (by decide) rfl (by decide) ?_
      have hz3 : cycI (trF s a wh) n what = (ringsN (trF s a wh) (full n) : Int) := by unfold cycI; rw [if_pos sw0]
      refine v_iload_n 1 (pc' := 57) rfl dX10_cycles_56 rfl rfl ?_
      refine v_iload 0 (pc' := 59) rfl dX10_cycles_57 rfl ?_
      refine v_cSP (pc' := 62) rfl dX10_cycles_59 lk_RX10_165 rfl (c_rings l G hT (hf.b7 hn7) hdarts1 (full_lt hn7) w) rfl rfl rfl ?_
      refine v_nm (fun rings1 hrings1 => ?_)
      refine v_iret dX10_cycles_62 (by decide) (rfl) ?_
      first | exact ⟨by rw [if_neg hz], rfl⟩ | exact ⟨by rw [if_pos hz, hz3]; exact hrings1, rfl⟩ | exact ⟨by rw [if_pos hz, hz3]; exact hresting1, rfl⟩ | exact ⟨by rw [if_pos hz, hz3]; exact horder1, rfl⟩ | exact ⟨by rw [if_pos hz, hz3], rfl⟩
    ·
      refine v_tin (tgt := 63) 1 dX10_cycles_25 sw0 (by decide) (by decide) (by decide) rfl (by decide) ?_
      have hz3 : cycI (trF s a wh) n what = (restN (trF s a wh) n : Int) := by unfold cycI; rw [if_neg (by omega), if_pos sw0]
      refine v_iload_n 1 (pc' := 64) rfl dX10_cycles_63 rfl rfl ?_
      refine v_aload_n 2 (pc' := 65) rfl dX10_cycles_64 rfl rfl ?_
      refine v_getR (pc' := 68) rfl dX10_cycles_65 fk_RX10_16 ly_0 rfl ?_
      refine v_get (z := (n : Int)) (pc' := 71) rfl dX10_cycles_68 fk_RX10_81 ly_2 rfl (m0) ?_
      refine v_cSP (pc' := 74) rfl dX10_cycles_71 lk_RX10_168 rfl (c_resting l G hT (hf.b7 hn7) rfl hn7 w) rfl rfl rfl ?_
      refine v_nm (fun resting1 hresting1 => ?_)
      refine v_iret dX10_cycles_74 (by decide) (rfl) ?_
      first | exact ⟨by rw [if_neg hz], rfl⟩ | exact ⟨by rw [if_pos hz, hz3]; exact hrings1, rfl⟩ | exact ⟨by rw [if_pos hz, hz3]; exact hresting1, rfl⟩ | exact ⟨by rw [if_pos hz, hz3]; exact horder1, rfl⟩ | exact ⟨by rw [if_pos hz, hz3], rfl⟩
    ·
      refine v_tin (tgt := 75) 2 dX10_cycles_25 sw0 (by decide) (by decide) (by decide) rfl (by decide) ?_
      have hz3 : cycI (trF s a wh) n what = (orderN (trF s a wh) n : Int) := by unfold cycI; rw [if_neg (by omega), if_neg (by omega), if_pos sw0]
      refine v_iload_n 1 (pc' := 76) rfl dX10_cycles_75 rfl rfl ?_
      refine v_aload_n 2 (pc' := 77) rfl dX10_cycles_76 rfl rfl ?_
      refine v_getR (pc' := 80) rfl dX10_cycles_77 fk_RX10_16 ly_0 rfl ?_
      refine v_get (z := (n : Int)) (pc' := 83) rfl dX10_cycles_80 fk_RX10_81 ly_2 rfl (m0) ?_
      refine v_cSP (pc' := 86) rfl dX10_cycles_83 lk_RX10_171 rfl (c_order l G hT (hf.b7 hn7) rfl hn7 w) rfl rfl rfl ?_
      refine v_nm (fun order1 horder1 => ?_)
      refine v_iret dX10_cycles_86 (by decide) (rfl) ?_
      first | exact ⟨by rw [if_neg hz], rfl⟩ | exact ⟨by rw [if_pos hz, hz3]; exact hrings1, rfl⟩ | exact ⟨by rw [if_pos hz, hz3]; exact hresting1, rfl⟩ | exact ⟨by rw [if_pos hz, hz3]; exact horder1, rfl⟩ | exact ⟨by rw [if_pos hz, hz3], rfl⟩
    ·
      refine v_tin (tgt := 87) 3 dX10_cycles_25 sw0 (by decide) (by decide) (by decide) rfl (by decide) ?_
      have hz3 : cycI (trF s a wh) n what = band ((n : Int) - (ringsN (trF s a wh) (full n) : Int)) 1 := by unfold cycI; rw [if_neg (by omega), if_neg (by omega), if_neg (by omega), if_pos sw0]
      refine v_aload_n 2 (pc' := 88) rfl dX10_cycles_87 rfl rfl ?_
      refine v_getR (pc' := 91) rfl dX10_cycles_88 fk_RX10_16 ly_0 rfl ?_
      refine v_get (z := (n : Int)) (pc' := 94) rfl dX10_cycles_91 fk_RX10_81 ly_2 rfl (m0) ?_
      refine v_iload_n 1 (pc' := 95) rfl dX10_cycles_94 rfl rfl ?_
      refine v_iload 0 (pc' := 97) rfl dX10_cycles_95 rfl ?_
      refine v_cSP (pc' := 100) rfl dX10_cycles_97 lk_RX10_165 rfl (c_rings l G hT (hf.b7 hn7) hdarts1 (full_lt hn7) w) rfl rfl rfl ?_
      refine v_nm (fun rings2 hrings2 => ?_)
      refine v_isub (pc' := 101) rfl dX10_cycles_100 ?_
      refine v_iconst (pc' := 102) rfl dX10_cycles_101 ?_
      refine v_iand (z := band ((n : Int) - (ringsN (trF s a wh) (full n) : Int)) 1) (pc' := 103) rfl dX10_cycles_102 (by rw [← hrings2]; exact band_iz _ _) ?_
      refine v_iret dX10_cycles_103 (by decide) (rfl) ?_
      first | exact ⟨by rw [if_neg hz], rfl⟩ | exact ⟨by rw [if_pos hz, hz3]; exact hrings1, rfl⟩ | exact ⟨by rw [if_pos hz, hz3]; exact hresting1, rfl⟩ | exact ⟨by rw [if_pos hz, hz3]; exact horder1, rfl⟩ | exact ⟨by rw [if_pos hz, hz3], rfl⟩
    ·
      refine v_tout (tgt := 104) dX10_cycles_25 (by omega) sw0 (by decide) ?_
      have hz3 : cycI (trF s a wh) n what = -1 := by unfold cycI; rw [if_neg (by omega), if_neg (by omega), if_neg (by omega), if_neg (by omega)]
      refine v_iconst (pc' := 105) rfl dX10_cycles_104 ?_
      refine v_iret dX10_cycles_105 (by decide) (rfl) ?_
      first | exact ⟨by rw [if_neg hz], rfl⟩ | exact ⟨by rw [if_pos hz, hz3]; exact hrings1, rfl⟩ | exact ⟨by rw [if_pos hz, hz3]; exact hresting1, rfl⟩ | exact ⟨by rw [if_pos hz, hz3]; exact horder1, rfl⟩ | exact ⟨by rw [if_pos hz, hz3], rfl⟩
  ·
    have hz : ¬ tok wh := ntok_of hV (by omega)
    refine v_iconst (pc' := 11) rfl dX10_cycles_10 ?_
    refine v_iret dX10_cycles_11 (by decide) (rfl) ?_
    first | exact ⟨by rw [if_neg hz], rfl⟩ | exact ⟨by rw [if_pos hz, hz3]; exact hrings1, rfl⟩ | exact ⟨by rw [if_pos hz, hz3]; exact hresting1, rfl⟩ | exact ⟨by rw [if_pos hz, hz3]; exact horder1, rfl⟩ | exact ⟨by rw [if_pos hz, hz3], rfl⟩
set_option maxHeartbeats 4000000 in
set_option maxRecDepth 100000 in
theorem c_part (l : Launch) (G : Gx) {d what : Int} (hd : rg d) (hwt : rg what) {n : Nat} {s a : Nat → Nat} (hV : MapV n s a) (w : Wd) (hM : MapW w n s a) : SpP l G 4 mX10_part [aR 0, aI (d), aI (what)] w ((if 1 ≤ d ∧ d ≤ (n : Int) then partI s a d what else -1)) := by
  obtain ⟨⟨hn1, hn7⟩, hs, ha⟩ := id hV
  obtain ⟨m0, m1, m2⟩ := id hM
  refine Sp_of RX10 rfl (by decide +kernel) rfl (Nat.le_of_ble_eq_true rfl) ?_
  refine v_aload_n 0 (pc' := 1) rfl dX10_part_0 rfl rfl ?_
  refine v_iload_n 1 (pc' := 2) rfl dX10_part_1 rfl rfl ?_
  refine v_cVP (pc' := 5) rfl dX10_part_2 lk_RX10_174 ly_0 rfl (c_dartStands l G hd hV w hM) rfl rfl rfl ?_
  refine v_nm (fun dartStands1 hdartStands1 => ?_)
  refine v_if_ne (pc' := 8) (tgt := 10) rfl dX10_part_5 (by decide) (by rw [hdartStands1]; split <;> decide) (fun c0 => ?_) (fun c0 => ?_)
  ·
    have hys : 1 ≤ d ∧ d ≤ (n : Int) := Classical.byContradiction (fun q => by rw [if_neg q] at hdartStands1; omega)
    have hrl := reachN_lt (hs.b7 hn7) (ha.b7 hn7) (x := d.toNat) (by omega) (by omega)
    have hrn := reachN_nz (hs.b7 hn7) (ha.b7 hn7) (x := d.toNat) (by omega) (by omega)
    refine v_aload_n 0 (pc' := 11) rfl dX10_part_10 rfl rfl ?_
    refine v_getR (pc' := 14) rfl dX10_part_11 fk_RX10_16 ly_0 rfl ?_
    refine v_get (z := ((hx s : Nat) : Int)) (pc' := 17) rfl dX10_part_14 fk_RX10_87 ly_2 rfl (m1) ?_
    refine v_aload_n 0 (pc' := 18) rfl dX10_part_17 rfl rfl ?_
    refine v_getR (pc' := 21) rfl dX10_part_18 fk_RX10_16 ly_0 rfl ?_
    refine v_get (z := ((hx a : Nat) : Int)) (pc' := 24) rfl dX10_part_21 fk_RX10_90 ly_2 rfl (m2) ?_
    refine v_iload_n 1 (pc' := 25) rfl dX10_part_24 rfl rfl ?_
    refine v_cSP (pc' := 28) rfl dX10_part_25 lk_RX10_237 rfl (c_reach l G rfl rfl (hs.b7 hn7) (ha.b7 hn7) (show d = ((d.toNat : Nat) : Int) by omega) (by omega) (by omega) w) rfl rfl rfl ?_
    refine v_nm (fun reach1 hreach1 => ?_)
    refine v_istore_n (ls' := [(3, _), (0, _), (1, _), (2, _)]) (pc' := 29) rfl dX10_part_28 rfl rfl rfl ?_
    refine v_iload_n 3 (pc' := 30) rfl dX10_part_29 rfl rfl ?_
    rcases (show what = 0 ∨ what = 1 ∨ what = 2 ∨ (what < 0 ∨ 2 < what) by omega) with sw0 | sw0 | sw0 | sw0
    ·
      refine v_tin (tgt := 56) 0 dX10_part_30 sw0 (by decide) (by decide) (by decide) rfl (by decide) ?_
      have hz3 : partI s a d what = (lowN (reachN s a d.toNat) : Int) := by unfold partI; rw [if_pos sw0]
      refine v_iload_n 0 (pc' := 57) rfl dX10_part_56 rfl rfl ?_
      refine v_cSP (pc' := 60) rfl dX10_part_57 lk_RX10_240 rfl (c_lowest l G hreach1 hrl hrn w) rfl rfl rfl ?_
      refine v_nm (fun lowest1 hlowest1 => ?_)
      refine v_iret dX10_part_60 (by decide) (rfl) ?_
      first | exact ⟨by rw [if_neg hns], rfl⟩ | exact ⟨by rw [if_pos hys, hz3]; exact hlowest1, rfl⟩ | exact ⟨by rw [if_pos hys, hz3]; exact hbitCount1, rfl⟩ | exact ⟨by rw [if_pos hys, hz3]; exact hgenus1, rfl⟩ | exact ⟨by rw [if_pos hys, hz3], rfl⟩
    ·
      refine v_tin (tgt := 61) 1 dX10_part_30 sw0 (by decide) (by decide) (by decide) rfl (by decide) ?_
      have hz3 : partI s a d what = (popc (reachN s a d.toNat) : Int) := by unfold partI; rw [if_neg (by omega), if_pos sw0]
      refine v_iload_n 0 (pc' := 62) rfl dX10_part_61 rfl rfl ?_
      refine v_cSP (pc' := 65) rfl dX10_part_62 lk_RX10_180 rfl (c_bitCount l G hreach1 (by omega) w) rfl rfl rfl ?_
      refine v_nm (fun bitCount1 hbitCount1 => ?_)
      refine v_iret dX10_part_65 (by decide) (rfl) ?_
      first | exact ⟨by rw [if_neg hns], rfl⟩ | exact ⟨by rw [if_pos hys, hz3]; exact hlowest1, rfl⟩ | exact ⟨by rw [if_pos hys, hz3]; exact hbitCount1, rfl⟩ | exact ⟨by rw [if_pos hys, hz3]; exact hgenus1, rfl⟩ | exact ⟨by rw [if_pos hys, hz3], rfl⟩
    ·
      refine v_tin (tgt := 66) 2 dX10_part_30 sw0 (by decide) (by decide) (by decide) rfl (by decide) ?_
      have hz3 : partI s a d what = genusI s a (reachN s a d.toNat) := by unfold partI; rw [if_neg (by omega), if_neg (by omega), if_pos sw0]
      refine v_aload_n 1 (pc' := 67) rfl dX10_part_66 rfl rfl ?_
      refine v_getR (pc' := 70) rfl dX10_part_67 fk_RX10_16 ly_0 rfl ?_
      refine v_get (z := ((hx s : Nat) : Int)) (pc' := 73) rfl dX10_part_70 fk_RX10_87 ly_2 rfl (m1) ?_
      refine v_aload_n 1 (pc' := 74) rfl dX10_part_73 rfl rfl ?_
      refine v_getR (pc' := 77) rfl dX10_part_74 fk_RX10_16 ly_0 rfl ?_
      refine v_get (z := ((hx a : Nat) : Int)) (pc' := 80) rfl dX10_part_77 fk_RX10_90 ly_2 rfl (m2) ?_
      refine v_iload_n 0 (pc' := 81) rfl dX10_part_80 rfl rfl ?_
      refine v_cSP (pc' := 84) rfl dX10_part_81 lk_RX10_197 rfl (c_genus l G rfl rfl (hs.mono hn7) (ha.mono hn7) hreach1 hrl w) rfl rfl rfl ?_
      refine v_nm (fun genus1 hgenus1 => ?_)
      refine v_iret dX10_part_84 (by decide) (rfl) ?_
      first | exact ⟨by rw [if_neg hns], rfl⟩ | exact ⟨by rw [if_pos hys, hz3]; exact hlowest1, rfl⟩ | exact ⟨by rw [if_pos hys, hz3]; exact hbitCount1, rfl⟩ | exact ⟨by rw [if_pos hys, hz3]; exact hgenus1, rfl⟩ | exact ⟨by rw [if_pos hys, hz3], rfl⟩
    ·
      refine v_tout (tgt := 85) dX10_part_30 (by omega) sw0 (by decide) ?_
      have hz3 : partI s a d what = -1 := by unfold partI; rw [if_neg (by omega), if_neg (by omega), if_neg (by omega)]
      refine v_iconst (pc' := 86) rfl dX10_part_85 ?_
      refine v_iret dX10_part_86 (by decide) (rfl) ?_
      first | exact ⟨by rw [if_neg hns], rfl⟩ | exact ⟨by rw [if_pos hys, hz3]; exact hlowest1, rfl⟩ | exact ⟨by rw [if_pos hys, hz3]; exact hbitCount1, rfl⟩ | exact ⟨by rw [if_pos hys, hz3]; exact hgenus1, rfl⟩ | exact ⟨by rw [if_pos hys, hz3], rfl⟩
  ·
    have hns : ¬ (1 ≤ d ∧ d ≤ (n : Int)) := fun q => by rw [if_pos q] at hdartStands1; omega
    refine v_iconst (pc' := 9) rfl dX10_part_8 ?_
    refine v_iret dX10_part_9 (by decide) (rfl) ?_
    first | exact ⟨by rw [if_neg hns], rfl⟩ | exact ⟨by rw [if_pos hys, hz3]; exact hlowest1, rfl⟩ | exact ⟨by rw [if_pos hys, hz3]; exact hbitCount1, rfl⟩ | exact ⟨by rw [if_pos hys, hz3]; exact hgenus1, rfl⟩ | exact ⟨by rw [if_pos hys, hz3], rfl⟩

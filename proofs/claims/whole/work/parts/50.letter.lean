def letF (s a : Nat → Nat) (c : Int) : Nat → Nat :=
  if c = 115 then s else if c = 97 then a else if c = 102 then pface s a else if c = 83 then pinv s else if c = 65 then pinv a else pinv (pface s a)
abbrev letOk (c : Int) : Prop := c = 115 ∨ c = 97 ∨ c = 102 ∨ c = 83 ∨ c = 65 ∨ c = 70
theorem letF_pm {n : Nat} {s a : Nat → Nat} (h : MapV n s a) (c : Int) : Pm n (letF s a c) := by
  have f := Pm.face h.1.2 h.2.1 h.2.2
  unfold letF
  split
  · exact h.2.1
  · split
    · exact h.2.2
    · split
      · exact f
      · split
        · exact h.2.1.inv h.1.2
        · split
          · exact h.2.2.inv h.1.2
          · exact f.inv h.1.2
theorem turn_2 {s a : Nat → Nat} : trI s a 2 = (hx (pface s a) : Nat) := (trI_ok (Or.inr (Or.inr rfl))).trans (by rw [trF_2 rfl])
set_option maxHeartbeats 4000000 in
set_option maxRecDepth 100000 in
theorem c_letter (l : Launch) (G : Gx) {c : Int} (hc : rg c) {n : Nat} {s a : Nat → Nat} (hV : MapV n s a) (w : Wd) (hM : MapW w n s a) : SpP l G 4 mX10_letter [aR 0, aI (c)] w ((if letOk c then ((hx (letF s a c) : Nat) : Int) else 0)) := by
  obtain ⟨⟨hn1, hn7⟩, hs, ha⟩ := id hV
  obtain ⟨m0, m1, m2⟩ := id hM
  refine Sp_of RX10 rfl (by decide +kernel) rfl (Nat.le_of_ble_eq_true rfl) ?_
  refine v_iload_n 1 (pc' := 1) rfl dX10_letter_0 rfl rfl ?_
  rcases (show c = 65 ∨ c = 70 ∨ c = 83 ∨ c = 97 ∨ c = 102 ∨ c = 115 ∨ (c ≠ 65 ∧ c ≠ 70 ∧ c ≠ 83 ∧ c ≠ 97 ∧ c ≠ 102 ∧ c ≠ 115) by omega) with sw0 | sw0 | sw0 | sw0 | sw0 | sw0 | sw0
  ·
    refine v_lsw (off := 92) (tgt := 93) dX10_letter_1 (by decide) (by omega) (by rw [sw0]; decide) (by decide) ?_
    have hz : (if letOk c then ((hx (letF s a c) : Nat) : Int) else 0) = (hx (pinv a) : Nat) := by rw [if_pos (by omega)]; unfold letF; rw [if_neg (by omega)]; rw [if_neg (by omega)]; rw [if_neg (by omega)]; rw [if_neg (by omega)]; rw [if_pos (by omega)]
    refine v_aload_n 0 (pc' := 94) rfl dX10_letter_93 rfl rfl ?_
    refine v_getR (pc' := 97) rfl dX10_letter_94 fk_RX10_16 ly_0 rfl ?_
    refine v_get (z := ((hx a : Nat) : Int)) (pc' := 100) rfl dX10_letter_97 fk_RX10_90 ly_2 rfl (m2) ?_
    refine v_cSP (pc' := 103) rfl dX10_letter_100 lk_RX10_346 rfl (c_back l G rfl (ha.mono hn7) w) rfl rfl rfl ?_
    refine v_nm (fun back2 hback2 => ?_)
    refine v_iret dX10_letter_103 (by decide) (rfl) ?_
    first | exact ⟨hz.symm, rfl⟩ | exact ⟨(hturn1.trans turn_2).trans hz.symm, rfl⟩ | exact ⟨hback1.trans hz.symm, rfl⟩ | exact ⟨hback2.trans hz.symm, rfl⟩ | exact ⟨hback3.trans hz.symm, rfl⟩
  ·
    refine v_lsw (off := 103) (tgt := 104) dX10_letter_1 (by decide) (by omega) (by rw [sw0]; decide) (by decide) ?_
    have hz : (if letOk c then ((hx (letF s a c) : Nat) : Int) else 0) = (hx (pinv (pface s a)) : Nat) := by rw [if_pos (by omega)]; unfold letF; rw [if_neg (by omega)]; rw [if_neg (by omega)]; rw [if_neg (by omega)]; rw [if_neg (by omega)]; rw [if_neg (by omega)]; 
    refine v_aload_n 0 (pc' := 105) rfl dX10_letter_104 rfl rfl ?_
    refine v_iconst (pc' := 106) rfl dX10_letter_105 ?_
    refine v_cVP (pc' := 109) rfl dX10_letter_106 lk_RX10_101 ly_0 rfl (c_turn l G (wh := 2) (by omega) hV w hM) rfl rfl rfl ?_
    refine v_nm (fun turn2 hturn2 => ?_)
    refine v_cSP (pc' := 112) rfl dX10_letter_109 lk_RX10_346 rfl (c_back l G (hturn2.trans turn_2) ((Pm.face hn7 hs ha).mono hn7) w) rfl rfl rfl ?_
    refine v_nm (fun back3 hback3 => ?_)
    refine v_iret dX10_letter_112 (by decide) (rfl) ?_
    first | exact ⟨hz.symm, rfl⟩ | exact ⟨(hturn1.trans turn_2).trans hz.symm, rfl⟩ | exact ⟨hback1.trans hz.symm, rfl⟩ | exact ⟨hback2.trans hz.symm, rfl⟩ | exact ⟨hback3.trans hz.symm, rfl⟩
  ·
    refine v_lsw (off := 81) (tgt := 82) dX10_letter_1 (by decide) (by omega) (by rw [sw0]; decide) (by decide) ?_
    have hz : (if letOk c then ((hx (letF s a c) : Nat) : Int) else 0) = (hx (pinv s) : Nat) := by rw [if_pos (by omega)]; unfold letF; rw [if_neg (by omega)]; rw [if_neg (by omega)]; rw [if_neg (by omega)]; rw [if_pos (by omega)]
    refine v_aload_n 0 (pc' := 83) rfl dX10_letter_82 rfl rfl ?_
    refine v_getR (pc' := 86) rfl dX10_letter_83 fk_RX10_16 ly_0 rfl ?_
    refine v_get (z := ((hx s : Nat) : Int)) (pc' := 89) rfl dX10_letter_86 fk_RX10_87 ly_2 rfl (m1) ?_
    refine v_cSP (pc' := 92) rfl dX10_letter_89 lk_RX10_346 rfl (c_back l G rfl (hs.mono hn7) w) rfl rfl rfl ?_
    refine v_nm (fun back1 hback1 => ?_)
    refine v_iret dX10_letter_92 (by decide) (rfl) ?_
    first | exact ⟨hz.symm, rfl⟩ | exact ⟨(hturn1.trans turn_2).trans hz.symm, rfl⟩ | exact ⟨hback1.trans hz.symm, rfl⟩ | exact ⟨hback2.trans hz.symm, rfl⟩ | exact ⟨hback3.trans hz.symm, rfl⟩
  ·
    refine v_lsw (off := 67) (tgt := 68) dX10_letter_1 (by decide) (by omega) (by rw [sw0]; decide) (by decide) ?_
    have hz : (if letOk c then ((hx (letF s a c) : Nat) : Int) else 0) = (hx (a) : Nat) := by rw [if_pos (by omega)]; unfold letF; rw [if_neg (by omega)]; rw [if_pos (by omega)]
    refine v_aload_n 0 (pc' := 69) rfl dX10_letter_68 rfl rfl ?_
    refine v_getR (pc' := 72) rfl dX10_letter_69 fk_RX10_16 ly_0 rfl ?_
    refine v_get (z := ((hx a : Nat) : Int)) (pc' := 75) rfl dX10_letter_72 fk_RX10_90 ly_2 rfl (m2) ?_
    refine v_iret dX10_letter_75 (by decide) (rfl) ?_
    first | exact ⟨hz.symm, rfl⟩ | exact ⟨(hturn1.trans turn_2).trans hz.symm, rfl⟩ | exact ⟨hback1.trans hz.symm, rfl⟩ | exact ⟨hback2.trans hz.symm, rfl⟩ | exact ⟨hback3.trans hz.symm, rfl⟩
  ·
    refine v_lsw (off := 75) (tgt := 76) dX10_letter_1 (by decide) (by omega) (by rw [sw0]; decide) (by decide) ?_
    have hz : (if letOk c then ((hx (letF s a c) : Nat) : Int) else 0) = (hx (pface s a) : Nat) := by rw [if_pos (by omega)]; unfold letF; rw [if_neg (by omega)]; rw [if_neg (by omega)]; rw [if_pos (by omega)]
    refine v_aload_n 0 (pc' := 77) rfl dX10_letter_76 rfl rfl ?_
    refine v_iconst (pc' := 78) rfl dX10_letter_77 ?_
    refine v_cVP (pc' := 81) rfl dX10_letter_78 lk_RX10_101 ly_0 rfl (c_turn l G (wh := 2) (by omega) hV w hM) rfl rfl rfl ?_
    refine v_nm (fun turn1 hturn1 => ?_)
    refine v_iret dX10_letter_81 (by decide) (rfl) ?_
    first | exact ⟨hz.symm, rfl⟩ | exact ⟨(hturn1.trans turn_2).trans hz.symm, rfl⟩ | exact ⟨hback1.trans hz.symm, rfl⟩ | exact ⟨hback2.trans hz.symm, rfl⟩ | exact ⟨hback3.trans hz.symm, rfl⟩
  ·
    refine v_lsw (off := 59) (tgt := 60) dX10_letter_1 (by decide) (by omega) (by rw [sw0]; decide) (by decide) ?_
    have hz : (if letOk c then ((hx (letF s a c) : Nat) : Int) else 0) = (hx (s) : Nat) := by rw [if_pos (by omega)]; unfold letF; rw [if_pos (by omega)]
    refine v_aload_n 0 (pc' := 61) rfl dX10_letter_60 rfl rfl ?_
    refine v_getR (pc' := 64) rfl dX10_letter_61 fk_RX10_16 ly_0 rfl ?_
    refine v_get (z := ((hx s : Nat) : Int)) (pc' := 67) rfl dX10_letter_64 fk_RX10_87 ly_2 rfl (m1) ?_
    refine v_iret dX10_letter_67 (by decide) (rfl) ?_
    first | exact ⟨hz.symm, rfl⟩ | exact ⟨(hturn1.trans turn_2).trans hz.symm, rfl⟩ | exact ⟨hback1.trans hz.symm, rfl⟩ | exact ⟨hback2.trans hz.symm, rfl⟩ | exact ⟨hback3.trans hz.symm, rfl⟩
  ·
    refine v_lsw (off := 112) (tgt := 113) dX10_letter_1 (by decide) (by omega) (by simp only [Op.lookupswitch.offset]; rw [if_neg (by omega), if_neg (by omega), if_neg (by omega), if_neg (by omega), if_neg (by omega), if_neg (by omega)]) (by decide) ?_
    have hz : (if letOk c then ((hx (letF s a c) : Nat) : Int) else 0) = 0 := if_neg (by omega)
    refine v_iconst (pc' := 114) rfl dX10_letter_113 ?_
    refine v_iret dX10_letter_114 (by decide) (rfl) ?_
    first | exact ⟨hz.symm, rfl⟩ | exact ⟨(hturn1.trans turn_2).trans hz.symm, rfl⟩ | exact ⟨hback1.trans hz.symm, rfl⟩ | exact ⟨hback2.trans hz.symm, rfl⟩ | exact ⟨hback3.trans hz.symm, rfl⟩

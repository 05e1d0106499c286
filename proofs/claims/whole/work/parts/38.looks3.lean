theorem nthL_in (f : Nat → Nat) : ∀ k x i, nthL f k x i = 0 ∨ (x ≤ nthL f k x i ∧ nthL f k x i < x + k)
  | 0, _, _ => Or.inl rfl
  | k + 1, x, i => by
    simp only [nthL]
    split
    · split
      · exact Or.inr (by omega)
      · rcases nthL_in f k (x + 1) (i - 1) with h | h
        · exact Or.inl h
        · exact Or.inr (by omega)
    · rcases nthL_in f k (x + 1) i with h | h
      · exact Or.inl h
      · exact Or.inr (by omega)
def pointI (f : Nat → Nat) (n : Nat) (i what : Int) : Int :=
  if nthN f n i.toNat = 0 then -2 else if what = 0 then (nthN f n i.toNat : Int) else (popc (ringN f (nthN f n i.toNat)) : Int)
set_option maxHeartbeats 4000000 in
set_option maxRecDepth 100000 in
theorem c_point (l : Launch) (G : Gx) {wh i what : Int} (hwh : rg wh) (hi : rg i) (hwt : rg what) {n : Nat} {s a : Nat → Nat} (hV : MapV n s a) (w : Wd) (hM : MapW w n s a) : SpP l G 4 mX10_point [aR 0, aI (wh), aI (i), aI (what)] w ((if (tok wh ∧ 0 ≤ i ∧ 0 ≤ what ∧ what ≤ 1) then pointI (trF s a wh) n i what else -1)) := by
  obtain ⟨⟨hn1, hn7⟩, hs, ha⟩ := id hV
  obtain ⟨m0, m1, m2⟩ := id hM
  have hf := trF_pm hV wh
  have hin := nthL_in (trF s a wh) n 1 i.toNat
  rw [show nthL (trF s a wh) n 1 i.toNat = nthN (trF s a wh) n i.toNat from rfl] at hin
  refine Sp_of RX10 rfl (by decide +kernel) rfl (Nat.le_of_ble_eq_true rfl) ?_
  refine v_aload_n 0 (pc' := 1) rfl dX10_point_0 rfl rfl ?_
  refine v_iload_n 1 (pc' := 2) rfl dX10_point_1 rfl rfl ?_
  refine v_cVP (pc' := 5) rfl dX10_point_2 lk_RX10_101 ly_0 rfl (c_turn l G hwh hV w hM) rfl rfl rfl ?_
  refine v_nm (fun turn1 hturn1 => ?_)
  refine v_istore (ls' := [(4, _), (0, _), (1, _), (2, _), (3, _)]) (pc' := 7) rfl dX10_point_5 rfl rfl ?_
  refine v_iload 0 (pc' := 9) rfl dX10_point_7 rfl ?_
  refine v_if_eq (pc' := 12) (tgt := 25) rfl dX10_point_9 (by decide) (by have := (trI_0 hV (wh := wh)).2; omega) (fun c0 => ?_) (fun c0 => ?_)
  ·
    have hz : ¬ tok wh := ntok_of hV (by omega)
    have hz2 : ¬ (tok wh ∧ 0 ≤ i ∧ 0 ≤ what ∧ what ≤ 1) := fun q => hz q.1
    refine v_iconst (pc' := 26) rfl dX10_point_25 ?_
    refine v_iret dX10_point_26 (by decide) (rfl) ?_
    first | exact ⟨by rw [if_neg hz2], rfl⟩ | exact ⟨by rw [if_pos hz2, pointI, if_neg hz3, if_neg hz4]; exact hbitCount1, rfl⟩ | exact ⟨by rw [if_pos hz2, pointI, if_neg hz3, if_pos hz4]; exact hnthLeast1, rfl⟩ | exact ⟨by rw [if_pos hz2, pointI, if_pos hz3], rfl⟩
  ·
    have hz : tok wh := tok_of hV (by omega)
    have hT : turn1 = (hx (trF s a wh) : Nat) := hturn1.trans (trI_ok hz)
    refine v_iload_n 3 (pc' := 13) rfl dX10_point_12 rfl rfl ?_
    refine v_if_lt (pc' := 16) (tgt := 25) rfl dX10_point_13 (by decide) (by omega) (fun c1 => ?_) (fun c1 => ?_)
    ·
      have hz2 : ¬ (tok wh ∧ 0 ≤ i ∧ 0 ≤ what ∧ what ≤ 1) := by omega
      refine v_iconst (pc' := 26) rfl dX10_point_25 ?_
      refine v_iret dX10_point_26 (by decide) (rfl) ?_
      first | exact ⟨by rw [if_neg hz2], rfl⟩ | exact ⟨by rw [if_pos hz2, pointI, if_neg hz3, if_neg hz4]; exact hbitCount1, rfl⟩ | exact ⟨by rw [if_pos hz2, pointI, if_neg hz3, if_pos hz4]; exact hnthLeast1, rfl⟩ | exact ⟨by rw [if_pos hz2, pointI, if_pos hz3], rfl⟩
    ·
      refine v_iload_n 4 (pc' := 17) rfl dX10_point_16 rfl rfl ?_
      refine v_if_lt (pc' := 20) (tgt := 25) rfl dX10_point_17 (by decide) (by omega) (fun c2 => ?_) (fun c2 => ?_)
      ·
        have hz2 : ¬ (tok wh ∧ 0 ≤ i ∧ 0 ≤ what ∧ what ≤ 1) := by omega
        refine v_iconst (pc' := 26) rfl dX10_point_25 ?_
        refine v_iret dX10_point_26 (by decide) (rfl) ?_
        first | exact ⟨by rw [if_neg hz2], rfl⟩ | exact ⟨by rw [if_pos hz2, pointI, if_neg hz3, if_neg hz4]; exact hbitCount1, rfl⟩ | exact ⟨by rw [if_pos hz2, pointI, if_neg hz3, if_pos hz4]; exact hnthLeast1, rfl⟩ | exact ⟨by rw [if_pos hz2, pointI, if_pos hz3], rfl⟩
      ·
        refine v_iload_n 4 (pc' := 21) rfl dX10_point_20 rfl rfl ?_
        refine v_iconst (pc' := 22) rfl dX10_point_21 ?_
        refine v_icmp_le (pc' := 25) (tgt := 27) rfl dX10_point_22 (by decide) (by omega) (by omega) (fun c3 => ?_) (fun c3 => ?_)
        ·
          have hz2 : (tok wh ∧ 0 ≤ i ∧ 0 ≤ what ∧ what ≤ 1) := ⟨hz, by omega, by omega, by omega⟩
          refine v_iload 0 (pc' := 29) rfl dX10_point_27 rfl ?_
          refine v_aload_n 1 (pc' := 30) rfl dX10_point_29 rfl rfl ?_
          refine v_getR (pc' := 33) rfl dX10_point_30 fk_RX10_16 ly_0 rfl ?_
          refine v_get (z := (n : Int)) (pc' := 36) rfl dX10_point_33 fk_RX10_81 ly_2 rfl (m0) ?_
          refine v_iload_n 3 (pc' := 37) rfl dX10_point_36 rfl rfl ?_
          refine v_cSP (pc' := 40) rfl dX10_point_37 lk_RX10_243 rfl (c_nthLeast l G hT (hf.b7 hn7) rfl hn7 (show i = ((i.toNat : Nat) : Int) by omega) (by omega) w) rfl rfl rfl ?_
          refine v_nm (fun nthLeast1 hnthLeast1 => ?_)
          refine v_istore (ls' := [(5, _), (4, _), (0, _), (1, _), (2, _), (3, _)]) (pc' := 42) rfl dX10_point_40 rfl rfl ?_
          refine v_iload 0 (pc' := 44) rfl dX10_point_42 rfl ?_
          refine v_if_ne (pc' := 47) (tgt := 50) rfl dX10_point_44 (by decide) (by omega) (fun c4 => ?_) (fun c4 => ?_)
          ·
            have hz3 : nthN (trF s a wh) n i.toNat ≠ 0 := by omega
            refine v_iload_n 5 (pc' := 51) rfl dX10_point_50 rfl rfl ?_
            refine v_if_ne (pc' := 54) (tgt := 59) rfl dX10_point_51 (by decide) (by omega) (fun c5 => ?_) (fun c5 => ?_)
            ·
              have hz4 : ¬ what = 0 := by omega
              refine v_iload 1 (pc' := 61) rfl dX10_point_59 rfl ?_
              refine v_iload 0 (pc' := 63) rfl dX10_point_61 rfl ?_
              refine v_cSP (pc' := 66) rfl dX10_point_63 lk_RX10_177 rfl (c_ring l G hT (hf.b7 hn7) hnthLeast1 (by omega) (by omega) w) rfl rfl rfl ?_
              refine v_nm (fun ring1 hring1 => ?_)
              refine v_cSP (pc' := 69) rfl dX10_point_66 lk_RX10_180 rfl (c_bitCount l G hring1 (by have := ringN_lt (hf.b7 hn7) (x := nthN (trF s a wh) n i.toNat) (by omega) (by omega); omega) w) rfl rfl rfl ?_
              refine v_nm (fun bitCount1 hbitCount1 => ?_)
              refine v_iret dX10_point_69 (by decide) (rfl) ?_
              first | exact ⟨by rw [if_neg hz2], rfl⟩ | exact ⟨by rw [if_pos hz2, pointI, if_neg hz3, if_neg hz4]; exact hbitCount1, rfl⟩ | exact ⟨by rw [if_pos hz2, pointI, if_neg hz3, if_pos hz4]; exact hnthLeast1, rfl⟩ | exact ⟨by rw [if_pos hz2, pointI, if_pos hz3], rfl⟩
            ·
              have hz4 : what = 0 := by omega
              refine v_iload 0 (pc' := 56) rfl dX10_point_54 rfl ?_
              refine v_goto (tgt := 69) dX10_point_56 (by decide) ?_
              refine v_iret dX10_point_69 (by decide) (rfl) ?_
              first | exact ⟨by rw [if_neg hz2], rfl⟩ | exact ⟨by rw [if_pos hz2, pointI, if_neg hz3, if_neg hz4]; exact hbitCount1, rfl⟩ | exact ⟨by rw [if_pos hz2, pointI, if_neg hz3, if_pos hz4]; exact hnthLeast1, rfl⟩ | exact ⟨by rw [if_pos hz2, pointI, if_pos hz3], rfl⟩
          ·
            have hz3 : nthN (trF s a wh) n i.toNat = 0 := by omega
            refine v_bipush (pc' := 49) rfl dX10_point_47 rfl ?_
            refine v_iret dX10_point_49 (by decide) (rfl) ?_
            first | exact ⟨by rw [if_neg hz2], rfl⟩ | exact ⟨by rw [if_pos hz2, pointI, if_neg hz3, if_neg hz4]; exact hbitCount1, rfl⟩ | exact ⟨by rw [if_pos hz2, pointI, if_neg hz3, if_pos hz4]; exact hnthLeast1, rfl⟩ | exact ⟨by rw [if_pos hz2, pointI, if_pos hz3], rfl⟩
        ·
          have hz2 : ¬ (tok wh ∧ 0 ≤ i ∧ 0 ≤ what ∧ what ≤ 1) := by omega
          refine v_iconst (pc' := 26) rfl dX10_point_25 ?_
          refine v_iret dX10_point_26 (by decide) (rfl) ?_
          first | exact ⟨by rw [if_neg hz2], rfl⟩ | exact ⟨by rw [if_pos hz2, pointI, if_neg hz3, if_neg hz4]; exact hbitCount1, rfl⟩ | exact ⟨by rw [if_pos hz2, pointI, if_neg hz3, if_pos hz4]; exact hnthLeast1, rfl⟩ | exact ⟨by rw [if_pos hz2, pointI, if_pos hz3], rfl⟩

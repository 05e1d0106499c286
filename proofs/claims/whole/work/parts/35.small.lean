def smI (A : List PC) (goal : Nat) : Nat → Nat → Nat
  | 0, c => c
  | k + 1, c => if (A.getD k (0, 0)).2 &&& goal = 0 then smI A goal k c else 10 * smI A goal k c + k + 1
def smO (p : Nat → Nat) (A : List PC) : Nat → Nat
  | 0 => 0
  | i + 1 => smI A (bt (p (A.getD i (0, 0)).1)) A.length (smO p A i)
set_option maxHeartbeats 4000000 in
set_option maxRecDepth 100000 in
theorem c_smaller (l : Launch) (G : Gx) {p0 : Int} {p : Nat → Nat} {A : List PC} (hp : p0 = (hx p : Nat)) (hp7 : P7 p) (hV : BPV A) (w : Wd) (hB : BPW w A) : SpP l G 2 mX0_smaller [aR 17, aI (p0)] w (((smO p A A.length : Nat) : Int)) := by
  have bm := hB.1
  have hl := hV.1
  refine Sp_of RX0 rfl (by decide +kernel) rfl (Nat.le_of_ble_eq_true rfl) ?_
  refine v_iconst (pc' := 1) rfl dX0_smaller_0 ?_
  refine v_istore_n (ls' := [(2, _), (0, _), (1, _)]) (pc' := 2) rfl dX0_smaller_1 rfl rfl rfl ?_
  refine v_iconst (pc' := 3) rfl dX0_smaller_2 ?_
  refine v_istore_n (ls' := [(3, _), (2, _), (0, _), (1, _)]) (pc' := 4) rfl dX0_smaller_3 rfl rfl rfl ?_
  refine v_ls [2, 3, 1, 0] rfl ?_
  refine v_loop2 4 (fun (code : Int) (i : Int) => ∃ iN : Nat, i = iN ∧ iN ≤ A.length ∧ code = (smO p A iN : Nat)) (fun (code : Int) (i : Int) => (7 - i).toNat) (fun (code : Int) (i : Int) => [(0, aR 17), (1, aI (p0)), (2, aI (code)), (3, aI (i))]) (fun (code : Int) (i : Int) => []) (fun (code : Int) (i : Int) => w) (fun code i hI0 ih0 => ?_) (0) (0) (⟨0, rfl, by omega, rfl⟩)
  obtain ⟨iN, hi, hiA, hcode⟩ := hI0
  refine v_iload_n 3 (pc' := 5) rfl dX0_smaller_4 rfl rfl ?_
  refine v_aload_n 0 (pc' := 6) rfl dX0_smaller_5 rfl rfl ?_
  refine v_get (z := ((A.length : Nat) : Int)) (pc' := 9) rfl dX0_smaller_6 fk_RX0_32 ly_17 rfl (bm) ?_
  refine v_icmp_ge (pc' := 12) (tgt := 90) rfl dX0_smaller_9 (by decide) (by omega) (by omega) (fun c0 => ?_) (fun c0 => ?_)
  ·
    have hie : iN = A.length := by omega
    refine v_iload_n 2 (pc' := 91) rfl dX0_smaller_90 rfl rfl ?_
    refine v_iret dX0_smaller_91 (by decide) (rfl) ?_
    exact ⟨by rw [hcode, hie], rfl⟩
  ·
    have hat := hV.at (show iN < A.length by omega)
    have hlo : 1 ≤ (A.getD iN (0, 0)).1 ∧ (A.getD iN (0, 0)).1 ≤ 7 := by rw [hat.1]; exact low_in _ hat.2.1 hat.2.2
    have hpp := hp7 _ hlo.1 hlo.2
    refine v_iload_n 3 (pc' := 13) rfl dX0_smaller_12 rfl rfl ?_
    refine v_bipush (pc' := 15) rfl dX0_smaller_13 rfl ?_
    refine v_icmp_ge (pc' := 18) (tgt := 90) rfl dX0_smaller_15 (by decide) (by omega) (by omega) (fun c1 => ?_) (fun c1 => ?_)
    ·
      have hie : iN = A.length := by omega
      refine v_iload_n 2 (pc' := 91) rfl dX0_smaller_90 rfl rfl ?_
      refine v_iret dX0_smaller_91 (by decide) (rfl) ?_
      exact ⟨by rw [hcode, hie], rfl⟩
    ·
      refine v_iload_n 1 (pc' := 19) rfl dX0_smaller_18 rfl rfl ?_
      refine v_aload_n 0 (pc' := 20) rfl dX0_smaller_19 rfl rfl ?_
      refine v_getR (pc' := 23) rfl dX0_smaller_20 fk_RX0_9 ly_17 rfl ?_
      refine v_iload_n 3 (pc' := 24) rfl dX0_smaller_23 rfl rfl ?_
      refine v_iald (z := (((A.getD iN (0, 0)).2 : Nat) : Int)) (pc' := 25) rfl dX0_smaller_24 ly_18 (by omega) (by omega) rfl (by rw [show i.toNat = iN by omega]; exact hB.2 iN (by omega)) ?_
      refine v_cSP (pc' := 28) rfl dX0_smaller_25 lk_RX0_52 rfl (c_lowest l G (s := (A.getD iN (0, 0)).2) rfl hat.2.1 hat.2.2 w) rfl rfl rfl ?_
      refine v_nm (fun lowest1 hlowest1 => ?_)
      refine v_cSP (pc' := 31) rfl dX0_smaller_28 lk_RX0_49 rfl (c_at l G hp hp7.B (x := (A.getD iN (0, 0)).1) (by omega) hlo.1 hlo.2 w) rfl rfl rfl ?_
      refine v_nm (fun at1 hat1 => ?_)
      refine v_cSP (pc' := 34) rfl dX0_smaller_31 lk_RX0_44 rfl (c_bit l G hat1 hpp.1 (by omega) w) rfl rfl rfl ?_
      refine v_nm (fun bit1 hbit1 => ?_)
      refine v_istore (ls' := [(4, _), (0, _), (1, _), (2, _), (3, _)]) (pc' := 36) rfl dX0_smaller_34 rfl rfl ?_
      refine v_iconst (pc' := 37) rfl dX0_smaller_36 ?_
      refine v_istore (ls' := [(5, _), (4, _), (0, _), (1, _), (2, _), (3, _)]) (pc' := 39) rfl dX0_smaller_37 rfl rfl ?_
      refine v_ls [2, 3, 4, 5, 1, 0] rfl ?_
      refine v_loop2 39 (fun (code : Int) (k : Int) => ∃ kN : Nat, k = kN ∧ kN ≤ A.length ∧ code = (smI A (bt (p (A.getD iN (0, 0)).1)) kN (smO p A iN) : Nat)) (fun (code : Int) (k : Int) => (7 - k).toNat) (fun (code : Int) (k : Int) => [(0, aR 17), (1, aI (p0)), (2, aI (code)), (3, aI (i)), (4, aI (bit1)), (5, aI (k))]) (fun (code : Int) (k : Int) => []) (fun (code : Int) (k : Int) => w) (fun code k hI1 ih1 => ?_) (code) (0) (⟨0, rfl, by omega, hcode⟩)
      obtain ⟨kN, hk, hkA, hc2⟩ := hI1
      refine v_iload 5 (pc' := 41) rfl dX0_smaller_39 rfl ?_
      refine v_aload_n 0 (pc' := 42) rfl dX0_smaller_41 rfl rfl ?_
      refine v_get (z := ((A.length : Nat) : Int)) (pc' := 45) rfl dX0_smaller_42 fk_RX0_32 ly_17 rfl (bm) ?_
      refine v_icmp_ge (pc' := 48) (tgt := 84) rfl dX0_smaller_45 (by decide) (by omega) (by omega) (fun c2 => ?_) (fun c2 => ?_)
      ·
        have hke : kN = A.length := by omega
        refine v_iinc (ls' := [(3, _), (0, _), (1, _), (2, _), (4, _), (5, _)]) 3 (pc' := 87) rfl dX0_smaller_84 rfl rfl rfl ?_
        refine v_nl (fun i' hi' => ?_)
        refine v_goto (tgt := 4) dX0_smaller_87 (by decide) ?_
        refine v_ls [1, 2, 3, 0] rfl ?_
        exact ih0 (code) (i') (⟨iN + 1, by omega, by omega, by rw [hc2, hke]; rfl⟩) (by omega)
      ·
        have hatk := hV.at (show kN < A.length by omega)
        refine v_iload 5 (pc' := 50) rfl dX0_smaller_48 rfl ?_
        refine v_bipush (pc' := 52) rfl dX0_smaller_50 rfl ?_
        refine v_icmp_ge (pc' := 55) (tgt := 84) rfl dX0_smaller_52 (by decide) (by omega) (by omega) (fun c3 => ?_) (fun c3 => ?_)
        ·
          have hke : kN = A.length := by omega
          refine v_iinc (ls' := [(3, _), (0, _), (1, _), (2, _), (4, _), (5, _)]) 3 (pc' := 87) rfl dX0_smaller_84 rfl rfl rfl ?_
          refine v_nl (fun i' hi' => ?_)
          refine v_goto (tgt := 4) dX0_smaller_87 (by decide) ?_
          refine v_ls [1, 2, 3, 0] rfl ?_
          exact ih0 (code) (i') (⟨iN + 1, by omega, by omega, by rw [hc2, hke]; rfl⟩) (by omega)
        ·
          refine v_aload_n 0 (pc' := 56) rfl dX0_smaller_55 rfl rfl ?_
          refine v_getR (pc' := 59) rfl dX0_smaller_56 fk_RX0_9 ly_17 rfl ?_
          refine v_iload 5 (pc' := 61) rfl dX0_smaller_59 rfl ?_
          refine v_iald (z := (((A.getD kN (0, 0)).2 : Nat) : Int)) (pc' := 62) rfl dX0_smaller_61 ly_18 (by omega) (by omega) rfl (by rw [show k.toNat = kN by omega]; exact hB.2 kN (by omega)) ?_
          refine v_iload 4 (pc' := 64) rfl dX0_smaller_62 rfl ?_
          refine v_iand (z := (((A.getD kN (0, 0)).2 &&& bt (p (A.getD iN (0, 0)).1) : Nat) : Int)) (pc' := 65) rfl dX0_smaller_64 (iz_andE rfl hbit1) ?_
          refine v_if_eq (pc' := 68) (tgt := 78) rfl dX0_smaller_65 (by decide) (by have := and_lt7 (b := bt (p (A.getD iN (0, 0)).1)) hatk.2.1; omega) (fun c4 => ?_) (fun c4 => ?_)
          ·
            have hA : (A.getD kN (0, 0)).2 &&& bt (p (A.getD iN (0, 0)).1) = 0 := by omega
            refine v_iinc (ls' := [(5, _), (0, _), (1, _), (2, _), (3, _), (4, _)]) 5 (pc' := 81) rfl dX0_smaller_78 rfl rfl rfl ?_
            refine v_nl (fun k' hk' => ?_)
            refine v_goto (tgt := 39) dX0_smaller_81 (by decide) ?_
            refine v_ls [1, 2, 3, 4, 5, 0] rfl ?_
            exact ih1 (code) (k') (⟨kN + 1, by omega, by omega, by simp only [smI]; rw [if_pos hA]; exact hc2⟩) (by omega)
          ·
            have hA : ¬ (A.getD kN (0, 0)).2 &&& bt (p (A.getD iN (0, 0)).1) = 0 := by omega
            refine v_bipush (pc' := 70) rfl dX0_smaller_68 rfl ?_
            refine v_iload_n 2 (pc' := 71) rfl dX0_smaller_70 rfl rfl ?_
            refine v_imul (pc' := 72) rfl dX0_smaller_71 ?_
            refine v_iload 5 (pc' := 74) rfl dX0_smaller_72 rfl ?_
            refine v_iadd (pc' := 75) rfl dX0_smaller_74 ?_
            refine v_iconst (pc' := 76) rfl dX0_smaller_75 ?_
            refine v_iadd (pc' := 77) rfl dX0_smaller_76 ?_
            refine v_nm (fun code' hcode' => ?_)
            refine v_istore_n (ls' := [(2, _), (0, _), (1, _), (3, _), (4, _), (5, _)]) (pc' := 78) rfl dX0_smaller_77 rfl rfl rfl ?_
            refine v_iinc (ls' := [(5, _), (2, _), (0, _), (1, _), (3, _), (4, _)]) 5 (pc' := 81) rfl dX0_smaller_78 rfl rfl rfl ?_
            refine v_nl (fun k' hk' => ?_)
            refine v_goto (tgt := 39) dX0_smaller_81 (by decide) ?_
            refine v_ls [2, 3, 1, 4, 5, 0] rfl ?_
            exact ih1 (code') (k') (⟨kN + 1, by omega, by omega, by simp only [smI]; rw [if_neg hA]; omega⟩) (by omega)
/-! ===== DrawnMaps: small ones ===== -/
def MapW (w : Wd) (n : Nat) (s a : Nat → Nat) : Prop := w 2 0 = n ∧ w 2 1 = (hx s : Nat) ∧ w 2 2 = (hx a : Nat)
def MapV (n : Nat) (s a : Nat → Nat) : Prop := (1 ≤ n ∧ n ≤ 7) ∧ Pm n s ∧ Pm n a
def trF (s a : Nat → Nat) (wh : Int) : Nat → Nat := if wh = 0 then s else if wh = 1 then a else pface s a
def trI (s a : Nat → Nat) (wh : Int) : Int := if wh = 0 ∨ wh = 1 ∨ wh = 2 then (hx (trF s a wh) : Nat) else 0
theorem trF_pm {n : Nat} {s a : Nat → Nat} (h : MapV n s a) (wh : Int) : Pm n (trF s a wh) := by
  unfold trF
  split
  · exact h.2.1
  · split
    · exact h.2.2
    · exact Pm.face h.1.2 h.2.1 h.2.2
theorem trI_0 {n : Nat} {s a : Nat → Nat} (h : MapV n s a) {wh : Int} : (trI s a wh = 0 ↔ ¬ (wh = 0 ∨ wh = 1 ∨ wh = 2)) ∧ (0 ≤ trI s a wh ∧ trI s a wh ≤ 134217728) := by
  have := hx_pos (trF_pm h wh) h.1.2
  unfold trI
  split
  · rename_i q; exact ⟨⟨fun e => by omega, fun e => absurd q e⟩, by omega, by omega⟩
  · rename_i q; exact ⟨⟨fun _ => q, fun _ => rfl⟩, by omega, by omega⟩
set_option maxHeartbeats 4000000 in
set_option maxRecDepth 100000 in
theorem c_colour (l : Launch) (G : Gx) {wh : Int} (hw0 : rg wh) (w : Wd)  : SpP l G 0 mX10_colour [aI (wh)] w ((if wh = 0 ∨ wh = 1 then 1 else 0 : Int)) := by
  refine Sp_of RX10 rfl (by decide +kernel) rfl (Nat.le_of_ble_eq_true rfl) ?_
  refine v_iload_n 0 (pc' := 1) rfl dX10_colour_0 rfl rfl ?_
  refine v_if_eq (pc' := 4) (tgt := 9) rfl dX10_colour_1 (by decide) (by omega) (fun c0 => ?_) (fun c0 => ?_)
  ·
    have hz : wh = 0 ∨ wh = 1 := Or.inl (by omega)
    refine v_iconst (pc' := 10) rfl dX10_colour_9 ?_
    refine v_goto (tgt := 14) dX10_colour_10 (by decide) ?_
    refine v_iret dX10_colour_14 (by decide) (rfl) ?_
    first | exact ⟨by rw [if_pos hz], rfl⟩ | exact ⟨by rw [if_neg hz], rfl⟩
  ·
    refine v_iload_n 0 (pc' := 5) rfl dX10_colour_4 rfl rfl ?_
    refine v_iconst (pc' := 6) rfl dX10_colour_5 ?_
    refine v_icmp_ne (pc' := 9) (tgt := 13) rfl dX10_colour_6 (by decide) (by omega) (by omega) (fun c1 => ?_) (fun c1 => ?_)
    ·
      have hz : ¬ (wh = 0 ∨ wh = 1) := by omega
      refine v_iconst (pc' := 14) rfl dX10_colour_13 ?_
      refine v_iret dX10_colour_14 (by decide) (rfl) ?_
      first | exact ⟨by rw [if_pos hz], rfl⟩ | exact ⟨by rw [if_neg hz], rfl⟩
    ·
      have hz : wh = 0 ∨ wh = 1 := Or.inr (by omega)
      refine v_iconst (pc' := 10) rfl dX10_colour_9 ?_
      refine v_goto (tgt := 14) dX10_colour_10 (by decide) ?_
      refine v_iret dX10_colour_14 (by decide) (rfl) ?_
      first | exact ⟨by rw [if_pos hz], rfl⟩ | exact ⟨by rw [if_neg hz], rfl⟩
set_option maxHeartbeats 4000000 in
set_option maxRecDepth 100000 in
theorem c_turn (l : Launch) (G : Gx) {wh : Int} (hwh : rg wh) {n : Nat} {s a : Nat → Nat} (hV : MapV n s a) (w : Wd) (hM : MapW w n s a) : SpP l G 3 mX10_turn [aR 0, aI (wh)] w (trI s a wh) := by
  obtain ⟨⟨hn1, hn7⟩, hs, ha⟩ := id hV
  obtain ⟨m0, m1, m2⟩ := id hM
  refine Sp_of RX10 rfl (by decide +kernel) rfl (Nat.le_of_ble_eq_true rfl) ?_
  refine v_iload_n 1 (pc' := 1) rfl dX10_turn_0 rfl rfl ?_
  rcases (show wh = 0 ∨ wh = 1 ∨ wh = 2 ∨ (wh < 0 ∨ 2 < wh) by omega) with sw0 | sw0 | sw0 | sw0
  ·
    refine v_tin (tgt := 28) 0 dX10_turn_1 sw0 (by decide) (by decide) (by decide) rfl (by decide) ?_
    have hz : trI s a wh = (hx s : Nat) := by unfold trI trF; rw [if_pos (by omega), if_pos (by omega)]
    refine v_aload_n 0 (pc' := 29) rfl dX10_turn_28 rfl rfl ?_
    refine v_getR (pc' := 32) rfl dX10_turn_29 fk_RX10_16 ly_0 rfl ?_
    refine v_get (z := ((hx s : Nat) : Int)) (pc' := 35) rfl dX10_turn_32 fk_RX10_87 ly_2 rfl (m1) ?_
    refine v_iret dX10_turn_35 (by decide) (rfl) ?_
    exact ⟨hz.symm, rfl⟩
  ·
    refine v_tin (tgt := 36) 1 dX10_turn_1 sw0 (by decide) (by decide) (by decide) rfl (by decide) ?_
    have hz : trI s a wh = (hx a : Nat) := by unfold trI trF; rw [if_pos (by omega), if_neg (by omega), if_pos (by omega)]
    refine v_aload_n 0 (pc' := 37) rfl dX10_turn_36 rfl rfl ?_
    refine v_getR (pc' := 40) rfl dX10_turn_37 fk_RX10_16 ly_0 rfl ?_
    refine v_get (z := ((hx a : Nat) : Int)) (pc' := 43) rfl dX10_turn_40 fk_RX10_90 ly_2 rfl (m2) ?_
    refine v_iret dX10_turn_43 (by decide) (rfl) ?_
    exact ⟨hz.symm, rfl⟩
  ·
    refine v_tin (tgt := 44) 2 dX10_turn_1 sw0 (by decide) (by decide) (by decide) rfl (by decide) ?_
    have hz : trI s a wh = (hx (pface s a) : Nat) := by unfold trI trF; rw [if_pos (by omega), if_neg (by omega), if_neg (by omega)]
    refine v_aload_n 0 (pc' := 45) rfl dX10_turn_44 rfl rfl ?_
    refine v_getR (pc' := 48) rfl dX10_turn_45 fk_RX10_16 ly_0 rfl ?_
    refine v_get (z := ((hx s : Nat) : Int)) (pc' := 51) rfl dX10_turn_48 fk_RX10_87 ly_2 rfl (m1) ?_
    refine v_aload_n 0 (pc' := 52) rfl dX10_turn_51 rfl rfl ?_
    refine v_getR (pc' := 55) rfl dX10_turn_52 fk_RX10_16 ly_0 rfl ?_
    refine v_get (z := ((hx a : Nat) : Int)) (pc' := 58) rfl dX10_turn_55 fk_RX10_90 ly_2 rfl (m2) ?_
    refine v_cSP (pc' := 61) rfl dX10_turn_58 lk_RX10_156 rfl (c_faces l G rfl rfl (hs.mono hn7) (ha.mono hn7) w) rfl rfl rfl ?_
    refine v_nm (fun faces1 hfaces1 => ?_)
    refine v_iret dX10_turn_61 (by decide) (rfl) ?_
    exact ⟨by rw [hz, hfaces1], rfl⟩
  ·
    refine v_tout (tgt := 62) dX10_turn_1 (by omega) sw0 (by decide) ?_
    have hz : trI s a wh = 0 := (trI_0 hV).1.mpr (by omega)
    refine v_iconst (pc' := 63) rfl dX10_turn_62 ?_
    refine v_iret dX10_turn_63 (by decide) (rfl) ?_
    exact ⟨hz.symm, rfl⟩
set_option maxHeartbeats 4000000 in
set_option maxRecDepth 100000 in
theorem c_dartStands (l : Launch) (G : Gx) {d : Int} (hd : rg d) {n : Nat} {s a : Nat → Nat} (hV : MapV n s a) (w : Wd) (hM : MapW w n s a) : SpP l G 0 mX10_dartStands [aR 0, aI (d)] w ((if 1 ≤ d ∧ d ≤ n then 1 else 0 : Int)) := by
  obtain ⟨⟨hn1, hn7⟩, hs, ha⟩ := id hV
  obtain ⟨m0, m1, m2⟩ := id hM
  refine Sp_of RX10 rfl (by decide +kernel) rfl (Nat.le_of_ble_eq_true rfl) ?_
  refine v_iload_n 1 (pc' := 1) rfl dX10_dartStands_0 rfl rfl ?_
  refine v_iconst (pc' := 2) rfl dX10_dartStands_1 ?_
  refine v_icmp_lt (pc' := 5) (tgt := 20) rfl dX10_dartStands_2 (by decide) (by omega) (by omega) (fun c0 => ?_) (fun c0 => ?_)
  ·
    have hz : ¬ (1 ≤ d ∧ d ≤ (n : Int)) := by omega
    refine v_iconst (pc' := 21) rfl dX10_dartStands_20 ?_
    refine v_iret dX10_dartStands_21 (by decide) (rfl) ?_
    first | exact ⟨by rw [if_pos hz], rfl⟩ | exact ⟨by rw [if_neg hz], rfl⟩
  ·
    refine v_iload_n 1 (pc' := 6) rfl dX10_dartStands_5 rfl rfl ?_
    refine v_aload_n 0 (pc' := 7) rfl dX10_dartStands_6 rfl rfl ?_
    refine v_getR (pc' := 10) rfl dX10_dartStands_7 fk_RX10_16 ly_0 rfl ?_
    refine v_get (z := (n : Int)) (pc' := 13) rfl dX10_dartStands_10 fk_RX10_81 ly_2 rfl (m0) ?_
    refine v_icmp_gt (pc' := 16) (tgt := 20) rfl dX10_dartStands_13 (by decide) (by omega) (by omega) (fun c1 => ?_) (fun c1 => ?_)
    ·
      have hz : ¬ (1 ≤ d ∧ d ≤ (n : Int)) := by omega
      refine v_iconst (pc' := 21) rfl dX10_dartStands_20 ?_
      refine v_iret dX10_dartStands_21 (by decide) (rfl) ?_
      first | exact ⟨by rw [if_pos hz], rfl⟩ | exact ⟨by rw [if_neg hz], rfl⟩
    ·
      have hz : 1 ≤ d ∧ d ≤ (n : Int) := by omega
      refine v_iconst (pc' := 17) rfl dX10_dartStands_16 ?_
      refine v_goto (tgt := 21) dX10_dartStands_17 (by decide) ?_
      refine v_iret dX10_dartStands_21 (by decide) (rfl) ?_
      first | exact ⟨by rw [if_pos hz], rfl⟩ | exact ⟨by rw [if_neg hz], rfl⟩
set_option maxHeartbeats 4000000 in
set_option maxRecDepth 100000 in
theorem c_connected (l : Launch) (G : Gx) {n : Nat} {s a : Nat → Nat} (hV : MapV n s a) (w : Wd) (hM : MapW w n s a) : SpP l G 4 mX10_connected [aR 0] w ((if joinB s a n then 1 else 0 : Int)) := by
  obtain ⟨⟨hn1, hn7⟩, hs, ha⟩ := id hV
  obtain ⟨m0, m1, m2⟩ := id hM
  refine Sp_of RX10 rfl (by decide +kernel) rfl (Nat.le_of_ble_eq_true rfl) ?_
  refine v_aload_n 0 (pc' := 1) rfl dX10_connected_0 rfl rfl ?_
  refine v_getR (pc' := 4) rfl dX10_connected_1 fk_RX10_16 ly_0 rfl ?_
  refine v_get (z := ((hx s : Nat) : Int)) (pc' := 7) rfl dX10_connected_4 fk_RX10_87 ly_2 rfl (m1) ?_
  refine v_aload_n 0 (pc' := 8) rfl dX10_connected_7 rfl rfl ?_
  refine v_getR (pc' := 11) rfl dX10_connected_8 fk_RX10_16 ly_0 rfl ?_
  refine v_get (z := ((hx a : Nat) : Int)) (pc' := 14) rfl dX10_connected_11 fk_RX10_90 ly_2 rfl (m2) ?_
  refine v_aload_n 0 (pc' := 15) rfl dX10_connected_14 rfl rfl ?_
  refine v_getR (pc' := 18) rfl dX10_connected_15 fk_RX10_16 ly_0 rfl ?_
  refine v_get (z := (n : Int)) (pc' := 21) rfl dX10_connected_18 fk_RX10_81 ly_2 rfl (m0) ?_
  refine v_cSP (pc' := 24) rfl dX10_connected_21 lk_RX10_220 rfl (c_joined l G rfl rfl (hs.b7 hn7) (ha.b7 hn7) rfl hn7 w) rfl rfl rfl ?_
  refine v_nm (fun joined1 hjoined1 => ?_)
  refine v_iret dX10_connected_24 (by decide) (by rw [hjoined1]; split <;> rfl) ?_
  exact ⟨hjoined1, rfl⟩

/-! ===== DrawnMaps: looks ===== -/
abbrev tok (wh : Int) : Prop := wh = 0 ∨ wh = 1 ∨ wh = 2
theorem trI_ok {s a : Nat → Nat} {wh : Int} (h : tok wh) : trI s a wh = (hx (trF s a wh) : Nat) := if_pos h
theorem ptimes_B {f : Nat → Nat} (hf : P7 f) {K : Nat} : B7 (ptimes f K) := fun x h1 h2 => (pstep_7 hf _ x h1 h2).2
theorem tok_of {n : Nat} {s a : Nat → Nat} (hV : MapV n s a) {wh : Int} (h : trI s a wh ≠ 0) : tok wh :=
  Classical.byContradiction (fun q => h ((trI_0 hV).1.mpr q))
theorem ntok_of {n : Nat} {s a : Nat → Nat} (hV : MapV n s a) {wh : Int} (h : trI s a wh = 0) : ¬ tok wh := (trI_0 hV).1.mp h
set_option maxHeartbeats 4000000 in
set_option maxRecDepth 100000 in
theorem c_code (l : Launch) (G : Gx) {wh : Int} (hwh : rg wh) {n : Nat} {s a : Nat → Nat} (hV : MapV n s a) (w : Wd) (hM : MapW w n s a) : SpP l G 4 mX10_code [aR 0, aI (wh)] w ((if tok wh then (cdk (trF s a wh) n : Int) else -1)) := by
  obtain ⟨⟨hn1, hn7⟩, hs, ha⟩ := id hV
  obtain ⟨m0, m1, m2⟩ := id hM
  have hf := trF_pm hV wh
  refine Sp_of RX10 rfl (by decide +kernel) rfl (Nat.le_of_ble_eq_true rfl) ?_
  refine v_aload_n 0 (pc' := 1) rfl dX10_code_0 rfl rfl ?_
  refine v_iload_n 1 (pc' := 2) rfl dX10_code_1 rfl rfl ?_
  refine v_cVP (pc' := 5) rfl dX10_code_2 lk_RX10_101 ly_0 rfl (c_turn l G hwh hV w hM) rfl rfl rfl ?_
  refine v_nm (fun turn1 hturn1 => ?_)
  refine v_istore_n (ls' := [(2, _), (0, _), (1, _)]) (pc' := 6) rfl dX10_code_5 rfl rfl rfl ?_
  refine v_iload_n 0 (pc' := 7) rfl dX10_code_6 rfl rfl ?_
  refine v_if_ne (pc' := 10) (tgt := 14) rfl dX10_code_7 (by decide) (by have := (trI_0 hV (wh := wh)).2; omega) (fun c0 => ?_) (fun c0 => ?_)
  ·
    have hz : tok wh := tok_of hV (by omega)
    have hT : turn1 = (hx (trF s a wh) : Nat) := hturn1.trans (trI_ok hz)
    refine v_iload_n 0 (pc' := 15) rfl dX10_code_14 rfl rfl ?_
    refine v_aload_n 1 (pc' := 16) rfl dX10_code_15 rfl rfl ?_
    refine v_getR (pc' := 19) rfl dX10_code_16 fk_RX10_16 ly_0 rfl ?_
    refine v_get (z := (n : Int)) (pc' := 22) rfl dX10_code_19 fk_RX10_81 ly_2 rfl (m0) ?_
    refine v_cSP (pc' := 25) rfl dX10_code_22 lk_RX10_105 rfl (c_digits l G hT (hf.B hn7) rfl hn7 w) rfl rfl rfl ?_
    refine v_nm (fun digits1 hdigits1 => ?_)
    refine v_iret dX10_code_25 (by decide) (rfl) ?_
    first | exact ⟨by rw [if_pos hz]; exact hdigits1, rfl⟩ | exact ⟨by rw [if_neg hz], rfl⟩
  ·
    have hz : ¬ tok wh := ntok_of hV (by omega)
    refine v_iconst (pc' := 11) rfl dX10_code_10 ?_
    refine v_goto (tgt := 25) dX10_code_11 (by decide) ?_
    refine v_iret dX10_code_25 (by decide) (rfl) ?_
    first | exact ⟨by rw [if_pos hz]; exact hdigits1, rfl⟩ | exact ⟨by rw [if_neg hz], rfl⟩
set_option maxHeartbeats 4000000 in
set_option maxRecDepth 100000 in
theorem c_type (l : Launch) (G : Gx) {wh : Int} (hwh : rg wh) {n : Nat} {s a : Nat → Nat} (hV : MapV n s a) (w : Wd) (hM : MapW w n s a) : SpP l G 4 mX10_type [aR 0, aI (wh)] w ((if tok wh then (kindN (trF s a wh) n : Int) else -1)) := by
  obtain ⟨⟨hn1, hn7⟩, hs, ha⟩ := id hV
  obtain ⟨m0, m1, m2⟩ := id hM
  have hf := trF_pm hV wh
  refine Sp_of RX10 rfl (by decide +kernel) rfl (Nat.le_of_ble_eq_true rfl) ?_
  refine v_aload_n 0 (pc' := 1) rfl dX10_type_0 rfl rfl ?_
  refine v_iload_n 1 (pc' := 2) rfl dX10_type_1 rfl rfl ?_
  refine v_cVP (pc' := 5) rfl dX10_type_2 lk_RX10_101 ly_0 rfl (c_turn l G hwh hV w hM) rfl rfl rfl ?_
  refine v_nm (fun turn1 hturn1 => ?_)
  refine v_istore_n (ls' := [(2, _), (0, _), (1, _)]) (pc' := 6) rfl dX10_type_5 rfl rfl rfl ?_
  refine v_iload_n 0 (pc' := 7) rfl dX10_type_6 rfl rfl ?_
  refine v_if_ne (pc' := 10) (tgt := 14) rfl dX10_type_7 (by decide) (by have := (trI_0 hV (wh := wh)).2; omega) (fun c0 => ?_) (fun c0 => ?_)
  ·
    have hz : tok wh := tok_of hV (by omega)
    have hT : turn1 = (hx (trF s a wh) : Nat) := hturn1.trans (trI_ok hz)
    refine v_iload_n 0 (pc' := 15) rfl dX10_type_14 rfl rfl ?_
    refine v_aload_n 1 (pc' := 16) rfl dX10_type_15 rfl rfl ?_
    refine v_getR (pc' := 19) rfl dX10_type_16 fk_RX10_16 ly_0 rfl ?_
    refine v_get (z := (n : Int)) (pc' := 22) rfl dX10_type_19 fk_RX10_81 ly_2 rfl (m0) ?_
    refine v_cSP (pc' := 25) rfl dX10_type_22 lk_RX10_159 rfl (c_kind l G hT (hf.b7 hn7) rfl hn7 w) rfl rfl rfl ?_
    refine v_nm (fun kind1 hkind1 => ?_)
    refine v_iret dX10_type_25 (by decide) (rfl) ?_
    first | exact ⟨by rw [if_pos hz]; exact hkind1, rfl⟩ | exact ⟨by rw [if_neg hz], rfl⟩
  ·
    have hz : ¬ tok wh := ntok_of hV (by omega)
    refine v_iconst (pc' := 11) rfl dX10_type_10 ?_
    refine v_goto (tgt := 25) dX10_type_11 (by decide) ?_
    refine v_iret dX10_type_25 (by decide) (rfl) ?_
    first | exact ⟨by rw [if_pos hz]; exact hkind1, rfl⟩ | exact ⟨by rw [if_neg hz], rfl⟩
set_option maxHeartbeats 4000000 in
set_option maxRecDepth 100000 in
theorem c_power (l : Launch) (G : Gx) {wh k : Int} (hwh : rg wh) (hk : rg k) {n : Nat} {s a : Nat → Nat} (hV : MapV n s a) (w : Wd) (hM : MapW w n s a) : SpP l G 4 mX10_power [aR 0, aI (wh), aI (k)] w ((if tok wh ∧ 0 ≤ k then (cdk (ptimes (trF s a wh) k.toNat) n : Int) else -1)) := by
  obtain ⟨⟨hn1, hn7⟩, hs, ha⟩ := id hV
  obtain ⟨m0, m1, m2⟩ := id hM
  have hf := trF_pm hV wh
  refine Sp_of RX10 rfl (by decide +kernel) rfl (Nat.le_of_ble_eq_true rfl) ?_
  refine v_aload_n 0 (pc' := 1) rfl dX10_power_0 rfl rfl ?_
  refine v_iload_n 1 (pc' := 2) rfl dX10_power_1 rfl rfl ?_
  refine v_cVP (pc' := 5) rfl dX10_power_2 lk_RX10_101 ly_0 rfl (c_turn l G hwh hV w hM) rfl rfl rfl ?_
  refine v_nm (fun turn1 hturn1 => ?_)
  refine v_istore_n (ls' := [(3, _), (0, _), (1, _), (2, _)]) (pc' := 6) rfl dX10_power_5 rfl rfl rfl ?_
  refine v_iload_n 0 (pc' := 7) rfl dX10_power_6 rfl rfl ?_
  refine v_if_eq (pc' := 10) (tgt := 14) rfl dX10_power_7 (by decide) (by have := (trI_0 hV (wh := wh)).2; omega) (fun c0 => ?_) (fun c0 => ?_)
  ·
    have hz : ¬ tok wh := ntok_of hV (by omega)
    have hz2 : ¬ (tok wh ∧ 0 ≤ k) := fun q => hz q.1
    refine v_iconst (pc' := 15) rfl dX10_power_14 ?_
    refine v_iret dX10_power_15 (by decide) (rfl) ?_
    first | exact ⟨by rw [if_pos hz2]; exact hdigits1, rfl⟩ | exact ⟨by rw [if_neg hz2], rfl⟩
  ·
    have hz : tok wh := tok_of hV (by omega)
    have hT : turn1 = (hx (trF s a wh) : Nat) := hturn1.trans (trI_ok hz)
    refine v_iload_n 3 (pc' := 11) rfl dX10_power_10 rfl rfl ?_
    refine v_if_ge (pc' := 14) (tgt := 16) rfl dX10_power_11 (by decide) (by omega) (fun c1 => ?_) (fun c1 => ?_)
    ·
      have hz2 : tok wh ∧ 0 ≤ k := ⟨hz, by omega⟩
      refine v_iload_n 0 (pc' := 17) rfl dX10_power_16 rfl rfl ?_
      refine v_iload_n 3 (pc' := 18) rfl dX10_power_17 rfl rfl ?_
      refine v_cSP (pc' := 21) rfl dX10_power_18 lk_RX10_185 rfl (c_times l G hT (hf.b7 hn7) (show k = ((k.toNat : Nat) : Int) by omega) (by omega) w) rfl rfl rfl ?_
      refine v_nm (fun times1 htimes1 => ?_)
      refine v_aload_n 1 (pc' := 22) rfl dX10_power_21 rfl rfl ?_
      refine v_getR (pc' := 25) rfl dX10_power_22 fk_RX10_16 ly_0 rfl ?_
      refine v_get (z := (n : Int)) (pc' := 28) rfl dX10_power_25 fk_RX10_81 ly_2 rfl (m0) ?_
      refine v_cSP (pc' := 31) rfl dX10_power_28 lk_RX10_105 rfl (c_digits l G htimes1 (ptimes_B (hf.b7 hn7)) rfl hn7 w) rfl rfl rfl ?_
      refine v_nm (fun digits1 hdigits1 => ?_)
      refine v_iret dX10_power_31 (by decide) (rfl) ?_
      first | exact ⟨by rw [if_pos hz2]; exact hdigits1, rfl⟩ | exact ⟨by rw [if_neg hz2], rfl⟩
    ·
      have hz2 : ¬ (tok wh ∧ 0 ≤ k) := by omega
      refine v_iconst (pc' := 15) rfl dX10_power_14 ?_
      refine v_iret dX10_power_15 (by decide) (rfl) ?_
      first | exact ⟨by rw [if_pos hz2]; exact hdigits1, rfl⟩ | exact ⟨by rw [if_neg hz2], rfl⟩
def alongI (f : Nat → Nat) (d k : Int) : Int := if k < (popc (ringN f d.toNat) : Int) then (ptimes f k.toNat d.toNat : Int) else -2
set_option maxHeartbeats 4000000 in
set_option maxRecDepth 100000 in
theorem c_along (l : Launch) (G : Gx) {wh d k : Int} (hwh : rg wh) (hd : rg d) (hk : rg k) {n : Nat} {s a : Nat → Nat} (hV : MapV n s a) (w : Wd) (hM : MapW w n s a) : SpP l G 4 mX10_along [aR 0, aI (wh), aI (d), aI (k)] w ((if tok wh ∧ (1 ≤ d ∧ d ≤ (n : Int)) ∧ 0 ≤ k then alongI (trF s a wh) d k else -1)) := by
  obtain ⟨⟨hn1, hn7⟩, hs, ha⟩ := id hV
  obtain ⟨m0, m1, m2⟩ := id hM
  have hf := trF_pm hV wh
  refine Sp_of RX10 rfl (by decide +kernel) rfl (Nat.le_of_ble_eq_true rfl) ?_
  refine v_aload_n 0 (pc' := 1) rfl dX10_along_0 rfl rfl ?_
  refine v_iload_n 1 (pc' := 2) rfl dX10_along_1 rfl rfl ?_
  refine v_cVP (pc' := 5) rfl dX10_along_2 lk_RX10_101 ly_0 rfl (c_turn l G hwh hV w hM) rfl rfl rfl ?_
  refine v_nm (fun turn1 hturn1 => ?_)
  refine v_istore (ls' := [(4, _), (0, _), (1, _), (2, _), (3, _)]) (pc' := 7) rfl dX10_along_5 rfl rfl ?_
  refine v_iload 0 (pc' := 9) rfl dX10_along_7 rfl ?_
  refine v_if_eq (pc' := 12) (tgt := 24) rfl dX10_along_9 (by decide) (by have := (trI_0 hV (wh := wh)).2; omega) (fun c0 => ?_) (fun c0 => ?_)
  ·
    have hz : ¬ tok wh := ntok_of hV (by omega)
    have hz2 : ¬ (tok wh ∧ (1 ≤ d ∧ d ≤ (n : Int)) ∧ 0 ≤ k) := fun q => hz q.1
    refine v_iconst (pc' := 25) rfl dX10_along_24 ?_
    refine v_iret dX10_along_25 (by decide) (rfl) ?_
    first | exact ⟨by rw [if_pos hz2, alongI, if_pos hz3]; exact hat1, rfl⟩ | exact ⟨by rw [if_pos hz2, alongI, if_neg hz3], rfl⟩ | exact ⟨by rw [if_neg hz2], rfl⟩
  ·
    have hz : tok wh := tok_of hV (by omega)
    have hT : turn1 = (hx (trF s a wh) : Nat) := hturn1.trans (trI_ok hz)
    refine v_aload_n 1 (pc' := 13) rfl dX10_along_12 rfl rfl ?_
    refine v_iload_n 3 (pc' := 14) rfl dX10_along_13 rfl rfl ?_
    refine v_cVP (pc' := 17) rfl dX10_along_14 lk_RX10_174 ly_0 rfl (c_dartStands l G hd hV w hM) rfl rfl rfl ?_
    refine v_nm (fun dartStands1 hdartStands1 => ?_)
    refine v_if_eq (pc' := 20) (tgt := 24) rfl dX10_along_17 (by decide) (by rw [hdartStands1]; split <;> decide) (fun c1 => ?_) (fun c1 => ?_)
    ·
      have hz1 : ¬ (1 ≤ d ∧ d ≤ (n : Int)) := fun q => by rw [if_pos q] at hdartStands1; omega
      have hz2 : ¬ (tok wh ∧ (1 ≤ d ∧ d ≤ (n : Int)) ∧ 0 ≤ k) := fun q => hz1 q.2.1
      refine v_iconst (pc' := 25) rfl dX10_along_24 ?_
      refine v_iret dX10_along_25 (by decide) (rfl) ?_
      first | exact ⟨by rw [if_pos hz2, alongI, if_pos hz3]; exact hat1, rfl⟩ | exact ⟨by rw [if_pos hz2, alongI, if_neg hz3], rfl⟩ | exact ⟨by rw [if_neg hz2], rfl⟩
    ·
      have hz1 : 1 ≤ d ∧ d ≤ (n : Int) := Classical.byContradiction (fun q => by rw [if_neg q] at hdartStands1; omega)
      refine v_iload_n 4 (pc' := 21) rfl dX10_along_20 rfl rfl ?_
      refine v_if_ge (pc' := 24) (tgt := 26) rfl dX10_along_21 (by decide) (by omega) (fun c2 => ?_) (fun c2 => ?_)
      ·
        have hz2 : tok wh ∧ (1 ≤ d ∧ d ≤ (n : Int)) ∧ 0 ≤ k := ⟨hz, hz1, by omega⟩
        have hrl := ringN_lt (f := trF s a wh) (x := d.toNat) (hf.b7 hn7) (by omega) (by omega)
        have hpl := popc_le14 (ringN (trF s a wh) d.toNat)
        refine v_iload_n 4 (pc' := 27) rfl dX10_along_26 rfl rfl ?_
        refine v_iload 0 (pc' := 29) rfl dX10_along_27 rfl ?_
        refine v_iload_n 3 (pc' := 30) rfl dX10_along_29 rfl rfl ?_
        refine v_cSP (pc' := 33) rfl dX10_along_30 lk_RX10_177 rfl (c_ring l G hT (hf.b7 hn7) (show d = ((d.toNat : Nat) : Int) by omega) (by omega) (by omega) w) rfl rfl rfl ?_
        refine v_nm (fun ring1 hring1 => ?_)
        refine v_cSP (pc' := 36) rfl dX10_along_33 lk_RX10_180 rfl (c_bitCount l G hring1 (by omega) w) rfl rfl rfl ?_
        refine v_nm (fun bitCount1 hbitCount1 => ?_)
        refine v_icmp_lt (pc' := 39) (tgt := 42) rfl dX10_along_36 (by decide) (by omega) (by omega) (fun c3 => ?_) (fun c3 => ?_)
        ·
          have hz3 : k < (popc (ringN (trF s a wh) d.toNat) : Int) := by omega
          refine v_iload 0 (pc' := 44) rfl dX10_along_42 rfl ?_
          refine v_iload_n 4 (pc' := 45) rfl dX10_along_44 rfl rfl ?_
          refine v_cSP (pc' := 48) rfl dX10_along_45 lk_RX10_185 rfl (c_times l G hT (hf.b7 hn7) (show k = ((k.toNat : Nat) : Int) by omega) (by omega) w) rfl rfl rfl ?_
          refine v_nm (fun times1 htimes1 => ?_)
          refine v_iload_n 3 (pc' := 49) rfl dX10_along_48 rfl rfl ?_
          refine v_cSP (pc' := 52) rfl dX10_along_49 lk_RX10_188 rfl (c_at l G htimes1 (ptimes_B (hf.b7 hn7)) (show d = ((d.toNat : Nat) : Int) by omega) (by omega) (by omega) w) rfl rfl rfl ?_
          refine v_nm (fun at1 hat1 => ?_)
          refine v_iret dX10_along_52 (by decide) (rfl) ?_
          first | exact ⟨by rw [if_pos hz2, alongI, if_pos hz3]; exact hat1, rfl⟩ | exact ⟨by rw [if_pos hz2, alongI, if_neg hz3], rfl⟩ | exact ⟨by rw [if_neg hz2], rfl⟩
        ·
          have hz3 : ¬ k < (popc (ringN (trF s a wh) d.toNat) : Int) := by omega
          refine v_bipush (pc' := 41) rfl dX10_along_39 rfl ?_
          refine v_iret dX10_along_41 (by decide) (rfl) ?_
          first | exact ⟨by rw [if_pos hz2, alongI, if_pos hz3]; exact hat1, rfl⟩ | exact ⟨by rw [if_pos hz2, alongI, if_neg hz3], rfl⟩ | exact ⟨by rw [if_neg hz2], rfl⟩
      ·
        have hz2 : ¬ (tok wh ∧ (1 ≤ d ∧ d ≤ (n : Int)) ∧ 0 ≤ k) := by omega
        refine v_iconst (pc' := 25) rfl dX10_along_24 ?_
        refine v_iret dX10_along_25 (by decide) (rfl) ?_
        first | exact ⟨by rw [if_pos hz2, alongI, if_pos hz3]; exact hat1, rfl⟩ | exact ⟨by rw [if_pos hz2, alongI, if_neg hz3], rfl⟩ | exact ⟨by rw [if_neg hz2], rfl⟩

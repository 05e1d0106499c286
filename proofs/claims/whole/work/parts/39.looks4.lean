theorem aroundL_lt {s a : Nat → Nat} (hs : P7 s) (ha : P7 a) {u : Nat} (hu : u < 128) : ∀ k, k ≤ 7 → aroundL s a u k < 128
  | 0, _ => hu
  | k + 1, hk => by
    have ih := aroundL_lt hs ha hu k (by omega)
    have c := hs (k + 1) (by omega) hk
    have d := ha (k + 1) (by omega) hk
    have b := bt_lt (x := k + 1) (by omega) hk
    have e := or_lt7 (bt_lt c.1 c.2) (bt_lt d.1 d.2)
    have g := or_lt7 ih e
    have g2 := or_lt7 g b
    have g3 := or_lt7 ih b
    simp only [aroundL]
    split <;> split <;> first | (split <;> assumption) | assumption
def wayL (s a : Nat → Nat) (t : Nat) : Nat → Int → Nat → Int
  | 0, _, _ => -2
  | k + 1, i, u => if u &&& bt t = 0 then wayL s a t k (i + 1) (aroundN s a u) else i
abbrev dok (n : Nat) (d : Int) : Prop := 1 ≤ d ∧ d ≤ (n : Int)
theorem dok_1 {n : Nat} {d z : Int} (h : z = if dok n d then 1 else 0) (hz : z ≠ 0) : dok n d := Classical.byContradiction (fun q => hz (h.trans (if_neg q)))
theorem dok_0 {n : Nat} {d z : Int} (h : z = if dok n d then 1 else 0) (hz : z = 0) : ¬ dok n d := fun q => by rw [if_pos q] at h; omega
theorem dok_r {n : Nat} {d z : Int} (h : z = if dok n d then 1 else 0) : rg z := by rw [h]; split <;> decide
set_option maxHeartbeats 4000000 in
set_option maxRecDepth 100000 in
theorem c_way (l : Launch) (G : Gx) {d e : Int} (hd : rg d) (he : rg e) {n : Nat} {s a : Nat → Nat} (hV : MapV n s a) (w : Wd) (hM : MapW w n s a) : SpP l G 2 mX10_way [aR 0, aI (d), aI (e)] w ((if (dok n d ∧ dok n e) then wayL s a e.toNat n 0 (bt d.toNat) else -1)) := by
  obtain ⟨⟨hn1, hn7⟩, hs, ha⟩ := id hV
  obtain ⟨m0, m1, m2⟩ := id hM
  refine Sp_of RX10 rfl (by decide +kernel) rfl (Nat.le_of_ble_eq_true rfl) ?_
  refine v_aload_n 0 (pc' := 1) rfl dX10_way_0 rfl rfl ?_
  refine v_iload_n 1 (pc' := 2) rfl dX10_way_1 rfl rfl ?_
  refine v_cVP (pc' := 5) rfl dX10_way_2 lk_RX10_174 ly_0 rfl (c_dartStands l G hd hV w hM) rfl rfl rfl ?_
  refine v_nm (fun dartStands1 hdartStands1 => ?_)
  refine v_if_eq (pc' := 8) (tgt := 16) rfl dX10_way_5 (by decide) (dok_r hdartStands1) (fun c0 => ?_) (fun c0 => ?_)
  ·
    have hq1 := dok_0 hdartStands1 (by omega)
    have hz : ¬ (dok n d ∧ dok n e) := fun q => hq1 q.1
    refine v_iconst (pc' := 17) rfl dX10_way_16 ?_
    refine v_iret dX10_way_17 (by decide) (rfl) ?_
    first | exact ⟨by rw [if_neg hz], rfl⟩ | exact ⟨by rw [if_pos hz, ← hR]; simp only [wayL]; rw [if_neg hA], rfl⟩ | exact ⟨by rw [if_pos hz, ← hR]; rfl, rfl⟩
  ·
    have hq1 := dok_1 hdartStands1 (by omega)
    refine v_aload_n 0 (pc' := 9) rfl dX10_way_8 rfl rfl ?_
    refine v_iload_n 2 (pc' := 10) rfl dX10_way_9 rfl rfl ?_
    refine v_cVP (pc' := 13) rfl dX10_way_10 lk_RX10_174 ly_0 rfl (c_dartStands l G he hV w hM) rfl rfl rfl ?_
    refine v_nm (fun dartStands2 hdartStands2 => ?_)
    refine v_if_ne (pc' := 16) (tgt := 18) rfl dX10_way_13 (by decide) (dok_r hdartStands2) (fun c1 => ?_) (fun c1 => ?_)
    ·
      have hq2 := dok_1 hdartStands2 (by omega)
      have hz : (dok n d ∧ dok n e) := ⟨hq1, hq2⟩
      refine v_iload_n 1 (pc' := 19) rfl dX10_way_18 rfl rfl ?_
      refine v_cSP (pc' := 22) rfl dX10_way_19 lk_RX10_364 rfl (c_bit l G (show d = ((d.toNat : Nat) : Int) by omega) (by omega) (by omega) w) rfl rfl rfl ?_
      refine v_nm (fun bit1 hbit1 => ?_)
      refine v_istore_n (ls' := [(3, _), (0, _), (1, _), (2, _)]) (pc' := 23) rfl dX10_way_22 rfl rfl rfl ?_
      refine v_iconst (pc' := 24) rfl dX10_way_23 ?_
      refine v_istore (ls' := [(4, _), (3, _), (0, _), (1, _), (2, _)]) (pc' := 26) rfl dX10_way_24 rfl rfl ?_
      refine v_ls [2, 3, 4, 1, 0] rfl ?_
      refine v_loop2 26 (fun (set : Int) (i : Int) => ∃ k uN : Nat, (i + k = n ∧ 0 ≤ i) ∧ set = uN ∧ uN < 128 ∧ wayL s a e.toNat k i uN = wayL s a e.toNat n 0 (bt d.toNat)) (fun (set : Int) (i : Int) => ((n : Int) - i).toNat) (fun (set : Int) (i : Int) => [(0, aR 0), (1, aI (d)), (2, aI (e)), (3, aI (set)), (4, aI (i))]) (fun (set : Int) (i : Int) => []) (fun (set : Int) (i : Int) => w) (fun set i hI0 ih0 => ?_) (bit1) (0) (⟨n, bt d.toNat, by omega, hbit1, bt_lt (by omega) (by omega), rfl⟩)
      obtain ⟨k, uN, hi, hset, hu, hR⟩ := hI0
      refine v_iload 4 (pc' := 28) rfl dX10_way_26 rfl ?_
      refine v_aload_n 0 (pc' := 29) rfl dX10_way_28 rfl rfl ?_
      refine v_getR (pc' := 32) rfl dX10_way_29 fk_RX10_16 ly_0 rfl ?_
      refine v_get (z := (n : Int)) (pc' := 35) rfl dX10_way_32 fk_RX10_81 ly_2 rfl (m0) ?_
      refine v_icmp_ge (pc' := 38) (tgt := 75) rfl dX10_way_35 (by decide) (by omega) (by omega) (fun c2 => ?_) (fun c2 => ?_)
      ·
        have hk0 : k = 0 := by omega
        subst hk0
        refine v_bipush (pc' := 77) rfl dX10_way_75 rfl ?_
        refine v_iret dX10_way_77 (by decide) (rfl) ?_
        first | exact ⟨by rw [if_neg hz], rfl⟩ | exact ⟨by rw [if_pos hz, ← hR]; simp only [wayL]; rw [if_neg hA], rfl⟩ | exact ⟨by rw [if_pos hz, ← hR]; rfl, rfl⟩
      ·
        obtain ⟨m, rfl⟩ : ∃ m, k = m + 1 := ⟨k - 1, by omega⟩
        refine v_iload_n 3 (pc' := 39) rfl dX10_way_38 rfl rfl ?_
        refine v_iload_n 2 (pc' := 40) rfl dX10_way_39 rfl rfl ?_
        refine v_cSP (pc' := 43) rfl dX10_way_40 lk_RX10_364 rfl (c_bit l G (show e = ((e.toNat : Nat) : Int) by omega) (by omega) (by omega) w) rfl rfl rfl ?_
        refine v_nm (fun bit2 hbit2 => ?_)
        refine v_iand (z := ((uN &&& bt e.toNat : Nat) : Int)) (pc' := 44) rfl dX10_way_43 (iz_andE hset hbit2) ?_
        refine v_if_eq (pc' := 47) (tgt := 50) rfl dX10_way_44 (by decide) (by have := and_lt7 (b := bt e.toNat) hu; omega) (fun c3 => ?_) (fun c3 => ?_)
        ·
          have hA : uN &&& bt e.toNat = 0 := by omega
          refine v_aload_n 0 (pc' := 51) rfl dX10_way_50 rfl rfl ?_
          refine v_getR (pc' := 54) rfl dX10_way_51 fk_RX10_16 ly_0 rfl ?_
          refine v_get (z := ((hx s : Nat) : Int)) (pc' := 57) rfl dX10_way_54 fk_RX10_87 ly_2 rfl (m1) ?_
          refine v_aload_n 0 (pc' := 58) rfl dX10_way_57 rfl rfl ?_
          refine v_getR (pc' := 61) rfl dX10_way_58 fk_RX10_16 ly_0 rfl ?_
          refine v_get (z := ((hx a : Nat) : Int)) (pc' := 64) rfl dX10_way_61 fk_RX10_90 ly_2 rfl (m2) ?_
          refine v_iload_n 3 (pc' := 65) rfl dX10_way_64 rfl rfl ?_
          refine v_cSP (pc' := 68) rfl dX10_way_65 lk_RX10_367 rfl (c_around l G rfl rfl (hs.b7 hn7) (ha.b7 hn7) hset hu w) rfl rfl rfl ?_
          refine v_nm (fun around1 haround1 => ?_)
          refine v_istore_n (ls' := [(3, _), (0, _), (1, _), (2, _), (4, _)]) (pc' := 69) rfl dX10_way_68 rfl rfl rfl ?_
          refine v_iinc (ls' := [(4, _), (3, _), (0, _), (1, _), (2, _)]) 4 (pc' := 72) rfl dX10_way_69 rfl rfl rfl ?_
          refine v_nl (fun i' hi' => ?_)
          refine v_goto (tgt := 26) dX10_way_72 (by decide) ?_
          refine v_ls [2, 3, 4, 1, 0] rfl ?_
          exact ih0 (around1) (i') (⟨m, aroundN s a uN, by omega, haround1, aroundL_lt (hs.b7 hn7) (ha.b7 hn7) hu 7 (by decide), by rw [← hR, hi']; simp only [wayL]; rw [if_pos hA]⟩) (by omega)
        ·
          have hA : ¬ uN &&& bt e.toNat = 0 := by omega
          refine v_iload 4 (pc' := 49) rfl dX10_way_47 rfl ?_
          refine v_iret dX10_way_49 (by decide) (rfl) ?_
          first | exact ⟨by rw [if_neg hz], rfl⟩ | exact ⟨by rw [if_pos hz, ← hR]; simp only [wayL]; rw [if_neg hA], rfl⟩ | exact ⟨by rw [if_pos hz, ← hR]; rfl, rfl⟩
    ·
      have hq2 := dok_0 hdartStands2 (by omega)
      have hz : ¬ (dok n d ∧ dok n e) := fun q => hq2 q.2
      refine v_iconst (pc' := 17) rfl dX10_way_16 ?_
      refine v_iret dX10_way_17 (by decide) (rfl) ?_
      first | exact ⟨by rw [if_neg hz], rfl⟩ | exact ⟨by rw [if_pos hz, ← hR]; simp only [wayL]; rw [if_neg hA], rfl⟩ | exact ⟨by rw [if_pos hz, ← hR]; rfl, rfl⟩
set_option maxHeartbeats 4000000 in
set_option maxRecDepth 100000 in
theorem c_meet (l : Launch) (G : Gx) {wh d vh e : Int} (hwh : rg wh) (hd : rg d) (hvh : rg vh) (he : rg e) {n : Nat} {s a : Nat → Nat} (hV : MapV n s a) (w : Wd) (hM : MapW w n s a) : SpP l G 4 mX10_meet [aR 0, aI (wh), aI (d), aI (vh), aI (e)] w ((if (tok wh ∧ tok vh ∧ dok n d ∧ dok n e) then (popc (ringN (trF s a wh) d.toNat &&& ringN (trF s a vh) e.toNat) : Int) else -1)) := by
  obtain ⟨⟨hn1, hn7⟩, hs, ha⟩ := id hV
  obtain ⟨m0, m1, m2⟩ := id hM
  have hf := trF_pm hV wh
  have hg := trF_pm hV vh
  refine Sp_of RX10 rfl (by decide +kernel) rfl (Nat.le_of_ble_eq_true rfl) ?_
  refine v_aload_n 0 (pc' := 1) rfl dX10_meet_0 rfl rfl ?_
  refine v_iload_n 1 (pc' := 2) rfl dX10_meet_1 rfl rfl ?_
  refine v_cVP (pc' := 5) rfl dX10_meet_2 lk_RX10_101 ly_0 rfl (c_turn l G hwh hV w hM) rfl rfl rfl ?_
  refine v_nm (fun turn1 hturn1 => ?_)
  refine v_istore (ls' := [(5, _), (0, _), (1, _), (2, _), (3, _), (4, _)]) (pc' := 7) rfl dX10_meet_5 rfl rfl ?_
  refine v_aload_n 1 (pc' := 8) rfl dX10_meet_7 rfl rfl ?_
  refine v_iload_n 4 (pc' := 9) rfl dX10_meet_8 rfl rfl ?_
  refine v_cVP (pc' := 12) rfl dX10_meet_9 lk_RX10_101 ly_0 rfl (c_turn l G hvh hV w hM) rfl rfl rfl ?_
  refine v_nm (fun turn2 hturn2 => ?_)
  refine v_istore (ls' := [(6, _), (5, _), (0, _), (1, _), (2, _), (3, _), (4, _)]) (pc' := 14) rfl dX10_meet_12 rfl rfl ?_
  refine v_iload 1 (pc' := 16) rfl dX10_meet_14 rfl ?_
  refine v_if_eq (pc' := 19) (tgt := 41) rfl dX10_meet_16 (by decide) (by have := (trI_0 hV (wh := wh)).2; omega) (fun c0 => ?_) (fun c0 => ?_)
  ·
    have hz : ¬ tok wh := ntok_of hV (by omega)
    have hw : ¬ (tok wh ∧ tok vh ∧ dok n d ∧ dok n e) := fun q => hz q.1
    refine v_iconst (pc' := 42) rfl dX10_meet_41 ?_
    refine v_iret dX10_meet_42 (by decide) (rfl) ?_
    first | exact ⟨by rw [if_neg hw], rfl⟩ | exact ⟨by rw [if_pos hw]; exact hbitCount1, rfl⟩
  ·
    have hz : tok wh := tok_of hV (by omega)
    have hT : turn1 = (hx (trF s a wh) : Nat) := hturn1.trans (trI_ok hz)
    refine v_iload 0 (pc' := 21) rfl dX10_meet_19 rfl ?_
    refine v_if_eq (pc' := 24) (tgt := 41) rfl dX10_meet_21 (by decide) (by have := (trI_0 hV (wh := vh)).2; omega) (fun c1 => ?_) (fun c1 => ?_)
    ·
      have hz2 : ¬ tok vh := ntok_of hV (by omega)
      have hw : ¬ (tok wh ∧ tok vh ∧ dok n d ∧ dok n e) := fun q => hz2 q.2.1
      refine v_iconst (pc' := 42) rfl dX10_meet_41 ?_
      refine v_iret dX10_meet_42 (by decide) (rfl) ?_
      first | exact ⟨by rw [if_neg hw], rfl⟩ | exact ⟨by rw [if_pos hw]; exact hbitCount1, rfl⟩
    ·
      have hz2 : tok vh := tok_of hV (by omega)
      have hT2 : turn2 = (hx (trF s a vh) : Nat) := hturn2.trans (trI_ok hz2)
      refine v_aload_n 2 (pc' := 25) rfl dX10_meet_24 rfl rfl ?_
      refine v_iload_n 4 (pc' := 26) rfl dX10_meet_25 rfl rfl ?_
      refine v_cVP (pc' := 29) rfl dX10_meet_26 lk_RX10_174 ly_0 rfl (c_dartStands l G hd hV w hM) rfl rfl rfl ?_
      refine v_nm (fun dartStands1 hdartStands1 => ?_)
      refine v_if_eq (pc' := 32) (tgt := 41) rfl dX10_meet_29 (by decide) (dok_r hdartStands1) (fun c2 => ?_) (fun c2 => ?_)
      ·
        have hq1 := dok_0 hdartStands1 (by omega)
        have hw : ¬ (tok wh ∧ tok vh ∧ dok n d ∧ dok n e) := fun q => hq1 q.2.2.1
        refine v_iconst (pc' := 42) rfl dX10_meet_41 ?_
        refine v_iret dX10_meet_42 (by decide) (rfl) ?_
        first | exact ⟨by rw [if_neg hw], rfl⟩ | exact ⟨by rw [if_pos hw]; exact hbitCount1, rfl⟩
      ·
        have hq1 := dok_1 hdartStands1 (by omega)
        refine v_aload_n 2 (pc' := 33) rfl dX10_meet_32 rfl rfl ?_
        refine v_iload 6 (pc' := 35) rfl dX10_meet_33 rfl ?_
        refine v_cVP (pc' := 38) rfl dX10_meet_35 lk_RX10_174 ly_0 rfl (c_dartStands l G he hV w hM) rfl rfl rfl ?_
        refine v_nm (fun dartStands2 hdartStands2 => ?_)
        refine v_if_ne (pc' := 41) (tgt := 43) rfl dX10_meet_38 (by decide) (dok_r hdartStands2) (fun c3 => ?_) (fun c3 => ?_)
        ·
          have hq2 := dok_1 hdartStands2 (by omega)
          have hw : (tok wh ∧ tok vh ∧ dok n d ∧ dok n e) := ⟨hz, hz2, hq1, hq2⟩
          refine v_iload 1 (pc' := 45) rfl dX10_meet_43 rfl ?_
          refine v_iload_n 4 (pc' := 46) rfl dX10_meet_45 rfl rfl ?_
          refine v_cSP (pc' := 49) rfl dX10_meet_46 lk_RX10_177 rfl (c_ring l G hT (hf.b7 hn7) (show d = ((d.toNat : Nat) : Int) by omega) (by omega) (by omega) w) rfl rfl rfl ?_
          refine v_nm (fun ring1 hring1 => ?_)
          refine v_iload 0 (pc' := 51) rfl dX10_meet_49 rfl ?_
          refine v_iload 6 (pc' := 53) rfl dX10_meet_51 rfl ?_
          refine v_cSP (pc' := 56) rfl dX10_meet_53 lk_RX10_177 rfl (c_ring l G hT2 (hg.b7 hn7) (show e = ((e.toNat : Nat) : Int) by omega) (by omega) (by omega) w) rfl rfl rfl ?_
          refine v_nm (fun ring2 hring2 => ?_)
          refine v_iand (z := ((ringN (trF s a wh) d.toNat &&& ringN (trF s a vh) e.toNat : Nat) : Int)) (pc' := 57) rfl dX10_meet_56 (iz_andE hring1 hring2) ?_
          refine v_cSP (pc' := 60) rfl dX10_meet_57 lk_RX10_180 rfl (c_bitCount l G (n := ringN (trF s a wh) d.toNat &&& ringN (trF s a vh) e.toNat) rfl (by have := and_lt7 (b := ringN (trF s a vh) e.toNat) (ringN_lt (hf.b7 hn7) (x := d.toNat) (by omega) (by omega)); omega) w) rfl rfl rfl ?_
          refine v_nm (fun bitCount1 hbitCount1 => ?_)
          refine v_iret dX10_meet_60 (by decide) (rfl) ?_
          first | exact ⟨by rw [if_neg hw], rfl⟩ | exact ⟨by rw [if_pos hw]; exact hbitCount1, rfl⟩
        ·
          have hq2 := dok_0 hdartStands2 (by omega)
          have hw : ¬ (tok wh ∧ tok vh ∧ dok n d ∧ dok n e) := fun q => hq2 q.2.2.2
          refine v_iconst (pc' := 42) rfl dX10_meet_41 ?_
          refine v_iret dX10_meet_42 (by decide) (rfl) ?_
          first | exact ⟨by rw [if_neg hw], rfl⟩ | exact ⟨by rw [if_pos hw]; exact hbitCount1, rfl⟩

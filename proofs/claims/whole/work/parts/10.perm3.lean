theorem joinB_eq (s a : Nat → Nat) (n : Nat) : joinB s a n = true ↔ reachN s a 1 = full n := by unfold joinB; rw [beq_iff_eq]
theorem reachL_lt {s a : Nat → Nat} (hs : P7 s) (ha : P7 a) : ∀ k left r, left < 128 → r < 128 → reachL s a k left r < 128
  | 0, _, r, _, h => h
  | k + 1, left, r, hl, h => by
    simp only [reachL]
    split
    · exact h
    · rename_i q
      have b := low_in left hl q
      have c := hs _ b.1 b.2
      have d := ha _ b.1 b.2
      have e := or_lt7 (bt_lt c.1 c.2) (bt_lt d.1 d.2)
      exact reachL_lt hs ha k _ _ (or_lt7 (andn_lt7 hl) (andn_lt7 e)) (or_lt7 h (andn_lt7 e))
theorem reachN_lt {s a : Nat → Nat} (hs : P7 s) (ha : P7 a) {x : Nat} (h1 : 1 ≤ x) (h2 : x ≤ 7) : reachN s a x < 128 := reachL_lt hs ha 7 _ _ (bt_lt h1 h2) (bt_lt h1 h2)
def genusI (s a : Nat → Nat) (part : Nat) : Int := ((popc part : Int) + 2 - ((ringsN s part : Int) + (ringsN a part : Int) + (ringsN (pface s a) part : Int))).tdiv 2
theorem ringsL_le (f : Nat → Nat) : ∀ k l m, ringsL f k l m ≤ m + k
  | 0, _, m => by simp only [ringsL]; omega
  | k + 1, l, m => by
    simp only [ringsL]
    split
    · omega
    · have := ringsL_le f k (andn l (ringN f (lowN l))) (m + 1); omega
theorem ringsN_le (f : Nat → Nat) (s : Nat) : ringsN f s ≤ 7 := by have := ringsL_le f 7 s 0; unfold ringsN; omega
set_option maxHeartbeats 4000000 in
set_option maxRecDepth 100000 in
theorem c_reach (l : Launch) (G : Gx) {p q x0 : Int} {s a : Nat → Nat} {x : Nat} (hp : p = (hx s : Nat)) (hq : q = (hx a : Nat)) (hs : P7 s) (ha : P7 a) (hx0 : x0 = x) (h1 : 1 ≤ x) (h2 : x ≤ 7) (w : Wd) : SpP l G 2 mX6_reach [aI (p), aI (q), aI (x0)] w (((reachN s a x : Nat) : Int)) := by
  refine Sp_of RX6 rfl (by decide +kernel) rfl (Nat.le_of_ble_eq_true rfl) ?_
  refine v_iload_n 2 (pc' := 1) rfl dX6_reach_0 rfl rfl ?_
  refine v_cSP (pc' := 4) rfl dX6_reach_1 lk_RX6_34 rfl (c_bit l G hx0 h1 (by omega) w) rfl rfl rfl ?_
  refine v_nm (fun bit1 hbit1 => ?_)
  refine v_istore_n (ls' := [(3, _), (0, _), (1, _), (2, _)]) (pc' := 5) rfl dX6_reach_4 rfl rfl rfl ?_
  refine v_iload_n 0 (pc' := 6) rfl dX6_reach_5 rfl rfl ?_
  refine v_istore (ls' := [(4, _), (3, _), (0, _), (1, _), (2, _)]) (pc' := 8) rfl dX6_reach_6 rfl rfl ?_
  refine v_iconst (pc' := 9) rfl dX6_reach_8 ?_
  refine v_istore (ls' := [(5, _), (4, _), (3, _), (0, _), (1, _), (2, _)]) (pc' := 11) rfl dX6_reach_9 rfl rfl ?_
  refine v_ls [3, 4, 5, 2, 1, 0] rfl ?_
  refine v_loop3 11 (fun (r : Int) (left : Int) (i : Int) => ∃ k lN rN : Nat, (i + k = 7 ∧ 0 ≤ i) ∧ left = lN ∧ r = rN ∧ lN < 128 ∧ rN < 128 ∧ reachL s a k lN rN = reachN s a x) (fun (r : Int) (left : Int) (i : Int) => (7 - i).toNat) (fun (r : Int) (left : Int) (i : Int) => [(0, aI (p)), (1, aI (q)), (2, aI (x0)), (3, aI (r)), (4, aI (left)), (5, aI (i))]) (fun (r : Int) (left : Int) (i : Int) => []) (fun (r : Int) (left : Int) (i : Int) => w) (fun r left i hI0 ih0 => ?_) (bit1) (bit1) (0) (⟨7, bt x, bt x, by omega, hbit1, hbit1, bt_lt h1 h2, bt_lt h1 h2, rfl⟩)
  obtain ⟨k, lN, rN, hik, hleft, hr, hl, hrl, hR⟩ := hI0
  refine v_iload 5 (pc' := 13) rfl dX6_reach_11 rfl ?_
  refine v_bipush (pc' := 15) rfl dX6_reach_13 rfl ?_
  refine v_icmp_ge (pc' := 18) (tgt := 81) rfl dX6_reach_15 (by decide) (by omega) (by omega) (fun c0 => ?_) (fun c0 => ?_)
  ·
    have hret : reachN s a x = rN := by rw [← hR, show k = 0 by omega]; rfl
    refine v_iload_n 3 (pc' := 82) rfl dX6_reach_81 rfl rfl ?_
    refine v_iret dX6_reach_82 (by decide) (rfl) ?_
    exact ⟨by rw [hr, hret], rfl⟩
  ·
    refine v_iload 4 (pc' := 20) rfl dX6_reach_18 rfl ?_
    refine v_if_eq (pc' := 23) (tgt := 81) rfl dX6_reach_20 (by decide) (by omega) (fun c1 => ?_) (fun c1 => ?_)
    ·
      have hret : reachN s a x = rN := by rw [← hR, show lN = 0 by omega]; exact reachL_0 s a rN k
      refine v_iload_n 3 (pc' := 82) rfl dX6_reach_81 rfl rfl ?_
      refine v_iret dX6_reach_82 (by decide) (rfl) ?_
      exact ⟨by rw [hr, hret], rfl⟩
    ·
      obtain ⟨k, rfl⟩ : ∃ j, k = j + 1 := ⟨k - 1, by omega⟩
      have hlow := low_in lN hl (by omega)
      have hsl := hs _ hlow.1 hlow.2
      have hal := ha _ hlow.1 hlow.2
      have hor := or_lt7 (bt_lt hsl.1 hsl.2) (bt_lt hal.1 hal.2)
      refine v_iload 4 (pc' := 25) rfl dX6_reach_23 rfl ?_
      refine v_cSP (pc' := 28) rfl dX6_reach_25 lk_RX6_47 rfl (c_lowest l G hleft hl (by omega) w) rfl rfl rfl ?_
      refine v_nm (fun lowest1 hlowest1 => ?_)
      refine v_istore (ls' := [(6, _), (0, _), (1, _), (2, _), (3, _), (4, _), (5, _)]) (pc' := 30) rfl dX6_reach_28 rfl rfl ?_
      refine v_iload_n 1 (pc' := 31) rfl dX6_reach_30 rfl rfl ?_
      refine v_iload 0 (pc' := 33) rfl dX6_reach_31 rfl ?_
      refine v_cSP (pc' := 36) rfl dX6_reach_33 lk_RX6_21 rfl (c_at l G hp hs.B (x := lowN lN) (by omega) (by omega) (by omega) w) rfl rfl rfl ?_
      refine v_nm (fun at1 hat1 => ?_)
      refine v_cSP (pc' := 39) rfl dX6_reach_36 lk_RX6_34 rfl (c_bit l G hat1 hsl.1 (by omega) w) rfl rfl rfl ?_
      refine v_nm (fun bit2 hbit2 => ?_)
      refine v_iload_n 2 (pc' := 40) rfl dX6_reach_39 rfl rfl ?_
      refine v_iload 0 (pc' := 42) rfl dX6_reach_40 rfl ?_
      refine v_cSP (pc' := 45) rfl dX6_reach_42 lk_RX6_21 rfl (c_at l G hq ha.B (x := lowN lN) (by omega) (by omega) (by omega) w) rfl rfl rfl ?_
      refine v_nm (fun at2 hat2 => ?_)
      refine v_cSP (pc' := 48) rfl dX6_reach_45 lk_RX6_34 rfl (c_bit l G hat2 hal.1 (by omega) w) rfl rfl rfl ?_
      refine v_nm (fun bit3 hbit3 => ?_)
      refine v_ior (z := ((bt (s (lowN lN)) ||| bt (a (lowN lN)) : Nat) : Int)) (pc' := 49) rfl dX6_reach_48 (iz_orE hbit2 hbit3) ?_
      refine v_iload_n 4 (pc' := 50) rfl dX6_reach_49 rfl rfl ?_
      refine v_iconst (pc' := 51) rfl dX6_reach_50 ?_
      refine v_ixor (pc' := 52) rfl dX6_reach_51 (bxor_iz r (-1)) ?_
      refine v_iand (z := ((andn (bt (s (lowN lN)) ||| bt (a (lowN lN))) rN : Nat) : Int)) (pc' := 53) rfl dX6_reach_52 (by rw [hr]; exact andn_bits _ hor _ hrl) ?_
      refine v_nm (fun fresh' hfresh' => ?_)
      refine v_istore (ls' := [(7, _), (6, _), (0, _), (1, _), (2, _), (3, _), (4, _), (5, _)]) (pc' := 55) rfl dX6_reach_53 rfl rfl ?_
      refine v_iload_n 5 (pc' := 56) rfl dX6_reach_55 rfl rfl ?_
      refine v_iload 0 (pc' := 58) rfl dX6_reach_56 rfl ?_
      refine v_ior (z := ((rN ||| andn (bt (s (lowN lN)) ||| bt (a (lowN lN))) rN : Nat) : Int)) (pc' := 59) rfl dX6_reach_58 (iz_orE hr hfresh') ?_
      refine v_nm (fun r' hr' => ?_)
      refine v_istore_n (ls' := [(3, _), (7, _), (6, _), (0, _), (1, _), (2, _), (4, _), (5, _)]) (pc' := 60) rfl dX6_reach_59 rfl rfl rfl ?_
      refine v_iload 6 (pc' := 62) rfl dX6_reach_60 rfl ?_
      refine v_iload 2 (pc' := 64) rfl dX6_reach_62 rfl ?_
      refine v_cSP (pc' := 67) rfl dX6_reach_64 lk_RX6_34 rfl (c_bit l G hlowest1 hlow.1 (by omega) w) rfl rfl rfl ?_
      refine v_nm (fun bit4 hbit4 => ?_)
      refine v_iconst (pc' := 68) rfl dX6_reach_67 ?_
      refine v_ixor (pc' := 69) rfl dX6_reach_68 (bxor_iz bit4 (-1)) ?_
      refine v_iand (z := ((andn lN (bt (lowN lN)) : Nat) : Int)) (pc' := 70) rfl dX6_reach_69 (by rw [hleft, hbit4]; exact andn_bits _ hl _ (bt_lt hlow.1 hlow.2)) ?_
      refine v_iload 1 (pc' := 72) rfl dX6_reach_70 rfl ?_
      refine v_ior (z := ((andn lN (bt (lowN lN)) ||| andn (bt (s (lowN lN)) ||| bt (a (lowN lN))) rN : Nat) : Int)) (pc' := 73) rfl dX6_reach_72 (iz_orE rfl hfresh') ?_
      refine v_nm (fun left' hleft' => ?_)
      refine v_istore (ls' := [(4, _), (3, _), (7, _), (6, _), (0, _), (1, _), (2, _), (5, _)]) (pc' := 75) rfl dX6_reach_73 rfl rfl ?_
      refine v_iinc (ls' := [(5, _), (4, _), (3, _), (7, _), (6, _), (0, _), (1, _), (2, _)]) 7 (pc' := 78) rfl dX6_reach_75 rfl rfl rfl ?_
      refine v_nl (fun i' hi' => ?_)
      refine v_goto (tgt := 11) dX6_reach_78 (by decide) ?_
      refine v_ls [5, 6, 7, 2, 1, 0] rfl ?_
      exact ih0 (r') (left') (i') (⟨k, (andn lN (bt (lowN lN)) ||| andn (bt (s (lowN lN)) ||| bt (a (lowN lN))) rN), (rN ||| andn (bt (s (lowN lN)) ||| bt (a (lowN lN))) rN), by omega, hleft', hr', or_lt7 (andn_lt7 hl) (andn_lt7 hor), or_lt7 hrl (andn_lt7 hor), by rw [← hR]; simp only [reachL]; rw [if_neg (by omega)]⟩) (by omega)
set_option maxHeartbeats 4000000 in
set_option maxRecDepth 100000 in
theorem c_joined (l : Launch) (G : Gx) {p q n0 : Int} {s a : Nat → Nat} {n : Nat} (hp : p = (hx s : Nat)) (hq : q = (hx a : Nat)) (hs : P7 s) (ha : P7 a) (hn : n0 = n) (hn7 : n ≤ 7) (w : Wd) : SpP l G 3 mX6_joined [aI (p), aI (q), aI (n0)] w ((if joinB s a n then 1 else 0 : Int)) := by
  have b1 := reachN_lt hs ha (x := 1) (by omega) (by omega)
  have b2 := full_lt hn7
  refine Sp_of RX6 rfl (by decide +kernel) rfl (Nat.le_of_ble_eq_true rfl) ?_
  refine v_iload_n 0 (pc' := 1) rfl dX6_joined_0 rfl rfl ?_
  refine v_iload_n 1 (pc' := 2) rfl dX6_joined_1 rfl rfl ?_
  refine v_iconst (pc' := 3) rfl dX6_joined_2 ?_
  refine v_cSP (pc' := 6) rfl dX6_joined_3 lk_RX6_63 rfl (c_reach l G hp hq hs ha (x := 1) rfl (by omega) (by omega) w) rfl rfl rfl ?_
  refine v_nm (fun reach1 hreach1 => ?_)
  refine v_iload_n 2 (pc' := 7) rfl dX6_joined_6 rfl rfl ?_
  refine v_cSP (pc' := 10) rfl dX6_joined_7 lk_RX6_37 rfl (c_darts l G hn hn7 w) rfl rfl rfl ?_
  refine v_nm (fun darts1 hdarts1 => ?_)
  refine v_icmp_ne (pc' := 13) (tgt := 17) rfl dX6_joined_10 (by decide) (by omega) (by omega) (fun c0 => ?_) (fun c0 => ?_)
  ·
    have hB : joinB s a n = false := by rw [Bool.eq_false_iff]; intro q; rw [joinB_eq] at q; omega
    refine v_iconst (pc' := 18) rfl dX6_joined_17 ?_
    refine v_iret dX6_joined_18 (by decide) (rfl) ?_
    exact ⟨by rw [hB]; rfl, rfl⟩
  ·
    have hB : joinB s a n = true := by rw [joinB_eq]; omega
    refine v_iconst (pc' := 14) rfl dX6_joined_13 ?_
    refine v_goto (tgt := 18) dX6_joined_14 (by decide) ?_
    refine v_iret dX6_joined_18 (by decide) (rfl) ?_
    exact ⟨by rw [hB]; rfl, rfl⟩
set_option maxHeartbeats 4000000 in
set_option maxRecDepth 100000 in
theorem c_parts (l : Launch) (G : Gx) {p q n0 : Int} {s a : Nat → Nat} {n : Nat} (hp : p = (hx s : Nat)) (hq : q = (hx a : Nat)) (hs : P7 s) (ha : P7 a) (hn : n0 = n) (hn7 : n ≤ 7) (w : Wd) : SpP l G 3 mX6_parts [aI (p), aI (q), aI (n0)] w (((partsN s a n : Nat) : Int)) := by
  refine Sp_of RX6 rfl (by decide +kernel) rfl (Nat.le_of_ble_eq_true rfl) ?_
  refine v_iconst (pc' := 1) rfl dX6_parts_0 ?_
  refine v_istore_n (ls' := [(3, _), (0, _), (1, _), (2, _)]) (pc' := 2) rfl dX6_parts_1 rfl rfl rfl ?_
  refine v_iload_n 3 (pc' := 3) rfl dX6_parts_2 rfl rfl ?_
  refine v_cSP (pc' := 6) rfl dX6_parts_3 lk_RX6_37 rfl (c_darts l G hn hn7 w) rfl rfl rfl ?_
  refine v_nm (fun darts1 hdarts1 => ?_)
  refine v_istore (ls' := [(4, _), (3, _), (0, _), (1, _), (2, _)]) (pc' := 8) rfl dX6_parts_6 rfl rfl ?_
  refine v_iconst (pc' := 9) rfl dX6_parts_8 ?_
  refine v_istore (ls' := [(5, _), (4, _), (3, _), (0, _), (1, _), (2, _)]) (pc' := 11) rfl dX6_parts_9 rfl rfl ?_
  refine v_ls [3, 4, 5, 2, 1, 0] rfl ?_
  refine v_loop3 11 (fun (many : Int) (left : Int) (i : Int) => ∃ k lN mN : Nat, (i + k = 7 ∧ 0 ≤ i) ∧ left = lN ∧ many = mN ∧ lN < 128 ∧ partsL s a k lN mN = partsN s a n) (fun (many : Int) (left : Int) (i : Int) => (7 - i).toNat) (fun (many : Int) (left : Int) (i : Int) => [(0, aI (p)), (1, aI (q)), (2, aI (n0)), (3, aI (many)), (4, aI (left)), (5, aI (i))]) (fun (many : Int) (left : Int) (i : Int) => []) (fun (many : Int) (left : Int) (i : Int) => w) (fun many left i hI0 ih0 => ?_) (0) (darts1) (0) (⟨7, full n, 0, by omega, hdarts1, rfl, full_lt hn7, rfl⟩)
  obtain ⟨k, lN, mN, hik, hleft, hmany, hl, hR⟩ := hI0
  refine v_iload 5 (pc' := 13) rfl dX6_parts_11 rfl ?_
  refine v_bipush (pc' := 15) rfl dX6_parts_13 rfl ?_
  refine v_icmp_ge (pc' := 18) (tgt := 49) rfl dX6_parts_15 (by decide) (by omega) (by omega) (fun c0 => ?_) (fun c0 => ?_)
  ·
    have hret : partsN s a n = mN := by rw [← hR, show k = 0 by omega]; rfl
    refine v_iload_n 3 (pc' := 50) rfl dX6_parts_49 rfl rfl ?_
    refine v_iret dX6_parts_50 (by decide) (rfl) ?_
    exact ⟨by rw [hmany, hret], rfl⟩
  ·
    refine v_iload 4 (pc' := 20) rfl dX6_parts_18 rfl ?_
    refine v_if_eq (pc' := 23) (tgt := 49) rfl dX6_parts_20 (by decide) (by omega) (fun c1 => ?_) (fun c1 => ?_)
    ·
      have hret : partsN s a n = mN := by rw [← hR, show lN = 0 by omega]; exact partsL_0 s a mN k
      refine v_iload_n 3 (pc' := 50) rfl dX6_parts_49 rfl rfl ?_
      refine v_iret dX6_parts_50 (by decide) (rfl) ?_
      exact ⟨by rw [hmany, hret], rfl⟩
    ·
      obtain ⟨k, rfl⟩ : ∃ j, k = j + 1 := ⟨k - 1, by omega⟩
      have hlow := low_in lN hl (by omega)
      refine v_iload 4 (pc' := 25) rfl dX6_parts_23 rfl ?_
      refine v_iload_n 0 (pc' := 26) rfl dX6_parts_25 rfl rfl ?_
      refine v_iload_n 1 (pc' := 27) rfl dX6_parts_26 rfl rfl ?_
      refine v_iload 4 (pc' := 29) rfl dX6_parts_27 rfl ?_
      refine v_cSP (pc' := 32) rfl dX6_parts_29 lk_RX6_47 rfl (c_lowest l G hleft hl (by omega) w) rfl rfl rfl ?_
      refine v_nm (fun lowest1 hlowest1 => ?_)
      refine v_cSP (pc' := 35) rfl dX6_parts_32 lk_RX6_63 rfl (c_reach l G hp hq hs ha hlowest1 hlow.1 hlow.2 w) rfl rfl rfl ?_
      refine v_nm (fun reach1 hreach1 => ?_)
      refine v_iconst (pc' := 36) rfl dX6_parts_35 ?_
      refine v_ixor (pc' := 37) rfl dX6_parts_36 (bxor_iz reach1 (-1)) ?_
      refine v_iand (z := ((andn lN (reachN s a (lowN lN)) : Nat) : Int)) (pc' := 38) rfl dX6_parts_37 (by rw [hleft, hreach1]; exact andn_bits _ hl _ (reachN_lt hs ha hlow.1 hlow.2)) ?_
      refine v_nm (fun left' hleft' => ?_)
      refine v_istore (ls' := [(4, _), (0, _), (1, _), (2, _), (3, _), (5, _)]) (pc' := 40) rfl dX6_parts_38 rfl rfl ?_
      refine v_iinc (ls' := [(3, _), (4, _), (0, _), (1, _), (2, _), (5, _)]) 4 (pc' := 43) rfl dX6_parts_40 rfl rfl rfl ?_
      refine v_nl (fun many' hmany' => ?_)
      refine v_iinc (ls' := [(5, _), (3, _), (4, _), (0, _), (1, _), (2, _)]) 5 (pc' := 46) rfl dX6_parts_43 rfl rfl rfl ?_
      refine v_nl (fun i' hi' => ?_)
      refine v_goto (tgt := 11) dX6_parts_46 (by decide) ?_
      refine v_ls [3, 4, 5, 1, 2, 0] rfl ?_
      exact ih0 (many') (left') (i') (⟨k, andn lN (reachN s a (lowN lN)), mN + 1, by omega, hleft', by omega, andn_lt7 hl, by rw [← hR]; simp only [partsL]; rw [if_neg (by omega)]⟩) (by omega)
set_option maxHeartbeats 4000000 in
set_option maxRecDepth 100000 in
theorem c_genus (l : Launch) (G : Gx) {p q s0 : Int} {s a : Nat → Nat} {set : Nat} (hp : p = (hx s : Nat)) (hq : q = (hx a : Nat)) (hs : Pm 7 s) (ha : Pm 7 a) (hs0 : s0 = set) (hset : set < 128) (w : Wd) : SpP l G 3 mX6_genus [aI (p), aI (q), aI (s0)] w (genusI s a set) := by
  have hs7 := hs.b7 (by decide)
  have ha7 := ha.b7 (by decide)
  have hf7 := (hs.face (by decide) ha).b7 (by decide)
  have r1 := ringsN_le s set
  have r2 := ringsN_le a set
  have r3 := ringsN_le (pface s a) set
  have r4 := popc_le set hset
  refine Sp_of RX6 rfl (by decide +kernel) rfl (Nat.le_of_ble_eq_true rfl) ?_
  refine v_iload_n 0 (pc' := 1) rfl dX6_genus_0 rfl rfl ?_
  refine v_iload_n 2 (pc' := 2) rfl dX6_genus_1 rfl rfl ?_
  refine v_cSP (pc' := 5) rfl dX6_genus_2 lk_RX6_66 rfl (c_rings l G hp hs7 hs0 hset w) rfl rfl rfl ?_
  refine v_nm (fun rings1 hrings1 => ?_)
  refine v_iload_n 1 (pc' := 6) rfl dX6_genus_5 rfl rfl ?_
  refine v_iload_n 2 (pc' := 7) rfl dX6_genus_6 rfl rfl ?_
  refine v_cSP (pc' := 10) rfl dX6_genus_7 lk_RX6_66 rfl (c_rings l G hq ha7 hs0 hset w) rfl rfl rfl ?_
  refine v_nm (fun rings2 hrings2 => ?_)
  refine v_iadd (pc' := 11) rfl dX6_genus_10 ?_
  refine v_iload_n 0 (pc' := 12) rfl dX6_genus_11 rfl rfl ?_
  refine v_iload_n 1 (pc' := 13) rfl dX6_genus_12 rfl rfl ?_
  refine v_cSP (pc' := 16) rfl dX6_genus_13 lk_RX6_60 rfl (c_faces l G hp hq hs ha w) rfl rfl rfl ?_
  refine v_nm (fun faces1 hfaces1 => ?_)
  refine v_iload_n 2 (pc' := 17) rfl dX6_genus_16 rfl rfl ?_
  refine v_cSP (pc' := 20) rfl dX6_genus_17 lk_RX6_66 rfl (c_rings l G hfaces1 hf7 hs0 hset w) rfl rfl rfl ?_
  refine v_nm (fun rings3 hrings3 => ?_)
  refine v_iadd (pc' := 21) rfl dX6_genus_20 ?_
  refine v_nm (fun rings' hrings' => ?_)
  refine v_istore_n (ls' := [(3, _), (0, _), (1, _), (2, _)]) (pc' := 22) rfl dX6_genus_21 rfl rfl rfl ?_
  refine v_iload_n 3 (pc' := 23) rfl dX6_genus_22 rfl rfl ?_
  refine v_cSP (pc' := 26) rfl dX6_genus_23 lk_RX6_9 rfl (c_bitCount l G hs0 (by omega) w) rfl rfl rfl ?_
  refine v_nm (fun bitCount1 hbitCount1 => ?_)
  refine v_iconst (pc' := 27) rfl dX6_genus_26 ?_
  refine v_iadd (pc' := 28) rfl dX6_genus_27 ?_
  refine v_iload_n 0 (pc' := 29) rfl dX6_genus_28 rfl rfl ?_
  refine v_isub (pc' := 30) rfl dX6_genus_29 ?_
  refine v_iconst (pc' := 31) rfl dX6_genus_30 ?_
  refine v_idiv (z := genusI s a set) (pc' := 32) rfl dX6_genus_31 (by decide) (by rw [iz_div (by omega) (by omega) (by decide) (by omega)]; unfold genusI; rw [hrings', hbitCount1, hrings1, hrings2, hrings3]) ?_
  refine v_iret dX6_genus_32 (by decide) (rfl) ?_
  exact ⟨rfl, rfl⟩
set_option maxHeartbeats 4000000 in
set_option maxRecDepth 100000 in
theorem c_around (l : Launch) (G : Gx) {p q s0 : Int} {s a : Nat → Nat} {set : Nat} (hp : p = (hx s : Nat)) (hq : q = (hx a : Nat)) (hs : P7 s) (ha : P7 a) (hs0 : s0 = set) (hset : set < 128) (w : Wd) : SpP l G 1 mX6_around [aI (p), aI (q), aI (s0)] w (((aroundN s a set : Nat) : Int)) := by
  refine Sp_of RX6 rfl (by decide +kernel) rfl (Nat.le_of_ble_eq_true rfl) ?_
  refine v_iload_n 2 (pc' := 1) rfl dX6_around_0 rfl rfl ?_
  refine v_istore_n (ls' := [(3, _), (0, _), (1, _), (2, _)]) (pc' := 2) rfl dX6_around_1 rfl rfl rfl ?_
  refine v_iconst (pc' := 3) rfl dX6_around_2 ?_
  refine v_istore (ls' := [(4, _), (3, _), (0, _), (1, _), (2, _)]) (pc' := 5) rfl dX6_around_3 rfl rfl ?_
  refine v_ls [2, 3, 4, 1, 0] rfl ?_
  refine v_loop2 5 (fun (wider : Int) (x : Int) => ∃ k : Nat, x = k + 1 ∧ k ≤ 7 ∧ wider = (aroundL s a set k : Nat)) (fun (wider : Int) (x : Int) => (8 - x).toNat) (fun (wider : Int) (x : Int) => [(0, aI (p)), (1, aI (q)), (2, aI (s0)), (3, aI (wider)), (4, aI (x))]) (fun (wider : Int) (x : Int) => []) (fun (wider : Int) (x : Int) => w) (fun wider x hI0 ih0 => ?_) (s0) (1) (⟨0, rfl, by omega, hs0⟩)
  obtain ⟨k, hk, hk7, hw⟩ := hI0
  refine v_iload 4 (pc' := 7) rfl dX6_around_5 rfl ?_
  refine v_bipush (pc' := 9) rfl dX6_around_7 rfl ?_
  refine v_icmp_gt (pc' := 12) (tgt := 90) rfl dX6_around_9 (by decide) (by omega) (by omega) (fun c0 => ?_) (fun c0 => ?_)
  ·
    refine v_iload_n 3 (pc' := 91) rfl dX6_around_90 rfl rfl ?_
    refine v_iret dX6_around_91 (by decide) (rfl) ?_
    have e7 : k = 7 := by omega
    subst e7
    exact ⟨hw, rfl⟩
  ·
    have hsk := hs (k + 1) (by omega) (by omega)
    have hak := ha (k + 1) (by omega) (by omega)
    refine v_iload_n 0 (pc' := 13) rfl dX6_around_12 rfl rfl ?_
    refine v_iload 4 (pc' := 15) rfl dX6_around_13 rfl ?_
    refine v_cSP (pc' := 18) rfl dX6_around_15 lk_RX6_21 rfl (c_at l G hp hs.B (x := k + 1) (by omega) (by omega) (by omega) w) rfl rfl rfl ?_
    refine v_nm (fun at1 hat1 => ?_)
    refine v_cSP (pc' := 21) rfl dX6_around_18 lk_RX6_34 rfl (c_bit l G hat1 hsk.1 (by omega) w) rfl rfl rfl ?_
    refine v_nm (fun bit1 hbit1 => ?_)
    refine v_iload_n 1 (pc' := 22) rfl dX6_around_21 rfl rfl ?_
    refine v_iload 4 (pc' := 24) rfl dX6_around_22 rfl ?_
    refine v_cSP (pc' := 27) rfl dX6_around_24 lk_RX6_21 rfl (c_at l G hq ha.B (x := k + 1) (by omega) (by omega) (by omega) w) rfl rfl rfl ?_
    refine v_nm (fun at2 hat2 => ?_)
    refine v_cSP (pc' := 30) rfl dX6_around_27 lk_RX6_34 rfl (c_bit l G hat2 hak.1 (by omega) w) rfl rfl rfl ?_
    refine v_nm (fun bit2 hbit2 => ?_)
    refine v_ior (z := ((bt (s (k + 1)) ||| bt (a (k + 1)) : Nat) : Int)) (pc' := 31) rfl dX6_around_30 (iz_orE hbit1 hbit2) ?_
    refine v_nm (fun near' hnear' => ?_)
    refine v_istore (ls' := [(5, _), (0, _), (1, _), (2, _), (3, _), (4, _)]) (pc' := 33) rfl dX6_around_31 rfl rfl ?_
    refine v_iload_n 3 (pc' := 34) rfl dX6_around_33 rfl rfl ?_
    refine v_iload 5 (pc' := 36) rfl dX6_around_34 rfl ?_
    refine v_cSP (pc' := 39) rfl dX6_around_36 lk_RX6_34 rfl (c_bit l G (x := k + 1) (by omega) (by omega) (by omega) w) rfl rfl rfl ?_
    refine v_nm (fun bit3 hbit3 => ?_)
    refine v_iand (z := ((set &&& bt (k + 1) : Nat) : Int)) (pc' := 40) rfl dX6_around_39 (iz_andE hs0 hbit3) ?_
    refine v_if_eq (pc' := 43) (tgt := 48) rfl dX6_around_40 (by decide) (by have := and_lt7 (b := bt (k + 1)) hset; omega) (fun c1 => ?_) (fun c1 => ?_)
    ·
      have hA : set &&& bt (k + 1) = 0 := by omega
      refine v_iload_n 3 (pc' := 49) rfl dX6_around_48 rfl rfl ?_
      refine v_iload_n 1 (pc' := 50) rfl dX6_around_49 rfl rfl ?_
      refine v_iload 5 (pc' := 52) rfl dX6_around_50 rfl ?_
      refine v_cSP (pc' := 55) rfl dX6_around_52 lk_RX6_21 rfl (c_at l G hp hs.B (x := k + 1) (by omega) (by omega) (by omega) w) rfl rfl rfl ?_
      refine v_nm (fun at3 hat3 => ?_)
      refine v_cSP (pc' := 58) rfl dX6_around_55 lk_RX6_34 rfl (c_bit l G hat3 hsk.1 (by omega) w) rfl rfl rfl ?_
      refine v_nm (fun bit4 hbit4 => ?_)
      refine v_iand (z := ((set &&& bt (s (k + 1)) : Nat) : Int)) (pc' := 59) rfl dX6_around_58 (iz_andE hs0 hbit4) ?_
      refine v_if_ne (pc' := 62) (tgt := 76) rfl dX6_around_59 (by decide) (by have := and_lt7 (b := bt (s (k + 1))) hset; omega) (fun c2 => ?_) (fun c2 => ?_)
      ·
        have hB : ¬ (set &&& bt (s (k + 1)) = 0) := by omega
        have hC := hB
        refine v_iload_n 4 (pc' := 77) rfl dX6_around_76 rfl rfl ?_
        refine v_iload 5 (pc' := 79) rfl dX6_around_77 rfl ?_
        refine v_cSP (pc' := 82) rfl dX6_around_79 lk_RX6_34 rfl (c_bit l G (x := k + 1) (by omega) (by omega) (by omega) w) rfl rfl rfl ?_
        refine v_nm (fun bit6 hbit6 => ?_)
        refine v_ior (z := ((aroundL s a set k ||| bt (k + 1) : Nat) : Int)) (pc' := 83) rfl dX6_around_82 (iz_orE hw hbit6) ?_
        refine v_nm (fun wider' hwider' => ?_)
        refine v_istore_n (ls' := [(3, _), (5, _), (0, _), (1, _), (2, _), (4, _)]) (pc' := 84) rfl dX6_around_83 rfl rfl rfl ?_
        refine v_iinc (ls' := [(4, _), (3, _), (5, _), (0, _), (1, _), (2, _)]) 5 (pc' := 87) rfl dX6_around_84 rfl rfl rfl ?_
        refine v_nl (fun x' hx' => ?_)
        refine v_goto (tgt := 5) dX6_around_87 (by decide) ?_
        refine v_ls [3, 4, 5, 1, 0] rfl ?_
        exact ih0 (wider') (x') (⟨k + 1, by omega, by omega, by rw [hwider']; simp only [aroundL]; simp [hA, hB, hC]⟩) (by omega)
      ·
        have hB : set &&& bt (s (k + 1)) = 0 := by omega
        refine v_iload_n 3 (pc' := 63) rfl dX6_around_62 rfl rfl ?_
        refine v_iload_n 2 (pc' := 64) rfl dX6_around_63 rfl rfl ?_
        refine v_iload 5 (pc' := 66) rfl dX6_around_64 rfl ?_
        refine v_cSP (pc' := 69) rfl dX6_around_66 lk_RX6_21 rfl (c_at l G hq ha.B (x := k + 1) (by omega) (by omega) (by omega) w) rfl rfl rfl ?_
        refine v_nm (fun at4 hat4 => ?_)
        refine v_cSP (pc' := 72) rfl dX6_around_69 lk_RX6_34 rfl (c_bit l G hat4 hak.1 (by omega) w) rfl rfl rfl ?_
        refine v_nm (fun bit5 hbit5 => ?_)
        refine v_iand (z := ((set &&& bt (a (k + 1)) : Nat) : Int)) (pc' := 73) rfl dX6_around_72 (iz_andE hs0 hbit5) ?_
        refine v_if_eq (pc' := 76) (tgt := 84) rfl dX6_around_73 (by decide) (by have := and_lt7 (b := bt (a (k + 1))) hset; omega) (fun c3 => ?_) (fun c3 => ?_)
        ·
          have hC : set &&& bt (a (k + 1)) = 0 := by omega
          refine v_iinc (ls' := [(4, _), (5, _), (0, _), (1, _), (2, _), (3, _)]) 5 (pc' := 87) rfl dX6_around_84 rfl rfl rfl ?_
          refine v_nl (fun x' hx' => ?_)
          refine v_goto (tgt := 5) dX6_around_87 (by decide) ?_
          refine v_ls [2, 3, 4, 5, 0] rfl ?_
          exact ih0 (wider) (x') (⟨k + 1, by omega, by omega, by rw [hw]; simp only [aroundL]; simp [hA, hB, hC]⟩) (by omega)
        ·
          have hC : ¬ (set &&& bt (a (k + 1)) = 0) := by omega
          refine v_iload_n 4 (pc' := 77) rfl dX6_around_76 rfl rfl ?_
          refine v_iload 5 (pc' := 79) rfl dX6_around_77 rfl ?_
          refine v_cSP (pc' := 82) rfl dX6_around_79 lk_RX6_34 rfl (c_bit l G (x := k + 1) (by omega) (by omega) (by omega) w) rfl rfl rfl ?_
          refine v_nm (fun bit6 hbit6 => ?_)
          refine v_ior (z := ((aroundL s a set k ||| bt (k + 1) : Nat) : Int)) (pc' := 83) rfl dX6_around_82 (iz_orE hw hbit6) ?_
          refine v_nm (fun wider' hwider' => ?_)
          refine v_istore_n (ls' := [(3, _), (5, _), (0, _), (1, _), (2, _), (4, _)]) (pc' := 84) rfl dX6_around_83 rfl rfl rfl ?_
          refine v_iinc (ls' := [(4, _), (3, _), (5, _), (0, _), (1, _), (2, _)]) 5 (pc' := 87) rfl dX6_around_84 rfl rfl rfl ?_
          refine v_nl (fun x' hx' => ?_)
          refine v_goto (tgt := 5) dX6_around_87 (by decide) ?_
          refine v_ls [3, 4, 5, 1, 0] rfl ?_
          exact ih0 (wider') (x') (⟨k + 1, by omega, by omega, by rw [hwider']; simp only [aroundL]; simp [hA, hB, hC]⟩) (by omega)
    ·
      have hA : ¬ (set &&& bt (k + 1) = 0) := by omega
      refine v_iload_n 4 (pc' := 44) rfl dX6_around_43 rfl rfl ?_
      refine v_iload 0 (pc' := 46) rfl dX6_around_44 rfl ?_
      refine v_ior (z := ((aroundL s a set k ||| (bt (s (k + 1)) ||| bt (a (k + 1))) : Nat) : Int)) (pc' := 47) rfl dX6_around_46 (iz_orE hw hnear') ?_
      refine v_nm (fun wider' hwider' => ?_)
      refine v_istore_n (ls' := [(3, _), (5, _), (0, _), (1, _), (2, _), (4, _)]) (pc' := 48) rfl dX6_around_47 rfl rfl rfl ?_
      refine v_iload_n 4 (pc' := 49) rfl dX6_around_48 rfl rfl ?_
      refine v_iload_n 2 (pc' := 50) rfl dX6_around_49 rfl rfl ?_
      refine v_iload 5 (pc' := 52) rfl dX6_around_50 rfl ?_
      refine v_cSP (pc' := 55) rfl dX6_around_52 lk_RX6_21 rfl (c_at l G hp hs.B (x := k + 1) (by omega) (by omega) (by omega) w) rfl rfl rfl ?_
      refine v_nm (fun at3 hat3 => ?_)
      refine v_cSP (pc' := 58) rfl dX6_around_55 lk_RX6_34 rfl (c_bit l G hat3 hsk.1 (by omega) w) rfl rfl rfl ?_
      refine v_nm (fun bit4 hbit4 => ?_)
      refine v_iand (z := ((set &&& bt (s (k + 1)) : Nat) : Int)) (pc' := 59) rfl dX6_around_58 (iz_andE hs0 hbit4) ?_
      refine v_if_ne (pc' := 62) (tgt := 76) rfl dX6_around_59 (by decide) (by have := and_lt7 (b := bt (s (k + 1))) hset; omega) (fun c2 => ?_) (fun c2 => ?_)
      ·
        have hB : ¬ (set &&& bt (s (k + 1)) = 0) := by omega
        have hC := hB
        refine v_iload_n 0 (pc' := 77) rfl dX6_around_76 rfl rfl ?_
        refine v_iload 5 (pc' := 79) rfl dX6_around_77 rfl ?_
        refine v_cSP (pc' := 82) rfl dX6_around_79 lk_RX6_34 rfl (c_bit l G (x := k + 1) (by omega) (by omega) (by omega) w) rfl rfl rfl ?_
        refine v_nm (fun bit6 hbit6 => ?_)
        refine v_ior (z := (((aroundL s a set k ||| (bt (s (k + 1)) ||| bt (a (k + 1)))) ||| bt (k + 1) : Nat) : Int)) (pc' := 83) rfl dX6_around_82 (iz_orE hwider' hbit6) ?_
        refine v_nm (fun wider'' hwider'' => ?_)
        refine v_istore_n (ls' := [(3, _), (5, _), (0, _), (1, _), (2, _), (4, _)]) (pc' := 84) rfl dX6_around_83 rfl rfl rfl ?_
        refine v_iinc (ls' := [(4, _), (3, _), (5, _), (0, _), (1, _), (2, _)]) 5 (pc' := 87) rfl dX6_around_84 rfl rfl rfl ?_
        refine v_nl (fun x' hx' => ?_)
        refine v_goto (tgt := 5) dX6_around_87 (by decide) ?_
        refine v_ls [3, 4, 5, 1, 0] rfl ?_
        exact ih0 (wider'') (x') (⟨k + 1, by omega, by omega, by rw [hwider'']; simp only [aroundL]; simp [hA, hB, hC]⟩) (by omega)
      ·
        have hB : set &&& bt (s (k + 1)) = 0 := by omega
        refine v_iload_n 4 (pc' := 63) rfl dX6_around_62 rfl rfl ?_
        refine v_iload_n 3 (pc' := 64) rfl dX6_around_63 rfl rfl ?_
        refine v_iload 5 (pc' := 66) rfl dX6_around_64 rfl ?_
        refine v_cSP (pc' := 69) rfl dX6_around_66 lk_RX6_21 rfl (c_at l G hq ha.B (x := k + 1) (by omega) (by omega) (by omega) w) rfl rfl rfl ?_
        refine v_nm (fun at4 hat4 => ?_)
        refine v_cSP (pc' := 72) rfl dX6_around_69 lk_RX6_34 rfl (c_bit l G hat4 hak.1 (by omega) w) rfl rfl rfl ?_
        refine v_nm (fun bit5 hbit5 => ?_)
        refine v_iand (z := ((set &&& bt (a (k + 1)) : Nat) : Int)) (pc' := 73) rfl dX6_around_72 (iz_andE hs0 hbit5) ?_
        refine v_if_eq (pc' := 76) (tgt := 84) rfl dX6_around_73 (by decide) (by have := and_lt7 (b := bt (a (k + 1))) hset; omega) (fun c3 => ?_) (fun c3 => ?_)
        ·
          have hC : set &&& bt (a (k + 1)) = 0 := by omega
          refine v_iinc (ls' := [(4, _), (3, _), (5, _), (0, _), (1, _), (2, _)]) 5 (pc' := 87) rfl dX6_around_84 rfl rfl rfl ?_
          refine v_nl (fun x' hx' => ?_)
          refine v_goto (tgt := 5) dX6_around_87 (by decide) ?_
          refine v_ls [3, 4, 5, 1, 0] rfl ?_
          exact ih0 (wider') (x') (⟨k + 1, by omega, by omega, by rw [hwider']; simp only [aroundL]; simp [hA, hB, hC]⟩) (by omega)
        ·
          have hC : ¬ (set &&& bt (a (k + 1)) = 0) := by omega
          refine v_iload_n 0 (pc' := 77) rfl dX6_around_76 rfl rfl ?_
          refine v_iload 5 (pc' := 79) rfl dX6_around_77 rfl ?_
          refine v_cSP (pc' := 82) rfl dX6_around_79 lk_RX6_34 rfl (c_bit l G (x := k + 1) (by omega) (by omega) (by omega) w) rfl rfl rfl ?_
          refine v_nm (fun bit6 hbit6 => ?_)
          refine v_ior (z := (((aroundL s a set k ||| (bt (s (k + 1)) ||| bt (a (k + 1)))) ||| bt (k + 1) : Nat) : Int)) (pc' := 83) rfl dX6_around_82 (iz_orE hwider' hbit6) ?_
          refine v_nm (fun wider'' hwider'' => ?_)
          refine v_istore_n (ls' := [(3, _), (5, _), (0, _), (1, _), (2, _), (4, _)]) (pc' := 84) rfl dX6_around_83 rfl rfl rfl ?_
          refine v_iinc (ls' := [(4, _), (3, _), (5, _), (0, _), (1, _), (2, _)]) 5 (pc' := 87) rfl dX6_around_84 rfl rfl rfl ?_
          refine v_nl (fun x' hx' => ?_)
          refine v_goto (tgt := 5) dX6_around_87 (by decide) ?_
          refine v_ls [3, 4, 5, 1, 0] rfl ?_
          exact ih0 (wider'') (x') (⟨k + 1, by omega, by omega, by rw [hwider'']; simp only [aroundL]; simp [hA, hB, hC]⟩) (by omega)
def rankL (f : Nat → Nat) (n : Nat) : Nat → Nat → Nat → Nat
  | 0, place, _ => place
  | k + 1, place, free => rankL f n k (place * (k + 1) + popc (free &&& (bt (f (n - k)) - 1))) (andn free (bt (f (n - k))))
def rankN (f : Nat → Nat) (n : Nat) : Nat := rankL f n n 0 (full n)
set_option maxHeartbeats 4000000 in
set_option maxRecDepth 100000 in
theorem c_rank (l : Launch) (G : Gx) {p n0 : Int} {f : Nat → Nat} {n : Nat} (hp : p = (hx f : Nat)) (hf : P7 f) (hn : n0 = n) (hn7 : n ≤ 7) (w : Wd) : SpP l G 1 mX6_rank [aI (p), aI (n0)] w (((rankN f n : Nat) : Int)) := by
  refine Sp_of RX6 rfl (by decide +kernel) rfl (Nat.le_of_ble_eq_true rfl) ?_
  refine v_iconst (pc' := 1) rfl dX6_rank_0 ?_
  refine v_istore_n (ls' := [(2, _), (0, _), (1, _)]) (pc' := 2) rfl dX6_rank_1 rfl rfl rfl ?_
  refine v_iload_n 2 (pc' := 3) rfl dX6_rank_2 rfl rfl ?_
  refine v_cSP (pc' := 6) rfl dX6_rank_3 lk_RX6_37 rfl (c_darts l G hn hn7 w) rfl rfl rfl ?_
  refine v_nm (fun darts1 hdarts1 => ?_)
  refine v_istore_n (ls' := [(3, _), (2, _), (0, _), (1, _)]) (pc' := 7) rfl dX6_rank_6 rfl rfl rfl ?_
  refine v_iconst (pc' := 8) rfl dX6_rank_7 ?_
  refine v_istore (ls' := [(4, _), (3, _), (2, _), (0, _), (1, _)]) (pc' := 10) rfl dX6_rank_8 rfl rfl ?_
  refine v_ls [3, 4, 2, 1, 0] rfl ?_
  refine v_loop3 10 (fun (place : Int) (free : Int) (x : Int) => ∃ k lN pN : Nat, (x + k = n + 1 ∧ 1 ≤ x) ∧ free = lN ∧ place = pN ∧ lN < 128 ∧ rankL f n k pN lN = rankN f n) (fun (place : Int) (free : Int) (x : Int) => (8 - x).toNat) (fun (place : Int) (free : Int) (x : Int) => [(0, aI (p)), (1, aI (n0)), (2, aI (place)), (3, aI (free)), (4, aI (x))]) (fun (place : Int) (free : Int) (x : Int) => []) (fun (place : Int) (free : Int) (x : Int) => w) (fun place free x hI0 ih0 => ?_) (0) (darts1) (1) (⟨n, full n, 0, by omega, hdarts1, rfl, full_lt hn7, rfl⟩)
  obtain ⟨k, lN, pN, hik, hfree, hplace, hl, hR⟩ := hI0
  refine v_iload 4 (pc' := 12) rfl dX6_rank_10 rfl ?_
  refine v_iload_n 1 (pc' := 13) rfl dX6_rank_12 rfl rfl ?_
  refine v_icmp_gt (pc' := 16) (tgt := 59) rfl dX6_rank_13 (by decide) (by omega) (by omega) (fun c0 => ?_) (fun c0 => ?_)
  ·
    have hret : rankN f n = pN := by rw [← hR, show k = 0 by omega]; rfl
    refine v_iload_n 2 (pc' := 60) rfl dX6_rank_59 rfl rfl ?_
    refine v_iret dX6_rank_60 (by decide) (rfl) ?_
    exact ⟨by rw [hplace, hret], rfl⟩
  ·
    obtain ⟨k, rfl⟩ : ∃ j, k = j + 1 := ⟨k - 1, by omega⟩
    have hfk := hf (n - k) (by omega) (by omega)
    have hbk := bt_le hfk.1 hfk.2
    refine v_iload_n 0 (pc' := 17) rfl dX6_rank_16 rfl rfl ?_
    refine v_iload 4 (pc' := 19) rfl dX6_rank_17 rfl ?_
    refine v_cSP (pc' := 22) rfl dX6_rank_19 lk_RX6_21 rfl (c_at l G hp hf.B (x := n - k) (by omega) (by omega) (by omega) w) rfl rfl rfl ?_
    refine v_nm (fun at1 hat1 => ?_)
    refine v_cSP (pc' := 25) rfl dX6_rank_22 lk_RX6_34 rfl (c_bit l G hat1 hfk.1 (by omega) w) rfl rfl rfl ?_
    refine v_nm (fun bit1 hbit1 => ?_)
    refine v_istore (ls' := [(5, _), (0, _), (1, _), (2, _), (3, _), (4, _)]) (pc' := 27) rfl dX6_rank_25 rfl rfl ?_
    refine v_iload_n 3 (pc' := 28) rfl dX6_rank_27 rfl rfl ?_
    refine v_iload_n 2 (pc' := 29) rfl dX6_rank_28 rfl rfl ?_
    refine v_iload 5 (pc' := 31) rfl dX6_rank_29 rfl ?_
    refine v_isub (pc' := 32) rfl dX6_rank_31 ?_
    refine v_iconst (pc' := 33) rfl dX6_rank_32 ?_
    refine v_iadd (pc' := 34) rfl dX6_rank_33 ?_
    refine v_imul (pc' := 35) rfl dX6_rank_34 ?_
    refine v_iload_n 4 (pc' := 36) rfl dX6_rank_35 rfl rfl ?_
    refine v_iload 0 (pc' := 38) rfl dX6_rank_36 rfl ?_
    refine v_iconst (pc' := 39) rfl dX6_rank_38 ?_
    refine v_isub (pc' := 40) rfl dX6_rank_39 ?_
    refine v_iand (z := ((lN &&& (bt (f (n - k)) - 1) : Nat) : Int)) (pc' := 41) rfl dX6_rank_40 (iz_andE hfree (by omega)) ?_
    refine v_cSP (pc' := 44) rfl dX6_rank_41 lk_RX6_9 rfl (c_bitCount l G (n := lN &&& (bt (f (n - k)) - 1)) rfl (by have := and_lt7 (b := bt (f (n - k)) - 1) hl; omega) w) rfl rfl rfl ?_
    refine v_nm (fun bitCount1 hbitCount1 => ?_)
    refine v_iadd (pc' := 45) rfl dX6_rank_44 ?_
    refine v_nm (fun place' hplace' => ?_)
    refine v_istore_n (ls' := [(2, _), (5, _), (0, _), (1, _), (3, _), (4, _)]) (pc' := 46) rfl dX6_rank_45 rfl rfl rfl ?_
    refine v_iload_n 4 (pc' := 47) rfl dX6_rank_46 rfl rfl ?_
    refine v_iload 1 (pc' := 49) rfl dX6_rank_47 rfl ?_
    refine v_iconst (pc' := 50) rfl dX6_rank_49 ?_
    refine v_ixor (pc' := 51) rfl dX6_rank_50 (bxor_iz bit1 (-1)) ?_
    refine v_iand (z := ((andn lN (bt (f (n - k))) : Nat) : Int)) (pc' := 52) rfl dX6_rank_51 (by rw [hfree, hbit1]; exact andn_bits _ hl _ (bt_lt hfk.1 hfk.2)) ?_
    refine v_nm (fun free' hfree' => ?_)
    refine v_istore_n (ls' := [(3, _), (2, _), (5, _), (0, _), (1, _), (4, _)]) (pc' := 53) rfl dX6_rank_52 rfl rfl rfl ?_
    refine v_iinc (ls' := [(4, _), (3, _), (2, _), (5, _), (0, _), (1, _)]) 5 (pc' := 56) rfl dX6_rank_53 rfl rfl rfl ?_
    refine v_nl (fun x' hx' => ?_)
    refine v_goto (tgt := 10) dX6_rank_56 (by decide) ?_
    refine v_ls [4, 5, 2, 1, 0] rfl ?_
    exact ih0 (place') (free') (x') (⟨k, andn lN (bt (f (n - k))), pN * (k + 1) + popc (lN &&& (bt (f (n - k)) - 1)), by omega, hfree', by rw [hplace', hplace, hbitCount1, show n0 - x + 1 = ((k + 1 : Nat) : Int) by omega]; rfl, andn_lt7 hl, by rw [← hR]; simp only [rankL]⟩) (by omega)
def nxA (f : Nat → Nat) : Nat → Nat
  | 0 => 0
  | k + 1 => if f (k + 2) < f (k + 1) then nxA f k else k + 1
def nxB (f : Nat → Nat) (x : Nat) : Nat → Nat
  | 0 => 0
  | k + 1 => if x < k + 1 ∧ f (k + 1) < f x then nxB f x k else k + 1
def nxC : Nat → (Nat → Nat) → Nat → Nat → (Nat → Nat)
  | 0, q, _, _ => q
  | k + 1, q, low, high => if low < high then nxC k (gsw q low high) (low + 1) (high - 1) else q
def nextF (f : Nat → Nat) (n : Nat) : Nat → Nat := if nxA f (n - 1) = 0 then f else nxC 7 (gsw f (nxA f (n - 1)) (nxB f (nxA f (n - 1)) n)) (nxA f (n - 1) + 1) n
theorem gsw_7 {f : Nat → Nat} (hf : P7 f) {x y : Nat} (h1 : 1 ≤ x) (h2 : x ≤ 7) (h3 : 1 ≤ y) (h4 : y ≤ 7) : P7 (gsw f x y) := fun z a b => by
  unfold gsw
  split
  · exact hf y h3 h4
  · split
    · exact hf x h1 h2
    · exact hf z a b
set_option maxHeartbeats 4000000 in
set_option maxRecDepth 100000 in
theorem c_next (l : Launch) (G : Gx) {p n0 : Int} {f : Nat → Nat} {n : Nat} (hp : p = (hx f : Nat)) (hf : P7 f) (hn : n0 = n) (hn1 : 1 ≤ n) (hn7 : n ≤ 7) (w : Wd) : SpP l G 2 mX6_next [aI (p), aI (n0)] w (((hx (nextF f n) : Nat) : Int)) := by
  refine Sp_of RX6 rfl (by decide +kernel) rfl (Nat.le_of_ble_eq_true rfl) ?_
  refine v_iload_n 1 (pc' := 1) rfl dX6_next_0 rfl rfl ?_
  refine v_iconst (pc' := 2) rfl dX6_next_1 ?_
  refine v_isub (pc' := 3) rfl dX6_next_2 ?_
  refine v_nm (fun x' hx' => ?_)
  refine v_istore_n (ls' := [(2, _), (0, _), (1, _)]) (pc' := 4) rfl dX6_next_3 rfl rfl rfl ?_
  refine v_ls [1, 2, 0] rfl ?_
  refine v_loop1 4 (fun (x : Int) => ∃ k : Nat, x = k ∧ k + 1 ≤ n ∧ nxA f k = nxA f (n - 1)) (fun (x : Int) => x.toNat) (fun (x : Int) => [(0, aI (p)), (1, aI (n0)), (2, aI (x))]) (fun (x : Int) => []) (fun (x : Int) => w) (fun x hI0 ih0 => ?_) (x') (⟨n - 1, by omega, by omega, rfl⟩)
  obtain ⟨k, hxk, hkn, hR⟩ := hI0
  refine v_iload_n 2 (pc' := 5) rfl dX6_next_4 rfl rfl ?_
  refine v_iconst (pc' := 6) rfl dX6_next_5 ?_
  refine v_icmp_lt (pc' := 9) (tgt := 30) rfl dX6_next_6 (by decide) (by omega) (by omega) (fun c0 => ?_) (fun c0 => ?_)
  ·
    have hX : k = nxA f (n - 1) := by rw [← hR, show k = 0 by omega]; rfl
    refine v_iload_n 2 (pc' := 31) rfl dX6_next_30 rfl rfl ?_
    refine v_iconst (pc' := 32) rfl dX6_next_31 ?_
    refine v_icmp_ge (pc' := 35) (tgt := 37) rfl dX6_next_32 (by decide) (by omega) (by omega) (fun c2 => ?_) (fun c2 => ?_)
    ·
      refine v_iload_n 1 (pc' := 38) rfl dX6_next_37 rfl rfl ?_
      refine v_istore_n (ls' := [(3, _), (0, _), (1, _), (2, _)]) (pc' := 39) rfl dX6_next_38 rfl rfl rfl ?_
      refine v_ls [1, 2, 3, 0] rfl ?_
      refine v_loop1 39 (fun (y : Int) => ∃ j : Nat, y = j ∧ k ≤ j ∧ j ≤ n ∧ nxB f k j = nxB f k n) (fun (y : Int) => y.toNat) (fun (y : Int) => [(0, aI (p)), (1, aI (n0)), (2, aI (x)), (3, aI (y))]) (fun (y : Int) => []) (fun (y : Int) => w) (fun y hI1 ih1 => ?_) (n0) (⟨n, hn, by omega, by omega, rfl⟩)
      obtain ⟨j, hy, hkj, hjn, hB⟩ := hI1
      refine v_iload_n 3 (pc' := 40) rfl dX6_next_39 rfl rfl ?_
      refine v_iload_n 2 (pc' := 41) rfl dX6_next_40 rfl rfl ?_
      refine v_icmp_le (pc' := 44) (tgt := 63) rfl dX6_next_41 (by decide) (by omega) (by omega) (fun c3 => ?_) (fun c3 => ?_)
      ·
        have hY : j = nxB f k n := by
          obtain ⟨j, rfl⟩ : ∃ i, j = i + 1 := ⟨j - 1, by omega⟩
          rw [← hB]; simp only [nxB]; rw [if_neg (by omega)]
        refine v_iload_n 0 (pc' := 64) rfl dX6_next_63 rfl rfl ?_
        refine v_iload_n 2 (pc' := 65) rfl dX6_next_64 rfl rfl ?_
        refine v_iload_n 3 (pc' := 66) rfl dX6_next_65 rfl rfl ?_
        refine v_cSP (pc' := 69) rfl dX6_next_66 lk_RX6_40 rfl (c_swapped l G hp hf.B hxk hy (by omega) (by omega) (by omega) (by omega) w) rfl rfl rfl ?_
        refine v_nm (fun swapped1 hswapped1 => ?_)
        refine v_istore (ls' := [(4, _), (0, _), (1, _), (2, _), (3, _)]) (pc' := 71) rfl dX6_next_69 rfl rfl ?_
        refine v_iload_n 2 (pc' := 72) rfl dX6_next_71 rfl rfl ?_
        refine v_istore (ls' := [(5, _), (4, _), (0, _), (1, _), (2, _), (3, _)]) (pc' := 74) rfl dX6_next_72 rfl rfl ?_
        refine v_iload_n 4 (pc' := 75) rfl dX6_next_74 rfl rfl ?_
        refine v_iconst (pc' := 76) rfl dX6_next_75 ?_
        refine v_iadd (pc' := 77) rfl dX6_next_76 ?_
        refine v_nm (fun low' hlow' => ?_)
        refine v_istore (ls' := [(6, _), (5, _), (4, _), (0, _), (1, _), (2, _), (3, _)]) (pc' := 79) rfl dX6_next_77 rfl rfl ?_
        refine v_ls [3, 4, 5, 6, 2, 1, 0] rfl ?_
        refine v_loop3 79 (fun (q : Int) (high : Int) (low : Int) => ∃ (m lowN hiN : Nat) (g : Nat → Nat), q = (hx g : Nat) ∧ P7 g ∧ low = lowN ∧ high = hiN ∧ 1 ≤ lowN ∧ lowN ≤ n ∧ hiN ≤ n ∧ hiN ≤ lowN + m ∧ nxC m g lowN hiN = nextF f n) (fun (q : Int) (high : Int) (low : Int) => (high - low).toNat) (fun (q : Int) (high : Int) (low : Int) => [(0, aI (p)), (1, aI (n0)), (2, aI (x)), (3, aI (y)), (4, aI (q)), (5, aI (high)), (6, aI (low))]) (fun (q : Int) (high : Int) (low : Int) => []) (fun (q : Int) (high : Int) (low : Int) => w) (fun q high low hI2 ih2 => ?_) (swapped1) (n0) (low') (⟨7, k + 1, n, gsw f k j, hswapped1, gsw_7 hf (by omega) (by omega) (by omega) (by omega), by omega, hn, by omega, by omega, by omega, by omega, by unfold nextF; rw [← hX, ← hY, if_neg (by omega)]⟩)
        obtain ⟨m, lowN, hiN, g, hq, hg, hlow, hhigh, hl1, hln, hhn, hm, hC⟩ := hI2
        refine v_iload 6 (pc' := 81) rfl dX6_next_79 rfl ?_
        refine v_iload 5 (pc' := 83) rfl dX6_next_81 rfl ?_
        refine v_icmp_ge (pc' := 86) (tgt := 106) rfl dX6_next_83 (by decide) (by omega) (by omega) (fun c5 => ?_) (fun c5 => ?_)
        ·
          have hret : nextF f n = g := by
            rw [← hC]
            cases m with
            | zero => rfl
            | succ m => simp only [nxC]; rw [if_neg (by omega)]
          refine v_iload 4 (pc' := 108) rfl dX6_next_106 rfl ?_
          refine v_iret dX6_next_108 (by decide) (rfl) ?_
          exact ⟨by rw [hq, hret], rfl⟩
        ·
          obtain ⟨m, rfl⟩ : ∃ j, m = j + 1 := ⟨m - 1, by omega⟩
          refine v_iload 4 (pc' := 88) rfl dX6_next_86 rfl ?_
          refine v_iload 6 (pc' := 90) rfl dX6_next_88 rfl ?_
          refine v_iload 5 (pc' := 92) rfl dX6_next_90 rfl ?_
          refine v_cSP (pc' := 95) rfl dX6_next_92 lk_RX6_40 rfl (c_swapped l G hq hg.B hlow hhigh (by omega) (by omega) (by omega) (by omega) w) rfl rfl rfl ?_
          refine v_nm (fun swapped2 hswapped2 => ?_)
          refine v_istore (ls' := [(4, _), (0, _), (1, _), (2, _), (3, _), (5, _), (6, _)]) (pc' := 97) rfl dX6_next_95 rfl rfl ?_
          refine v_iinc (ls' := [(5, _), (4, _), (0, _), (1, _), (2, _), (3, _), (6, _)]) 5 (pc' := 100) rfl dX6_next_97 rfl rfl rfl ?_
          refine v_nl (fun high' hhigh' => ?_)
          refine v_iinc (ls' := [(6, _), (5, _), (4, _), (0, _), (1, _), (2, _), (3, _)]) 6 (pc' := 103) rfl dX6_next_100 rfl rfl rfl ?_
          refine v_nl (fun low' hlow' => ?_)
          refine v_goto (tgt := 79) dX6_next_103 (by decide) ?_
          refine v_ls [3, 4, 5, 6, 2, 1, 0] rfl ?_
          exact ih2 (swapped2) (high') (low') (⟨m, lowN + 1, hiN - 1, gsw g lowN hiN, hswapped2, gsw_7 hg (by omega) (by omega) (by omega) (by omega), by omega, by omega, by omega, by omega, by omega, by omega, by rw [← hC]; simp only [nxC]; rw [if_pos (by omega)]⟩) (by omega)
      ·
        have hbj := hf j (by omega) (by omega)
        refine v_iload_n 0 (pc' := 45) rfl dX6_next_44 rfl rfl ?_
        refine v_iload_n 3 (pc' := 46) rfl dX6_next_45 rfl rfl ?_
        refine v_cSP (pc' := 49) rfl dX6_next_46 lk_RX6_21 rfl (c_at l G hp hf.B (x := j) (by omega) (by omega) (by omega) w) rfl rfl rfl ?_
        refine v_nm (fun at3 hat3 => ?_)
        refine v_iload_n 0 (pc' := 50) rfl dX6_next_49 rfl rfl ?_
        refine v_iload_n 2 (pc' := 51) rfl dX6_next_50 rfl rfl ?_
        refine v_cSP (pc' := 54) rfl dX6_next_51 lk_RX6_21 rfl (c_at l G hp hf.B (x := k) (by omega) (by omega) (by omega) w) rfl rfl rfl ?_
        refine v_nm (fun at4 hat4 => ?_)
        refine v_icmp_ge (pc' := 57) (tgt := 63) rfl dX6_next_54 (by decide) (by omega) (by omega) (fun c4 => ?_) (fun c4 => ?_)
        ·
          have hY : j = nxB f k n := by
            obtain ⟨j, rfl⟩ : ∃ i, j = i + 1 := ⟨j - 1, by omega⟩
            rw [← hB]; simp only [nxB]; rw [if_neg (by omega)]
          refine v_iload_n 0 (pc' := 64) rfl dX6_next_63 rfl rfl ?_
          refine v_iload_n 2 (pc' := 65) rfl dX6_next_64 rfl rfl ?_
          refine v_iload_n 3 (pc' := 66) rfl dX6_next_65 rfl rfl ?_
          refine v_cSP (pc' := 69) rfl dX6_next_66 lk_RX6_40 rfl (c_swapped l G hp hf.B hxk hy (by omega) (by omega) (by omega) (by omega) w) rfl rfl rfl ?_
          refine v_nm (fun swapped1 hswapped1 => ?_)
          refine v_istore (ls' := [(4, _), (0, _), (1, _), (2, _), (3, _)]) (pc' := 71) rfl dX6_next_69 rfl rfl ?_
          refine v_iload_n 2 (pc' := 72) rfl dX6_next_71 rfl rfl ?_
          refine v_istore (ls' := [(5, _), (4, _), (0, _), (1, _), (2, _), (3, _)]) (pc' := 74) rfl dX6_next_72 rfl rfl ?_
          refine v_iload_n 4 (pc' := 75) rfl dX6_next_74 rfl rfl ?_
          refine v_iconst (pc' := 76) rfl dX6_next_75 ?_
          refine v_iadd (pc' := 77) rfl dX6_next_76 ?_
          refine v_nm (fun low' hlow' => ?_)
          refine v_istore (ls' := [(6, _), (5, _), (4, _), (0, _), (1, _), (2, _), (3, _)]) (pc' := 79) rfl dX6_next_77 rfl rfl ?_
          refine v_ls [3, 4, 5, 6, 2, 1, 0] rfl ?_
          refine v_loop3 79 (fun (q : Int) (high : Int) (low : Int) => ∃ (m lowN hiN : Nat) (g : Nat → Nat), q = (hx g : Nat) ∧ P7 g ∧ low = lowN ∧ high = hiN ∧ 1 ≤ lowN ∧ lowN ≤ n ∧ hiN ≤ n ∧ hiN ≤ lowN + m ∧ nxC m g lowN hiN = nextF f n) (fun (q : Int) (high : Int) (low : Int) => (high - low).toNat) (fun (q : Int) (high : Int) (low : Int) => [(0, aI (p)), (1, aI (n0)), (2, aI (x)), (3, aI (y)), (4, aI (q)), (5, aI (high)), (6, aI (low))]) (fun (q : Int) (high : Int) (low : Int) => []) (fun (q : Int) (high : Int) (low : Int) => w) (fun q high low hI2 ih2 => ?_) (swapped1) (n0) (low') (⟨7, k + 1, n, gsw f k j, hswapped1, gsw_7 hf (by omega) (by omega) (by omega) (by omega), by omega, hn, by omega, by omega, by omega, by omega, by unfold nextF; rw [← hX, ← hY, if_neg (by omega)]⟩)
          obtain ⟨m, lowN, hiN, g, hq, hg, hlow, hhigh, hl1, hln, hhn, hm, hC⟩ := hI2
          refine v_iload 6 (pc' := 81) rfl dX6_next_79 rfl ?_
          refine v_iload 5 (pc' := 83) rfl dX6_next_81 rfl ?_
          refine v_icmp_ge (pc' := 86) (tgt := 106) rfl dX6_next_83 (by decide) (by omega) (by omega) (fun c5 => ?_) (fun c5 => ?_)
          ·
            have hret : nextF f n = g := by
              rw [← hC]
              cases m with
              | zero => rfl
              | succ m => simp only [nxC]; rw [if_neg (by omega)]
            refine v_iload 4 (pc' := 108) rfl dX6_next_106 rfl ?_
            refine v_iret dX6_next_108 (by decide) (rfl) ?_
            exact ⟨by rw [hq, hret], rfl⟩
          ·
            obtain ⟨m, rfl⟩ : ∃ j, m = j + 1 := ⟨m - 1, by omega⟩
            refine v_iload 4 (pc' := 88) rfl dX6_next_86 rfl ?_
            refine v_iload 6 (pc' := 90) rfl dX6_next_88 rfl ?_
            refine v_iload 5 (pc' := 92) rfl dX6_next_90 rfl ?_
            refine v_cSP (pc' := 95) rfl dX6_next_92 lk_RX6_40 rfl (c_swapped l G hq hg.B hlow hhigh (by omega) (by omega) (by omega) (by omega) w) rfl rfl rfl ?_
            refine v_nm (fun swapped2 hswapped2 => ?_)
            refine v_istore (ls' := [(4, _), (0, _), (1, _), (2, _), (3, _), (5, _), (6, _)]) (pc' := 97) rfl dX6_next_95 rfl rfl ?_
            refine v_iinc (ls' := [(5, _), (4, _), (0, _), (1, _), (2, _), (3, _), (6, _)]) 5 (pc' := 100) rfl dX6_next_97 rfl rfl rfl ?_
            refine v_nl (fun high' hhigh' => ?_)
            refine v_iinc (ls' := [(6, _), (5, _), (4, _), (0, _), (1, _), (2, _), (3, _)]) 6 (pc' := 103) rfl dX6_next_100 rfl rfl rfl ?_
            refine v_nl (fun low' hlow' => ?_)
            refine v_goto (tgt := 79) dX6_next_103 (by decide) ?_
            refine v_ls [3, 4, 5, 6, 2, 1, 0] rfl ?_
            exact ih2 (swapped2) (high') (low') (⟨m, lowN + 1, hiN - 1, gsw g lowN hiN, hswapped2, gsw_7 hg (by omega) (by omega) (by omega) (by omega), by omega, by omega, by omega, by omega, by omega, by omega, by rw [← hC]; simp only [nxC]; rw [if_pos (by omega)]⟩) (by omega)
        ·
          refine v_iinc (ls' := [(3, _), (0, _), (1, _), (2, _)]) 3 (pc' := 60) rfl dX6_next_57 rfl rfl rfl ?_
          refine v_nl (fun y' hy' => ?_)
          refine v_goto (tgt := 39) dX6_next_60 (by decide) ?_
          refine v_ls [1, 2, 3, 0] rfl ?_
          obtain ⟨j, rfl⟩ : ∃ i, j = i + 1 := ⟨j - 1, by omega⟩
          exact ih1 (y') (⟨j, by omega, by omega, by omega, by rw [← hB]; simp only [nxB]; rw [if_pos ⟨by omega, by omega⟩]⟩) (by omega)
    ·
      refine v_iload_n 0 (pc' := 36) rfl dX6_next_35 rfl rfl ?_
      refine v_iret dX6_next_36 (by decide) (rfl) ?_
      exact ⟨by rw [hp]; unfold nextF; rw [← hX, if_pos (by omega)], rfl⟩
  ·
    have hbk := hf k (by omega) (by omega)
    have hbk1 := hf (k + 1) (by omega) (by omega)
    refine v_iload_n 0 (pc' := 10) rfl dX6_next_9 rfl rfl ?_
    refine v_iload_n 2 (pc' := 11) rfl dX6_next_10 rfl rfl ?_
    refine v_cSP (pc' := 14) rfl dX6_next_11 lk_RX6_21 rfl (c_at l G hp hf.B (x := k) (by omega) (by omega) (by omega) w) rfl rfl rfl ?_
    refine v_nm (fun at1 hat1 => ?_)
    refine v_iload_n 0 (pc' := 15) rfl dX6_next_14 rfl rfl ?_
    refine v_iload_n 2 (pc' := 16) rfl dX6_next_15 rfl rfl ?_
    refine v_iconst (pc' := 17) rfl dX6_next_16 ?_
    refine v_iadd (pc' := 18) rfl dX6_next_17 ?_
    refine v_cSP (pc' := 21) rfl dX6_next_18 lk_RX6_21 rfl (c_at l G hp hf.B (x := k + 1) (by omega) (by omega) (by omega) w) rfl rfl rfl ?_
    refine v_nm (fun at2 hat2 => ?_)
    refine v_icmp_le (pc' := 24) (tgt := 30) rfl dX6_next_21 (by decide) (by omega) (by omega) (fun c1 => ?_) (fun c1 => ?_)
    ·
      have hX : k = nxA f (n - 1) := by
        obtain ⟨k, rfl⟩ : ∃ j, k = j + 1 := ⟨k - 1, by omega⟩
        have e2 : f (k + 1 + 1) = f (k + 2) := rfl
        rw [← hR]; simp only [nxA]; rw [if_neg (by omega)]
      refine v_iload_n 2 (pc' := 31) rfl dX6_next_30 rfl rfl ?_
      refine v_iconst (pc' := 32) rfl dX6_next_31 ?_
      refine v_icmp_ge (pc' := 35) (tgt := 37) rfl dX6_next_32 (by decide) (by omega) (by omega) (fun c2 => ?_) (fun c2 => ?_)
      ·
        refine v_iload_n 1 (pc' := 38) rfl dX6_next_37 rfl rfl ?_
        refine v_istore_n (ls' := [(3, _), (0, _), (1, _), (2, _)]) (pc' := 39) rfl dX6_next_38 rfl rfl rfl ?_
        refine v_ls [1, 2, 3, 0] rfl ?_
        refine v_loop1 39 (fun (y : Int) => ∃ j : Nat, y = j ∧ k ≤ j ∧ j ≤ n ∧ nxB f k j = nxB f k n) (fun (y : Int) => y.toNat) (fun (y : Int) => [(0, aI (p)), (1, aI (n0)), (2, aI (x)), (3, aI (y))]) (fun (y : Int) => []) (fun (y : Int) => w) (fun y hI1 ih1 => ?_) (n0) (⟨n, hn, by omega, by omega, rfl⟩)
        obtain ⟨j, hy, hkj, hjn, hB⟩ := hI1
        refine v_iload_n 3 (pc' := 40) rfl dX6_next_39 rfl rfl ?_
        refine v_iload_n 2 (pc' := 41) rfl dX6_next_40 rfl rfl ?_
        refine v_icmp_le (pc' := 44) (tgt := 63) rfl dX6_next_41 (by decide) (by omega) (by omega) (fun c3 => ?_) (fun c3 => ?_)
        ·
          have hY : j = nxB f k n := by
            obtain ⟨j, rfl⟩ : ∃ i, j = i + 1 := ⟨j - 1, by omega⟩
            rw [← hB]; simp only [nxB]; rw [if_neg (by omega)]
          refine v_iload_n 0 (pc' := 64) rfl dX6_next_63 rfl rfl ?_
          refine v_iload_n 2 (pc' := 65) rfl dX6_next_64 rfl rfl ?_
          refine v_iload_n 3 (pc' := 66) rfl dX6_next_65 rfl rfl ?_
          refine v_cSP (pc' := 69) rfl dX6_next_66 lk_RX6_40 rfl (c_swapped l G hp hf.B hxk hy (by omega) (by omega) (by omega) (by omega) w) rfl rfl rfl ?_
          refine v_nm (fun swapped1 hswapped1 => ?_)
          refine v_istore (ls' := [(4, _), (0, _), (1, _), (2, _), (3, _)]) (pc' := 71) rfl dX6_next_69 rfl rfl ?_
          refine v_iload_n 2 (pc' := 72) rfl dX6_next_71 rfl rfl ?_
          refine v_istore (ls' := [(5, _), (4, _), (0, _), (1, _), (2, _), (3, _)]) (pc' := 74) rfl dX6_next_72 rfl rfl ?_
          refine v_iload_n 4 (pc' := 75) rfl dX6_next_74 rfl rfl ?_
          refine v_iconst (pc' := 76) rfl dX6_next_75 ?_
          refine v_iadd (pc' := 77) rfl dX6_next_76 ?_
          refine v_nm (fun low' hlow' => ?_)
          refine v_istore (ls' := [(6, _), (5, _), (4, _), (0, _), (1, _), (2, _), (3, _)]) (pc' := 79) rfl dX6_next_77 rfl rfl ?_
          refine v_ls [3, 4, 5, 6, 2, 1, 0] rfl ?_
          refine v_loop3 79 (fun (q : Int) (high : Int) (low : Int) => ∃ (m lowN hiN : Nat) (g : Nat → Nat), q = (hx g : Nat) ∧ P7 g ∧ low = lowN ∧ high = hiN ∧ 1 ≤ lowN ∧ lowN ≤ n ∧ hiN ≤ n ∧ hiN ≤ lowN + m ∧ nxC m g lowN hiN = nextF f n) (fun (q : Int) (high : Int) (low : Int) => (high - low).toNat) (fun (q : Int) (high : Int) (low : Int) => [(0, aI (p)), (1, aI (n0)), (2, aI (x)), (3, aI (y)), (4, aI (q)), (5, aI (high)), (6, aI (low))]) (fun (q : Int) (high : Int) (low : Int) => []) (fun (q : Int) (high : Int) (low : Int) => w) (fun q high low hI2 ih2 => ?_) (swapped1) (n0) (low') (⟨7, k + 1, n, gsw f k j, hswapped1, gsw_7 hf (by omega) (by omega) (by omega) (by omega), by omega, hn, by omega, by omega, by omega, by omega, by unfold nextF; rw [← hX, ← hY, if_neg (by omega)]⟩)
          obtain ⟨m, lowN, hiN, g, hq, hg, hlow, hhigh, hl1, hln, hhn, hm, hC⟩ := hI2
          refine v_iload 6 (pc' := 81) rfl dX6_next_79 rfl ?_
          refine v_iload 5 (pc' := 83) rfl dX6_next_81 rfl ?_
          refine v_icmp_ge (pc' := 86) (tgt := 106) rfl dX6_next_83 (by decide) (by omega) (by omega) (fun c5 => ?_) (fun c5 => ?_)
          ·
            have hret : nextF f n = g := by
              rw [← hC]
              cases m with
              | zero => rfl
              | succ m => simp only [nxC]; rw [if_neg (by omega)]
            refine v_iload 4 (pc' := 108) rfl dX6_next_106 rfl ?_
            refine v_iret dX6_next_108 (by decide) (rfl) ?_
            exact ⟨by rw [hq, hret], rfl⟩
          ·
            obtain ⟨m, rfl⟩ : ∃ j, m = j + 1 := ⟨m - 1, by omega⟩
            refine v_iload 4 (pc' := 88) rfl dX6_next_86 rfl ?_
            refine v_iload 6 (pc' := 90) rfl dX6_next_88 rfl ?_
            refine v_iload 5 (pc' := 92) rfl dX6_next_90 rfl ?_
            refine v_cSP (pc' := 95) rfl dX6_next_92 lk_RX6_40 rfl (c_swapped l G hq hg.B hlow hhigh (by omega) (by omega) (by omega) (by omega) w) rfl rfl rfl ?_
            refine v_nm (fun swapped2 hswapped2 => ?_)
            refine v_istore (ls' := [(4, _), (0, _), (1, _), (2, _), (3, _), (5, _), (6, _)]) (pc' := 97) rfl dX6_next_95 rfl rfl ?_
            refine v_iinc (ls' := [(5, _), (4, _), (0, _), (1, _), (2, _), (3, _), (6, _)]) 5 (pc' := 100) rfl dX6_next_97 rfl rfl rfl ?_
            refine v_nl (fun high' hhigh' => ?_)
            refine v_iinc (ls' := [(6, _), (5, _), (4, _), (0, _), (1, _), (2, _), (3, _)]) 6 (pc' := 103) rfl dX6_next_100 rfl rfl rfl ?_
            refine v_nl (fun low' hlow' => ?_)
            refine v_goto (tgt := 79) dX6_next_103 (by decide) ?_
            refine v_ls [3, 4, 5, 6, 2, 1, 0] rfl ?_
            exact ih2 (swapped2) (high') (low') (⟨m, lowN + 1, hiN - 1, gsw g lowN hiN, hswapped2, gsw_7 hg (by omega) (by omega) (by omega) (by omega), by omega, by omega, by omega, by omega, by omega, by omega, by rw [← hC]; simp only [nxC]; rw [if_pos (by omega)]⟩) (by omega)
        ·
          have hbj := hf j (by omega) (by omega)
          refine v_iload_n 0 (pc' := 45) rfl dX6_next_44 rfl rfl ?_
          refine v_iload_n 3 (pc' := 46) rfl dX6_next_45 rfl rfl ?_
          refine v_cSP (pc' := 49) rfl dX6_next_46 lk_RX6_21 rfl (c_at l G hp hf.B (x := j) (by omega) (by omega) (by omega) w) rfl rfl rfl ?_
          refine v_nm (fun at3 hat3 => ?_)
          refine v_iload_n 0 (pc' := 50) rfl dX6_next_49 rfl rfl ?_
          refine v_iload_n 2 (pc' := 51) rfl dX6_next_50 rfl rfl ?_
          refine v_cSP (pc' := 54) rfl dX6_next_51 lk_RX6_21 rfl (c_at l G hp hf.B (x := k) (by omega) (by omega) (by omega) w) rfl rfl rfl ?_
          refine v_nm (fun at4 hat4 => ?_)
          refine v_icmp_ge (pc' := 57) (tgt := 63) rfl dX6_next_54 (by decide) (by omega) (by omega) (fun c4 => ?_) (fun c4 => ?_)
          ·
            have hY : j = nxB f k n := by
              obtain ⟨j, rfl⟩ : ∃ i, j = i + 1 := ⟨j - 1, by omega⟩
              rw [← hB]; simp only [nxB]; rw [if_neg (by omega)]
            refine v_iload_n 0 (pc' := 64) rfl dX6_next_63 rfl rfl ?_
            refine v_iload_n 2 (pc' := 65) rfl dX6_next_64 rfl rfl ?_
            refine v_iload_n 3 (pc' := 66) rfl dX6_next_65 rfl rfl ?_
            refine v_cSP (pc' := 69) rfl dX6_next_66 lk_RX6_40 rfl (c_swapped l G hp hf.B hxk hy (by omega) (by omega) (by omega) (by omega) w) rfl rfl rfl ?_
            refine v_nm (fun swapped1 hswapped1 => ?_)
            refine v_istore (ls' := [(4, _), (0, _), (1, _), (2, _), (3, _)]) (pc' := 71) rfl dX6_next_69 rfl rfl ?_
            refine v_iload_n 2 (pc' := 72) rfl dX6_next_71 rfl rfl ?_
            refine v_istore (ls' := [(5, _), (4, _), (0, _), (1, _), (2, _), (3, _)]) (pc' := 74) rfl dX6_next_72 rfl rfl ?_
            refine v_iload_n 4 (pc' := 75) rfl dX6_next_74 rfl rfl ?_
            refine v_iconst (pc' := 76) rfl dX6_next_75 ?_
            refine v_iadd (pc' := 77) rfl dX6_next_76 ?_
            refine v_nm (fun low' hlow' => ?_)
            refine v_istore (ls' := [(6, _), (5, _), (4, _), (0, _), (1, _), (2, _), (3, _)]) (pc' := 79) rfl dX6_next_77 rfl rfl ?_
            refine v_ls [3, 4, 5, 6, 2, 1, 0] rfl ?_
            refine v_loop3 79 (fun (q : Int) (high : Int) (low : Int) => ∃ (m lowN hiN : Nat) (g : Nat → Nat), q = (hx g : Nat) ∧ P7 g ∧ low = lowN ∧ high = hiN ∧ 1 ≤ lowN ∧ lowN ≤ n ∧ hiN ≤ n ∧ hiN ≤ lowN + m ∧ nxC m g lowN hiN = nextF f n) (fun (q : Int) (high : Int) (low : Int) => (high - low).toNat) (fun (q : Int) (high : Int) (low : Int) => [(0, aI (p)), (1, aI (n0)), (2, aI (x)), (3, aI (y)), (4, aI (q)), (5, aI (high)), (6, aI (low))]) (fun (q : Int) (high : Int) (low : Int) => []) (fun (q : Int) (high : Int) (low : Int) => w) (fun q high low hI2 ih2 => ?_) (swapped1) (n0) (low') (⟨7, k + 1, n, gsw f k j, hswapped1, gsw_7 hf (by omega) (by omega) (by omega) (by omega), by omega, hn, by omega, by omega, by omega, by omega, by unfold nextF; rw [← hX, ← hY, if_neg (by omega)]⟩)
            obtain ⟨m, lowN, hiN, g, hq, hg, hlow, hhigh, hl1, hln, hhn, hm, hC⟩ := hI2
            refine v_iload 6 (pc' := 81) rfl dX6_next_79 rfl ?_
            refine v_iload 5 (pc' := 83) rfl dX6_next_81 rfl ?_
            refine v_icmp_ge (pc' := 86) (tgt := 106) rfl dX6_next_83 (by decide) (by omega) (by omega) (fun c5 => ?_) (fun c5 => ?_)
            ·
              have hret : nextF f n = g := by
                rw [← hC]
                cases m with
                | zero => rfl
                | succ m => simp only [nxC]; rw [if_neg (by omega)]
              refine v_iload 4 (pc' := 108) rfl dX6_next_106 rfl ?_
              refine v_iret dX6_next_108 (by decide) (rfl) ?_
              exact ⟨by rw [hq, hret], rfl⟩
            ·
              obtain ⟨m, rfl⟩ : ∃ j, m = j + 1 := ⟨m - 1, by omega⟩
              refine v_iload 4 (pc' := 88) rfl dX6_next_86 rfl ?_
              refine v_iload 6 (pc' := 90) rfl dX6_next_88 rfl ?_
              refine v_iload 5 (pc' := 92) rfl dX6_next_90 rfl ?_
              refine v_cSP (pc' := 95) rfl dX6_next_92 lk_RX6_40 rfl (c_swapped l G hq hg.B hlow hhigh (by omega) (by omega) (by omega) (by omega) w) rfl rfl rfl ?_
              refine v_nm (fun swapped2 hswapped2 => ?_)
              refine v_istore (ls' := [(4, _), (0, _), (1, _), (2, _), (3, _), (5, _), (6, _)]) (pc' := 97) rfl dX6_next_95 rfl rfl ?_
              refine v_iinc (ls' := [(5, _), (4, _), (0, _), (1, _), (2, _), (3, _), (6, _)]) 5 (pc' := 100) rfl dX6_next_97 rfl rfl rfl ?_
              refine v_nl (fun high' hhigh' => ?_)
              refine v_iinc (ls' := [(6, _), (5, _), (4, _), (0, _), (1, _), (2, _), (3, _)]) 6 (pc' := 103) rfl dX6_next_100 rfl rfl rfl ?_
              refine v_nl (fun low' hlow' => ?_)
              refine v_goto (tgt := 79) dX6_next_103 (by decide) ?_
              refine v_ls [3, 4, 5, 6, 2, 1, 0] rfl ?_
              exact ih2 (swapped2) (high') (low') (⟨m, lowN + 1, hiN - 1, gsw g lowN hiN, hswapped2, gsw_7 hg (by omega) (by omega) (by omega) (by omega), by omega, by omega, by omega, by omega, by omega, by omega, by rw [← hC]; simp only [nxC]; rw [if_pos (by omega)]⟩) (by omega)
          ·
            refine v_iinc (ls' := [(3, _), (0, _), (1, _), (2, _)]) 3 (pc' := 60) rfl dX6_next_57 rfl rfl rfl ?_
            refine v_nl (fun y' hy' => ?_)
            refine v_goto (tgt := 39) dX6_next_60 (by decide) ?_
            refine v_ls [1, 2, 3, 0] rfl ?_
            obtain ⟨j, rfl⟩ : ∃ i, j = i + 1 := ⟨j - 1, by omega⟩
            exact ih1 (y') (⟨j, by omega, by omega, by omega, by rw [← hB]; simp only [nxB]; rw [if_pos ⟨by omega, by omega⟩]⟩) (by omega)
      ·
        refine v_iload_n 0 (pc' := 36) rfl dX6_next_35 rfl rfl ?_
        refine v_iret dX6_next_36 (by decide) (rfl) ?_
        exact ⟨by rw [hp]; unfold nextF; rw [← hX, if_pos (by omega)], rfl⟩
    ·
      refine v_iinc (ls' := [(2, _), (0, _), (1, _)]) 2 (pc' := 27) rfl dX6_next_24 rfl rfl rfl ?_
      refine v_nl (fun x' hx' => ?_)
      refine v_goto (tgt := 4) dX6_next_27 (by decide) ?_
      refine v_ls [1, 2, 0] rfl ?_
      obtain ⟨k, rfl⟩ : ∃ j, k = j + 1 := ⟨k - 1, by omega⟩
      exact ih0 (x') (⟨k, by omega, by omega, by have e2 : f (k + 1 + 1) = f (k + 2) := rfl; rw [← hR]; simp only [nxA]; rw [if_pos (by omega)]⟩) (by omega)

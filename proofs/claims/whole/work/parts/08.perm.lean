/-! ===== the methods of Perm ===== -/
theorem iz_hxs {f : Nat → Nat} (hf : B7 f) {k : Nat} (h : k + 1 ≤ 7) : iz ((hxk f k * 16 : Nat) : Int) ||| iz (f (k + 1) : Int) = iz ((hxk f (k + 1) : Nat) : Int) := by
  have b := hf (k + 1) (by omega) h
  rw [iz_or, show (16 : Nat) = 2 ^ 4 from rfl, or_lo 4 (by omega)]
  simp only [hxk]
  congr 2
  omega
theorem bt_le {x : Nat} (h1 : 1 ≤ x) (h : x ≤ 7) : 1 ≤ bt x := Nat.two_pow_pos _
set_option maxHeartbeats 4000000 in
set_option maxRecDepth 100000 in
theorem c_bitCount (l : Launch) (G : Gx) {i : Int} {n : Nat} (hi : i = n) (hn : n < 16384) (w : Wd) : SpP l G 0 mJ6_bitCount_0f7a4 [aI (i)] w ((popc n : Int)) := by
  obtain ⟨t1, ht1⟩ : ∃ t, t = n / 2 &&& 1431655765 := ⟨_, rfl⟩
  have l1 : t1 ≤ n := by rw [ht1]; exact Nat.le_trans Nat.and_le_left (Nat.div_le_self _ _)
  obtain ⟨a1, ha1⟩ : ∃ t, t = n - t1 := ⟨_, rfl⟩
  obtain ⟨t2, ht2⟩ : ∃ t, t = a1 &&& 858993459 := ⟨_, rfl⟩
  have l2 : t2 ≤ a1 := by rw [ht2]; exact Nat.and_le_left
  obtain ⟨t3, ht3⟩ : ∃ t, t = a1 / 4 &&& 858993459 := ⟨_, rfl⟩
  have l3 : t3 ≤ a1 := by rw [ht3]; exact Nat.le_trans Nat.and_le_left (Nat.div_le_self _ _)
  obtain ⟨b1, hb1⟩ : ∃ t, t = t2 + t3 := ⟨_, rfl⟩
  obtain ⟨c1, hc1⟩ : ∃ t, t = b1 + b1 / 16 &&& 252645135 := ⟨_, rfl⟩
  have l4 : c1 ≤ b1 + b1 / 16 := by rw [hc1]; exact Nat.and_le_left
  obtain ⟨d1, hd1⟩ : ∃ t, t = c1 + c1 / 256 := ⟨_, rfl⟩
  obtain ⟨e1, he1⟩ : ∃ t, t = d1 + d1 / 65536 := ⟨_, rfl⟩
  have hres : e1 &&& 63 = popc n := by rw [← bcN_ok hn]; subst he1 hd1 hc1 hb1 ht3 ht2 ha1 ht1; rfl
  refine Sp_of RJ6 rfl (by decide +kernel) rfl (Nat.le_of_ble_eq_true rfl) ?_
  refine v_iload_n 0 (pc' := 1) rfl dJ6_bitCount_0f7a4_0 rfl rfl ?_
  refine v_iload_n 0 (pc' := 2) rfl dJ6_bitCount_0f7a4_1 rfl rfl ?_
  refine v_iconst (pc' := 3) rfl dJ6_bitCount_0f7a4_2 ?_
  refine v_iushr (z := ((n / 2 : Nat) : Int)) (pc' := 4) rfl dJ6_bitCount_0f7a4_3 (iz_ushrE (k := 1) hi rfl (by omega) (by decide +kernel) (by decide)) ?_
  refine v_ldcw (z := 1431655765) (pc' := 7) rfl dJ6_bitCount_0f7a4_4 kc_RJ6_265 ?_
  refine v_iand (z := (t1 : Int)) (pc' := 8) rfl dJ6_bitCount_0f7a4_7 (by rw [ht1]; exact iz_andE rfl rfl) ?_
  refine v_isub (pc' := 9) rfl dJ6_bitCount_0f7a4_8 ?_
  refine v_nm (fun i' hi' => ?_)
  refine v_istore_n (ls' := [(0, _)]) (pc' := 10) rfl dJ6_bitCount_0f7a4_9 rfl rfl rfl ?_
  refine v_iload_n 0 (pc' := 11) rfl dJ6_bitCount_0f7a4_10 rfl rfl ?_
  refine v_ldcw (z := 858993459) (pc' := 14) rfl dJ6_bitCount_0f7a4_11 kc_RJ6_266 ?_
  refine v_iand (z := (t2 : Int)) (pc' := 15) rfl dJ6_bitCount_0f7a4_14 (by rw [ht2]; exact iz_andE (by omega) rfl) ?_
  refine v_iload_n 0 (pc' := 16) rfl dJ6_bitCount_0f7a4_15 rfl rfl ?_
  refine v_iconst (pc' := 17) rfl dJ6_bitCount_0f7a4_16 ?_
  refine v_iushr (z := ((a1 / 4 : Nat) : Int)) (pc' := 18) rfl dJ6_bitCount_0f7a4_17 (iz_ushrE (k := 2) (show i' = (a1 : Int) by omega) rfl (by omega) (by decide +kernel) (by decide)) ?_
  refine v_ldcw (z := 858993459) (pc' := 21) rfl dJ6_bitCount_0f7a4_18 kc_RJ6_266 ?_
  refine v_iand (z := (t3 : Int)) (pc' := 22) rfl dJ6_bitCount_0f7a4_21 (by rw [ht3]; exact iz_andE rfl rfl) ?_
  refine v_iadd (pc' := 23) rfl dJ6_bitCount_0f7a4_22 ?_
  refine v_nm (fun i'' hi'' => ?_)
  refine v_istore_n (ls' := [(0, _)]) (pc' := 24) rfl dJ6_bitCount_0f7a4_23 rfl rfl rfl ?_
  refine v_iload_n 0 (pc' := 25) rfl dJ6_bitCount_0f7a4_24 rfl rfl ?_
  refine v_iload_n 0 (pc' := 26) rfl dJ6_bitCount_0f7a4_25 rfl rfl ?_
  refine v_iconst (pc' := 27) rfl dJ6_bitCount_0f7a4_26 ?_
  refine v_iushr (z := ((b1 / 16 : Nat) : Int)) (pc' := 28) rfl dJ6_bitCount_0f7a4_27 (iz_ushrE (k := 4) (show i'' = (b1 : Int) by omega) rfl (by omega) (by decide +kernel) (by decide)) ?_
  refine v_iadd (pc' := 29) rfl dJ6_bitCount_0f7a4_28 ?_
  refine v_ldcw (z := 252645135) (pc' := 32) rfl dJ6_bitCount_0f7a4_29 kc_RJ6_267 ?_
  refine v_iand (z := (c1 : Int)) (pc' := 33) rfl dJ6_bitCount_0f7a4_32 (by rw [hc1]; exact iz_andE (by omega) rfl) ?_
  refine v_nm (fun i''' hi''' => ?_)
  refine v_istore_n (ls' := [(0, _)]) (pc' := 34) rfl dJ6_bitCount_0f7a4_33 rfl rfl rfl ?_
  refine v_iload_n 0 (pc' := 35) rfl dJ6_bitCount_0f7a4_34 rfl rfl ?_
  refine v_iload_n 0 (pc' := 36) rfl dJ6_bitCount_0f7a4_35 rfl rfl ?_
  refine v_bipush (pc' := 38) rfl dJ6_bitCount_0f7a4_36 rfl ?_
  refine v_iushr (z := ((c1 / 256 : Nat) : Int)) (pc' := 39) rfl dJ6_bitCount_0f7a4_38 (iz_ushrE (k := 8) hi''' rfl (by omega) (by decide +kernel) (by decide)) ?_
  refine v_iadd (pc' := 40) rfl dJ6_bitCount_0f7a4_39 ?_
  refine v_nm (fun i'''' hi'''' => ?_)
  refine v_istore_n (ls' := [(0, _)]) (pc' := 41) rfl dJ6_bitCount_0f7a4_40 rfl rfl rfl ?_
  refine v_iload_n 0 (pc' := 42) rfl dJ6_bitCount_0f7a4_41 rfl rfl ?_
  refine v_iload_n 0 (pc' := 43) rfl dJ6_bitCount_0f7a4_42 rfl rfl ?_
  refine v_bipush (pc' := 45) rfl dJ6_bitCount_0f7a4_43 rfl ?_
  refine v_iushr (z := ((d1 / 65536 : Nat) : Int)) (pc' := 46) rfl dJ6_bitCount_0f7a4_45 (iz_ushrE (k := 16) (show i'''' = (d1 : Int) by omega) rfl (by omega) (by decide +kernel) (by decide)) ?_
  refine v_iadd (pc' := 47) rfl dJ6_bitCount_0f7a4_46 ?_
  refine v_nm (fun i''''' hi''''' => ?_)
  refine v_istore_n (ls' := [(0, _)]) (pc' := 48) rfl dJ6_bitCount_0f7a4_47 rfl rfl rfl ?_
  refine v_iload_n 0 (pc' := 49) rfl dJ6_bitCount_0f7a4_48 rfl rfl ?_
  refine v_bipush (pc' := 51) rfl dJ6_bitCount_0f7a4_49 rfl ?_
  refine v_iand (z := (popc n : Int)) (pc' := 52) rfl dJ6_bitCount_0f7a4_51 (by rw [← hres]; exact iz_andE (by omega) rfl) ?_
  refine v_iret dJ6_bitCount_0f7a4_52 (by decide) (rfl) ?_
  exact ⟨rfl, rfl⟩
set_option maxHeartbeats 4000000 in
set_option maxRecDepth 100000 in
theorem c_shift (l : Launch) (G : Gx) {x : Int} (w : Wd) : SpP l G 0 mX6_shift [aI (x)] w (28 - 4 * x) := by
  refine Sp_of RX6 rfl (by decide +kernel) rfl (Nat.le_of_ble_eq_true rfl) ?_
  refine v_bipush (pc' := 2) rfl dX6_shift_0 rfl ?_
  refine v_iconst (pc' := 3) rfl dX6_shift_2 ?_
  refine v_iload_n 0 (pc' := 4) rfl dX6_shift_3 rfl rfl ?_
  refine v_imul (pc' := 5) rfl dX6_shift_4 ?_
  refine v_isub (pc' := 6) rfl dX6_shift_5 ?_
  refine v_iret dX6_shift_6 (by decide) (rfl) ?_
  exact ⟨rfl, rfl⟩
set_option maxHeartbeats 4000000 in
set_option maxRecDepth 100000 in
theorem c_at (l : Launch) (G : Gx) {p i : Int} {f : Nat → Nat} {x : Nat} (hp : p = (hx f : Nat)) (hf : B7 f) (hi : i = x) (h1 : 1 ≤ x) (h2 : x ≤ 7) (w : Wd) : SpP l G 0 mX6_at [aI (p), aI (i)] w ((f x : Int)) := by
  refine Sp_of RX6 rfl (by decide +kernel) rfl (Nat.le_of_ble_eq_true rfl) ?_
  refine v_iload_n 0 (pc' := 1) rfl dX6_at_0 rfl rfl ?_
  refine v_bipush (pc' := 3) rfl dX6_at_1 rfl ?_
  refine v_iconst (pc' := 4) rfl dX6_at_3 ?_
  refine v_iload_n 1 (pc' := 5) rfl dX6_at_4 rfl rfl ?_
  refine v_imul (pc' := 6) rfl dX6_at_5 ?_
  refine v_isub (pc' := 7) rfl dX6_at_6 ?_
  refine v_ishr (z := ((hx f / 2 ^ (28 - 4 * x) : Nat) : Int)) (pc' := 8) rfl dX6_at_7 (iz_shrE hp (by omega) (by have := hx_lt hf; omega) (by omega)) ?_
  refine v_bipush (pc' := 10) rfl dX6_at_8 rfl ?_
  refine v_iand (z := (f x : Int)) (pc' := 11) rfl dX6_at_10 (by rw [show (7 : Int) = ((7 : Nat) : Int) from rfl, iz_and, iz_and7, hx_at hf h1 h2]) ?_
  refine v_iret dX6_at_11 (by decide) (rfl) ?_
  exact ⟨rfl, rfl⟩
set_option maxHeartbeats 4000000 in
set_option maxRecDepth 100000 in
theorem c_bit (l : Launch) (G : Gx) {i : Int} {x : Nat} (hi : i = x) (h1 : 1 ≤ x) (h2 : x ≤ 31) (w : Wd) : SpP l G 0 mX6_bit [aI (i)] w ((bt x : Int)) := by
  refine Sp_of RX6 rfl (by decide +kernel) rfl (Nat.le_of_ble_eq_true rfl) ?_
  refine v_iconst (pc' := 1) rfl dX6_bit_0 ?_
  refine v_iload_n 0 (pc' := 2) rfl dX6_bit_1 rfl rfl ?_
  refine v_iconst (pc' := 3) rfl dX6_bit_2 ?_
  refine v_isub (pc' := 4) rfl dX6_bit_3 ?_
  refine v_ishl (z := (bt x : Int)) (pc' := 5) rfl dX6_bit_4 (by have := iz_shlE (a := 1) (b := i - 1) (n := 1) (k := x - 1) rfl (by omega) (by omega); rw [Nat.one_mul] at this; exact this) ?_
  refine v_iret dX6_bit_5 (by decide) (rfl) ?_
  exact ⟨rfl, rfl⟩
set_option maxHeartbeats 4000000 in
set_option maxRecDepth 100000 in
theorem c_darts (l : Launch) (G : Gx) {i : Int} {n : Nat} (hi : i = n) (h2 : n ≤ 7) (w : Wd) : SpP l G 0 mX6_darts [aI (i)] w ((full n : Int)) := by
  refine Sp_of RX6 rfl (by decide +kernel) rfl (Nat.le_of_ble_eq_true rfl) ?_
  refine v_iconst (pc' := 1) rfl dX6_darts_0 ?_
  refine v_iload_n 0 (pc' := 2) rfl dX6_darts_1 rfl rfl ?_
  refine v_ishl (z := ((2 ^ n : Nat) : Int)) (pc' := 3) rfl dX6_darts_2 (by have := iz_shlE (a := 1) (b := i) (n := 1) (k := n) rfl (by omega) (by omega); rw [Nat.one_mul] at this; exact this) ?_
  refine v_iconst (pc' := 4) rfl dX6_darts_3 ?_
  refine v_isub (pc' := 5) rfl dX6_darts_4 ?_
  refine v_iret dX6_darts_5 (by decide) (rfl) ?_
  have := Nat.two_pow_pos n
  refine ⟨?_, rfl⟩
  unfold full
  generalize 2 ^ n = q at *
  omega
set_option maxHeartbeats 4000000 in
set_option maxRecDepth 100000 in
theorem c_lowest (l : Launch) (G : Gx) {i : Int} {s : Nat} (hi : i = s) (h1 : s < 128) (h2 : s ≠ 0) (w : Wd) : SpP l G 1 mX6_lowest [aI (i)] w ((lowN s : Int)) := by
  have hb := low_pop s h1 h2
  refine Sp_of RX6 rfl (by decide +kernel) rfl (Nat.le_of_ble_eq_true rfl) ?_
  refine v_iload_n 0 (pc' := 1) rfl dX6_lowest_0 rfl rfl ?_
  refine v_iload_n 0 (pc' := 2) rfl dX6_lowest_1 rfl rfl ?_
  refine v_ineg (pc' := 3) rfl dX6_lowest_2 ?_
  refine v_iand (z := (bt (lowN s) : Int)) (pc' := 4) rfl dX6_lowest_3 (by rw [hi]; exact low_bits s h1 h2) ?_
  refine v_iconst (pc' := 5) rfl dX6_lowest_4 ?_
  refine v_isub (pc' := 6) rfl dX6_lowest_5 ?_
  refine v_cSP (pc' := 9) rfl dX6_lowest_6 lk_RX6_9 rfl (c_bitCount l G (n := bt (lowN s) - 1) (by omega) (by omega) w) rfl rfl rfl ?_
  refine v_nm (fun bitCount1 hbitCount1 => ?_)
  refine v_iconst (pc' := 10) rfl dX6_lowest_9 ?_
  refine v_iadd (pc' := 11) rfl dX6_lowest_10 ?_
  refine v_iret dX6_lowest_11 (by decide) (rfl) ?_
  exact ⟨by omega, rfl⟩
set_option maxHeartbeats 4000000 in
set_option maxRecDepth 100000 in
theorem c_tail (l : Launch) (G : Gx) {i : Int} {n : Nat} (hi : i = n) (h1 : 1 ≤ n) (h2 : n ≤ 7) (w : Wd) : SpP l G 1 mX6_tail [aI (i)] w (((hx (tl n) : Nat) : Int)) := by
  refine Sp_of RX6 rfl (by decide +kernel) rfl (Nat.le_of_ble_eq_true rfl) ?_
  refine v_iload_n 0 (pc' := 1) rfl dX6_tail_0 rfl rfl ?_
  refine v_bipush (pc' := 3) rfl dX6_tail_1 rfl ?_
  refine v_icmp_lt (pc' := 6) (tgt := 10) rfl dX6_tail_3 (by decide) (by omega) (by omega) (fun c0 => ?_) (fun c0 => ?_)
  ·
    refine v_ldc (z := 19088743) (pc' := 12) rfl dX6_tail_10 kc_RX6_17 ?_
    refine v_iconst (pc' := 13) rfl dX6_tail_12 ?_
    refine v_iload_n 0 (pc' := 14) rfl dX6_tail_13 rfl rfl ?_
    refine v_cSP (pc' := 17) rfl dX6_tail_14 lk_RX6_18 rfl (c_shift l G w) rfl rfl rfl ?_
    refine v_nm (fun shift1 hshift1 => ?_)
    refine v_ishl (z := ((2 ^ (28 - 4 * n) : Nat) : Int)) (pc' := 18) rfl dX6_tail_17 (by have := iz_shlE (a := 1) (b := shift1) (n := 1) (k := 28 - 4 * n) rfl (by omega) (by omega); rw [Nat.one_mul] at this; exact this) ?_
    refine v_iconst (pc' := 19) rfl dX6_tail_18 ?_
    refine v_isub (pc' := 20) rfl dX6_tail_19 ?_
    refine v_iand (z := ((hx (tl n) : Nat) : Int)) (pc' := 21) rfl dX6_tail_20 (by rcases (show n = 1 ∨ n = 2 ∨ n = 3 ∨ n = 4 ∨ n = 5 ∨ n = 6 by omega) with rfl | rfl | rfl | rfl | rfl | rfl <;> decide +kernel) ?_
    refine v_iret dX6_tail_21 (by decide) (rfl) ?_
    first | exact ⟨rfl, rfl⟩ | exact ⟨hz, rfl⟩
  ·
    have e7 : n = 7 := by omega
    have hz : (0 : Int) = ((hx (tl n) : Nat) : Int) := by subst e7; decide +kernel
    refine v_iconst (pc' := 7) rfl dX6_tail_6 ?_
    refine v_goto (tgt := 21) dX6_tail_7 (by decide) ?_
    refine v_iret dX6_tail_21 (by decide) (rfl) ?_
    first | exact ⟨rfl, rfl⟩ | exact ⟨hz, rfl⟩
set_option maxHeartbeats 4000000 in
set_option maxRecDepth 100000 in
theorem c_then (l : Launch) (G : Gx) {p q : Int} {f g : Nat → Nat} (hp : p = (hx f : Nat)) (hq : q = (hx g : Nat)) (hf : P7 f) (hg : B7 g) (w : Wd) : SpP l G 1 mX6_then [aI (p), aI (q)] w (((hx (pcomp f g) : Nat) : Int)) := by
  refine Sp_of RX6 rfl (by decide +kernel) rfl (Nat.le_of_ble_eq_true rfl) ?_
  refine v_iconst (pc' := 1) rfl dX6_then_0 ?_
  refine v_istore_n (ls' := [(2, _), (0, _), (1, _)]) (pc' := 2) rfl dX6_then_1 rfl rfl rfl ?_
  refine v_iconst (pc' := 3) rfl dX6_then_2 ?_
  refine v_istore_n (ls' := [(3, _), (2, _), (0, _), (1, _)]) (pc' := 4) rfl dX6_then_3 rfl rfl rfl ?_
  refine v_ls [2, 3, 1, 0] rfl ?_
  refine v_loop2 4 (fun (r : Int) (x : Int) => ∃ k : Nat, x = k + 1 ∧ k ≤ 7 ∧ r = (hxk (pcomp f g) k : Nat)) (fun (r : Int) (x : Int) => (8 - x).toNat) (fun (r : Int) (x : Int) => [(0, aI (p)), (1, aI (q)), (2, aI (r)), (3, aI (x))]) (fun (r : Int) (x : Int) => []) (fun (r : Int) (x : Int) => w) (fun r x hI0 ih0 => ?_) (0) (1) (⟨0, rfl, by omega, rfl⟩)
  obtain ⟨k, hk, hk7, hr⟩ := hI0
  refine v_iload_n 3 (pc' := 5) rfl dX6_then_4 rfl rfl ?_
  refine v_bipush (pc' := 7) rfl dX6_then_5 rfl ?_
  refine v_icmp_gt (pc' := 10) (tgt := 30) rfl dX6_then_7 (by decide) (by omega) (by omega) (fun c0 => ?_) (fun c0 => ?_)
  ·
    refine v_iload_n 2 (pc' := 31) rfl dX6_then_30 rfl rfl ?_
    refine v_iret dX6_then_31 (by decide) (rfl) ?_
    have e7 : k = 7 := by omega
    subst e7
    exact ⟨hr, rfl⟩
  ·
    refine v_iload_n 2 (pc' := 11) rfl dX6_then_10 rfl rfl ?_
    refine v_iconst (pc' := 12) rfl dX6_then_11 ?_
    refine v_ishl (z := ((hxk (pcomp f g) k * 16 : Nat) : Int)) (pc' := 13) rfl dX6_then_12 (iz_shlE (k := 4) hr rfl (by decide)) ?_
    refine v_iload_n 1 (pc' := 14) rfl dX6_then_13 rfl rfl ?_
    refine v_iload_n 0 (pc' := 15) rfl dX6_then_14 rfl rfl ?_
    refine v_iload_n 3 (pc' := 16) rfl dX6_then_15 rfl rfl ?_
    refine v_cSP (pc' := 19) rfl dX6_then_16 lk_RX6_21 rfl (c_at l G hp hf.B (x := k + 1) (by omega) (by omega) (by omega) w) rfl rfl rfl ?_
    refine v_nm (fun at1 hat1 => ?_)
    refine v_cSP (pc' := 22) rfl dX6_then_19 lk_RX6_21 rfl (c_at l G hq hg (x := f (k + 1)) (by omega) (hf _ (by omega) (by omega)).1 (hf _ (by omega) (by omega)).2 w) rfl rfl rfl ?_
    refine v_nm (fun at2 hat2 => ?_)
    refine v_ior (z := ((hxk (pcomp f g) (k + 1) : Nat) : Int)) (pc' := 23) rfl dX6_then_22 (by rw [hat2]; exact iz_hxs (f := pcomp f g) (fun x a b => hg _ (hf x a b).1 (hf x a b).2) (by omega)) ?_
    refine v_nm (fun r' hr' => ?_)
    refine v_istore_n (ls' := [(2, _), (0, _), (1, _), (3, _)]) (pc' := 24) rfl dX6_then_23 rfl rfl rfl ?_
    refine v_iinc (ls' := [(3, _), (2, _), (0, _), (1, _)]) 3 (pc' := 27) rfl dX6_then_24 rfl rfl rfl ?_
    refine v_nl (fun x' hx' => ?_)
    refine v_goto (tgt := 4) dX6_then_27 (by decide) ?_
    refine v_ls [2, 3, 1, 0] rfl ?_
    exact ih0 (r') (x') (⟨k + 1, by omega, by omega, hr'⟩) (by omega)
set_option maxHeartbeats 4000000 in
set_option maxRecDepth 100000 in
theorem c_back (l : Launch) (G : Gx) {p : Int} {f : Nat → Nat} (hp : p = (hx f : Nat)) (hf : Pm 7 f) (w : Wd) : SpP l G 1 mX6_back [aI (p)] w (((hx (pinv f) : Nat) : Int)) := by
  have hb := hf.b7 (by decide)
  refine Sp_of RX6 rfl (by decide +kernel) rfl (Nat.le_of_ble_eq_true rfl) ?_
  refine v_iconst (pc' := 1) rfl dX6_back_0 ?_
  refine v_istore_n (ls' := [(1, _), (0, _)]) (pc' := 2) rfl dX6_back_1 rfl rfl rfl ?_
  refine v_iconst (pc' := 3) rfl dX6_back_2 ?_
  refine v_istore_n (ls' := [(2, _), (1, _), (0, _)]) (pc' := 4) rfl dX6_back_3 rfl rfl rfl ?_
  refine v_ls [2, 1, 0] rfl ?_
  refine v_loop2 4 (fun (r : Int) (x : Int) => ∃ k : Nat, x = k + 1 ∧ k ≤ 7 ∧ r = (hx (gsc f pid k) : Nat)) (fun (r : Int) (x : Int) => (8 - x).toNat) (fun (r : Int) (x : Int) => [(0, aI (p)), (1, aI (r)), (2, aI (x))]) (fun (r : Int) (x : Int) => []) (fun (r : Int) (x : Int) => w) (fun r x hI0 ih0 => ?_) (0) (1) (⟨0, rfl, by omega, by rw [gsc_0 hf]; rfl⟩)
  obtain ⟨k, hk, hk7, hr⟩ := hI0
  refine v_iload_n 2 (pc' := 5) rfl dX6_back_4 rfl rfl ?_
  refine v_bipush (pc' := 7) rfl dX6_back_5 rfl ?_
  refine v_icmp_gt (pc' := 10) (tgt := 29) rfl dX6_back_7 (by decide) (by omega) (by omega) (fun c0 => ?_) (fun c0 => ?_)
  ·
    refine v_iload_n 1 (pc' := 30) rfl dX6_back_29 rfl rfl ?_
    refine v_iret dX6_back_30 (by decide) (rfl) ?_
    have e7 : k = 7 := by omega
    subst e7
    exact ⟨by rw [hr, gsc_7 hf]; rfl, rfl⟩
  ·
    have hbk := hb (k + 1) (by omega) (by omega)
    refine v_iload_n 1 (pc' := 11) rfl dX6_back_10 rfl rfl ?_
    refine v_iload_n 2 (pc' := 12) rfl dX6_back_11 rfl rfl ?_
    refine v_iload_n 0 (pc' := 13) rfl dX6_back_12 rfl rfl ?_
    refine v_iload_n 2 (pc' := 14) rfl dX6_back_13 rfl rfl ?_
    refine v_cSP (pc' := 17) rfl dX6_back_14 lk_RX6_21 rfl (c_at l G hp (hf.B (by decide)) (x := k + 1) (by omega) (by omega) (by omega) w) rfl rfl rfl ?_
    refine v_nm (fun at1 hat1 => ?_)
    refine v_cSP (pc' := 20) rfl dX6_back_17 lk_RX6_18 rfl (c_shift l G w) rfl rfl rfl ?_
    refine v_nm (fun shift1 hshift1 => ?_)
    refine v_ishl (z := (((k + 1) * 2 ^ (28 - 4 * f (k + 1)) : Nat) : Int)) (pc' := 21) rfl dX6_back_20 (iz_shlE (n := k + 1) (by omega) (by omega) (by omega)) ?_
    refine v_ior (z := ((hx (gsc f pid (k + 1)) : Nat) : Int)) (pc' := 22) rfl dX6_back_21 (by rw [hr, iz_or]; exact congrArg (fun q : Nat => iz (q : Int)) (gsc_s hf (v := pid) (fun x _ h => by show x ≤ 15; omega) (by omega))) ?_
    refine v_nm (fun r' hr' => ?_)
    refine v_istore_n (ls' := [(1, _), (0, _), (2, _)]) (pc' := 23) rfl dX6_back_22 rfl rfl rfl ?_
    refine v_iinc (ls' := [(2, _), (1, _), (0, _)]) 2 (pc' := 26) rfl dX6_back_23 rfl rfl rfl ?_
    refine v_nl (fun x' hx' => ?_)
    refine v_goto (tgt := 4) dX6_back_26 (by decide) ?_
    refine v_ls [2, 1, 0] rfl ?_
    exact ih0 (r') (x') (⟨k + 1, by omega, by omega, hr'⟩) (by omega)
set_option maxHeartbeats 4000000 in
set_option maxRecDepth 100000 in
theorem c_faces (l : Launch) (G : Gx) {p q : Int} {f g : Nat → Nat} (hp : p = (hx f : Nat)) (hq : q = (hx g : Nat)) (hf : Pm 7 f) (hg : Pm 7 g) (w : Wd) : SpP l G 2 mX6_faces [aI (p), aI (q)] w (((hx (pface f g) : Nat) : Int)) := by
  refine Sp_of RX6 rfl (by decide +kernel) rfl (Nat.le_of_ble_eq_true rfl) ?_
  refine v_iload_n 0 (pc' := 1) rfl dX6_faces_0 rfl rfl ?_
  refine v_iload_n 1 (pc' := 2) rfl dX6_faces_1 rfl rfl ?_
  refine v_cSP (pc' := 5) rfl dX6_faces_2 lk_RX6_25 rfl (c_then l G hp hq (hf.b7 (by decide)) (hg.B (by decide)) w) rfl rfl rfl ?_
  refine v_nm (fun then1 hthen1 => ?_)
  refine v_cSP (pc' := 8) rfl dX6_faces_5 lk_RX6_28 rfl (c_back l G hthen1 (hf.comp hg) w) rfl rfl rfl ?_
  refine v_nm (fun back1 hback1 => ?_)
  refine v_iret dX6_faces_8 (by decide) (rfl) ?_
  exact ⟨hback1, rfl⟩
set_option maxHeartbeats 4000000 in
set_option maxRecDepth 100000 in
theorem c_relabelled (l : Launch) (G : Gx) {p r : Int} {f g : Nat → Nat} (hp : p = (hx f : Nat)) (hr0 : r = (hx g : Nat)) (hf : Pm 7 f) (hg : Pm 7 g) (w : Wd) : SpP l G 1 mX6_relabelled [aI (p), aI (r)] w (((hx (pconj f g) : Nat) : Int)) := by
  have hb := hf.b7 (by decide)
  have hc := hg.b7 (by decide)
  refine Sp_of RX6 rfl (by decide +kernel) rfl (Nat.le_of_ble_eq_true rfl) ?_
  refine v_iconst (pc' := 1) rfl dX6_relabelled_0 ?_
  refine v_istore_n (ls' := [(2, _), (0, _), (1, _)]) (pc' := 2) rfl dX6_relabelled_1 rfl rfl rfl ?_
  refine v_iconst (pc' := 3) rfl dX6_relabelled_2 ?_
  refine v_istore_n (ls' := [(3, _), (2, _), (0, _), (1, _)]) (pc' := 4) rfl dX6_relabelled_3 rfl rfl rfl ?_
  refine v_ls [2, 3, 1, 0] rfl ?_
  refine v_loop2 4 (fun (q : Int) (x : Int) => ∃ k : Nat, x = k + 1 ∧ k ≤ 7 ∧ q = (hx (gsc g (fun x => g (f x)) k) : Nat)) (fun (q : Int) (x : Int) => (8 - x).toNat) (fun (q : Int) (x : Int) => [(0, aI (p)), (1, aI (r)), (2, aI (q)), (3, aI (x))]) (fun (q : Int) (x : Int) => []) (fun (q : Int) (x : Int) => w) (fun q x hI0 ih0 => ?_) (0) (1) (⟨0, rfl, by omega, by rw [gsc_0 hg]; rfl⟩)
  obtain ⟨k, hk, hk7, hr⟩ := hI0
  refine v_iload_n 3 (pc' := 5) rfl dX6_relabelled_4 rfl rfl ?_
  refine v_bipush (pc' := 7) rfl dX6_relabelled_5 rfl ?_
  refine v_icmp_gt (pc' := 10) (tgt := 37) rfl dX6_relabelled_7 (by decide) (by omega) (by omega) (fun c0 => ?_) (fun c0 => ?_)
  ·
    refine v_iload_n 2 (pc' := 38) rfl dX6_relabelled_37 rfl rfl ?_
    refine v_iret dX6_relabelled_38 (by decide) (rfl) ?_
    have e7 : k = 7 := by omega
    subst e7
    exact ⟨by rw [hr, gsc_7 hg]; rfl, rfl⟩
  ·
    have hbk := hb (k + 1) (by omega) (by omega)
    have hck := hc (k + 1) (by omega) (by omega)
    have hdk := hc (f (k + 1)) hbk.1 hbk.2
    refine v_iload_n 2 (pc' := 11) rfl dX6_relabelled_10 rfl rfl ?_
    refine v_iload_n 1 (pc' := 12) rfl dX6_relabelled_11 rfl rfl ?_
    refine v_iload_n 0 (pc' := 13) rfl dX6_relabelled_12 rfl rfl ?_
    refine v_iload_n 3 (pc' := 14) rfl dX6_relabelled_13 rfl rfl ?_
    refine v_cSP (pc' := 17) rfl dX6_relabelled_14 lk_RX6_21 rfl (c_at l G hp (hf.B (by decide)) (x := k + 1) (by omega) (by omega) (by omega) w) rfl rfl rfl ?_
    refine v_nm (fun at1 hat1 => ?_)
    refine v_cSP (pc' := 20) rfl dX6_relabelled_17 lk_RX6_21 rfl (c_at l G hr0 (hg.B (by decide)) (x := f (k + 1)) (by omega) (by omega) (by omega) w) rfl rfl rfl ?_
    refine v_nm (fun at2 hat2 => ?_)
    refine v_iload_n 1 (pc' := 21) rfl dX6_relabelled_20 rfl rfl ?_
    refine v_iload_n 3 (pc' := 22) rfl dX6_relabelled_21 rfl rfl ?_
    refine v_cSP (pc' := 25) rfl dX6_relabelled_22 lk_RX6_21 rfl (c_at l G hr0 (hg.B (by decide)) (x := k + 1) (by omega) (by omega) (by omega) w) rfl rfl rfl ?_
    refine v_nm (fun at3 hat3 => ?_)
    refine v_cSP (pc' := 28) rfl dX6_relabelled_25 lk_RX6_18 rfl (c_shift l G w) rfl rfl rfl ?_
    refine v_nm (fun shift1 hshift1 => ?_)
    refine v_ishl (z := ((g (f (k + 1)) * 2 ^ (28 - 4 * g (k + 1)) : Nat) : Int)) (pc' := 29) rfl dX6_relabelled_28 (iz_shlE (n := g (f (k + 1))) (by omega) (by omega) (by omega)) ?_
    refine v_ior (z := ((hx (gsc g (fun x => g (f x)) (k + 1)) : Nat) : Int)) (pc' := 30) rfl dX6_relabelled_29 (by rw [hr, iz_or]; exact congrArg (fun q : Nat => iz (q : Int)) (gsc_s hg (v := fun x => g (f x)) (fun x a b => by have := hb x a b; have := hc _ this.1 this.2; show g (f x) ≤ 15; omega) (by omega))) ?_
    refine v_nm (fun q' hq' => ?_)
    refine v_istore_n (ls' := [(2, _), (0, _), (1, _), (3, _)]) (pc' := 31) rfl dX6_relabelled_30 rfl rfl rfl ?_
    refine v_iinc (ls' := [(3, _), (2, _), (0, _), (1, _)]) 3 (pc' := 34) rfl dX6_relabelled_31 rfl rfl rfl ?_
    refine v_nl (fun x' hx' => ?_)
    refine v_goto (tgt := 4) dX6_relabelled_34 (by decide) ?_
    refine v_ls [2, 3, 1, 0] rfl ?_
    exact ih0 (q') (x') (⟨k + 1, by omega, by omega, hq'⟩) (by omega)
theorem hx_sw2 {p : Nat → Nat} (hp : B7 p) {x y : Nat} (hx1 : 1 ≤ x) (hx2 : x ≤ 7) (hy1 : 1 ≤ y) (hy2 : y ≤ 7) : (hx p ^^^ ((p x ^^^ p y) * 2 ^ (28 - 4 * x))) ^^^ ((p x ^^^ p y) * 2 ^ (28 - 4 * y)) = hx (gsw p x y) := by
  by_cases h : x = y
  · subst h
    rw [Nat.xor_self, Nat.zero_mul, Nat.xor_zero, Nat.xor_zero]
    refine hx_congr (fun z _ _ => ?_)
    unfold gsw
    split
    · rename_i h; rw [h]
    · rfl
  · exact hx_sw hp hx1 hx2 hy1 hy2 h
theorem commB_iff (f g : Nat → Nat) : ∀ m, commB f g m = true ↔ ∀ x, 1 ≤ x → x ≤ m → g (f x) = f (g x)
  | 0 => by simp only [commB]; exact ⟨fun _ x a b => by omega, fun _ => trivial⟩
  | m + 1 => by
    simp only [commB, Bool.and_eq_true, beq_iff_eq, commB_iff f g m]
    constructor
    · intro h x a b
      by_cases q : x = m + 1
      · rw [q]; exact h.2
      · exact h.1 x a (by omega)
    · intro h; exact ⟨fun x a b => h x a (by omega), h (m + 1) (by omega) (Nat.le_refl _)⟩
theorem commB_no {f g : Nat → Nat} {m x : Nat} (h1 : 1 ≤ x) (h2 : x ≤ m) (h : g (f x) ≠ f (g x)) : commB f g m = false := by
  rw [Bool.eq_false_iff]; intro q; exact h ((commB_iff f g m).mp q x h1 h2)
set_option maxHeartbeats 4000000 in
set_option maxRecDepth 100000 in
theorem c_swapped (l : Launch) (G : Gx) {p i j : Int} {f : Nat → Nat} {x y : Nat} (hp : p = (hx f : Nat)) (hf : B7 f) (hi : i = x) (hj : j = y) (h1 : 1 ≤ x) (h2 : x ≤ 7) (h3 : 1 ≤ y) (h4 : y ≤ 7) (w : Wd) : SpP l G 1 mX6_swapped [aI (p), aI (i), aI (j)] w (((hx (gsw f x y) : Nat) : Int)) := by
  refine Sp_of RX6 rfl (by decide +kernel) rfl (Nat.le_of_ble_eq_true rfl) ?_
  refine v_iload_n 0 (pc' := 1) rfl dX6_swapped_0 rfl rfl ?_
  refine v_iload_n 1 (pc' := 2) rfl dX6_swapped_1 rfl rfl ?_
  refine v_cSP (pc' := 5) rfl dX6_swapped_2 lk_RX6_21 rfl (c_at l G hp hf (x := x) (by omega) (by omega) (by omega) w) rfl rfl rfl ?_
  refine v_nm (fun at1 hat1 => ?_)
  refine v_iload_n 0 (pc' := 6) rfl dX6_swapped_5 rfl rfl ?_
  refine v_iload_n 2 (pc' := 7) rfl dX6_swapped_6 rfl rfl ?_
  refine v_cSP (pc' := 10) rfl dX6_swapped_7 lk_RX6_21 rfl (c_at l G hp hf (x := y) (by omega) (by omega) (by omega) w) rfl rfl rfl ?_
  refine v_nm (fun at2 hat2 => ?_)
  refine v_ixor (z := ((f x ^^^ f y : Nat) : Int)) (pc' := 11) rfl dX6_swapped_10 (iz_xorE hat1 hat2) ?_
  refine v_nm (fun c' hc' => ?_)
  refine v_istore_n (ls' := [(3, _), (0, _), (1, _), (2, _)]) (pc' := 12) rfl dX6_swapped_11 rfl rfl rfl ?_
  refine v_iload_n 1 (pc' := 13) rfl dX6_swapped_12 rfl rfl ?_
  refine v_iload_n 0 (pc' := 14) rfl dX6_swapped_13 rfl rfl ?_
  refine v_iload_n 2 (pc' := 15) rfl dX6_swapped_14 rfl rfl ?_
  refine v_cSP (pc' := 18) rfl dX6_swapped_15 lk_RX6_18 rfl (c_shift l G w) rfl rfl rfl ?_
  refine v_nm (fun shift1 hshift1 => ?_)
  refine v_ishl (z := (((f x ^^^ f y) * 2 ^ (28 - 4 * x) : Nat) : Int)) (pc' := 19) rfl dX6_swapped_18 (iz_shlE hc' (by omega) (by omega)) ?_
  refine v_ixor (z := ((hx f ^^^ ((f x ^^^ f y) * 2 ^ (28 - 4 * x)) : Nat) : Int)) (pc' := 20) rfl dX6_swapped_19 (iz_xorE hp rfl) ?_
  refine v_iload_n 0 (pc' := 21) rfl dX6_swapped_20 rfl rfl ?_
  refine v_iload_n 3 (pc' := 22) rfl dX6_swapped_21 rfl rfl ?_
  refine v_cSP (pc' := 25) rfl dX6_swapped_22 lk_RX6_18 rfl (c_shift l G w) rfl rfl rfl ?_
  refine v_nm (fun shift2 hshift2 => ?_)
  refine v_ishl (z := (((f x ^^^ f y) * 2 ^ (28 - 4 * y) : Nat) : Int)) (pc' := 26) rfl dX6_swapped_25 (iz_shlE hc' (by omega) (by omega)) ?_
  refine v_ixor (z := ((hx (gsw f x y) : Nat) : Int)) (pc' := 27) rfl dX6_swapped_26 (by rw [← hx_sw2 hf h1 h2 h3 h4]; exact iz_xorE rfl rfl) ?_
  refine v_iret dX6_swapped_27 (by decide) (rfl) ?_
  exact ⟨rfl, rfl⟩
set_option maxHeartbeats 4000000 in
set_option maxRecDepth 100000 in
theorem c_swap (l : Launch) (G : Gx) {p q : Int} {f g : Nat → Nat} (hp : p = (hx f : Nat)) (hq : q = (hx g : Nat)) (hf : P7 f) (hg : P7 g) (w : Wd) : SpP l G 1 mX6_swap [aI (p), aI (q)] w ((if commB f g 7 then 1 else 0 : Int)) := by
  refine Sp_of RX6 rfl (by decide +kernel) rfl (Nat.le_of_ble_eq_true rfl) ?_
  refine v_iconst (pc' := 1) rfl dX6_swap_0 ?_
  refine v_istore_n (ls' := [(2, _), (0, _), (1, _)]) (pc' := 2) rfl dX6_swap_1 rfl rfl rfl ?_
  refine v_ls [1, 2, 0] rfl ?_
  refine v_loop1 2 (fun (x : Int) => ∃ k : Nat, x = k + 1 ∧ k ≤ 7 ∧ commB f g k = true) (fun (x : Int) => (8 - x).toNat) (fun (x : Int) => [(0, aI (p)), (1, aI (q)), (2, aI (x))]) (fun (x : Int) => []) (fun (x : Int) => w) (fun x hI0 ih0 => ?_) (1) (⟨0, rfl, by omega, rfl⟩)
  obtain ⟨k, hk, hk7, hr⟩ := hI0
  refine v_iload_n 2 (pc' := 3) rfl dX6_swap_2 rfl rfl ?_
  refine v_bipush (pc' := 5) rfl dX6_swap_3 rfl ?_
  refine v_icmp_gt (pc' := 8) (tgt := 37) rfl dX6_swap_5 (by decide) (by omega) (by omega) (fun c0 => ?_) (fun c0 => ?_)
  ·
    refine v_iconst (pc' := 38) rfl dX6_swap_37 ?_
    refine v_iret dX6_swap_38 (by decide) (rfl) ?_
    have e7 : k = 7 := by omega
    subst e7
    exact ⟨by rw [hr]; rfl, rfl⟩
  ·
    have hbk := hf (k + 1) (by omega) (by omega)
    have hck := hg (k + 1) (by omega) (by omega)
    have hdk := hg (f (k + 1)) hbk.1 hbk.2
    have hek := hf (g (k + 1)) hck.1 hck.2
    refine v_iload_n 1 (pc' := 9) rfl dX6_swap_8 rfl rfl ?_
    refine v_iload_n 0 (pc' := 10) rfl dX6_swap_9 rfl rfl ?_
    refine v_iload_n 2 (pc' := 11) rfl dX6_swap_10 rfl rfl ?_
    refine v_cSP (pc' := 14) rfl dX6_swap_11 lk_RX6_21 rfl (c_at l G hp hf.B (x := k + 1) (by omega) (by omega) (by omega) w) rfl rfl rfl ?_
    refine v_nm (fun at1 hat1 => ?_)
    refine v_cSP (pc' := 17) rfl dX6_swap_14 lk_RX6_21 rfl (c_at l G hq hg.B (x := f (k + 1)) (by omega) (by omega) (by omega) w) rfl rfl rfl ?_
    refine v_nm (fun at2 hat2 => ?_)
    refine v_iload_n 0 (pc' := 18) rfl dX6_swap_17 rfl rfl ?_
    refine v_iload_n 1 (pc' := 19) rfl dX6_swap_18 rfl rfl ?_
    refine v_iload_n 2 (pc' := 20) rfl dX6_swap_19 rfl rfl ?_
    refine v_cSP (pc' := 23) rfl dX6_swap_20 lk_RX6_21 rfl (c_at l G hq hg.B (x := k + 1) (by omega) (by omega) (by omega) w) rfl rfl rfl ?_
    refine v_nm (fun at3 hat3 => ?_)
    refine v_cSP (pc' := 26) rfl dX6_swap_23 lk_RX6_21 rfl (c_at l G hp hf.B (x := g (k + 1)) (by omega) (by omega) (by omega) w) rfl rfl rfl ?_
    refine v_nm (fun at4 hat4 => ?_)
    refine v_icmp_eq (pc' := 29) (tgt := 31) rfl dX6_swap_26 (by decide) (by omega) (by omega) (fun c1 => ?_) (fun c1 => ?_)
    ·
      refine v_iinc (ls' := [(2, _), (0, _), (1, _)]) 2 (pc' := 34) rfl dX6_swap_31 rfl rfl rfl ?_
      refine v_nl (fun x' hx' => ?_)
      refine v_goto (tgt := 2) dX6_swap_34 (by decide) ?_
      refine v_ls [1, 2, 0] rfl ?_
      have e : f (g (k + 1)) = g (f (k + 1)) := by omega
      exact ih0 (x') (⟨k + 1, by omega, by omega, by simp only [commB, hr, e, Bool.true_and, beq_self_eq_true]⟩) (by omega)
    ·
      have hno : commB f g 7 = false := commB_no (x := k + 1) (by omega) (by omega) (by omega)
      refine v_iconst (pc' := 30) rfl dX6_swap_29 ?_
      refine v_iret dX6_swap_30 (by decide) (rfl) ?_
      exact ⟨by rw [hno]; rfl, rfl⟩
set_option maxHeartbeats 4000000 in
set_option maxRecDepth 100000 in
theorem c_digits (l : Launch) (G : Gx) {p i : Int} {f : Nat → Nat} {n : Nat} (hp : p = (hx f : Nat)) (hf : B7 f) (hi : i = n) (hn : n ≤ 7) (w : Wd) : SpP l G 1 mX6_digits [aI (p), aI (i)] w (((cdk f n : Nat) : Int)) := by
  refine Sp_of RX6 rfl (by decide +kernel) rfl (Nat.le_of_ble_eq_true rfl) ?_
  refine v_iconst (pc' := 1) rfl dX6_digits_0 ?_
  refine v_istore_n (ls' := [(2, _), (0, _), (1, _)]) (pc' := 2) rfl dX6_digits_1 rfl rfl rfl ?_
  refine v_iconst (pc' := 3) rfl dX6_digits_2 ?_
  refine v_istore_n (ls' := [(3, _), (2, _), (0, _), (1, _)]) (pc' := 4) rfl dX6_digits_3 rfl rfl rfl ?_
  refine v_ls [2, 3, 1, 0] rfl ?_
  refine v_loop2 4 (fun (r : Int) (x : Int) => ∃ k : Nat, x = k + 1 ∧ k ≤ n ∧ r = (cdk f k : Nat)) (fun (r : Int) (x : Int) => (8 - x).toNat) (fun (r : Int) (x : Int) => [(0, aI (p)), (1, aI (i)), (2, aI (r)), (3, aI (x))]) (fun (r : Int) (x : Int) => []) (fun (r : Int) (x : Int) => w) (fun r x hI0 ih0 => ?_) (0) (1) (⟨0, rfl, by omega, rfl⟩)
  obtain ⟨k, hk, hk7, hr⟩ := hI0
  refine v_iload_n 3 (pc' := 5) rfl dX6_digits_4 rfl rfl ?_
  refine v_iload_n 1 (pc' := 6) rfl dX6_digits_5 rfl rfl ?_
  refine v_icmp_gt (pc' := 9) (tgt := 26) rfl dX6_digits_6 (by decide) (by omega) (by omega) (fun c0 => ?_) (fun c0 => ?_)
  ·
    refine v_iload_n 2 (pc' := 27) rfl dX6_digits_26 rfl rfl ?_
    refine v_iret dX6_digits_27 (by decide) (rfl) ?_
    have e7 : k = n := by omega
    subst e7
    exact ⟨hr, rfl⟩
  ·
    refine v_bipush (pc' := 11) rfl dX6_digits_9 rfl ?_
    refine v_iload_n 2 (pc' := 12) rfl dX6_digits_11 rfl rfl ?_
    refine v_imul (pc' := 13) rfl dX6_digits_12 ?_
    refine v_iload_n 0 (pc' := 14) rfl dX6_digits_13 rfl rfl ?_
    refine v_iload_n 3 (pc' := 15) rfl dX6_digits_14 rfl rfl ?_
    refine v_cSP (pc' := 18) rfl dX6_digits_15 lk_RX6_21 rfl (c_at l G hp hf (x := k + 1) (by omega) (by omega) (by omega) w) rfl rfl rfl ?_
    refine v_nm (fun at1 hat1 => ?_)
    refine v_iadd (pc' := 19) rfl dX6_digits_18 ?_
    refine v_nm (fun r' hr' => ?_)
    refine v_istore_n (ls' := [(2, _), (0, _), (1, _), (3, _)]) (pc' := 20) rfl dX6_digits_19 rfl rfl rfl ?_
    refine v_iinc (ls' := [(3, _), (2, _), (0, _), (1, _)]) 3 (pc' := 23) rfl dX6_digits_20 rfl rfl rfl ?_
    refine v_nl (fun x' hx' => ?_)
    refine v_goto (tgt := 4) dX6_digits_23 (by decide) ?_
    refine v_ls [2, 3, 1, 0] rfl ?_
    exact ih0 (r') (x') (⟨k + 1, by omega, by omega, by simp only [cdk]; omega⟩) (by omega)
set_option maxHeartbeats 4000000 in
set_option maxRecDepth 100000 in
theorem c_ring (l : Launch) (G : Gx) {p i0 : Int} {f : Nat → Nat} {x : Nat} (hp : p = (hx f : Nat)) (hf : P7 f) (hi0 : i0 = x) (h1 : 1 ≤ x) (h2 : x ≤ 7) (w : Wd) : SpP l G 1 mX6_ring [aI (p), aI (i0)] w (((ringN f x : Nat) : Int)) := by
  refine Sp_of RX6 rfl (by decide +kernel) rfl (Nat.le_of_ble_eq_true rfl) ?_
  refine v_iconst (pc' := 1) rfl dX6_ring_0 ?_
  refine v_istore_n (ls' := [(2, _), (0, _), (1, _)]) (pc' := 2) rfl dX6_ring_1 rfl rfl rfl ?_
  refine v_iload_n 2 (pc' := 3) rfl dX6_ring_2 rfl rfl ?_
  refine v_istore_n (ls' := [(3, _), (2, _), (0, _), (1, _)]) (pc' := 4) rfl dX6_ring_3 rfl rfl rfl ?_
  refine v_iconst (pc' := 5) rfl dX6_ring_4 ?_
  refine v_istore (ls' := [(4, _), (3, _), (2, _), (0, _), (1, _)]) (pc' := 7) rfl dX6_ring_5 rfl rfl ?_
  refine v_ls [3, 4, 2, 1, 0] rfl ?_
  refine v_loop3 7 (fun (set : Int) (y : Int) (i : Int) => ∃ k sN yN : Nat, (i + k = 7 ∧ 0 ≤ i) ∧ set = sN ∧ y = yN ∧ sN < 128 ∧ 1 ≤ yN ∧ yN ≤ 7 ∧ ringL f k sN yN = ringN f x) (fun (set : Int) (y : Int) (i : Int) => (7 - i).toNat) (fun (set : Int) (y : Int) (i : Int) => [(0, aI (p)), (1, aI (i0)), (2, aI (set)), (3, aI (y)), (4, aI (i))]) (fun (set : Int) (y : Int) (i : Int) => []) (fun (set : Int) (y : Int) (i : Int) => w) (fun set y i hI0 ih0 => ?_) (0) (i0) (0) (⟨7, 0, x, by omega, rfl, hi0, by omega, h1, h2, rfl⟩)
  obtain ⟨k, sN, yN, hik, hset, hy, hs, hy1, hy2, hR⟩ := hI0
  refine v_iload 4 (pc' := 9) rfl dX6_ring_7 rfl ?_
  refine v_bipush (pc' := 11) rfl dX6_ring_9 rfl ?_
  refine v_icmp_ge (pc' := 14) (tgt := 42) rfl dX6_ring_11 (by decide) (by omega) (by omega) (fun c0 => ?_) (fun c0 => ?_)
  ·
    have hret : ringN f x = sN := by rw [← hR, show k = 0 by omega]; rfl
    refine v_iload_n 2 (pc' := 43) rfl dX6_ring_42 rfl rfl ?_
    refine v_iret dX6_ring_43 (by decide) (rfl) ?_
    exact ⟨by rw [hset, hret], rfl⟩
  ·
    obtain ⟨k, rfl⟩ : ∃ j, k = j + 1 := ⟨k - 1, by omega⟩
    refine v_iload_n 2 (pc' := 15) rfl dX6_ring_14 rfl rfl ?_
    refine v_iload_n 3 (pc' := 16) rfl dX6_ring_15 rfl rfl ?_
    refine v_cSP (pc' := 19) rfl dX6_ring_16 lk_RX6_34 rfl (c_bit l G hy (by omega) (by omega) w) rfl rfl rfl ?_
    refine v_nm (fun bit1 hbit1 => ?_)
    refine v_iand (z := ((sN &&& bt yN : Nat) : Int)) (pc' := 20) rfl dX6_ring_19 (iz_andE hset hbit1) ?_
    refine v_if_ne (pc' := 23) (tgt := 42) rfl dX6_ring_20 (by decide) (by have := and_lt7 (b := bt yN) hs; omega) (fun c1 => ?_) (fun c1 => ?_)
    ·
      have hret : ringN f x = sN := by rw [← hR]; simp only [ringL]; rw [if_neg (by omega)]
      refine v_iload_n 2 (pc' := 43) rfl dX6_ring_42 rfl rfl ?_
      refine v_iret dX6_ring_43 (by decide) (rfl) ?_
      exact ⟨by rw [hset, hret], rfl⟩
    ·
      have hz : sN &&& bt yN = 0 := by omega
      refine v_iload_n 2 (pc' := 24) rfl dX6_ring_23 rfl rfl ?_
      refine v_iload_n 3 (pc' := 25) rfl dX6_ring_24 rfl rfl ?_
      refine v_cSP (pc' := 28) rfl dX6_ring_25 lk_RX6_34 rfl (c_bit l G hy (by omega) (by omega) w) rfl rfl rfl ?_
      refine v_nm (fun bit2 hbit2 => ?_)
      refine v_ior (z := ((sN ||| bt yN : Nat) : Int)) (pc' := 29) rfl dX6_ring_28 (iz_orE hset hbit2) ?_
      refine v_nm (fun set' hset' => ?_)
      refine v_istore_n (ls' := [(2, _), (0, _), (1, _), (3, _), (4, _)]) (pc' := 30) rfl dX6_ring_29 rfl rfl rfl ?_
      refine v_iload_n 1 (pc' := 31) rfl dX6_ring_30 rfl rfl ?_
      refine v_iload_n 3 (pc' := 32) rfl dX6_ring_31 rfl rfl ?_
      refine v_cSP (pc' := 35) rfl dX6_ring_32 lk_RX6_21 rfl (c_at l G hp hf.B (x := yN) (by omega) (by omega) (by omega) w) rfl rfl rfl ?_
      refine v_nm (fun at1 hat1 => ?_)
      refine v_istore_n (ls' := [(3, _), (2, _), (0, _), (1, _), (4, _)]) (pc' := 36) rfl dX6_ring_35 rfl rfl rfl ?_
      refine v_iinc (ls' := [(4, _), (3, _), (2, _), (0, _), (1, _)]) 4 (pc' := 39) rfl dX6_ring_36 rfl rfl rfl ?_
      refine v_nl (fun i' hi' => ?_)
      refine v_goto (tgt := 7) dX6_ring_39 (by decide) ?_
      refine v_ls [3, 4, 2, 1, 0] rfl ?_
      exact ih0 (set') (at1) (i') (⟨k, sN ||| bt yN, f yN, by omega, hset', by omega, or_lt7 hs (bt_lt hy1 hy2), (hf yN hy1 hy2).1, (hf yN hy1 hy2).2, by rw [← hR]; simp only [ringL]; rw [if_pos hz]⟩) (by omega)

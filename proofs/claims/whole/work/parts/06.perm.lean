set_option maxHeartbeats 4000000 in
set_option maxRecDepth 100000 in
theorem c_shift (l : Launch) (G : Gx) (x : Int) (w : Wd) : SpP l G 0 mX6_shift [aI x] w (28 - 4 * x) := by
  refine Sp_of RX6 rfl (by decide +kernel) rfl (Nat.le_of_ble_eq_true rfl) ?_
  refine v_bipush (pc' := 2) rfl dX6_shift_0 rfl ?_
  refine v_iconst (pc' := 3) rfl dX6_shift_2 ?_
  refine v_iload_n 0 (pc' := 4) rfl dX6_shift_3 rfl rfl ?_
  refine v_imul (pc' := 5) rfl dX6_shift_4 ?_
  refine v_isub (pc' := 6) rfl dX6_shift_5 ?_
  refine v_iret dX6_shift_6 (by decide) rfl ?_
  exact ⟨rfl, rfl⟩
set_option maxHeartbeats 4000000 in
set_option maxRecDepth 100000 in
theorem c_bit (l : Launch) (G : Gx) (x : Nat) (h1 : 1 ≤ x) (h2 : x ≤ 31) (w : Wd) : SpP l G 0 mX6_bit [aI x] w (((2 ^ (x - 1) : Nat) : Int)) := by
  refine Sp_of RX6 rfl (by decide +kernel) rfl (Nat.le_of_ble_eq_true rfl) ?_
  refine v_iconst (pc' := 1) rfl dX6_bit_0 ?_
  refine v_iload_n 0 (pc' := 2) rfl dX6_bit_1 rfl rfl ?_
  refine v_iconst (pc' := 3) rfl dX6_bit_2 ?_
  refine v_isub (pc' := 4) rfl dX6_bit_3 ?_
  refine v_ishl (z := ((2 ^ (x - 1) : Nat) : Int)) (pc' := 5) rfl dX6_bit_4 (by have := iz_shlE (a := 1) (b := (x : Int) - 1) (n := 1) (k := x - 1) rfl (by omega) (by omega); rw [Nat.one_mul] at this; exact this) ?_
  refine v_iret dX6_bit_5 (by decide) rfl ?_
  exact ⟨rfl, rfl⟩
set_option maxHeartbeats 4000000 in
set_option maxRecDepth 100000 in
theorem c_at (l : Launch) (G : Gx) {f : Nat → Nat} (hf : B7 f) {x : Nat} (h1 : 1 ≤ x) (h2 : x ≤ 7) (w : Wd) : SpP l G 0 mX6_at [aI (hx f), aI x] w ((f x : Int)) := by
  refine Sp_of RX6 rfl (by decide +kernel) rfl (Nat.le_of_ble_eq_true rfl) ?_
  refine v_iload_n 0 (pc' := 1) rfl dX6_at_0 rfl rfl ?_
  refine v_bipush (pc' := 3) rfl dX6_at_1 rfl ?_
  refine v_iconst (pc' := 4) rfl dX6_at_3 ?_
  refine v_iload_n 1 (pc' := 5) rfl dX6_at_4 rfl rfl ?_
  refine v_imul (pc' := 6) rfl dX6_at_5 ?_
  refine v_isub (pc' := 7) rfl dX6_at_6 ?_
  refine v_ishr (z := ((hx f / 2 ^ (28 - 4 * x) : Nat) : Int)) (pc' := 8) rfl dX6_at_7 (iz_shrE rfl (by omega) (by have := hx_lt hf; omega) (by omega)) ?_
  refine v_bipush (pc' := 10) rfl dX6_at_8 rfl ?_
  refine v_iand (z := (f x : Int)) (pc' := 11) rfl dX6_at_10 (by rw [show (7 : Int) = ((7 : Nat) : Int) from rfl, iz_and, iz_and7, hx_at hf h1 h2]) ?_
  refine v_iret dX6_at_11 (by decide) rfl ?_
  exact ⟨rfl, rfl⟩
theorem or_lo {a b : Nat} (k : Nat) (h : b < 2 ^ k) : (a * 2 ^ k) ||| b = a * 2 ^ k + b := by
  rw [Nat.mul_comm, ← Nat.two_pow_add_eq_or_of_lt h]
theorem hxk_lt {f : Nat → Nat} (hf : B7 f) : ∀ k, k ≤ 7 → hxk f k < 16 ^ k
  | 0, _ => by decide
  | k + 1, h => by
    have a := hxk_lt hf k (by omega)
    have b := hf (k + 1) (by omega) h
    simp only [hxk, Nat.pow_succ]
    omega
theorem hxk_le {f : Nat → Nat} (hf : B7 f) {k : Nat} (h : k ≤ 7) : hxk f k < 268435456 := by
  have a := hxk_lt hf k h
  have b : 16 ^ k ≤ 16 ^ 7 := Nat.pow_le_pow_right (by decide) h
  have : (16 : Nat) ^ 7 = 268435456 := by decide
  omega
theorem iz_hxs {f : Nat → Nat} (hf : B7 f) {k : Nat} (h : k + 1 ≤ 7) : iz ((hxk f k * 16 : Nat) : Int) ||| iz (f (k + 1) : Int) = iz ((hxk f (k + 1) : Nat) : Int) := by
  have b := hf (k + 1) (by omega) h
  rw [iz_or, show (16 : Nat) = 2 ^ 4 from rfl, or_lo 4 (by omega)]
  simp only [hxk]
  congr 2
  omega
set_option maxHeartbeats 4000000 in
set_option maxRecDepth 100000 in
theorem c_then (l : Launch) (G : Gx) {f g : Nat → Nat} (hf : B7 f) (hg : B7 g) (hf1 : ∀ x, 1 ≤ x → x ≤ 7 → 1 ≤ f x) (w : Wd) : SpP l G 1 mX6_then [aI (hx f), aI (hx g)] w (((hx (fun x => g (f x)) : Nat) : Int)) := by
  refine Sp_of RX6 rfl (by decide +kernel) rfl (Nat.le_of_ble_eq_true rfl) ?_
  refine v_iconst (pc' := 1) rfl dX6_then_0 ?_
  refine v_istore_n (ls' := [(2, _), (0, _), (1, _)]) (pc' := 2) rfl dX6_then_1 rfl rfl rfl ?_
  refine v_iconst (pc' := 3) rfl dX6_then_2 ?_
  refine v_istore_n (ls' := [(3, _), (2, _), (0, _), (1, _)]) (pc' := 4) rfl dX6_then_3 rfl rfl rfl ?_
  refine v_ls [2, 3, 1, 0] rfl ?_
  refine v_loop2 4 (fun (x : Nat) (r : Int) => x ≤ 7 ∧ r = hxk (fun x => g (f x)) x) (fun x _ => 7 - x) (fun x r => [(0, aI (hx f)), (1, aI (hx g)), (2, aI r), (3, aI ((x : Int) + 1))]) (fun _ _ => []) (fun _ _ => w) (fun x r hI ih => ?_) 0 0 ⟨by omega, rfl⟩
  refine v_iload_n 3 (pc' := 5) rfl dX6_then_4 rfl rfl ?_
  refine v_bipush (pc' := 7) rfl dX6_then_5 rfl ?_
  refine v_icmp_gt (pc' := 10) (tgt := 30) rfl dX6_then_7 (by decide) (by omega) (by omega) (fun c_7 => ?_) (fun c_7 => ?_)
  ·
    obtain ⟨h1, rfl⟩ := hI
    have h2 : x = 7 := by omega
    subst h2
    refine v_iload_n 2 (pc' := 31) rfl dX6_then_30 rfl rfl ?_
    refine v_iret dX6_then_31 (by decide) rfl ?_
    exact ⟨rfl, rfl⟩
  ·
    have hb : B7 (fun x => g (f x)) := fun x a b => hg _ (hf1 x a b) (hf x a b)
    obtain ⟨h1, rfl⟩ := hI
    refine v_iload_n 2 (pc' := 11) rfl dX6_then_10 rfl rfl ?_
    refine v_iconst (pc' := 12) rfl dX6_then_11 ?_
    refine v_ishl (z := ((hxk (fun x => g (f x)) x * 16 : Nat) : Int)) (pc' := 13) rfl dX6_then_12 (iz_shlE (k := 4) rfl rfl (by decide)) ?_
    refine v_iload_n 1 (pc' := 14) rfl dX6_then_13 rfl rfl ?_
    refine v_iload_n 0 (pc' := 15) rfl dX6_then_14 rfl rfl ?_
    refine v_iload_n 3 (pc' := 16) rfl dX6_then_15 rfl rfl ?_
    refine v_cSP (pc' := 19) rfl dX6_then_16 lk_RX6_21 rfl (c_at l G hf (x := x + 1) (by omega) (by omega) w) rfl rfl rfl ?_
    refine v_cSP (pc' := 22) rfl dX6_then_19 lk_RX6_21 rfl (c_at l G hg (x := f (x + 1)) (hf1 _ (by omega) (by omega)) (hf _ (by omega) (by omega)) w) rfl rfl rfl ?_
    refine v_ior (z := ((hxk (fun x => g (f x)) (x + 1) : Nat) : Int)) (pc' := 23) rfl dX6_then_22 (iz_hxs hb (by omega)) ?_
    refine v_istore_n (ls' := [(2, _), (0, _), (1, _), (3, _)]) (pc' := 24) rfl dX6_then_23 rfl rfl rfl ?_
    refine v_iinc (ls' := [(3, _), (2, _), (0, _), (1, _)]) 3 (pc' := 27) rfl dX6_then_24 rfl rfl rfl ?_
    refine v_goto (tgt := 4) dX6_then_27 (by decide) ?_
    refine v_ls [2, 3, 1, 0] rfl ?_
    exact ih (x + 1) _ ⟨by omega, rfl⟩ (by omega)
set_option maxHeartbeats 4000000 in
set_option maxRecDepth 100000 in
theorem c_digits (l : Launch) (G : Gx) {f : Nat → Nat} {n : Nat} (hf : B7 f) (hn : n ≤ 7) (w : Wd) : SpP l G 1 mX6_digits [aI (hx f), aI n] w (((cdk f n : Nat) : Int)) := by
  refine Sp_of RX6 rfl (by decide +kernel) rfl (Nat.le_of_ble_eq_true rfl) ?_
  refine v_iconst (pc' := 1) rfl dX6_digits_0 ?_
  refine v_istore_n (ls' := [(2, _), (0, _), (1, _)]) (pc' := 2) rfl dX6_digits_1 rfl rfl rfl ?_
  refine v_iconst (pc' := 3) rfl dX6_digits_2 ?_
  refine v_istore_n (ls' := [(3, _), (2, _), (0, _), (1, _)]) (pc' := 4) rfl dX6_digits_3 rfl rfl rfl ?_
  refine v_ls [2, 3, 1, 0] rfl ?_
  refine v_loop2 4 (fun (x : Nat) (r : Int) => x ≤ n ∧ r = cdk f x) (fun x _ => 7 - x) (fun x r => [(0, aI (hx f)), (1, aI n), (2, aI r), (3, aI ((x : Int) + 1))]) (fun _ _ => []) (fun _ _ => w) (fun x r hI ih => ?_) 0 0 ⟨by omega, rfl⟩
  refine v_iload_n 3 (pc' := 5) rfl dX6_digits_4 rfl rfl ?_
  refine v_iload_n 1 (pc' := 6) rfl dX6_digits_5 rfl rfl ?_
  refine v_icmp_gt (pc' := 9) (tgt := 26) rfl dX6_digits_6 (by decide) (by omega) (by omega) (fun c_6 => ?_) (fun c_6 => ?_)
  ·
    obtain ⟨h1, rfl⟩ := hI
    have h2 : x = n := by omega
    subst h2
    refine v_iload_n 2 (pc' := 27) rfl dX6_digits_26 rfl rfl ?_
    refine v_iret dX6_digits_27 (by decide) rfl ?_
    exact ⟨rfl, rfl⟩
  ·
    obtain ⟨h1, rfl⟩ := hI
    refine v_bipush (pc' := 11) rfl dX6_digits_9 rfl ?_
    refine v_iload_n 2 (pc' := 12) rfl dX6_digits_11 rfl rfl ?_
    refine v_imul (pc' := 13) rfl dX6_digits_12 ?_
    refine v_iload_n 0 (pc' := 14) rfl dX6_digits_13 rfl rfl ?_
    refine v_iload_n 3 (pc' := 15) rfl dX6_digits_14 rfl rfl ?_
    refine v_cSP (pc' := 18) rfl dX6_digits_15 lk_RX6_21 rfl (c_at l G hf (x := x + 1) (by omega) (by omega) w) rfl rfl rfl ?_
    refine v_iadd (pc' := 19) rfl dX6_digits_18 ?_
    refine v_istore_n (ls' := [(2, _), (0, _), (1, _), (3, _)]) (pc' := 20) rfl dX6_digits_19 rfl rfl rfl ?_
    refine v_iinc (ls' := [(3, _), (2, _), (0, _), (1, _)]) 3 (pc' := 23) rfl dX6_digits_20 rfl rfl rfl ?_
    refine v_goto (tgt := 4) dX6_digits_23 (by decide) ?_
    refine v_ls [2, 3, 1, 0] rfl ?_
    exact ih (x + 1) _ ⟨by omega, by simp only [cdk]; omega⟩ (by omega)

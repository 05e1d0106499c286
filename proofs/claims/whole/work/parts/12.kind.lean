/-! ===== the methods of Kind ===== -/
def FRST (k : Nat) : Int := SFIRST.getD k 0
def kmany (n : Nat) : Nat := [0, 1, 2, 3, 5, 7, 11, 15].getD n 0
def kT (n i : Nat) : Nat := if i < kmany n then (SLIST.getD ((FRST n).toNat + i) 0).toNat else 0
def facN (n : Nat) : Nat := [1, 1, 2, 6, 24, 120, 720, 5040].getD n 0
theorem frst_ok : ∀ n : Nat, n < 8 → 0 ≤ FRST n ∧ FRST n + kmany n ≤ 44 ∧ (1 ≤ n → FRST (n + 1) - FRST n = kmany n ∧ kmany n ≤ 15) := by decide +kernel
theorem slist_ok : ∀ i : Nat, i < 44 → 1 ≤ SLIST.getD i 0 ∧ SLIST.getD i 0 ≤ 1111111 := by decide +kernel
theorem kT_le {n i : Nat} (hn : n ≤ 7) (hi : i < kmany n) : 1 ≤ kT n i ∧ kT n i ≤ 1111111 := by
  have a := frst_ok n (by omega)
  have b := slist_ok ((FRST n).toNat + i) (by omega)
  unfold kT; rw [if_pos hi]; omega
theorem kT_of {n i : Nat} (hn : n ≤ 7) (hi : i < kmany n) : SLIST.getD ((FRST n).toNat + i) 0 = (kT n i : Int) := by
  have a := frst_ok n (by omega)
  have b := slist_ok ((FRST n).toNat + i) (by omega)
  unfold kT; rw [if_pos hi]; omega
def KX (n : Nat) (t z : Int) : Prop := (z = -1 ∧ ∀ i, i < kmany n → (kT n i : Int) ≠ t) ∨ ∃ i : Nat, z = i ∧ i < kmany n ∧ (kT n i : Int) = t ∧ ∀ j, j < i → (kT n j : Int) ≠ t
def ptsL : Nat → Nat → Nat → Nat
  | 0, _, m => m
  | k + 1, rest, m => if rest = 0 then m else ptsL k (rest / 10) (m + 1)
def partsT (t : Nat) : Nat := ptsL 7 t 0
def memL : Nat → Nat → Nat → Nat → Nat → Nat
  | 0, _, fx, _, _ => fx
  | k + 1, rest, fx, bf, run => if rest = 0 then fx else memL k (rest / 10) (fx * ((rest % 10) * (if rest % 10 = bf then run + 1 else 1))) (rest % 10) (if rest % 10 = bf then run + 1 else 1)
def fixT (t : Nat) : Nat := memL 7 t 1 0 0
def membersN (t n : Nat) : Nat := facN n / fixT t
def tensL : Nat → Nat → Nat → Nat
  | 0, _, tens => tens
  | k + 1, t, tens => if t / tens < 10 then tens else tensL k t (tens * 10)
def stS (F : Nat → Int) (beads boxes : Nat) : Nat → Nat → Int → Int
  | 0, _, sum => sum
  | m + 1, f, sum => if beads / 2 ^ f % 2 = 1 then (if beads / 2 ^ (f - boxes) % 2 = 0 then
      stS F beads boxes m (f + 1) (sum + (if popc ((beads % 2 ^ f) / 2 ^ (f - boxes) * 2 ^ (f - boxes)) % 2 = 0 then F ((beads ^^^ 2 ^ f) ^^^ 2 ^ (f - boxes)) else -F ((beads ^^^ 2 ^ f) ^^^ 2 ^ (f - boxes))))
      else stS F beads boxes m (f + 1) sum) else stS F beads boxes m (f + 1) sum
def strN : Nat → Nat → Nat → Int
  | 0, _, _ => 1
  | k + 1, beads, t => if t = 0 then 1 else stS (fun b => strN k b (t % tensL 10 t 1)) beads (t / tensL 10 t 1) (14 - t / tensL 10 t 1) (t / tensL 10 t 1) 0
def vbL : Nat → Nat → Nat → Nat → Nat
  | 0, _, b, _ => b
  | k + 1, rest, b, row => if rest = 0 then b else vbL k (rest / 10) (b ||| 2 ^ (rest % 10 + row)) (row + 1)
def valN (p t : Nat) : Int := strN 7 (vbL 7 p 0 0) t
theorem and_1 (m : Nat) : m &&& 1 = m % 2 := Nat.and_one_is_mod m
theorem iz_and1 {a : Int} {m : Nat} (ha : a = m) : iz a &&& iz 1 = iz ((m % 2 : Nat) : Int) := by rw [ha, show (1 : Int) = ((1 : Nat) : Int) from rfl, iz_and, and_1]
theorem iz_andlow {a b : Int} {m k : Nat} (ha : a = m) (hb : b = (2 ^ k : Nat) - 1) : iz a &&& iz b = iz ((m % 2 ^ k : Nat) : Int) := by
  have h := Nat.two_pow_pos k
  rw [ha, hb, show (((2 ^ k : Nat) : Int) - 1) = ((2 ^ k - 1 : Nat) : Int) by omega, iz_and, Nat.and_two_pow_sub_one_eq_mod]
theorem iz_one_shl {b : Int} {k : Nat} (hb : b = k) (hk : k < 32) : iz 1 <<< (iz b &&& 31) = iz ((2 ^ k : Nat) : Int) := by
  have := iz_shlE (a := 1) (b := b) (n := 1) (k := k) rfl hb hk
  rw [Nat.one_mul] at this; exact this
theorem xor_lt14 {a k : Nat} (ha : a < 16384) (hk : k < 14) : a ^^^ 2 ^ k < 16384 := Nat.xor_lt_two_pow (n := 14) ha (Nat.pow_lt_pow_right (by decide) hk)
theorem mask_lt {a f k : Nat} (ha : a < 16384) : a % 2 ^ f / 2 ^ k * 2 ^ k < 16384 := Nat.lt_of_le_of_lt (Nat.div_mul_le_self _ _) (Nat.lt_of_le_of_lt (Nat.mod_le _ _) ha)
theorem popc_le14 (s : Nat) : popc s ≤ 14 := by
  have : ∀ k n, popcF k n ≤ k := by
    intro k
    induction k with
    | zero => intro n; exact Nat.le_refl _
    | succ k ih => intro n; simp only [popcF]; have := ih (n / 2); omega
  exact this 14 s
set_option maxHeartbeats 4000000 in
set_option maxRecDepth 100000 in
theorem c_many (l : Launch) (G : Gx) {n0 : Int} {n : Nat} (hn : n0 = n) (hn1 : 1 ≤ n) (hn7 : n ≤ 7) (w : Wd) : SpP l G 0 mX5_many [aI (n0)] w ((kmany n : Int)) := by
  have hf := (frst_ok n (by omega)).2.2 hn1
  refine Sp_of RX5 rfl (by decide +kernel) rfl (Nat.le_of_ble_eq_true rfl) ?_
  refine v_iload_n 0 (pc' := 1) rfl dX5_many_0 rfl rfl ?_
  refine v_iconst (pc' := 2) rfl dX5_many_1 ?_
  refine v_icmp_lt (pc' := 5) (tgt := 11) rfl dX5_many_2 (by decide) (by omega) (by omega) (fun c0 => absurd c0 (by omega)) (fun c0 => ?_)
  refine v_iload_n 0 (pc' := 6) rfl dX5_many_5 rfl rfl ?_
  refine v_bipush (pc' := 8) rfl dX5_many_6 rfl ?_
  refine v_icmp_le (pc' := 11) (tgt := 15) rfl dX5_many_8 (by decide) (by omega) (by omega) (fun c1 => ?_) (fun c1 => absurd c1 (by omega))
  refine v_gets (pc' := 18) rfl dX5_many_15 fs_RX5_9 ?_
  refine v_iload_n 0 (pc' := 19) rfl dX5_many_18 rfl rfl ?_
  refine v_iconst (pc' := 20) rfl dX5_many_19 ?_
  refine v_iadd (pc' := 21) rfl dX5_many_20 ?_
  refine v_sald (z := FRST (n + 1)) (pc' := 22) rfl dX5_many_21 (by decide) (by omega) (by show n0 + 1 < 9; omega) rfl (by rw [show (n0 + 1).toNat = n + 1 by omega]; rfl) ?_
  refine v_gets (pc' := 25) rfl dX5_many_22 fs_RX5_9 ?_
  refine v_iload_n 0 (pc' := 26) rfl dX5_many_25 rfl rfl ?_
  refine v_sald (z := FRST n) (pc' := 27) rfl dX5_many_26 (by decide) (by omega) (by show n0 < 9; omega) rfl (by rw [show n0.toNat = n by omega]; rfl) ?_
  refine v_isub (pc' := 28) rfl dX5_many_27 ?_
  refine v_iret dX5_many_28 (by decide) (rfl) ?_
  exact ⟨hf.1, rfl⟩
set_option maxHeartbeats 4000000 in
set_option maxRecDepth 100000 in
theorem c_nth (l : Launch) (G : Gx) {n0 i0 : Int} {n i : Nat} (hn : n0 = n) (hn1 : 1 ≤ n) (hn7 : n ≤ 7) (hi : i0 = i) (hi2 : i < kmany n) (w : Wd) : SpP l G 1 mX5_nth [aI (n0), aI (i0)] w ((kT n i : Int)) := by
  have hf := frst_ok n (by omega)
  have hm := (hf.2.2 hn1).2
  refine Sp_of RX5 rfl (by decide +kernel) rfl (Nat.le_of_ble_eq_true rfl) ?_
  refine v_iload_n 1 (pc' := 1) rfl dX5_nth_0 rfl rfl ?_
  refine v_if_lt (pc' := 4) (tgt := 12) rfl dX5_nth_1 (by decide) (by omega) (fun c0 => absurd c0 (by omega)) (fun c0 => ?_)
  refine v_iload_n 1 (pc' := 5) rfl dX5_nth_4 rfl rfl ?_
  refine v_iload_n 0 (pc' := 6) rfl dX5_nth_5 rfl rfl ?_
  refine v_cSP (pc' := 9) rfl dX5_nth_6 lk_RX5_15 rfl (c_many l G hn hn1 hn7 w) rfl rfl rfl ?_
  refine v_nm (fun many1 hmany1 => ?_)
  refine v_icmp_lt (pc' := 12) (tgt := 16) rfl dX5_nth_9 (by decide) (by omega) (by omega) (fun c1 => ?_) (fun c1 => absurd c1 (by omega))
  refine v_gets (pc' := 19) rfl dX5_nth_16 fs_RX5_19 ?_
  refine v_gets (pc' := 22) rfl dX5_nth_19 fs_RX5_9 ?_
  refine v_iload_n 0 (pc' := 23) rfl dX5_nth_22 rfl rfl ?_
  refine v_sald (z := FRST n) (pc' := 24) rfl dX5_nth_23 (by decide) (by omega) (by show n0 < 9; omega) rfl (by rw [show n0.toNat = n by omega]; rfl) ?_
  refine v_iload_n 1 (pc' := 25) rfl dX5_nth_24 rfl rfl ?_
  refine v_iadd (pc' := 26) rfl dX5_nth_25 ?_
  refine v_sald (z := (kT n i : Int)) (pc' := 27) rfl dX5_nth_26 (by decide) (by omega) (by show FRST n + i0 < 44; omega) rfl (by rw [show (FRST n + i0).toNat = (FRST n).toNat + i by omega]; exact kT_of hn7 hi2) ?_
  refine v_iret dX5_nth_27 (by decide) (rfl) ?_
  exact ⟨rfl, rfl⟩
set_option maxHeartbeats 4000000 in
set_option maxRecDepth 100000 in
theorem c_index (l : Launch) (G : Gx) {t n0 : Int} {n : Nat} (ht : rg t) (hn : n0 = n) (hn1 : 1 ≤ n) (hn7 : n ≤ 7) (w : Wd) : SpR l G 2 mX5_index [aI (t), aI (n0)] w (KX n t) := by
  have hm := ((frst_ok n (by omega)).2.2 hn1).2
  refine Sp_of RX5 rfl (by decide +kernel) rfl (Nat.le_of_ble_eq_true rfl) ?_
  refine v_iconst (pc' := 1) rfl dX5_index_0 ?_
  refine v_istore_n (ls' := [(2, _), (0, _), (1, _)]) (pc' := 2) rfl dX5_index_1 rfl rfl rfl ?_
  refine v_ls [1, 2, 0] rfl ?_
  refine v_loop1 2 (fun (i : Int) => ∃ k : Nat, i = k ∧ k ≤ kmany n ∧ ∀ j, j < k → (kT n j : Int) ≠ t) (fun (i : Int) => (15 - i).toNat) (fun (i : Int) => [(0, aI (t)), (1, aI (n0)), (2, aI (i))]) (fun (i : Int) => []) (fun (i : Int) => w) (fun i hI0 ih0 => ?_) (0) (⟨0, rfl, by omega, fun j h => by omega⟩)
  obtain ⟨k, hi, hk, hno⟩ := hI0
  refine v_iload_n 2 (pc' := 3) rfl dX5_index_2 rfl rfl ?_
  refine v_iload_n 1 (pc' := 4) rfl dX5_index_3 rfl rfl ?_
  refine v_cSP (pc' := 7) rfl dX5_index_4 lk_RX5_15 rfl (c_many l G hn hn1 hn7 w) rfl rfl rfl ?_
  refine v_nm (fun many1 hmany1 => ?_)
  refine v_icmp_ge (pc' := 10) (tgt := 27) rfl dX5_index_7 (by decide) (by omega) (by omega) (fun c0 => ?_) (fun c0 => ?_)
  ·
    refine v_iconst (pc' := 28) rfl dX5_index_27 ?_
    refine v_iret dX5_index_28 (by decide) (rfl) ?_
    exact ⟨Or.inl ⟨rfl, fun j h => hno j (by omega)⟩, rfl⟩
  ·
    refine v_iload_n 1 (pc' := 11) rfl dX5_index_10 rfl rfl ?_
    refine v_iload_n 2 (pc' := 12) rfl dX5_index_11 rfl rfl ?_
    refine v_cSP (pc' := 15) rfl dX5_index_12 lk_RX5_22 rfl (c_nth l G hn hn1 hn7 hi (by omega) w) rfl rfl rfl ?_
    refine v_nm (fun nth1 hnth1 => ?_)
    refine v_iload_n 0 (pc' := 16) rfl dX5_index_15 rfl rfl ?_
    refine v_icmp_ne (pc' := 19) (tgt := 21) rfl dX5_index_16 (by decide) (by have := kT_le hn7 (show k < kmany n by omega); omega) (by omega) (fun c1 => ?_) (fun c1 => ?_)
    ·
      refine v_iinc (ls' := [(2, _), (0, _), (1, _)]) 2 (pc' := 24) rfl dX5_index_21 rfl rfl rfl ?_
      refine v_nl (fun i' hi' => ?_)
      refine v_goto (tgt := 2) dX5_index_24 (by decide) ?_
      refine v_ls [1, 2, 0] rfl ?_
      exact ih0 (i') (⟨k + 1, by omega, by omega, fun j h => by
          rcases Nat.lt_or_ge j k with q | q
          · exact hno j q
          · rw [show j = k by omega]; omega⟩) (by omega)
    ·
      refine v_iload_n 2 (pc' := 20) rfl dX5_index_19 rfl rfl ?_
      refine v_iret dX5_index_20 (by decide) (rfl) ?_
      exact ⟨Or.inr ⟨k, hi, by omega, by omega, hno⟩, rfl⟩
set_option maxHeartbeats 4000000 in
set_option maxRecDepth 100000 in
theorem c_factorial (l : Launch) (G : Gx) {n0 : Int} {n : Nat} (hn : n0 = n) (hn1 : 1 ≤ n) (hn7 : n ≤ 7) (w : Wd) : SpP l G 0 mX5_factorial [aI (n0)] w ((facN n : Int)) := by
  refine Sp_of RX5 rfl (by decide +kernel) rfl (Nat.le_of_ble_eq_true rfl) ?_
  refine v_iload_n 0 (pc' := 1) rfl dX5_factorial_0 rfl rfl ?_
  refine v_iconst (pc' := 2) rfl dX5_factorial_1 ?_
  refine v_icmp_lt (pc' := 5) (tgt := 11) rfl dX5_factorial_2 (by decide) (by omega) (by omega) (fun c0 => absurd c0 (by omega)) (fun c0 => ?_)
  refine v_iload_n 0 (pc' := 6) rfl dX5_factorial_5 rfl rfl ?_
  refine v_bipush (pc' := 8) rfl dX5_factorial_6 rfl ?_
  refine v_icmp_le (pc' := 11) (tgt := 15) rfl dX5_factorial_8 (by decide) (by omega) (by omega) (fun c1 => ?_) (fun c1 => absurd c1 (by omega))
  refine v_gets (pc' := 18) rfl dX5_factorial_15 fs_RX5_26 ?_
  refine v_iload_n 0 (pc' := 19) rfl dX5_factorial_18 rfl rfl ?_
  refine v_sald (z := (facN n : Int)) (pc' := 20) rfl dX5_factorial_19 (by decide) (by omega) (by show n0 < 8; omega) rfl (by rw [show n0.toNat = n by omega]; rcases (show n = 1 ∨ n = 2 ∨ n = 3 ∨ n = 4 ∨ n = 5 ∨ n = 6 ∨ n = 7 by omega) with rfl | rfl | rfl | rfl | rfl | rfl | rfl <;> rfl) ?_
  refine v_iret dX5_factorial_20 (by decide) (rfl) ?_
  exact ⟨rfl, rfl⟩
set_option maxHeartbeats 4000000 in
set_option maxRecDepth 100000 in
theorem c_parts5 (l : Launch) (G : Gx) {t0 : Int} {t : Nat} (ht : t0 = t) (ht7 : t < 10000000) (w : Wd) : SpP l G 0 mX5_parts [aI (t0)] w (((partsT t : Nat) : Int)) := by
  refine Sp_of RX5 rfl (by decide +kernel) rfl (Nat.le_of_ble_eq_true rfl) ?_
  refine v_iconst (pc' := 1) rfl dX5_parts_0 ?_
  refine v_istore_n (ls' := [(1, _), (0, _)]) (pc' := 2) rfl dX5_parts_1 rfl rfl rfl ?_
  refine v_iload_n 1 (pc' := 3) rfl dX5_parts_2 rfl rfl ?_
  refine v_istore_n (ls' := [(2, _), (1, _), (0, _)]) (pc' := 4) rfl dX5_parts_3 rfl rfl rfl ?_
  refine v_ls [2, 1, 0] rfl ?_
  refine v_loop2 4 (fun (many : Int) (rest : Int) => ∃ k rN mN : Nat, rest = rN ∧ many = mN ∧ rN < 10 ^ k ∧ k ≤ 7 ∧ ptsL k rN mN = partsT t) (fun (many : Int) (rest : Int) => rest.toNat) (fun (many : Int) (rest : Int) => [(0, aI (t0)), (1, aI (many)), (2, aI (rest))]) (fun (many : Int) (rest : Int) => []) (fun (many : Int) (rest : Int) => w) (fun many rest hI0 ih0 => ?_) (0) (t0) (⟨7, t, 0, ht, rfl, ht7, by omega, rfl⟩)
  obtain ⟨k, rN, mN, hrest, hmany, hk, hk7, hR⟩ := hI0
  have h10 : (10 : Nat) ^ k ≤ 10 ^ 7 := Nat.pow_le_pow_right (by decide) hk7
  have h107 : (10 : Nat) ^ 7 = 10000000 := by decide
  refine v_iload_n 2 (pc' := 5) rfl dX5_parts_4 rfl rfl ?_
  refine v_if_le (pc' := 8) (tgt := 19) rfl dX5_parts_5 (by decide) (by omega) (fun c0 => ?_) (fun c0 => ?_)
  ·
    have hret : partsT t = mN := by rw [← hR, show rN = 0 by omega]; cases k <;> rfl
    refine v_iload_n 1 (pc' := 20) rfl dX5_parts_19 rfl rfl ?_
    refine v_iret dX5_parts_20 (by decide) (rfl) ?_
    exact ⟨by rw [hmany, hret], rfl⟩
  ·
    obtain ⟨k, rfl⟩ : ∃ j, k = j + 1 := by
      cases k with
      | zero => exact absurd hk (by omega)
      | succ j => exact ⟨j, rfl⟩
    refine v_iinc (ls' := [(1, _), (0, _), (2, _)]) 1 (pc' := 11) rfl dX5_parts_8 rfl rfl rfl ?_
    refine v_nl (fun many' hmany' => ?_)
    refine v_iload_n 2 (pc' := 12) rfl dX5_parts_11 rfl rfl ?_
    refine v_bipush (pc' := 14) rfl dX5_parts_12 rfl ?_
    refine v_idiv (z := (rest / 10)) (pc' := 15) rfl dX5_parts_14 (iz_ne (by omega) (by omega)) (iz_divN (by omega) (by omega) (by omega) (by omega)) ?_
    refine v_nm (fun rest' hrest' => ?_)
    refine v_istore_n (ls' := [(2, _), (1, _), (0, _)]) (pc' := 16) rfl dX5_parts_15 rfl rfl rfl ?_
    refine v_goto (tgt := 4) dX5_parts_16 (by decide) ?_
    refine v_ls [2, 1, 0] rfl ?_
    exact ih0 (many') (rest') (⟨k, rN / 10, mN + 1, by omega, by omega, by rw [Nat.pow_succ] at hk; omega, by omega, by rw [← hR]; simp only [ptsL]; rw [if_neg (by omega)]⟩) (by omega)
set_option maxHeartbeats 4000000 in
set_option maxRecDepth 100000 in
theorem c_members (l : Launch) (G : Gx) {t0 n0 : Int} {t n : Nat} (ht : t0 = t) (ht7 : t < 10000000) (hf1 : 1 ≤ fixT t) (hf2 : fixT t ≤ 5040) (hn : n0 = n) (hn1 : 1 ≤ n) (hn7 : n ≤ 7) (w : Wd) : SpP l G 1 mX5_members [aI (t0), aI (n0)] w (((membersN t n : Nat) : Int)) := by
  refine Sp_of RX5 rfl (by decide +kernel) rfl (Nat.le_of_ble_eq_true rfl) ?_
  refine v_iconst (pc' := 1) rfl dX5_members_0 ?_
  refine v_istore_n (ls' := [(2, _), (0, _), (1, _)]) (pc' := 2) rfl dX5_members_1 rfl rfl rfl ?_
  refine v_iconst (pc' := 3) rfl dX5_members_2 ?_
  refine v_istore_n (ls' := [(3, _), (2, _), (0, _), (1, _)]) (pc' := 4) rfl dX5_members_3 rfl rfl rfl ?_
  refine v_iconst (pc' := 5) rfl dX5_members_4 ?_
  refine v_istore (ls' := [(4, _), (3, _), (2, _), (0, _), (1, _)]) (pc' := 7) rfl dX5_members_5 rfl rfl ?_
  refine v_iload_n 3 (pc' := 8) rfl dX5_members_7 rfl rfl ?_
  refine v_istore (ls' := [(5, _), (4, _), (3, _), (2, _), (0, _), (1, _)]) (pc' := 10) rfl dX5_members_8 rfl rfl ?_
  refine v_ls [4, 5, 3, 2, 1, 0] rfl ?_
  refine v_loop4 10 (fun (fx : Int) (bf : Int) (run : Int) (rest : Int) => ∃ k rN fN bN uN : Nat, rest = rN ∧ fx = fN ∧ bf = bN ∧ bN ≤ 9 ∧ run = uN ∧ rN < 10 ^ k ∧ k ≤ 7 ∧ memL k rN fN bN uN = fixT t) (fun (fx : Int) (bf : Int) (run : Int) (rest : Int) => rest.toNat) (fun (fx : Int) (bf : Int) (run : Int) (rest : Int) => [(0, aI (t0)), (1, aI (n0)), (2, aI (fx)), (3, aI (bf)), (4, aI (run)), (5, aI (rest))]) (fun (fx : Int) (bf : Int) (run : Int) (rest : Int) => []) (fun (fx : Int) (bf : Int) (run : Int) (rest : Int) => w) (fun fx bf run rest hI0 ih0 => ?_) (1) (0) (0) (t0) (⟨7, t, 1, 0, 0, ht, rfl, rfl, by omega, rfl, ht7, by omega, rfl⟩)
  obtain ⟨k, rN, fN, bN, uN, hrest, hfx, hbf, hb9, hrun, hk, hk7, hR⟩ := hI0
  have h10 : (10 : Nat) ^ k ≤ 10 ^ 7 := Nat.pow_le_pow_right (by decide) hk7
  have h107 : (10 : Nat) ^ 7 = 10000000 := by decide
  refine v_iload 5 (pc' := 12) rfl dX5_members_10 rfl ?_
  refine v_if_le (pc' := 15) (tgt := 57) rfl dX5_members_12 (by decide) (by omega) (fun c0 => ?_) (fun c0 => ?_)
  ·
    have hret : fixT t = fN := by rw [← hR, show rN = 0 by omega]; cases k <;> rfl
    refine v_iload_n 2 (pc' := 58) rfl dX5_members_57 rfl rfl ?_
    refine v_iconst (pc' := 59) rfl dX5_members_58 ?_
    refine v_icmp_ge (pc' := 62) (tgt := 66) rfl dX5_members_59 (by decide) (by omega) (by omega) (fun c2 => ?_) (fun c2 => absurd c2 (by omega))
    refine v_iload_n 1 (pc' := 67) rfl dX5_members_66 rfl rfl ?_
    refine v_cSP (pc' := 70) rfl dX5_members_67 lk_RX5_29 rfl (c_factorial l G hn hn1 hn7 w) rfl rfl rfl ?_
    refine v_nm (fun factorial1 hfactorial1 => ?_)
    refine v_iload_n 2 (pc' := 71) rfl dX5_members_70 rfl rfl ?_
    refine v_idiv (z := ((membersN t n : Nat) : Int)) (pc' := 72) rfl dX5_members_71 (iz_ne (by omega) (by omega)) (by rw [iz_divN (by omega) (by rcases (show n = 1 ∨ n = 2 ∨ n = 3 ∨ n = 4 ∨ n = 5 ∨ n = 6 ∨ n = 7 by omega) with rfl | rfl | rfl | rfl | rfl | rfl | rfl <;> rw [hfactorial1] <;> decide) (by omega) (by omega), hfactorial1, hfx, ← hret]; unfold membersN; simp) ?_
    refine v_iret dX5_members_72 (by decide) (rfl) ?_
    exact ⟨rfl, rfl⟩
  ·
    obtain ⟨k, rfl⟩ : ∃ j, k = j + 1 := by
      cases k with
      | zero => exact absurd hk (by omega)
      | succ j => exact ⟨j, rfl⟩
    refine v_iload 5 (pc' := 17) rfl dX5_members_15 rfl ?_
    refine v_bipush (pc' := 19) rfl dX5_members_17 rfl ?_
    refine v_irem (z := (rest % 10)) (pc' := 20) rfl dX5_members_19 (iz_ne (by omega) (by omega)) (iz_remN (by omega) (by omega) (by omega) (by omega)) ?_
    refine v_iload_n 3 (pc' := 21) rfl dX5_members_20 rfl rfl ?_
    refine v_icmp_ne (pc' := 24) (tgt := 31) rfl dX5_members_21 (by decide) (by omega) (by omega) (fun c1 => ?_) (fun c1 => ?_)
    ·
      have heq : ¬ rN % 10 = bN := by omega
      refine v_iconst (pc' := 32) rfl dX5_members_31 ?_
      refine v_istore (ls' := [(4, _), (0, _), (1, _), (2, _), (3, _), (5, _)]) (pc' := 34) rfl dX5_members_32 rfl rfl ?_
      refine v_iload 5 (pc' := 36) rfl dX5_members_34 rfl ?_
      refine v_bipush (pc' := 38) rfl dX5_members_36 rfl ?_
      refine v_irem (z := (rest % 10)) (pc' := 39) rfl dX5_members_38 (iz_ne (by omega) (by omega)) (iz_remN (by omega) (by omega) (by omega) (by omega)) ?_
      refine v_nm (fun bf' hbf' => ?_)
      refine v_istore_n (ls' := [(3, _), (4, _), (0, _), (1, _), (2, _), (5, _)]) (pc' := 40) rfl dX5_members_39 rfl rfl rfl ?_
      refine v_iload_n 4 (pc' := 41) rfl dX5_members_40 rfl rfl ?_
      refine v_iload_n 0 (pc' := 42) rfl dX5_members_41 rfl rfl ?_
      refine v_iload 1 (pc' := 44) rfl dX5_members_42 rfl ?_
      refine v_imul (pc' := 45) rfl dX5_members_44 ?_
      refine v_imul (pc' := 46) rfl dX5_members_45 ?_
      refine v_nm (fun fx' hfx' => ?_)
      refine v_istore_n (ls' := [(2, _), (3, _), (4, _), (0, _), (1, _), (5, _)]) (pc' := 47) rfl dX5_members_46 rfl rfl rfl ?_
      refine v_iload 5 (pc' := 49) rfl dX5_members_47 rfl ?_
      refine v_bipush (pc' := 51) rfl dX5_members_49 rfl ?_
      refine v_idiv (z := (rest / 10)) (pc' := 52) rfl dX5_members_51 (iz_ne (by omega) (by omega)) (iz_divN (by omega) (by omega) (by omega) (by omega)) ?_
      refine v_nm (fun rest' hrest' => ?_)
      refine v_istore (ls' := [(5, _), (2, _), (3, _), (4, _), (0, _), (1, _)]) (pc' := 54) rfl dX5_members_52 rfl rfl ?_
      refine v_goto (tgt := 10) dX5_members_54 (by decide) ?_
      refine v_ls [4, 5, 1, 2, 3, 0] rfl ?_
      exact ih0 (fx') (bf') (1) (rest') (⟨k, rN / 10, fN * ((rN % 10) * (if rN % 10 = bN then uN + 1 else 1)), rN % 10, (if rN % 10 = bN then uN + 1 else 1), by omega, by rw [hfx', hfx, hbf', hrest]; rw [if_neg heq]; simp, by omega, by omega, by rw [if_neg heq]; rfl, by rw [Nat.pow_succ] at hk; omega, by omega, by rw [← hR]; simp only [memL]; rw [if_neg (show ¬ rN = 0 by omega)]⟩) (by omega)
    ·
      have heq : rN % 10 = bN := by omega
      refine v_iload 4 (pc' := 26) rfl dX5_members_24 rfl ?_
      refine v_iconst (pc' := 27) rfl dX5_members_26 ?_
      refine v_iadd (pc' := 28) rfl dX5_members_27 ?_
      refine v_goto (tgt := 32) dX5_members_28 (by decide) ?_
      refine v_nm (fun run' hrun' => ?_)
      refine v_istore (ls' := [(4, _), (0, _), (1, _), (2, _), (3, _), (5, _)]) (pc' := 34) rfl dX5_members_32 rfl rfl ?_
      refine v_iload 5 (pc' := 36) rfl dX5_members_34 rfl ?_
      refine v_bipush (pc' := 38) rfl dX5_members_36 rfl ?_
      refine v_irem (z := (rest % 10)) (pc' := 39) rfl dX5_members_38 (iz_ne (by omega) (by omega)) (iz_remN (by omega) (by omega) (by omega) (by omega)) ?_
      refine v_nm (fun bf' hbf' => ?_)
      refine v_istore_n (ls' := [(3, _), (4, _), (0, _), (1, _), (2, _), (5, _)]) (pc' := 40) rfl dX5_members_39 rfl rfl rfl ?_
      refine v_iload_n 4 (pc' := 41) rfl dX5_members_40 rfl rfl ?_
      refine v_iload_n 0 (pc' := 42) rfl dX5_members_41 rfl rfl ?_
      refine v_iload 1 (pc' := 44) rfl dX5_members_42 rfl ?_
      refine v_imul (pc' := 45) rfl dX5_members_44 ?_
      refine v_imul (pc' := 46) rfl dX5_members_45 ?_
      refine v_nm (fun fx' hfx' => ?_)
      refine v_istore_n (ls' := [(2, _), (3, _), (4, _), (0, _), (1, _), (5, _)]) (pc' := 47) rfl dX5_members_46 rfl rfl rfl ?_
      refine v_iload 5 (pc' := 49) rfl dX5_members_47 rfl ?_
      refine v_bipush (pc' := 51) rfl dX5_members_49 rfl ?_
      refine v_idiv (z := (rest / 10)) (pc' := 52) rfl dX5_members_51 (iz_ne (by omega) (by omega)) (iz_divN (by omega) (by omega) (by omega) (by omega)) ?_
      refine v_nm (fun rest' hrest' => ?_)
      refine v_istore (ls' := [(5, _), (2, _), (3, _), (4, _), (0, _), (1, _)]) (pc' := 54) rfl dX5_members_52 rfl rfl ?_
      refine v_goto (tgt := 10) dX5_members_54 (by decide) ?_
      refine v_ls [4, 5, 1, 2, 3, 0] rfl ?_
      exact ih0 (fx') (bf') (run') (rest') (⟨k, rN / 10, fN * ((rN % 10) * (if rN % 10 = bN then uN + 1 else 1)), rN % 10, (if rN % 10 = bN then uN + 1 else 1), by omega, by rw [hfx', hfx, hbf', hrest]; rw [if_pos heq, hrun', hrun]; simp, by omega, by omega, by rw [if_pos heq, hrun', hrun]; simp, by rw [Nat.pow_succ] at hk; omega, by omega, by rw [← hR]; simp only [memL]; rw [if_neg (show ¬ rN = 0 by omega)]⟩) (by omega)
theorem tens_9 {t j : Nat} (h1 : 1 ≤ t) (h : t < 10000000000) (hT : tensL 10 t 1 = 10 ^ j) : t / 10 ^ j < 10 := by
  have key : ∀ k a, 0 < a → t < a * 10 ^ (k + 1) → t / tensL k t a < 10 := by
    intro k
    induction k with
    | zero => intro a ha hb; simp only [tensL]; rw [Nat.div_lt_iff_lt_mul ha]; omega
    | succ k ih =>
      intro a ha hb
      simp only [tensL]
      split
      · assumption
      · refine ih (a * 10) (by omega) ?_
        rw [Nat.mul_assoc, ← Nat.pow_succ']; exact hb
  rw [← hT]
  exact key 10 1 (by decide) (by omega)
theorem tens_mod {t j k : Nat} (h : t < 10 ^ (k + 1)) (hj : 10 ^ j ≤ t) : t % 10 ^ j < 10 ^ k := by
  have h1 : 10 ^ j < 10 ^ (k + 1) := Nat.lt_of_le_of_lt hj h
  have h2 : j < k + 1 := (Nat.pow_lt_pow_iff_right (by decide)).mp h1
  exact Nat.lt_of_lt_of_le (Nat.mod_lt _ (Nat.pow_pos (by decide))) (Nat.pow_le_pow_right (by decide) (by omega))
set_option maxHeartbeats 4000000 in
set_option maxRecDepth 100000 in
theorem c_strips0 (l : Launch) (G : Gx) {b0 t0 d0 : Int} {bN t : Nat} (hb : b0 = bN) (hbl : bN < 16384) (ht : t0 = t) (htk : t < 1) (hd : 0 ≤ d0 ∧ d0 + 0 ≤ 7) (w : Wd) : SpP l G 0 mX5_strips [aI (b0), aI (t0), aI (d0)] w (strN 0 bN t) := by
  refine Sp_of RX5 rfl (by decide +kernel) rfl (Nat.le_of_ble_eq_true rfl) ?_
  refine v_iload_n 1 (pc' := 1) rfl dX5_strips_0 rfl rfl ?_
  refine v_if_eq (pc' := 4) (tgt := 10) rfl dX5_strips_1 (by decide) (by omega) (fun c0 => ?_) (fun c0 => absurd c0 (by omega))
  refine v_iconst (pc' := 11) rfl dX5_strips_10 ?_
  refine v_iret dX5_strips_11 (by decide) (rfl) ?_
  exact ⟨rfl, rfl⟩
set_option maxHeartbeats 4000000 in
set_option maxRecDepth 100000 in
theorem c_strips1 (l : Launch) (G : Gx) {b0 t0 d0 : Int} {bN t : Nat} (hb : b0 = bN) (hbl : bN < 16384) (ht : t0 = t) (htk : t < 10) (hd : 0 ≤ d0 ∧ d0 + 1 ≤ 7) (w : Wd) : SpP l G 1 mX5_strips [aI (b0), aI (t0), aI (d0)] w (strN 1 bN t) := by
  refine Sp_of RX5 rfl (by decide +kernel) rfl (Nat.le_of_ble_eq_true rfl) ?_
  refine v_iload_n 1 (pc' := 1) rfl dX5_strips_0 rfl rfl ?_
  refine v_if_eq (pc' := 4) (tgt := 10) rfl dX5_strips_1 (by decide) (by omega) (fun c0 => ?_) (fun c0 => ?_)
  ·
    refine v_iconst (pc' := 11) rfl dX5_strips_10 ?_
    refine v_iret dX5_strips_11 (by decide) (rfl) ?_
    have h0 : t = 0 := by omega
    exact ⟨by rw [h0]; rfl, rfl⟩
  ·
    refine v_iload_n 2 (pc' := 5) rfl dX5_strips_4 rfl rfl ?_
    refine v_bipush (pc' := 7) rfl dX5_strips_5 rfl ?_
    refine v_icmp_le (pc' := 10) (tgt := 12) rfl dX5_strips_7 (by decide) (by omega) (by omega) (fun c1 => ?_) (fun c1 => absurd c1 (by omega))
    refine v_iconst (pc' := 13) rfl dX5_strips_12 ?_
    refine v_istore_n (ls' := [(3, _), (0, _), (1, _), (2, _)]) (pc' := 14) rfl dX5_strips_13 rfl rfl rfl ?_
    refine v_iconst (pc' := 15) rfl dX5_strips_14 ?_
    refine v_istore (ls' := [(4, _), (3, _), (0, _), (1, _), (2, _)]) (pc' := 17) rfl dX5_strips_15 rfl rfl ?_
    refine v_ls [2, 3, 4, 1, 0] rfl ?_
    refine v_loop2 17 (fun (tens : Int) (i : Int) => ∃ m j : Nat, i + m = 10 ∧ 0 ≤ i ∧ tens = ((10 ^ j : Nat) : Int) ∧ 10 ^ j ≤ t ∧ tensL m t (10 ^ j) = tensL 10 t 1) (fun (tens : Int) (i : Int) => (10 - i).toNat) (fun (tens : Int) (i : Int) => [(0, aI (b0)), (1, aI (t0)), (2, aI (d0)), (3, aI (tens)), (4, aI (i))]) (fun (tens : Int) (i : Int) => []) (fun (tens : Int) (i : Int) => w) (fun tens i hI0 ih0 => ?_) (1) (0) (⟨10, 0, by omega, by omega, rfl, by omega, rfl⟩)
    obtain ⟨m, j, him, hi0, htens, hj, hT⟩ := hI0
    have hjp : 0 < 10 ^ j := Nat.pow_pos (by decide)
    refine v_iload 4 (pc' := 19) rfl dX5_strips_17 rfl ?_
    refine v_bipush (pc' := 21) rfl dX5_strips_19 rfl ?_
    refine v_icmp_ge (pc' := 24) (tgt := 43) rfl dX5_strips_21 (by decide) (by omega) (by omega) (fun c2 => ?_) (fun c2 => ?_)
    ·
      have hTN : tensL 10 t 1 = 10 ^ j := by rw [← hT, show m = 0 by omega]; rfl
      refine v_iload_n 1 (pc' := 44) rfl dX5_strips_43 rfl rfl ?_
      refine v_iload_n 3 (pc' := 45) rfl dX5_strips_44 rfl rfl ?_
      refine v_idiv (z := ((t / 10 ^ j : Nat) : Int)) (pc' := 46) rfl dX5_strips_45 (iz_ne (by omega) (by omega)) (by rw [iz_divN (by omega) (by omega) (by omega) (by omega), ht, htens]; rfl) ?_
      refine v_nm (fun boxes' hboxes' => ?_)
      refine v_istore (ls' := [(4, _), (0, _), (1, _), (2, _), (3, _)]) (pc' := 48) rfl dX5_strips_46 rfl rfl ?_
      have hj9 : t / 10 ^ j < 10 := tens_9 (by omega) (by omega) hTN
      obtain ⟨BN, hBN⟩ : ∃ q, q = t / tensL 10 t 1 := ⟨_, rfl⟩
      obtain ⟨TN, hTN2⟩ : ∃ q, q = tensL 10 t 1 := ⟨_, rfl⟩
      have hboxes2 : boxes' = (BN : Int) := by rw [hBN, hTN]; exact hboxes'
      have hBN9 : BN < 10 := by rw [hBN, hTN]; exact hj9
      have hmod : t % tensL 10 t 1 < 1 := by rw [hTN]; exact tens_mod (k := 0) htk hj
      have htens2 : tens = (TN : Int) := by rw [hTN2, hTN]; exact htens
      have hTp : 0 < TN := by rw [hTN2, hTN]; exact hjp
      have hTt : TN ≤ t := by rw [hTN2, hTN]; exact hj
      refine v_iconst (pc' := 49) rfl dX5_strips_48 ?_
      refine v_istore (ls' := [(5, _), (4, _), (0, _), (1, _), (2, _), (3, _)]) (pc' := 51) rfl dX5_strips_49 rfl rfl ?_
      refine v_iload 1 (pc' := 53) rfl dX5_strips_51 rfl ?_
      refine v_istore (ls' := [(6, _), (5, _), (4, _), (0, _), (1, _), (2, _), (3, _)]) (pc' := 55) rfl dX5_strips_53 rfl rfl ?_
      refine v_ls [3, 4, 5, 6, 2, 1, 0] rfl ?_
      refine v_loop2 55 (fun (sum : Int) (fr : Int) => ∃ m fN : Nat, fr = fN ∧ fN + m = 14 ∧ BN ≤ fN ∧ stS (fun b => strN 0 b (t % tensL 10 t 1)) bN BN m fN sum = strN 1 bN t) (fun (sum : Int) (fr : Int) => (14 - fr).toNat) (fun (sum : Int) (fr : Int) => [(0, aI (b0)), (1, aI (t0)), (2, aI (d0)), (3, aI (tens)), (4, aI (boxes')), (5, aI (sum)), (6, aI (fr))]) (fun (sum : Int) (fr : Int) => []) (fun (sum : Int) (fr : Int) => w) (fun sum fr hI1 ih1 => ?_) (0) (boxes') (⟨14 - BN, BN, hboxes2, by omega, Nat.le_refl _, by simp only [strN]; rw [if_neg (by omega), ← hBN]⟩)
      obtain ⟨m, fN, hfr, hfm, hbf, hS⟩ := hI1
      refine v_iload 6 (pc' := 57) rfl dX5_strips_55 rfl ?_
      refine v_bipush (pc' := 59) rfl dX5_strips_57 rfl ?_
      refine v_icmp_ge (pc' := 62) (tgt := 155) rfl dX5_strips_59 (by decide) (by omega) (by omega) (fun c4 => ?_) (fun c4 => ?_)
      ·
        have hret : strN 1 bN t = sum := by rw [← hS, show m = 0 by omega]; rfl
        refine v_iload 5 (pc' := 157) rfl dX5_strips_155 rfl ?_
        refine v_iret dX5_strips_157 (by decide) (rfl) ?_
        exact ⟨hret.symm, rfl⟩
      ·
        obtain ⟨m, rfl⟩ : ∃ q, m = q + 1 := ⟨m - 1, by omega⟩
        refine v_iload 6 (pc' := 64) rfl dX5_strips_62 rfl ?_
        refine v_iload 4 (pc' := 66) rfl dX5_strips_64 rfl ?_
        refine v_isub (pc' := 67) rfl dX5_strips_66 ?_
        refine v_nm (fun to' hto' => ?_)
        refine v_istore (ls' := [(7, _), (0, _), (1, _), (2, _), (3, _), (4, _), (5, _), (6, _)]) (pc' := 69) rfl dX5_strips_67 rfl rfl ?_
        refine v_iload_n 1 (pc' := 70) rfl dX5_strips_69 rfl rfl ?_
        refine v_iload 7 (pc' := 72) rfl dX5_strips_70 rfl ?_
        refine v_ishr (z := ((bN / 2 ^ fN : Nat) : Int)) (pc' := 73) rfl dX5_strips_72 (iz_shrE hb hfr (by omega) (by omega)) ?_
        refine v_iconst (pc' := 74) rfl dX5_strips_73 ?_
        refine v_iand (z := ((bN / 2 ^ fN % 2 : Nat) : Int)) (pc' := 75) rfl dX5_strips_74 (iz_and1 rfl) ?_
        refine v_iconst (pc' := 76) rfl dX5_strips_75 ?_
        refine v_icmp_ne (pc' := 79) (tgt := 149) rfl dX5_strips_76 (by decide) (by omega) (by omega) (fun c5 => ?_) (fun c5 => ?_)
        ·
          have hA : ¬ bN / 2 ^ fN % 2 = 1 := by omega
          have hB := hA
          refine v_iinc (ls' := [(6, _), (7, _), (0, _), (1, _), (2, _), (3, _), (4, _), (5, _)]) 7 (pc' := 152) rfl dX5_strips_149 rfl rfl rfl ?_
          refine v_nl (fun fr' hfr' => ?_)
          refine v_goto (tgt := 55) dX5_strips_152 (by decide) ?_
          refine v_ls [2, 3, 4, 5, 6, 7, 0] rfl ?_
          exact ih1 (sum) (fr') (⟨m, fN + 1, by omega, by omega, by omega, by rw [← hS]; simp only [stS, hA, hB, if_true, if_false]⟩) (by omega)
        ·
          have hA : bN / 2 ^ fN % 2 = 1 := by omega
          refine v_iload_n 1 (pc' := 80) rfl dX5_strips_79 rfl rfl ?_
          refine v_iload 0 (pc' := 82) rfl dX5_strips_80 rfl ?_
          refine v_ishr (z := ((bN / 2 ^ (fN - BN) : Nat) : Int)) (pc' := 83) rfl dX5_strips_82 (iz_shrE hb (by omega) (by omega) (by omega)) ?_
          refine v_iconst (pc' := 84) rfl dX5_strips_83 ?_
          refine v_iand (z := ((bN / 2 ^ (fN - BN) % 2 : Nat) : Int)) (pc' := 85) rfl dX5_strips_84 (iz_and1 rfl) ?_
          refine v_if_ne (pc' := 88) (tgt := 149) rfl dX5_strips_85 (by decide) (by omega) (fun c6 => ?_) (fun c6 => ?_)
          ·
            have hB : ¬ bN / 2 ^ (fN - BN) % 2 = 0 := by omega
            refine v_iinc (ls' := [(6, _), (7, _), (0, _), (1, _), (2, _), (3, _), (4, _), (5, _)]) 7 (pc' := 152) rfl dX5_strips_149 rfl rfl rfl ?_
            refine v_nl (fun fr' hfr' => ?_)
            refine v_goto (tgt := 55) dX5_strips_152 (by decide) ?_
            refine v_ls [2, 3, 4, 5, 6, 7, 0] rfl ?_
            exact ih1 (sum) (fr') (⟨m, fN + 1, by omega, by omega, by omega, by rw [← hS]; simp only [stS, hA, hB, if_true, if_false]⟩) (by omega)
          ·
            have hB : bN / 2 ^ (fN - BN) % 2 = 0 := by omega
            refine v_iload_n 1 (pc' := 89) rfl dX5_strips_88 rfl rfl ?_
            refine v_iconst (pc' := 90) rfl dX5_strips_89 ?_
            refine v_iload 7 (pc' := 92) rfl dX5_strips_90 rfl ?_
            refine v_ishl (z := ((2 ^ fN : Nat) : Int)) (pc' := 93) rfl dX5_strips_92 (iz_one_shl hfr (by omega)) ?_
            refine v_iconst (pc' := 94) rfl dX5_strips_93 ?_
            refine v_isub (pc' := 95) rfl dX5_strips_94 ?_
            refine v_iand (z := ((bN % 2 ^ fN : Nat) : Int)) (pc' := 96) rfl dX5_strips_95 (iz_andlow hb rfl) ?_
            refine v_iconst (pc' := 97) rfl dX5_strips_96 ?_
            refine v_iload 0 (pc' := 99) rfl dX5_strips_97 rfl ?_
            refine v_ishl (z := ((2 ^ (fN - BN) : Nat) : Int)) (pc' := 100) rfl dX5_strips_99 (iz_one_shl (by omega) (by omega)) ?_
            refine v_ineg (pc' := 101) rfl dX5_strips_100 ?_
            refine v_iand (z := ((bN % 2 ^ fN / 2 ^ (fN - BN) * 2 ^ (fN - BN) : Nat) : Int)) (pc' := 102) rfl dX5_strips_101 (iz_mask rfl rfl (Nat.lt_of_le_of_lt (Nat.mod_le _ _) hbl) (by omega)) ?_
            refine v_nm (fun over' hover' => ?_)
            refine v_istore (ls' := [(8, _), (7, _), (0, _), (1, _), (2, _), (3, _), (4, _), (5, _), (6, _)]) (pc' := 104) rfl dX5_strips_102 rfl rfl ?_
            refine v_iload_n 2 (pc' := 105) rfl dX5_strips_104 rfl rfl ?_
            refine v_iconst (pc' := 106) rfl dX5_strips_105 ?_
            refine v_iload 8 (pc' := 108) rfl dX5_strips_106 rfl ?_
            refine v_ishl (z := ((2 ^ fN : Nat) : Int)) (pc' := 109) rfl dX5_strips_108 (iz_one_shl hfr (by omega)) ?_
            refine v_ixor (z := ((bN ^^^ 2 ^ fN : Nat) : Int)) (pc' := 110) rfl dX5_strips_109 (iz_xorE hb rfl) ?_
            refine v_iconst (pc' := 111) rfl dX5_strips_110 ?_
            refine v_iload 1 (pc' := 113) rfl dX5_strips_111 rfl ?_
            refine v_ishl (z := ((2 ^ (fN - BN) : Nat) : Int)) (pc' := 114) rfl dX5_strips_113 (iz_one_shl (by omega) (by omega)) ?_
            refine v_ixor (z := ((bN ^^^ 2 ^ fN ^^^ 2 ^ (fN - BN) : Nat) : Int)) (pc' := 115) rfl dX5_strips_114 (iz_xorE rfl rfl) ?_
            refine v_iload_n 3 (pc' := 116) rfl dX5_strips_115 rfl rfl ?_
            refine v_iload_n 5 (pc' := 117) rfl dX5_strips_116 rfl rfl ?_
            refine v_irem (z := ((t % TN : Nat) : Int)) (pc' := 118) rfl dX5_strips_117 (iz_ne (by omega) (by omega)) (by rw [iz_remN (by omega) (by omega) (by omega) (by omega), ht, htens2]; rfl) ?_
            refine v_iload_n 4 (pc' := 119) rfl dX5_strips_118 rfl rfl ?_
            refine v_iconst (pc' := 120) rfl dX5_strips_119 ?_
            refine v_iadd (pc' := 121) rfl dX5_strips_120 ?_
            refine v_cSP (pc' := 124) rfl dX5_strips_121 lk_RX5_32 rfl (c_strips0 l G rfl (xor_lt14 (xor_lt14 hbl (by omega)) (by omega)) (t := t % tensL 10 t 1) (by rw [hTN2]) hmod (by omega) w) rfl rfl rfl ?_
            refine v_nm (fun strips1 hstrips1 => ?_)
            refine v_istore (ls' := [(9, _), (8, _), (7, _), (0, _), (1, _), (2, _), (3, _), (4, _), (5, _), (6, _)]) (pc' := 126) rfl dX5_strips_124 rfl rfl ?_
            refine v_iload 8 (pc' := 128) rfl dX5_strips_126 rfl ?_
            refine v_iload 1 (pc' := 130) rfl dX5_strips_128 rfl ?_
            refine v_cSP (pc' := 133) rfl dX5_strips_130 lk_RX5_36 rfl (c_bitCount l G hover' (mask_lt hbl) w) rfl rfl rfl ?_
            refine v_nm (fun bitCount1 hbitCount1 => ?_)
            refine v_iconst (pc' := 134) rfl dX5_strips_133 ?_
            refine v_iand (z := ((popc ((bN % 2 ^ fN) / 2 ^ (fN - BN) * 2 ^ (fN - BN)) % 2 : Nat) : Int)) (pc' := 135) rfl dX5_strips_134 (iz_and1 hbitCount1) ?_
            refine v_if_ne (pc' := 138) (tgt := 143) rfl dX5_strips_135 (by decide) (by omega) (fun c7 => ?_) (fun c7 => ?_)
            ·
              have hC : ¬ popc ((bN % 2 ^ fN) / 2 ^ (fN - BN) * 2 ^ (fN - BN)) % 2 = 0 := by omega
              refine v_iload 0 (pc' := 145) rfl dX5_strips_143 rfl ?_
              refine v_ineg (pc' := 146) rfl dX5_strips_145 ?_
              refine v_iadd (pc' := 147) rfl dX5_strips_146 ?_
              refine v_nm (fun sum' hsum' => ?_)
              refine v_istore (ls' := [(5, _), (9, _), (8, _), (7, _), (0, _), (1, _), (2, _), (3, _), (4, _), (6, _)]) (pc' := 149) rfl dX5_strips_147 rfl rfl ?_
              refine v_iinc (ls' := [(6, _), (5, _), (9, _), (8, _), (7, _), (0, _), (1, _), (2, _), (3, _), (4, _)]) 9 (pc' := 152) rfl dX5_strips_149 rfl rfl rfl ?_
              refine v_nl (fun fr' hfr' => ?_)
              refine v_goto (tgt := 55) dX5_strips_152 (by decide) ?_
              refine v_ls [5, 6, 7, 8, 9, 1, 0] rfl ?_
              exact ih1 (sum') (fr') (⟨m, fN + 1, by omega, by omega, by omega, by rw [← hS]; simp only [stS, hA, hB, if_true, if_false, hC, hsum', hstrips1]⟩) (by omega)
            ·
              have hC : popc ((bN % 2 ^ fN) / 2 ^ (fN - BN) * 2 ^ (fN - BN)) % 2 = 0 := by omega
              refine v_iload 0 (pc' := 140) rfl dX5_strips_138 rfl ?_
              refine v_goto (tgt := 146) dX5_strips_140 (by decide) ?_
              refine v_iadd (pc' := 147) rfl dX5_strips_146 ?_
              refine v_nm (fun sum' hsum' => ?_)
              refine v_istore (ls' := [(5, _), (9, _), (8, _), (7, _), (0, _), (1, _), (2, _), (3, _), (4, _), (6, _)]) (pc' := 149) rfl dX5_strips_147 rfl rfl ?_
              refine v_iinc (ls' := [(6, _), (5, _), (9, _), (8, _), (7, _), (0, _), (1, _), (2, _), (3, _), (4, _)]) 9 (pc' := 152) rfl dX5_strips_149 rfl rfl rfl ?_
              refine v_nl (fun fr' hfr' => ?_)
              refine v_goto (tgt := 55) dX5_strips_152 (by decide) ?_
              refine v_ls [5, 6, 7, 8, 9, 1, 0] rfl ?_
              exact ih1 (sum') (fr') (⟨m, fN + 1, by omega, by omega, by omega, by rw [← hS]; simp only [stS, hA, hB, if_true, if_false, hC, hsum', hstrips1]⟩) (by omega)
    ·
      refine v_iload_n 1 (pc' := 25) rfl dX5_strips_24 rfl rfl ?_
      refine v_iload_n 3 (pc' := 26) rfl dX5_strips_25 rfl rfl ?_
      refine v_idiv (z := ((t / 10 ^ j : Nat) : Int)) (pc' := 27) rfl dX5_strips_26 (iz_ne (by omega) (by omega)) (by rw [iz_divN (by omega) (by omega) (by omega) (by omega), ht, htens]; rfl) ?_
      refine v_bipush (pc' := 29) rfl dX5_strips_27 rfl ?_
      refine v_icmp_lt (pc' := 32) (tgt := 43) rfl dX5_strips_29 (by decide) (by have hq := Nat.div_le_self t (10 ^ j); clear hT; generalize t / 10 ^ j = q at hq ⊢; omega) (by omega) (fun c3 => ?_) (fun c3 => ?_)
      ·
        have hTN : tensL 10 t 1 = 10 ^ j := by
          rw [← hT]
          cases m with
          | zero => rfl
          | succ m => simp only [tensL]; rw [if_pos (by omega)]
        refine v_iload_n 1 (pc' := 44) rfl dX5_strips_43 rfl rfl ?_
        refine v_iload_n 3 (pc' := 45) rfl dX5_strips_44 rfl rfl ?_
        refine v_idiv (z := ((t / 10 ^ j : Nat) : Int)) (pc' := 46) rfl dX5_strips_45 (iz_ne (by omega) (by omega)) (by rw [iz_divN (by omega) (by omega) (by omega) (by omega), ht, htens]; rfl) ?_
        refine v_nm (fun boxes' hboxes' => ?_)
        refine v_istore (ls' := [(4, _), (0, _), (1, _), (2, _), (3, _)]) (pc' := 48) rfl dX5_strips_46 rfl rfl ?_
        have hj9 : t / 10 ^ j < 10 := tens_9 (by omega) (by omega) hTN
        obtain ⟨BN, hBN⟩ : ∃ q, q = t / tensL 10 t 1 := ⟨_, rfl⟩
        obtain ⟨TN, hTN2⟩ : ∃ q, q = tensL 10 t 1 := ⟨_, rfl⟩
        have hboxes2 : boxes' = (BN : Int) := by rw [hBN, hTN]; exact hboxes'
        have hBN9 : BN < 10 := by rw [hBN, hTN]; exact hj9
        have hmod : t % tensL 10 t 1 < 1 := by rw [hTN]; exact tens_mod (k := 0) htk hj
        have htens2 : tens = (TN : Int) := by rw [hTN2, hTN]; exact htens
        have hTp : 0 < TN := by rw [hTN2, hTN]; exact hjp
        have hTt : TN ≤ t := by rw [hTN2, hTN]; exact hj
        refine v_iconst (pc' := 49) rfl dX5_strips_48 ?_
        refine v_istore (ls' := [(5, _), (4, _), (0, _), (1, _), (2, _), (3, _)]) (pc' := 51) rfl dX5_strips_49 rfl rfl ?_
        refine v_iload 1 (pc' := 53) rfl dX5_strips_51 rfl ?_
        refine v_istore (ls' := [(6, _), (5, _), (4, _), (0, _), (1, _), (2, _), (3, _)]) (pc' := 55) rfl dX5_strips_53 rfl rfl ?_
        refine v_ls [3, 4, 5, 6, 2, 1, 0] rfl ?_
        refine v_loop2 55 (fun (sum : Int) (fr : Int) => ∃ m fN : Nat, fr = fN ∧ fN + m = 14 ∧ BN ≤ fN ∧ stS (fun b => strN 0 b (t % tensL 10 t 1)) bN BN m fN sum = strN 1 bN t) (fun (sum : Int) (fr : Int) => (14 - fr).toNat) (fun (sum : Int) (fr : Int) => [(0, aI (b0)), (1, aI (t0)), (2, aI (d0)), (3, aI (tens)), (4, aI (boxes')), (5, aI (sum)), (6, aI (fr))]) (fun (sum : Int) (fr : Int) => []) (fun (sum : Int) (fr : Int) => w) (fun sum fr hI1 ih1 => ?_) (0) (boxes') (⟨14 - BN, BN, hboxes2, by omega, Nat.le_refl _, by simp only [strN]; rw [if_neg (by omega), ← hBN]⟩)
        obtain ⟨m, fN, hfr, hfm, hbf, hS⟩ := hI1
        refine v_iload 6 (pc' := 57) rfl dX5_strips_55 rfl ?_
        refine v_bipush (pc' := 59) rfl dX5_strips_57 rfl ?_
        refine v_icmp_ge (pc' := 62) (tgt := 155) rfl dX5_strips_59 (by decide) (by omega) (by omega) (fun c4 => ?_) (fun c4 => ?_)
        ·
          have hret : strN 1 bN t = sum := by rw [← hS, show m = 0 by omega]; rfl
          refine v_iload 5 (pc' := 157) rfl dX5_strips_155 rfl ?_
          refine v_iret dX5_strips_157 (by decide) (rfl) ?_
          exact ⟨hret.symm, rfl⟩
        ·
          obtain ⟨m, rfl⟩ : ∃ q, m = q + 1 := ⟨m - 1, by omega⟩
          refine v_iload 6 (pc' := 64) rfl dX5_strips_62 rfl ?_
          refine v_iload 4 (pc' := 66) rfl dX5_strips_64 rfl ?_
          refine v_isub (pc' := 67) rfl dX5_strips_66 ?_
          refine v_nm (fun to' hto' => ?_)
          refine v_istore (ls' := [(7, _), (0, _), (1, _), (2, _), (3, _), (4, _), (5, _), (6, _)]) (pc' := 69) rfl dX5_strips_67 rfl rfl ?_
          refine v_iload_n 1 (pc' := 70) rfl dX5_strips_69 rfl rfl ?_
          refine v_iload 7 (pc' := 72) rfl dX5_strips_70 rfl ?_
          refine v_ishr (z := ((bN / 2 ^ fN : Nat) : Int)) (pc' := 73) rfl dX5_strips_72 (iz_shrE hb hfr (by omega) (by omega)) ?_
          refine v_iconst (pc' := 74) rfl dX5_strips_73 ?_
          refine v_iand (z := ((bN / 2 ^ fN % 2 : Nat) : Int)) (pc' := 75) rfl dX5_strips_74 (iz_and1 rfl) ?_
          refine v_iconst (pc' := 76) rfl dX5_strips_75 ?_
          refine v_icmp_ne (pc' := 79) (tgt := 149) rfl dX5_strips_76 (by decide) (by omega) (by omega) (fun c5 => ?_) (fun c5 => ?_)
          ·
            have hA : ¬ bN / 2 ^ fN % 2 = 1 := by omega
            have hB := hA
            refine v_iinc (ls' := [(6, _), (7, _), (0, _), (1, _), (2, _), (3, _), (4, _), (5, _)]) 7 (pc' := 152) rfl dX5_strips_149 rfl rfl rfl ?_
            refine v_nl (fun fr' hfr' => ?_)
            refine v_goto (tgt := 55) dX5_strips_152 (by decide) ?_
            refine v_ls [2, 3, 4, 5, 6, 7, 0] rfl ?_
            exact ih1 (sum) (fr') (⟨m, fN + 1, by omega, by omega, by omega, by rw [← hS]; simp only [stS, hA, hB, if_true, if_false]⟩) (by omega)
          ·
            have hA : bN / 2 ^ fN % 2 = 1 := by omega
            refine v_iload_n 1 (pc' := 80) rfl dX5_strips_79 rfl rfl ?_
            refine v_iload 0 (pc' := 82) rfl dX5_strips_80 rfl ?_
            refine v_ishr (z := ((bN / 2 ^ (fN - BN) : Nat) : Int)) (pc' := 83) rfl dX5_strips_82 (iz_shrE hb (by omega) (by omega) (by omega)) ?_
            refine v_iconst (pc' := 84) rfl dX5_strips_83 ?_
            refine v_iand (z := ((bN / 2 ^ (fN - BN) % 2 : Nat) : Int)) (pc' := 85) rfl dX5_strips_84 (iz_and1 rfl) ?_
            refine v_if_ne (pc' := 88) (tgt := 149) rfl dX5_strips_85 (by decide) (by omega) (fun c6 => ?_) (fun c6 => ?_)
            ·
              have hB : ¬ bN / 2 ^ (fN - BN) % 2 = 0 := by omega
              refine v_iinc (ls' := [(6, _), (7, _), (0, _), (1, _), (2, _), (3, _), (4, _), (5, _)]) 7 (pc' := 152) rfl dX5_strips_149 rfl rfl rfl ?_
              refine v_nl (fun fr' hfr' => ?_)
              refine v_goto (tgt := 55) dX5_strips_152 (by decide) ?_
              refine v_ls [2, 3, 4, 5, 6, 7, 0] rfl ?_
              exact ih1 (sum) (fr') (⟨m, fN + 1, by omega, by omega, by omega, by rw [← hS]; simp only [stS, hA, hB, if_true, if_false]⟩) (by omega)
            ·
              have hB : bN / 2 ^ (fN - BN) % 2 = 0 := by omega
              refine v_iload_n 1 (pc' := 89) rfl dX5_strips_88 rfl rfl ?_
              refine v_iconst (pc' := 90) rfl dX5_strips_89 ?_
              refine v_iload 7 (pc' := 92) rfl dX5_strips_90 rfl ?_
              refine v_ishl (z := ((2 ^ fN : Nat) : Int)) (pc' := 93) rfl dX5_strips_92 (iz_one_shl hfr (by omega)) ?_
              refine v_iconst (pc' := 94) rfl dX5_strips_93 ?_
              refine v_isub (pc' := 95) rfl dX5_strips_94 ?_
              refine v_iand (z := ((bN % 2 ^ fN : Nat) : Int)) (pc' := 96) rfl dX5_strips_95 (iz_andlow hb rfl) ?_
              refine v_iconst (pc' := 97) rfl dX5_strips_96 ?_
              refine v_iload 0 (pc' := 99) rfl dX5_strips_97 rfl ?_
              refine v_ishl (z := ((2 ^ (fN - BN) : Nat) : Int)) (pc' := 100) rfl dX5_strips_99 (iz_one_shl (by omega) (by omega)) ?_
              refine v_ineg (pc' := 101) rfl dX5_strips_100 ?_
              refine v_iand (z := ((bN % 2 ^ fN / 2 ^ (fN - BN) * 2 ^ (fN - BN) : Nat) : Int)) (pc' := 102) rfl dX5_strips_101 (iz_mask rfl rfl (Nat.lt_of_le_of_lt (Nat.mod_le _ _) hbl) (by omega)) ?_
              refine v_nm (fun over' hover' => ?_)
              refine v_istore (ls' := [(8, _), (7, _), (0, _), (1, _), (2, _), (3, _), (4, _), (5, _), (6, _)]) (pc' := 104) rfl dX5_strips_102 rfl rfl ?_
              refine v_iload_n 2 (pc' := 105) rfl dX5_strips_104 rfl rfl ?_
              refine v_iconst (pc' := 106) rfl dX5_strips_105 ?_
              refine v_iload 8 (pc' := 108) rfl dX5_strips_106 rfl ?_
              refine v_ishl (z := ((2 ^ fN : Nat) : Int)) (pc' := 109) rfl dX5_strips_108 (iz_one_shl hfr (by omega)) ?_
              refine v_ixor (z := ((bN ^^^ 2 ^ fN : Nat) : Int)) (pc' := 110) rfl dX5_strips_109 (iz_xorE hb rfl) ?_
              refine v_iconst (pc' := 111) rfl dX5_strips_110 ?_
              refine v_iload 1 (pc' := 113) rfl dX5_strips_111 rfl ?_
              refine v_ishl (z := ((2 ^ (fN - BN) : Nat) : Int)) (pc' := 114) rfl dX5_strips_113 (iz_one_shl (by omega) (by omega)) ?_
              refine v_ixor (z := ((bN ^^^ 2 ^ fN ^^^ 2 ^ (fN - BN) : Nat) : Int)) (pc' := 115) rfl dX5_strips_114 (iz_xorE rfl rfl) ?_
              refine v_iload_n 3 (pc' := 116) rfl dX5_strips_115 rfl rfl ?_
              refine v_iload_n 5 (pc' := 117) rfl dX5_strips_116 rfl rfl ?_
              refine v_irem (z := ((t % TN : Nat) : Int)) (pc' := 118) rfl dX5_strips_117 (iz_ne (by omega) (by omega)) (by rw [iz_remN (by omega) (by omega) (by omega) (by omega), ht, htens2]; rfl) ?_
              refine v_iload_n 4 (pc' := 119) rfl dX5_strips_118 rfl rfl ?_
              refine v_iconst (pc' := 120) rfl dX5_strips_119 ?_
              refine v_iadd (pc' := 121) rfl dX5_strips_120 ?_
              refine v_cSP (pc' := 124) rfl dX5_strips_121 lk_RX5_32 rfl (c_strips0 l G rfl (xor_lt14 (xor_lt14 hbl (by omega)) (by omega)) (t := t % tensL 10 t 1) (by rw [hTN2]) hmod (by omega) w) rfl rfl rfl ?_
              refine v_nm (fun strips1 hstrips1 => ?_)
              refine v_istore (ls' := [(9, _), (8, _), (7, _), (0, _), (1, _), (2, _), (3, _), (4, _), (5, _), (6, _)]) (pc' := 126) rfl dX5_strips_124 rfl rfl ?_
              refine v_iload 8 (pc' := 128) rfl dX5_strips_126 rfl ?_
              refine v_iload 1 (pc' := 130) rfl dX5_strips_128 rfl ?_
              refine v_cSP (pc' := 133) rfl dX5_strips_130 lk_RX5_36 rfl (c_bitCount l G hover' (mask_lt hbl) w) rfl rfl rfl ?_
              refine v_nm (fun bitCount1 hbitCount1 => ?_)
              refine v_iconst (pc' := 134) rfl dX5_strips_133 ?_
              refine v_iand (z := ((popc ((bN % 2 ^ fN) / 2 ^ (fN - BN) * 2 ^ (fN - BN)) % 2 : Nat) : Int)) (pc' := 135) rfl dX5_strips_134 (iz_and1 hbitCount1) ?_
              refine v_if_ne (pc' := 138) (tgt := 143) rfl dX5_strips_135 (by decide) (by omega) (fun c7 => ?_) (fun c7 => ?_)
              ·
                have hC : ¬ popc ((bN % 2 ^ fN) / 2 ^ (fN - BN) * 2 ^ (fN - BN)) % 2 = 0 := by omega
                refine v_iload 0 (pc' := 145) rfl dX5_strips_143 rfl ?_
                refine v_ineg (pc' := 146) rfl dX5_strips_145 ?_
                refine v_iadd (pc' := 147) rfl dX5_strips_146 ?_
                refine v_nm (fun sum' hsum' => ?_)
                refine v_istore (ls' := [(5, _), (9, _), (8, _), (7, _), (0, _), (1, _), (2, _), (3, _), (4, _), (6, _)]) (pc' := 149) rfl dX5_strips_147 rfl rfl ?_
                refine v_iinc (ls' := [(6, _), (5, _), (9, _), (8, _), (7, _), (0, _), (1, _), (2, _), (3, _), (4, _)]) 9 (pc' := 152) rfl dX5_strips_149 rfl rfl rfl ?_
                refine v_nl (fun fr' hfr' => ?_)
                refine v_goto (tgt := 55) dX5_strips_152 (by decide) ?_
                refine v_ls [5, 6, 7, 8, 9, 1, 0] rfl ?_
                exact ih1 (sum') (fr') (⟨m, fN + 1, by omega, by omega, by omega, by rw [← hS]; simp only [stS, hA, hB, if_true, if_false, hC, hsum', hstrips1]⟩) (by omega)
              ·
                have hC : popc ((bN % 2 ^ fN) / 2 ^ (fN - BN) * 2 ^ (fN - BN)) % 2 = 0 := by omega
                refine v_iload 0 (pc' := 140) rfl dX5_strips_138 rfl ?_
                refine v_goto (tgt := 146) dX5_strips_140 (by decide) ?_
                refine v_iadd (pc' := 147) rfl dX5_strips_146 ?_
                refine v_nm (fun sum' hsum' => ?_)
                refine v_istore (ls' := [(5, _), (9, _), (8, _), (7, _), (0, _), (1, _), (2, _), (3, _), (4, _), (6, _)]) (pc' := 149) rfl dX5_strips_147 rfl rfl ?_
                refine v_iinc (ls' := [(6, _), (5, _), (9, _), (8, _), (7, _), (0, _), (1, _), (2, _), (3, _), (4, _)]) 9 (pc' := 152) rfl dX5_strips_149 rfl rfl rfl ?_
                refine v_nl (fun fr' hfr' => ?_)
                refine v_goto (tgt := 55) dX5_strips_152 (by decide) ?_
                refine v_ls [5, 6, 7, 8, 9, 1, 0] rfl ?_
                exact ih1 (sum') (fr') (⟨m, fN + 1, by omega, by omega, by omega, by rw [← hS]; simp only [stS, hA, hB, if_true, if_false, hC, hsum', hstrips1]⟩) (by omega)
      ·
        obtain ⟨m, rfl⟩ : ∃ q, m = q + 1 := ⟨m - 1, by omega⟩
        have hge : 10 ≤ t / 10 ^ j := by omega
        refine v_iload_n 3 (pc' := 33) rfl dX5_strips_32 rfl rfl ?_
        refine v_bipush (pc' := 35) rfl dX5_strips_33 rfl ?_
        refine v_imul (pc' := 36) rfl dX5_strips_35 ?_
        refine v_nm (fun tens' htens' => ?_)
        refine v_istore_n (ls' := [(3, _), (0, _), (1, _), (2, _), (4, _)]) (pc' := 37) rfl dX5_strips_36 rfl rfl rfl ?_
        refine v_iinc (ls' := [(4, _), (3, _), (0, _), (1, _), (2, _)]) 4 (pc' := 40) rfl dX5_strips_37 rfl rfl rfl ?_
        refine v_nl (fun i' hi' => ?_)
        refine v_goto (tgt := 17) dX5_strips_40 (by decide) ?_
        refine v_ls [2, 3, 4, 1, 0] rfl ?_
        exact ih0 (tens') (i') (⟨m, j + 1, by omega, by omega, by rw [Nat.pow_succ]; omega, by rw [Nat.pow_succ]; have := Nat.div_mul_le_self t (10 ^ j); have := (Nat.le_div_iff_mul_le hjp).mp hge; omega, by rw [← hT, Nat.pow_succ]; simp only [tensL]; rw [if_neg (by omega)]⟩) (by omega)
set_option maxHeartbeats 4000000 in
set_option maxRecDepth 100000 in
theorem c_strips2 (l : Launch) (G : Gx) {b0 t0 d0 : Int} {bN t : Nat} (hb : b0 = bN) (hbl : bN < 16384) (ht : t0 = t) (htk : t < 100) (hd : 0 ≤ d0 ∧ d0 + 2 ≤ 7) (w : Wd) : SpP l G 2 mX5_strips [aI (b0), aI (t0), aI (d0)] w (strN 2 bN t) := by
  refine Sp_of RX5 rfl (by decide +kernel) rfl (Nat.le_of_ble_eq_true rfl) ?_
  refine v_iload_n 1 (pc' := 1) rfl dX5_strips_0 rfl rfl ?_
  refine v_if_eq (pc' := 4) (tgt := 10) rfl dX5_strips_1 (by decide) (by omega) (fun c0 => ?_) (fun c0 => ?_)
  ·
    refine v_iconst (pc' := 11) rfl dX5_strips_10 ?_
    refine v_iret dX5_strips_11 (by decide) (rfl) ?_
    have h0 : t = 0 := by omega
    exact ⟨by rw [h0]; rfl, rfl⟩
  ·
    refine v_iload_n 2 (pc' := 5) rfl dX5_strips_4 rfl rfl ?_
    refine v_bipush (pc' := 7) rfl dX5_strips_5 rfl ?_
    refine v_icmp_le (pc' := 10) (tgt := 12) rfl dX5_strips_7 (by decide) (by omega) (by omega) (fun c1 => ?_) (fun c1 => absurd c1 (by omega))
    refine v_iconst (pc' := 13) rfl dX5_strips_12 ?_
    refine v_istore_n (ls' := [(3, _), (0, _), (1, _), (2, _)]) (pc' := 14) rfl dX5_strips_13 rfl rfl rfl ?_
    refine v_iconst (pc' := 15) rfl dX5_strips_14 ?_
    refine v_istore (ls' := [(4, _), (3, _), (0, _), (1, _), (2, _)]) (pc' := 17) rfl dX5_strips_15 rfl rfl ?_
    refine v_ls [2, 3, 4, 1, 0] rfl ?_
    refine v_loop2 17 (fun (tens : Int) (i : Int) => ∃ m j : Nat, i + m = 10 ∧ 0 ≤ i ∧ tens = ((10 ^ j : Nat) : Int) ∧ 10 ^ j ≤ t ∧ tensL m t (10 ^ j) = tensL 10 t 1) (fun (tens : Int) (i : Int) => (10 - i).toNat) (fun (tens : Int) (i : Int) => [(0, aI (b0)), (1, aI (t0)), (2, aI (d0)), (3, aI (tens)), (4, aI (i))]) (fun (tens : Int) (i : Int) => []) (fun (tens : Int) (i : Int) => w) (fun tens i hI0 ih0 => ?_) (1) (0) (⟨10, 0, by omega, by omega, rfl, by omega, rfl⟩)
    obtain ⟨m, j, him, hi0, htens, hj, hT⟩ := hI0
    have hjp : 0 < 10 ^ j := Nat.pow_pos (by decide)
    refine v_iload 4 (pc' := 19) rfl dX5_strips_17 rfl ?_
    refine v_bipush (pc' := 21) rfl dX5_strips_19 rfl ?_
    refine v_icmp_ge (pc' := 24) (tgt := 43) rfl dX5_strips_21 (by decide) (by omega) (by omega) (fun c2 => ?_) (fun c2 => ?_)
    ·
      have hTN : tensL 10 t 1 = 10 ^ j := by rw [← hT, show m = 0 by omega]; rfl
      refine v_iload_n 1 (pc' := 44) rfl dX5_strips_43 rfl rfl ?_
      refine v_iload_n 3 (pc' := 45) rfl dX5_strips_44 rfl rfl ?_
      refine v_idiv (z := ((t / 10 ^ j : Nat) : Int)) (pc' := 46) rfl dX5_strips_45 (iz_ne (by omega) (by omega)) (by rw [iz_divN (by omega) (by omega) (by omega) (by omega), ht, htens]; rfl) ?_
      refine v_nm (fun boxes' hboxes' => ?_)
      refine v_istore (ls' := [(4, _), (0, _), (1, _), (2, _), (3, _)]) (pc' := 48) rfl dX5_strips_46 rfl rfl ?_
      have hj9 : t / 10 ^ j < 10 := tens_9 (by omega) (by omega) hTN
      obtain ⟨BN, hBN⟩ : ∃ q, q = t / tensL 10 t 1 := ⟨_, rfl⟩
      obtain ⟨TN, hTN2⟩ : ∃ q, q = tensL 10 t 1 := ⟨_, rfl⟩
      have hboxes2 : boxes' = (BN : Int) := by rw [hBN, hTN]; exact hboxes'
      have hBN9 : BN < 10 := by rw [hBN, hTN]; exact hj9
      have hmod : t % tensL 10 t 1 < 10 := by rw [hTN]; exact tens_mod (k := 1) htk hj
      have htens2 : tens = (TN : Int) := by rw [hTN2, hTN]; exact htens
      have hTp : 0 < TN := by rw [hTN2, hTN]; exact hjp
      have hTt : TN ≤ t := by rw [hTN2, hTN]; exact hj
      refine v_iconst (pc' := 49) rfl dX5_strips_48 ?_
      refine v_istore (ls' := [(5, _), (4, _), (0, _), (1, _), (2, _), (3, _)]) (pc' := 51) rfl dX5_strips_49 rfl rfl ?_
      refine v_iload 1 (pc' := 53) rfl dX5_strips_51 rfl ?_
      refine v_istore (ls' := [(6, _), (5, _), (4, _), (0, _), (1, _), (2, _), (3, _)]) (pc' := 55) rfl dX5_strips_53 rfl rfl ?_
      refine v_ls [3, 4, 5, 6, 2, 1, 0] rfl ?_
      refine v_loop2 55 (fun (sum : Int) (fr : Int) => ∃ m fN : Nat, fr = fN ∧ fN + m = 14 ∧ BN ≤ fN ∧ stS (fun b => strN 1 b (t % tensL 10 t 1)) bN BN m fN sum = strN 2 bN t) (fun (sum : Int) (fr : Int) => (14 - fr).toNat) (fun (sum : Int) (fr : Int) => [(0, aI (b0)), (1, aI (t0)), (2, aI (d0)), (3, aI (tens)), (4, aI (boxes')), (5, aI (sum)), (6, aI (fr))]) (fun (sum : Int) (fr : Int) => []) (fun (sum : Int) (fr : Int) => w) (fun sum fr hI1 ih1 => ?_) (0) (boxes') (⟨14 - BN, BN, hboxes2, by omega, Nat.le_refl _, by simp only [strN]; rw [if_neg (by omega), ← hBN]⟩)
      obtain ⟨m, fN, hfr, hfm, hbf, hS⟩ := hI1
      refine v_iload 6 (pc' := 57) rfl dX5_strips_55 rfl ?_
      refine v_bipush (pc' := 59) rfl dX5_strips_57 rfl ?_
      refine v_icmp_ge (pc' := 62) (tgt := 155) rfl dX5_strips_59 (by decide) (by omega) (by omega) (fun c4 => ?_) (fun c4 => ?_)
      ·
        have hret : strN 2 bN t = sum := by rw [← hS, show m = 0 by omega]; rfl
        refine v_iload 5 (pc' := 157) rfl dX5_strips_155 rfl ?_
        refine v_iret dX5_strips_157 (by decide) (rfl) ?_
        exact ⟨hret.symm, rfl⟩
      ·
        obtain ⟨m, rfl⟩ : ∃ q, m = q + 1 := ⟨m - 1, by omega⟩
        refine v_iload 6 (pc' := 64) rfl dX5_strips_62 rfl ?_
        refine v_iload 4 (pc' := 66) rfl dX5_strips_64 rfl ?_
        refine v_isub (pc' := 67) rfl dX5_strips_66 ?_
        refine v_nm (fun to' hto' => ?_)
        refine v_istore (ls' := [(7, _), (0, _), (1, _), (2, _), (3, _), (4, _), (5, _), (6, _)]) (pc' := 69) rfl dX5_strips_67 rfl rfl ?_
        refine v_iload_n 1 (pc' := 70) rfl dX5_strips_69 rfl rfl ?_
        refine v_iload 7 (pc' := 72) rfl dX5_strips_70 rfl ?_
        refine v_ishr (z := ((bN / 2 ^ fN : Nat) : Int)) (pc' := 73) rfl dX5_strips_72 (iz_shrE hb hfr (by omega) (by omega)) ?_
        refine v_iconst (pc' := 74) rfl dX5_strips_73 ?_
        refine v_iand (z := ((bN / 2 ^ fN % 2 : Nat) : Int)) (pc' := 75) rfl dX5_strips_74 (iz_and1 rfl) ?_
        refine v_iconst (pc' := 76) rfl dX5_strips_75 ?_
        refine v_icmp_ne (pc' := 79) (tgt := 149) rfl dX5_strips_76 (by decide) (by omega) (by omega) (fun c5 => ?_) (fun c5 => ?_)
        ·
          have hA : ¬ bN / 2 ^ fN % 2 = 1 := by omega
          have hB := hA
          refine v_iinc (ls' := [(6, _), (7, _), (0, _), (1, _), (2, _), (3, _), (4, _), (5, _)]) 7 (pc' := 152) rfl dX5_strips_149 rfl rfl rfl ?_
          refine v_nl (fun fr' hfr' => ?_)
          refine v_goto (tgt := 55) dX5_strips_152 (by decide) ?_
          refine v_ls [2, 3, 4, 5, 6, 7, 0] rfl ?_
          exact ih1 (sum) (fr') (⟨m, fN + 1, by omega, by omega, by omega, by rw [← hS]; simp only [stS, hA, hB, if_true, if_false]⟩) (by omega)
        ·
          have hA : bN / 2 ^ fN % 2 = 1 := by omega
          refine v_iload_n 1 (pc' := 80) rfl dX5_strips_79 rfl rfl ?_
          refine v_iload 0 (pc' := 82) rfl dX5_strips_80 rfl ?_
          refine v_ishr (z := ((bN / 2 ^ (fN - BN) : Nat) : Int)) (pc' := 83) rfl dX5_strips_82 (iz_shrE hb (by omega) (by omega) (by omega)) ?_
          refine v_iconst (pc' := 84) rfl dX5_strips_83 ?_
          refine v_iand (z := ((bN / 2 ^ (fN - BN) % 2 : Nat) : Int)) (pc' := 85) rfl dX5_strips_84 (iz_and1 rfl) ?_
          refine v_if_ne (pc' := 88) (tgt := 149) rfl dX5_strips_85 (by decide) (by omega) (fun c6 => ?_) (fun c6 => ?_)
          ·
            have hB : ¬ bN / 2 ^ (fN - BN) % 2 = 0 := by omega
            refine v_iinc (ls' := [(6, _), (7, _), (0, _), (1, _), (2, _), (3, _), (4, _), (5, _)]) 7 (pc' := 152) rfl dX5_strips_149 rfl rfl rfl ?_
            refine v_nl (fun fr' hfr' => ?_)
            refine v_goto (tgt := 55) dX5_strips_152 (by decide) ?_
            refine v_ls [2, 3, 4, 5, 6, 7, 0] rfl ?_
            exact ih1 (sum) (fr') (⟨m, fN + 1, by omega, by omega, by omega, by rw [← hS]; simp only [stS, hA, hB, if_true, if_false]⟩) (by omega)
          ·
            have hB : bN / 2 ^ (fN - BN) % 2 = 0 := by omega
            refine v_iload_n 1 (pc' := 89) rfl dX5_strips_88 rfl rfl ?_
            refine v_iconst (pc' := 90) rfl dX5_strips_89 ?_
            refine v_iload 7 (pc' := 92) rfl dX5_strips_90 rfl ?_
            refine v_ishl (z := ((2 ^ fN : Nat) : Int)) (pc' := 93) rfl dX5_strips_92 (iz_one_shl hfr (by omega)) ?_
            refine v_iconst (pc' := 94) rfl dX5_strips_93 ?_
            refine v_isub (pc' := 95) rfl dX5_strips_94 ?_
            refine v_iand (z := ((bN % 2 ^ fN : Nat) : Int)) (pc' := 96) rfl dX5_strips_95 (iz_andlow hb rfl) ?_
            refine v_iconst (pc' := 97) rfl dX5_strips_96 ?_
            refine v_iload 0 (pc' := 99) rfl dX5_strips_97 rfl ?_
            refine v_ishl (z := ((2 ^ (fN - BN) : Nat) : Int)) (pc' := 100) rfl dX5_strips_99 (iz_one_shl (by omega) (by omega)) ?_
            refine v_ineg (pc' := 101) rfl dX5_strips_100 ?_
            refine v_iand (z := ((bN % 2 ^ fN / 2 ^ (fN - BN) * 2 ^ (fN - BN) : Nat) : Int)) (pc' := 102) rfl dX5_strips_101 (iz_mask rfl rfl (Nat.lt_of_le_of_lt (Nat.mod_le _ _) hbl) (by omega)) ?_
            refine v_nm (fun over' hover' => ?_)
            refine v_istore (ls' := [(8, _), (7, _), (0, _), (1, _), (2, _), (3, _), (4, _), (5, _), (6, _)]) (pc' := 104) rfl dX5_strips_102 rfl rfl ?_
            refine v_iload_n 2 (pc' := 105) rfl dX5_strips_104 rfl rfl ?_
            refine v_iconst (pc' := 106) rfl dX5_strips_105 ?_
            refine v_iload 8 (pc' := 108) rfl dX5_strips_106 rfl ?_
            refine v_ishl (z := ((2 ^ fN : Nat) : Int)) (pc' := 109) rfl dX5_strips_108 (iz_one_shl hfr (by omega)) ?_
            refine v_ixor (z := ((bN ^^^ 2 ^ fN : Nat) : Int)) (pc' := 110) rfl dX5_strips_109 (iz_xorE hb rfl) ?_
            refine v_iconst (pc' := 111) rfl dX5_strips_110 ?_
            refine v_iload 1 (pc' := 113) rfl dX5_strips_111 rfl ?_
            refine v_ishl (z := ((2 ^ (fN - BN) : Nat) : Int)) (pc' := 114) rfl dX5_strips_113 (iz_one_shl (by omega) (by omega)) ?_
            refine v_ixor (z := ((bN ^^^ 2 ^ fN ^^^ 2 ^ (fN - BN) : Nat) : Int)) (pc' := 115) rfl dX5_strips_114 (iz_xorE rfl rfl) ?_
            refine v_iload_n 3 (pc' := 116) rfl dX5_strips_115 rfl rfl ?_
            refine v_iload_n 5 (pc' := 117) rfl dX5_strips_116 rfl rfl ?_
            refine v_irem (z := ((t % TN : Nat) : Int)) (pc' := 118) rfl dX5_strips_117 (iz_ne (by omega) (by omega)) (by rw [iz_remN (by omega) (by omega) (by omega) (by omega), ht, htens2]; rfl) ?_
            refine v_iload_n 4 (pc' := 119) rfl dX5_strips_118 rfl rfl ?_
            refine v_iconst (pc' := 120) rfl dX5_strips_119 ?_
            refine v_iadd (pc' := 121) rfl dX5_strips_120 ?_
            refine v_cSP (pc' := 124) rfl dX5_strips_121 lk_RX5_32 rfl (c_strips1 l G rfl (xor_lt14 (xor_lt14 hbl (by omega)) (by omega)) (t := t % tensL 10 t 1) (by rw [hTN2]) hmod (by omega) w) rfl rfl rfl ?_
            refine v_nm (fun strips1 hstrips1 => ?_)
            refine v_istore (ls' := [(9, _), (8, _), (7, _), (0, _), (1, _), (2, _), (3, _), (4, _), (5, _), (6, _)]) (pc' := 126) rfl dX5_strips_124 rfl rfl ?_
            refine v_iload 8 (pc' := 128) rfl dX5_strips_126 rfl ?_
            refine v_iload 1 (pc' := 130) rfl dX5_strips_128 rfl ?_
            refine v_cSP (pc' := 133) rfl dX5_strips_130 lk_RX5_36 rfl (c_bitCount l G hover' (mask_lt hbl) w) rfl rfl rfl ?_
            refine v_nm (fun bitCount1 hbitCount1 => ?_)
            refine v_iconst (pc' := 134) rfl dX5_strips_133 ?_
            refine v_iand (z := ((popc ((bN % 2 ^ fN) / 2 ^ (fN - BN) * 2 ^ (fN - BN)) % 2 : Nat) : Int)) (pc' := 135) rfl dX5_strips_134 (iz_and1 hbitCount1) ?_
            refine v_if_ne (pc' := 138) (tgt := 143) rfl dX5_strips_135 (by decide) (by omega) (fun c7 => ?_) (fun c7 => ?_)
            ·
              have hC : ¬ popc ((bN % 2 ^ fN) / 2 ^ (fN - BN) * 2 ^ (fN - BN)) % 2 = 0 := by omega
              refine v_iload 0 (pc' := 145) rfl dX5_strips_143 rfl ?_
              refine v_ineg (pc' := 146) rfl dX5_strips_145 ?_
              refine v_iadd (pc' := 147) rfl dX5_strips_146 ?_
              refine v_nm (fun sum' hsum' => ?_)
              refine v_istore (ls' := [(5, _), (9, _), (8, _), (7, _), (0, _), (1, _), (2, _), (3, _), (4, _), (6, _)]) (pc' := 149) rfl dX5_strips_147 rfl rfl ?_
              refine v_iinc (ls' := [(6, _), (5, _), (9, _), (8, _), (7, _), (0, _), (1, _), (2, _), (3, _), (4, _)]) 9 (pc' := 152) rfl dX5_strips_149 rfl rfl rfl ?_
              refine v_nl (fun fr' hfr' => ?_)
              refine v_goto (tgt := 55) dX5_strips_152 (by decide) ?_
              refine v_ls [5, 6, 7, 8, 9, 1, 0] rfl ?_
              exact ih1 (sum') (fr') (⟨m, fN + 1, by omega, by omega, by omega, by rw [← hS]; simp only [stS, hA, hB, if_true, if_false, hC, hsum', hstrips1]⟩) (by omega)
            ·
              have hC : popc ((bN % 2 ^ fN) / 2 ^ (fN - BN) * 2 ^ (fN - BN)) % 2 = 0 := by omega
              refine v_iload 0 (pc' := 140) rfl dX5_strips_138 rfl ?_
              refine v_goto (tgt := 146) dX5_strips_140 (by decide) ?_
              refine v_iadd (pc' := 147) rfl dX5_strips_146 ?_
              refine v_nm (fun sum' hsum' => ?_)
              refine v_istore (ls' := [(5, _), (9, _), (8, _), (7, _), (0, _), (1, _), (2, _), (3, _), (4, _), (6, _)]) (pc' := 149) rfl dX5_strips_147 rfl rfl ?_
              refine v_iinc (ls' := [(6, _), (5, _), (9, _), (8, _), (7, _), (0, _), (1, _), (2, _), (3, _), (4, _)]) 9 (pc' := 152) rfl dX5_strips_149 rfl rfl rfl ?_
              refine v_nl (fun fr' hfr' => ?_)
              refine v_goto (tgt := 55) dX5_strips_152 (by decide) ?_
              refine v_ls [5, 6, 7, 8, 9, 1, 0] rfl ?_
              exact ih1 (sum') (fr') (⟨m, fN + 1, by omega, by omega, by omega, by rw [← hS]; simp only [stS, hA, hB, if_true, if_false, hC, hsum', hstrips1]⟩) (by omega)
    ·
      refine v_iload_n 1 (pc' := 25) rfl dX5_strips_24 rfl rfl ?_
      refine v_iload_n 3 (pc' := 26) rfl dX5_strips_25 rfl rfl ?_
      refine v_idiv (z := ((t / 10 ^ j : Nat) : Int)) (pc' := 27) rfl dX5_strips_26 (iz_ne (by omega) (by omega)) (by rw [iz_divN (by omega) (by omega) (by omega) (by omega), ht, htens]; rfl) ?_
      refine v_bipush (pc' := 29) rfl dX5_strips_27 rfl ?_
      refine v_icmp_lt (pc' := 32) (tgt := 43) rfl dX5_strips_29 (by decide) (by have hq := Nat.div_le_self t (10 ^ j); clear hT; generalize t / 10 ^ j = q at hq ⊢; omega) (by omega) (fun c3 => ?_) (fun c3 => ?_)
      ·
        have hTN : tensL 10 t 1 = 10 ^ j := by
          rw [← hT]
          cases m with
          | zero => rfl
          | succ m => simp only [tensL]; rw [if_pos (by omega)]
        refine v_iload_n 1 (pc' := 44) rfl dX5_strips_43 rfl rfl ?_
        refine v_iload_n 3 (pc' := 45) rfl dX5_strips_44 rfl rfl ?_
        refine v_idiv (z := ((t / 10 ^ j : Nat) : Int)) (pc' := 46) rfl dX5_strips_45 (iz_ne (by omega) (by omega)) (by rw [iz_divN (by omega) (by omega) (by omega) (by omega), ht, htens]; rfl) ?_
        refine v_nm (fun boxes' hboxes' => ?_)
        refine v_istore (ls' := [(4, _), (0, _), (1, _), (2, _), (3, _)]) (pc' := 48) rfl dX5_strips_46 rfl rfl ?_
        have hj9 : t / 10 ^ j < 10 := tens_9 (by omega) (by omega) hTN
        obtain ⟨BN, hBN⟩ : ∃ q, q = t / tensL 10 t 1 := ⟨_, rfl⟩
        obtain ⟨TN, hTN2⟩ : ∃ q, q = tensL 10 t 1 := ⟨_, rfl⟩
        have hboxes2 : boxes' = (BN : Int) := by rw [hBN, hTN]; exact hboxes'
        have hBN9 : BN < 10 := by rw [hBN, hTN]; exact hj9
        have hmod : t % tensL 10 t 1 < 10 := by rw [hTN]; exact tens_mod (k := 1) htk hj
        have htens2 : tens = (TN : Int) := by rw [hTN2, hTN]; exact htens
        have hTp : 0 < TN := by rw [hTN2, hTN]; exact hjp
        have hTt : TN ≤ t := by rw [hTN2, hTN]; exact hj
        refine v_iconst (pc' := 49) rfl dX5_strips_48 ?_
        refine v_istore (ls' := [(5, _), (4, _), (0, _), (1, _), (2, _), (3, _)]) (pc' := 51) rfl dX5_strips_49 rfl rfl ?_
        refine v_iload 1 (pc' := 53) rfl dX5_strips_51 rfl ?_
        refine v_istore (ls' := [(6, _), (5, _), (4, _), (0, _), (1, _), (2, _), (3, _)]) (pc' := 55) rfl dX5_strips_53 rfl rfl ?_
        refine v_ls [3, 4, 5, 6, 2, 1, 0] rfl ?_
        refine v_loop2 55 (fun (sum : Int) (fr : Int) => ∃ m fN : Nat, fr = fN ∧ fN + m = 14 ∧ BN ≤ fN ∧ stS (fun b => strN 1 b (t % tensL 10 t 1)) bN BN m fN sum = strN 2 bN t) (fun (sum : Int) (fr : Int) => (14 - fr).toNat) (fun (sum : Int) (fr : Int) => [(0, aI (b0)), (1, aI (t0)), (2, aI (d0)), (3, aI (tens)), (4, aI (boxes')), (5, aI (sum)), (6, aI (fr))]) (fun (sum : Int) (fr : Int) => []) (fun (sum : Int) (fr : Int) => w) (fun sum fr hI1 ih1 => ?_) (0) (boxes') (⟨14 - BN, BN, hboxes2, by omega, Nat.le_refl _, by simp only [strN]; rw [if_neg (by omega), ← hBN]⟩)
        obtain ⟨m, fN, hfr, hfm, hbf, hS⟩ := hI1
        refine v_iload 6 (pc' := 57) rfl dX5_strips_55 rfl ?_
        refine v_bipush (pc' := 59) rfl dX5_strips_57 rfl ?_
        refine v_icmp_ge (pc' := 62) (tgt := 155) rfl dX5_strips_59 (by decide) (by omega) (by omega) (fun c4 => ?_) (fun c4 => ?_)
        ·
          have hret : strN 2 bN t = sum := by rw [← hS, show m = 0 by omega]; rfl
          refine v_iload 5 (pc' := 157) rfl dX5_strips_155 rfl ?_
          refine v_iret dX5_strips_157 (by decide) (rfl) ?_
          exact ⟨hret.symm, rfl⟩
        ·
          obtain ⟨m, rfl⟩ : ∃ q, m = q + 1 := ⟨m - 1, by omega⟩
          refine v_iload 6 (pc' := 64) rfl dX5_strips_62 rfl ?_
          refine v_iload 4 (pc' := 66) rfl dX5_strips_64 rfl ?_
          refine v_isub (pc' := 67) rfl dX5_strips_66 ?_
          refine v_nm (fun to' hto' => ?_)
          refine v_istore (ls' := [(7, _), (0, _), (1, _), (2, _), (3, _), (4, _), (5, _), (6, _)]) (pc' := 69) rfl dX5_strips_67 rfl rfl ?_
          refine v_iload_n 1 (pc' := 70) rfl dX5_strips_69 rfl rfl ?_
          refine v_iload 7 (pc' := 72) rfl dX5_strips_70 rfl ?_
          refine v_ishr (z := ((bN / 2 ^ fN : Nat) : Int)) (pc' := 73) rfl dX5_strips_72 (iz_shrE hb hfr (by omega) (by omega)) ?_
          refine v_iconst (pc' := 74) rfl dX5_strips_73 ?_
          refine v_iand (z := ((bN / 2 ^ fN % 2 : Nat) : Int)) (pc' := 75) rfl dX5_strips_74 (iz_and1 rfl) ?_
          refine v_iconst (pc' := 76) rfl dX5_strips_75 ?_
          refine v_icmp_ne (pc' := 79) (tgt := 149) rfl dX5_strips_76 (by decide) (by omega) (by omega) (fun c5 => ?_) (fun c5 => ?_)
          ·
            have hA : ¬ bN / 2 ^ fN % 2 = 1 := by omega
            have hB := hA
            refine v_iinc (ls' := [(6, _), (7, _), (0, _), (1, _), (2, _), (3, _), (4, _), (5, _)]) 7 (pc' := 152) rfl dX5_strips_149 rfl rfl rfl ?_
            refine v_nl (fun fr' hfr' => ?_)
            refine v_goto (tgt := 55) dX5_strips_152 (by decide) ?_
            refine v_ls [2, 3, 4, 5, 6, 7, 0] rfl ?_
            exact ih1 (sum) (fr') (⟨m, fN + 1, by omega, by omega, by omega, by rw [← hS]; simp only [stS, hA, hB, if_true, if_false]⟩) (by omega)
          ·
            have hA : bN / 2 ^ fN % 2 = 1 := by omega
            refine v_iload_n 1 (pc' := 80) rfl dX5_strips_79 rfl rfl ?_
            refine v_iload 0 (pc' := 82) rfl dX5_strips_80 rfl ?_
            refine v_ishr (z := ((bN / 2 ^ (fN - BN) : Nat) : Int)) (pc' := 83) rfl dX5_strips_82 (iz_shrE hb (by omega) (by omega) (by omega)) ?_
            refine v_iconst (pc' := 84) rfl dX5_strips_83 ?_
            refine v_iand (z := ((bN / 2 ^ (fN - BN) % 2 : Nat) : Int)) (pc' := 85) rfl dX5_strips_84 (iz_and1 rfl) ?_
            refine v_if_ne (pc' := 88) (tgt := 149) rfl dX5_strips_85 (by decide) (by omega) (fun c6 => ?_) (fun c6 => ?_)
            ·
              have hB : ¬ bN / 2 ^ (fN - BN) % 2 = 0 := by omega
              refine v_iinc (ls' := [(6, _), (7, _), (0, _), (1, _), (2, _), (3, _), (4, _), (5, _)]) 7 (pc' := 152) rfl dX5_strips_149 rfl rfl rfl ?_
              refine v_nl (fun fr' hfr' => ?_)
              refine v_goto (tgt := 55) dX5_strips_152 (by decide) ?_
              refine v_ls [2, 3, 4, 5, 6, 7, 0] rfl ?_
              exact ih1 (sum) (fr') (⟨m, fN + 1, by omega, by omega, by omega, by rw [← hS]; simp only [stS, hA, hB, if_true, if_false]⟩) (by omega)
            ·
              have hB : bN / 2 ^ (fN - BN) % 2 = 0 := by omega
              refine v_iload_n 1 (pc' := 89) rfl dX5_strips_88 rfl rfl ?_
              refine v_iconst (pc' := 90) rfl dX5_strips_89 ?_
              refine v_iload 7 (pc' := 92) rfl dX5_strips_90 rfl ?_
              refine v_ishl (z := ((2 ^ fN : Nat) : Int)) (pc' := 93) rfl dX5_strips_92 (iz_one_shl hfr (by omega)) ?_
              refine v_iconst (pc' := 94) rfl dX5_strips_93 ?_
              refine v_isub (pc' := 95) rfl dX5_strips_94 ?_
              refine v_iand (z := ((bN % 2 ^ fN : Nat) : Int)) (pc' := 96) rfl dX5_strips_95 (iz_andlow hb rfl) ?_
              refine v_iconst (pc' := 97) rfl dX5_strips_96 ?_
              refine v_iload 0 (pc' := 99) rfl dX5_strips_97 rfl ?_
              refine v_ishl (z := ((2 ^ (fN - BN) : Nat) : Int)) (pc' := 100) rfl dX5_strips_99 (iz_one_shl (by omega) (by omega)) ?_
              refine v_ineg (pc' := 101) rfl dX5_strips_100 ?_
              refine v_iand (z := ((bN % 2 ^ fN / 2 ^ (fN - BN) * 2 ^ (fN - BN) : Nat) : Int)) (pc' := 102) rfl dX5_strips_101 (iz_mask rfl rfl (Nat.lt_of_le_of_lt (Nat.mod_le _ _) hbl) (by omega)) ?_
              refine v_nm (fun over' hover' => ?_)
              refine v_istore (ls' := [(8, _), (7, _), (0, _), (1, _), (2, _), (3, _), (4, _), (5, _), (6, _)]) (pc' := 104) rfl dX5_strips_102 rfl rfl ?_
              refine v_iload_n 2 (pc' := 105) rfl dX5_strips_104 rfl rfl ?_
              refine v_iconst (pc' := 106) rfl dX5_strips_105 ?_
              refine v_iload 8 (pc' := 108) rfl dX5_strips_106 rfl ?_
              refine v_ishl (z := ((2 ^ fN : Nat) : Int)) (pc' := 109) rfl dX5_strips_108 (iz_one_shl hfr (by omega)) ?_
              refine v_ixor (z := ((bN ^^^ 2 ^ fN : Nat) : Int)) (pc' := 110) rfl dX5_strips_109 (iz_xorE hb rfl) ?_
              refine v_iconst (pc' := 111) rfl dX5_strips_110 ?_
              refine v_iload 1 (pc' := 113) rfl dX5_strips_111 rfl ?_
              refine v_ishl (z := ((2 ^ (fN - BN) : Nat) : Int)) (pc' := 114) rfl dX5_strips_113 (iz_one_shl (by omega) (by omega)) ?_
              refine v_ixor (z := ((bN ^^^ 2 ^ fN ^^^ 2 ^ (fN - BN) : Nat) : Int)) (pc' := 115) rfl dX5_strips_114 (iz_xorE rfl rfl) ?_
              refine v_iload_n 3 (pc' := 116) rfl dX5_strips_115 rfl rfl ?_
              refine v_iload_n 5 (pc' := 117) rfl dX5_strips_116 rfl rfl ?_
              refine v_irem (z := ((t % TN : Nat) : Int)) (pc' := 118) rfl dX5_strips_117 (iz_ne (by omega) (by omega)) (by rw [iz_remN (by omega) (by omega) (by omega) (by omega), ht, htens2]; rfl) ?_
              refine v_iload_n 4 (pc' := 119) rfl dX5_strips_118 rfl rfl ?_
              refine v_iconst (pc' := 120) rfl dX5_strips_119 ?_
              refine v_iadd (pc' := 121) rfl dX5_strips_120 ?_
              refine v_cSP (pc' := 124) rfl dX5_strips_121 lk_RX5_32 rfl (c_strips1 l G rfl (xor_lt14 (xor_lt14 hbl (by omega)) (by omega)) (t := t % tensL 10 t 1) (by rw [hTN2]) hmod (by omega) w) rfl rfl rfl ?_
              refine v_nm (fun strips1 hstrips1 => ?_)
              refine v_istore (ls' := [(9, _), (8, _), (7, _), (0, _), (1, _), (2, _), (3, _), (4, _), (5, _), (6, _)]) (pc' := 126) rfl dX5_strips_124 rfl rfl ?_
              refine v_iload 8 (pc' := 128) rfl dX5_strips_126 rfl ?_
              refine v_iload 1 (pc' := 130) rfl dX5_strips_128 rfl ?_
              refine v_cSP (pc' := 133) rfl dX5_strips_130 lk_RX5_36 rfl (c_bitCount l G hover' (mask_lt hbl) w) rfl rfl rfl ?_
              refine v_nm (fun bitCount1 hbitCount1 => ?_)
              refine v_iconst (pc' := 134) rfl dX5_strips_133 ?_
              refine v_iand (z := ((popc ((bN % 2 ^ fN) / 2 ^ (fN - BN) * 2 ^ (fN - BN)) % 2 : Nat) : Int)) (pc' := 135) rfl dX5_strips_134 (iz_and1 hbitCount1) ?_
              refine v_if_ne (pc' := 138) (tgt := 143) rfl dX5_strips_135 (by decide) (by omega) (fun c7 => ?_) (fun c7 => ?_)
              ·
                have hC : ¬ popc ((bN % 2 ^ fN) / 2 ^ (fN - BN) * 2 ^ (fN - BN)) % 2 = 0 := by omega
                refine v_iload 0 (pc' := 145) rfl dX5_strips_143 rfl ?_
                refine v_ineg (pc' := 146) rfl dX5_strips_145 ?_
                refine v_iadd (pc' := 147) rfl dX5_strips_146 ?_
                refine v_nm (fun sum' hsum' => ?_)
                refine v_istore (ls' := [(5, _), (9, _), (8, _), (7, _), (0, _), (1, _), (2, _), (3, _), (4, _), (6, _)]) (pc' := 149) rfl dX5_strips_147 rfl rfl ?_
                refine v_iinc (ls' := [(6, _), (5, _), (9, _), (8, _), (7, _), (0, _), (1, _), (2, _), (3, _), (4, _)]) 9 (pc' := 152) rfl dX5_strips_149 rfl rfl rfl ?_
                refine v_nl (fun fr' hfr' => ?_)
                refine v_goto (tgt := 55) dX5_strips_152 (by decide) ?_
                refine v_ls [5, 6, 7, 8, 9, 1, 0] rfl ?_
                exact ih1 (sum') (fr') (⟨m, fN + 1, by omega, by omega, by omega, by rw [← hS]; simp only [stS, hA, hB, if_true, if_false, hC, hsum', hstrips1]⟩) (by omega)
              ·
                have hC : popc ((bN % 2 ^ fN) / 2 ^ (fN - BN) * 2 ^ (fN - BN)) % 2 = 0 := by omega
                refine v_iload 0 (pc' := 140) rfl dX5_strips_138 rfl ?_
                refine v_goto (tgt := 146) dX5_strips_140 (by decide) ?_
                refine v_iadd (pc' := 147) rfl dX5_strips_146 ?_
                refine v_nm (fun sum' hsum' => ?_)
                refine v_istore (ls' := [(5, _), (9, _), (8, _), (7, _), (0, _), (1, _), (2, _), (3, _), (4, _), (6, _)]) (pc' := 149) rfl dX5_strips_147 rfl rfl ?_
                refine v_iinc (ls' := [(6, _), (5, _), (9, _), (8, _), (7, _), (0, _), (1, _), (2, _), (3, _), (4, _)]) 9 (pc' := 152) rfl dX5_strips_149 rfl rfl rfl ?_
                refine v_nl (fun fr' hfr' => ?_)
                refine v_goto (tgt := 55) dX5_strips_152 (by decide) ?_
                refine v_ls [5, 6, 7, 8, 9, 1, 0] rfl ?_
                exact ih1 (sum') (fr') (⟨m, fN + 1, by omega, by omega, by omega, by rw [← hS]; simp only [stS, hA, hB, if_true, if_false, hC, hsum', hstrips1]⟩) (by omega)
      ·
        obtain ⟨m, rfl⟩ : ∃ q, m = q + 1 := ⟨m - 1, by omega⟩
        have hge : 10 ≤ t / 10 ^ j := by omega
        refine v_iload_n 3 (pc' := 33) rfl dX5_strips_32 rfl rfl ?_
        refine v_bipush (pc' := 35) rfl dX5_strips_33 rfl ?_
        refine v_imul (pc' := 36) rfl dX5_strips_35 ?_
        refine v_nm (fun tens' htens' => ?_)
        refine v_istore_n (ls' := [(3, _), (0, _), (1, _), (2, _), (4, _)]) (pc' := 37) rfl dX5_strips_36 rfl rfl rfl ?_
        refine v_iinc (ls' := [(4, _), (3, _), (0, _), (1, _), (2, _)]) 4 (pc' := 40) rfl dX5_strips_37 rfl rfl rfl ?_
        refine v_nl (fun i' hi' => ?_)
        refine v_goto (tgt := 17) dX5_strips_40 (by decide) ?_
        refine v_ls [2, 3, 4, 1, 0] rfl ?_
        exact ih0 (tens') (i') (⟨m, j + 1, by omega, by omega, by rw [Nat.pow_succ]; omega, by rw [Nat.pow_succ]; have := Nat.div_mul_le_self t (10 ^ j); have := (Nat.le_div_iff_mul_le hjp).mp hge; omega, by rw [← hT, Nat.pow_succ]; simp only [tensL]; rw [if_neg (by omega)]⟩) (by omega)
set_option maxHeartbeats 4000000 in
set_option maxRecDepth 100000 in
theorem c_strips3 (l : Launch) (G : Gx) {b0 t0 d0 : Int} {bN t : Nat} (hb : b0 = bN) (hbl : bN < 16384) (ht : t0 = t) (htk : t < 1000) (hd : 0 ≤ d0 ∧ d0 + 3 ≤ 7) (w : Wd) : SpP l G 3 mX5_strips [aI (b0), aI (t0), aI (d0)] w (strN 3 bN t) := by
  refine Sp_of RX5 rfl (by decide +kernel) rfl (Nat.le_of_ble_eq_true rfl) ?_
  refine v_iload_n 1 (pc' := 1) rfl dX5_strips_0 rfl rfl ?_
  refine v_if_eq (pc' := 4) (tgt := 10) rfl dX5_strips_1 (by decide) (by omega) (fun c0 => ?_) (fun c0 => ?_)
  ·
    refine v_iconst (pc' := 11) rfl dX5_strips_10 ?_
    refine v_iret dX5_strips_11 (by decide) (rfl) ?_
    have h0 : t = 0 := by omega
    exact ⟨by rw [h0]; rfl, rfl⟩
  ·
    refine v_iload_n 2 (pc' := 5) rfl dX5_strips_4 rfl rfl ?_
    refine v_bipush (pc' := 7) rfl dX5_strips_5 rfl ?_
    refine v_icmp_le (pc' := 10) (tgt := 12) rfl dX5_strips_7 (by decide) (by omega) (by omega) (fun c1 => ?_) (fun c1 => absurd c1 (by omega))
    refine v_iconst (pc' := 13) rfl dX5_strips_12 ?_
    refine v_istore_n (ls' := [(3, _), (0, _), (1, _), (2, _)]) (pc' := 14) rfl dX5_strips_13 rfl rfl rfl ?_
    refine v_iconst (pc' := 15) rfl dX5_strips_14 ?_
    refine v_istore (ls' := [(4, _), (3, _), (0, _), (1, _), (2, _)]) (pc' := 17) rfl dX5_strips_15 rfl rfl ?_
    refine v_ls [2, 3, 4, 1, 0] rfl ?_
    refine v_loop2 17 (fun (tens : Int) (i : Int) => ∃ m j : Nat, i + m = 10 ∧ 0 ≤ i ∧ tens = ((10 ^ j : Nat) : Int) ∧ 10 ^ j ≤ t ∧ tensL m t (10 ^ j) = tensL 10 t 1) (fun (tens : Int) (i : Int) => (10 - i).toNat) (fun (tens : Int) (i : Int) => [(0, aI (b0)), (1, aI (t0)), (2, aI (d0)), (3, aI (tens)), (4, aI (i))]) (fun (tens : Int) (i : Int) => []) (fun (tens : Int) (i : Int) => w) (fun tens i hI0 ih0 => ?_) (1) (0) (⟨10, 0, by omega, by omega, rfl, by omega, rfl⟩)
    obtain ⟨m, j, him, hi0, htens, hj, hT⟩ := hI0
    have hjp : 0 < 10 ^ j := Nat.pow_pos (by decide)
    refine v_iload 4 (pc' := 19) rfl dX5_strips_17 rfl ?_
    refine v_bipush (pc' := 21) rfl dX5_strips_19 rfl ?_
    refine v_icmp_ge (pc' := 24) (tgt := 43) rfl dX5_strips_21 (by decide) (by omega) (by omega) (fun c2 => ?_) (fun c2 => ?_)
    ·
      have hTN : tensL 10 t 1 = 10 ^ j := by rw [← hT, show m = 0 by omega]; rfl
      refine v_iload_n 1 (pc' := 44) rfl dX5_strips_43 rfl rfl ?_
      refine v_iload_n 3 (pc' := 45) rfl dX5_strips_44 rfl rfl ?_
      refine v_idiv (z := ((t / 10 ^ j : Nat) : Int)) (pc' := 46) rfl dX5_strips_45 (iz_ne (by omega) (by omega)) (by rw [iz_divN (by omega) (by omega) (by omega) (by omega), ht, htens]; rfl) ?_
      refine v_nm (fun boxes' hboxes' => ?_)
      refine v_istore (ls' := [(4, _), (0, _), (1, _), (2, _), (3, _)]) (pc' := 48) rfl dX5_strips_46 rfl rfl ?_
      have hj9 : t / 10 ^ j < 10 := tens_9 (by omega) (by omega) hTN
      obtain ⟨BN, hBN⟩ : ∃ q, q = t / tensL 10 t 1 := ⟨_, rfl⟩
      obtain ⟨TN, hTN2⟩ : ∃ q, q = tensL 10 t 1 := ⟨_, rfl⟩
      have hboxes2 : boxes' = (BN : Int) := by rw [hBN, hTN]; exact hboxes'
      have hBN9 : BN < 10 := by rw [hBN, hTN]; exact hj9
      have hmod : t % tensL 10 t 1 < 100 := by rw [hTN]; exact tens_mod (k := 2) htk hj
      have htens2 : tens = (TN : Int) := by rw [hTN2, hTN]; exact htens
      have hTp : 0 < TN := by rw [hTN2, hTN]; exact hjp
      have hTt : TN ≤ t := by rw [hTN2, hTN]; exact hj
      refine v_iconst (pc' := 49) rfl dX5_strips_48 ?_
      refine v_istore (ls' := [(5, _), (4, _), (0, _), (1, _), (2, _), (3, _)]) (pc' := 51) rfl dX5_strips_49 rfl rfl ?_
      refine v_iload 1 (pc' := 53) rfl dX5_strips_51 rfl ?_
      refine v_istore (ls' := [(6, _), (5, _), (4, _), (0, _), (1, _), (2, _), (3, _)]) (pc' := 55) rfl dX5_strips_53 rfl rfl ?_
      refine v_ls [3, 4, 5, 6, 2, 1, 0] rfl ?_
      refine v_loop2 55 (fun (sum : Int) (fr : Int) => ∃ m fN : Nat, fr = fN ∧ fN + m = 14 ∧ BN ≤ fN ∧ stS (fun b => strN 2 b (t % tensL 10 t 1)) bN BN m fN sum = strN 3 bN t) (fun (sum : Int) (fr : Int) => (14 - fr).toNat) (fun (sum : Int) (fr : Int) => [(0, aI (b0)), (1, aI (t0)), (2, aI (d0)), (3, aI (tens)), (4, aI (boxes')), (5, aI (sum)), (6, aI (fr))]) (fun (sum : Int) (fr : Int) => []) (fun (sum : Int) (fr : Int) => w) (fun sum fr hI1 ih1 => ?_) (0) (boxes') (⟨14 - BN, BN, hboxes2, by omega, Nat.le_refl _, by simp only [strN]; rw [if_neg (by omega), ← hBN]⟩)
      obtain ⟨m, fN, hfr, hfm, hbf, hS⟩ := hI1
      refine v_iload 6 (pc' := 57) rfl dX5_strips_55 rfl ?_
      refine v_bipush (pc' := 59) rfl dX5_strips_57 rfl ?_
      refine v_icmp_ge (pc' := 62) (tgt := 155) rfl dX5_strips_59 (by decide) (by omega) (by omega) (fun c4 => ?_) (fun c4 => ?_)
      ·
        have hret : strN 3 bN t = sum := by rw [← hS, show m = 0 by omega]; rfl
        refine v_iload 5 (pc' := 157) rfl dX5_strips_155 rfl ?_
        refine v_iret dX5_strips_157 (by decide) (rfl) ?_
        exact ⟨hret.symm, rfl⟩
      ·
        obtain ⟨m, rfl⟩ : ∃ q, m = q + 1 := ⟨m - 1, by omega⟩
        refine v_iload 6 (pc' := 64) rfl dX5_strips_62 rfl ?_
        refine v_iload 4 (pc' := 66) rfl dX5_strips_64 rfl ?_
        refine v_isub (pc' := 67) rfl dX5_strips_66 ?_
        refine v_nm (fun to' hto' => ?_)
        refine v_istore (ls' := [(7, _), (0, _), (1, _), (2, _), (3, _), (4, _), (5, _), (6, _)]) (pc' := 69) rfl dX5_strips_67 rfl rfl ?_
        refine v_iload_n 1 (pc' := 70) rfl dX5_strips_69 rfl rfl ?_
        refine v_iload 7 (pc' := 72) rfl dX5_strips_70 rfl ?_
        refine v_ishr (z := ((bN / 2 ^ fN : Nat) : Int)) (pc' := 73) rfl dX5_strips_72 (iz_shrE hb hfr (by omega) (by omega)) ?_
        refine v_iconst (pc' := 74) rfl dX5_strips_73 ?_
        refine v_iand (z := ((bN / 2 ^ fN % 2 : Nat) : Int)) (pc' := 75) rfl dX5_strips_74 (iz_and1 rfl) ?_
        refine v_iconst (pc' := 76) rfl dX5_strips_75 ?_
        refine v_icmp_ne (pc' := 79) (tgt := 149) rfl dX5_strips_76 (by decide) (by omega) (by omega) (fun c5 => ?_) (fun c5 => ?_)
        ·
          have hA : ¬ bN / 2 ^ fN % 2 = 1 := by omega
          have hB := hA
          refine v_iinc (ls' := [(6, _), (7, _), (0, _), (1, _), (2, _), (3, _), (4, _), (5, _)]) 7 (pc' := 152) rfl dX5_strips_149 rfl rfl rfl ?_
          refine v_nl (fun fr' hfr' => ?_)
          refine v_goto (tgt := 55) dX5_strips_152 (by decide) ?_
          refine v_ls [2, 3, 4, 5, 6, 7, 0] rfl ?_
          exact ih1 (sum) (fr') (⟨m, fN + 1, by omega, by omega, by omega, by rw [← hS]; simp only [stS, hA, hB, if_true, if_false]⟩) (by omega)
        ·
          have hA : bN / 2 ^ fN % 2 = 1 := by omega
          refine v_iload_n 1 (pc' := 80) rfl dX5_strips_79 rfl rfl ?_
          refine v_iload 0 (pc' := 82) rfl dX5_strips_80 rfl ?_
          refine v_ishr (z := ((bN / 2 ^ (fN - BN) : Nat) : Int)) (pc' := 83) rfl dX5_strips_82 (iz_shrE hb (by omega) (by omega) (by omega)) ?_
          refine v_iconst (pc' := 84) rfl dX5_strips_83 ?_
          refine v_iand (z := ((bN / 2 ^ (fN - BN) % 2 : Nat) : Int)) (pc' := 85) rfl dX5_strips_84 (iz_and1 rfl) ?_
          refine v_if_ne (pc' := 88) (tgt := 149) rfl dX5_strips_85 (by decide) (by omega) (fun c6 => ?_) (fun c6 => ?_)
          ·
            have hB : ¬ bN / 2 ^ (fN - BN) % 2 = 0 := by omega
            refine v_iinc (ls' := [(6, _), (7, _), (0, _), (1, _), (2, _), (3, _), (4, _), (5, _)]) 7 (pc' := 152) rfl dX5_strips_149 rfl rfl rfl ?_
            refine v_nl (fun fr' hfr' => ?_)
            refine v_goto (tgt := 55) dX5_strips_152 (by decide) ?_
            refine v_ls [2, 3, 4, 5, 6, 7, 0] rfl ?_
            exact ih1 (sum) (fr') (⟨m, fN + 1, by omega, by omega, by omega, by rw [← hS]; simp only [stS, hA, hB, if_true, if_false]⟩) (by omega)
          ·
            have hB : bN / 2 ^ (fN - BN) % 2 = 0 := by omega
            refine v_iload_n 1 (pc' := 89) rfl dX5_strips_88 rfl rfl ?_
            refine v_iconst (pc' := 90) rfl dX5_strips_89 ?_
            refine v_iload 7 (pc' := 92) rfl dX5_strips_90 rfl ?_
            refine v_ishl (z := ((2 ^ fN : Nat) : Int)) (pc' := 93) rfl dX5_strips_92 (iz_one_shl hfr (by omega)) ?_
            refine v_iconst (pc' := 94) rfl dX5_strips_93 ?_
            refine v_isub (pc' := 95) rfl dX5_strips_94 ?_
            refine v_iand (z := ((bN % 2 ^ fN : Nat) : Int)) (pc' := 96) rfl dX5_strips_95 (iz_andlow hb rfl) ?_
            refine v_iconst (pc' := 97) rfl dX5_strips_96 ?_
            refine v_iload 0 (pc' := 99) rfl dX5_strips_97 rfl ?_
            refine v_ishl (z := ((2 ^ (fN - BN) : Nat) : Int)) (pc' := 100) rfl dX5_strips_99 (iz_one_shl (by omega) (by omega)) ?_
            refine v_ineg (pc' := 101) rfl dX5_strips_100 ?_
            refine v_iand (z := ((bN % 2 ^ fN / 2 ^ (fN - BN) * 2 ^ (fN - BN) : Nat) : Int)) (pc' := 102) rfl dX5_strips_101 (iz_mask rfl rfl (Nat.lt_of_le_of_lt (Nat.mod_le _ _) hbl) (by omega)) ?_
            refine v_nm (fun over' hover' => ?_)
            refine v_istore (ls' := [(8, _), (7, _), (0, _), (1, _), (2, _), (3, _), (4, _), (5, _), (6, _)]) (pc' := 104) rfl dX5_strips_102 rfl rfl ?_
            refine v_iload_n 2 (pc' := 105) rfl dX5_strips_104 rfl rfl ?_
            refine v_iconst (pc' := 106) rfl dX5_strips_105 ?_
            refine v_iload 8 (pc' := 108) rfl dX5_strips_106 rfl ?_
            refine v_ishl (z := ((2 ^ fN : Nat) : Int)) (pc' := 109) rfl dX5_strips_108 (iz_one_shl hfr (by omega)) ?_
            refine v_ixor (z := ((bN ^^^ 2 ^ fN : Nat) : Int)) (pc' := 110) rfl dX5_strips_109 (iz_xorE hb rfl) ?_
            refine v_iconst (pc' := 111) rfl dX5_strips_110 ?_
            refine v_iload 1 (pc' := 113) rfl dX5_strips_111 rfl ?_
            refine v_ishl (z := ((2 ^ (fN - BN) : Nat) : Int)) (pc' := 114) rfl dX5_strips_113 (iz_one_shl (by omega) (by omega)) ?_
            refine v_ixor (z := ((bN ^^^ 2 ^ fN ^^^ 2 ^ (fN - BN) : Nat) : Int)) (pc' := 115) rfl dX5_strips_114 (iz_xorE rfl rfl) ?_
            refine v_iload_n 3 (pc' := 116) rfl dX5_strips_115 rfl rfl ?_
            refine v_iload_n 5 (pc' := 117) rfl dX5_strips_116 rfl rfl ?_
            refine v_irem (z := ((t % TN : Nat) : Int)) (pc' := 118) rfl dX5_strips_117 (iz_ne (by omega) (by omega)) (by rw [iz_remN (by omega) (by omega) (by omega) (by omega), ht, htens2]; rfl) ?_
            refine v_iload_n 4 (pc' := 119) rfl dX5_strips_118 rfl rfl ?_
            refine v_iconst (pc' := 120) rfl dX5_strips_119 ?_
            refine v_iadd (pc' := 121) rfl dX5_strips_120 ?_
            refine v_cSP (pc' := 124) rfl dX5_strips_121 lk_RX5_32 rfl (c_strips2 l G rfl (xor_lt14 (xor_lt14 hbl (by omega)) (by omega)) (t := t % tensL 10 t 1) (by rw [hTN2]) hmod (by omega) w) rfl rfl rfl ?_
            refine v_nm (fun strips1 hstrips1 => ?_)
            refine v_istore (ls' := [(9, _), (8, _), (7, _), (0, _), (1, _), (2, _), (3, _), (4, _), (5, _), (6, _)]) (pc' := 126) rfl dX5_strips_124 rfl rfl ?_
            refine v_iload 8 (pc' := 128) rfl dX5_strips_126 rfl ?_
            refine v_iload 1 (pc' := 130) rfl dX5_strips_128 rfl ?_
            refine v_cSP (pc' := 133) rfl dX5_strips_130 lk_RX5_36 rfl (c_bitCount l G hover' (mask_lt hbl) w) rfl rfl rfl ?_
            refine v_nm (fun bitCount1 hbitCount1 => ?_)
            refine v_iconst (pc' := 134) rfl dX5_strips_133 ?_
            refine v_iand (z := ((popc ((bN % 2 ^ fN) / 2 ^ (fN - BN) * 2 ^ (fN - BN)) % 2 : Nat) : Int)) (pc' := 135) rfl dX5_strips_134 (iz_and1 hbitCount1) ?_
            refine v_if_ne (pc' := 138) (tgt := 143) rfl dX5_strips_135 (by decide) (by omega) (fun c7 => ?_) (fun c7 => ?_)
            ·
              have hC : ¬ popc ((bN % 2 ^ fN) / 2 ^ (fN - BN) * 2 ^ (fN - BN)) % 2 = 0 := by omega
              refine v_iload 0 (pc' := 145) rfl dX5_strips_143 rfl ?_
              refine v_ineg (pc' := 146) rfl dX5_strips_145 ?_
              refine v_iadd (pc' := 147) rfl dX5_strips_146 ?_
              refine v_nm (fun sum' hsum' => ?_)
              refine v_istore (ls' := [(5, _), (9, _), (8, _), (7, _), (0, _), (1, _), (2, _), (3, _), (4, _), (6, _)]) (pc' := 149) rfl dX5_strips_147 rfl rfl ?_
              refine v_iinc (ls' := [(6, _), (5, _), (9, _), (8, _), (7, _), (0, _), (1, _), (2, _), (3, _), (4, _)]) 9 (pc' := 152) rfl dX5_strips_149 rfl rfl rfl ?_
              refine v_nl (fun fr' hfr' => ?_)
              refine v_goto (tgt := 55) dX5_strips_152 (by decide) ?_
              refine v_ls [5, 6, 7, 8, 9, 1, 0] rfl ?_
              exact ih1 (sum') (fr') (⟨m, fN + 1, by omega, by omega, by omega, by rw [← hS]; simp only [stS, hA, hB, if_true, if_false, hC, hsum', hstrips1]⟩) (by omega)
            ·
              have hC : popc ((bN % 2 ^ fN) / 2 ^ (fN - BN) * 2 ^ (fN - BN)) % 2 = 0 := by omega
              refine v_iload 0 (pc' := 140) rfl dX5_strips_138 rfl ?_
              refine v_goto (tgt := 146) dX5_strips_140 (by decide) ?_
              refine v_iadd (pc' := 147) rfl dX5_strips_146 ?_
              refine v_nm (fun sum' hsum' => ?_)
              refine v_istore (ls' := [(5, _), (9, _), (8, _), (7, _), (0, _), (1, _), (2, _), (3, _), (4, _), (6, _)]) (pc' := 149) rfl dX5_strips_147 rfl rfl ?_
              refine v_iinc (ls' := [(6, _), (5, _), (9, _), (8, _), (7, _), (0, _), (1, _), (2, _), (3, _), (4, _)]) 9 (pc' := 152) rfl dX5_strips_149 rfl rfl rfl ?_
              refine v_nl (fun fr' hfr' => ?_)
              refine v_goto (tgt := 55) dX5_strips_152 (by decide) ?_
              refine v_ls [5, 6, 7, 8, 9, 1, 0] rfl ?_
              exact ih1 (sum') (fr') (⟨m, fN + 1, by omega, by omega, by omega, by rw [← hS]; simp only [stS, hA, hB, if_true, if_false, hC, hsum', hstrips1]⟩) (by omega)
    ·
      refine v_iload_n 1 (pc' := 25) rfl dX5_strips_24 rfl rfl ?_
      refine v_iload_n 3 (pc' := 26) rfl dX5_strips_25 rfl rfl ?_
      refine v_idiv (z := ((t / 10 ^ j : Nat) : Int)) (pc' := 27) rfl dX5_strips_26 (iz_ne (by omega) (by omega)) (by rw [iz_divN (by omega) (by omega) (by omega) (by omega), ht, htens]; rfl) ?_
      refine v_bipush (pc' := 29) rfl dX5_strips_27 rfl ?_
      refine v_icmp_lt (pc' := 32) (tgt := 43) rfl dX5_strips_29 (by decide) (by have hq := Nat.div_le_self t (10 ^ j); clear hT; generalize t / 10 ^ j = q at hq ⊢; omega) (by omega) (fun c3 => ?_) (fun c3 => ?_)
      ·
        have hTN : tensL 10 t 1 = 10 ^ j := by
          rw [← hT]
          cases m with
          | zero => rfl
          | succ m => simp only [tensL]; rw [if_pos (by omega)]
        refine v_iload_n 1 (pc' := 44) rfl dX5_strips_43 rfl rfl ?_
        refine v_iload_n 3 (pc' := 45) rfl dX5_strips_44 rfl rfl ?_
        refine v_idiv (z := ((t / 10 ^ j : Nat) : Int)) (pc' := 46) rfl dX5_strips_45 (iz_ne (by omega) (by omega)) (by rw [iz_divN (by omega) (by omega) (by omega) (by omega), ht, htens]; rfl) ?_
        refine v_nm (fun boxes' hboxes' => ?_)
        refine v_istore (ls' := [(4, _), (0, _), (1, _), (2, _), (3, _)]) (pc' := 48) rfl dX5_strips_46 rfl rfl ?_
        have hj9 : t / 10 ^ j < 10 := tens_9 (by omega) (by omega) hTN
        obtain ⟨BN, hBN⟩ : ∃ q, q = t / tensL 10 t 1 := ⟨_, rfl⟩
        obtain ⟨TN, hTN2⟩ : ∃ q, q = tensL 10 t 1 := ⟨_, rfl⟩
        have hboxes2 : boxes' = (BN : Int) := by rw [hBN, hTN]; exact hboxes'
        have hBN9 : BN < 10 := by rw [hBN, hTN]; exact hj9
        have hmod : t % tensL 10 t 1 < 100 := by rw [hTN]; exact tens_mod (k := 2) htk hj
        have htens2 : tens = (TN : Int) := by rw [hTN2, hTN]; exact htens
        have hTp : 0 < TN := by rw [hTN2, hTN]; exact hjp
        have hTt : TN ≤ t := by rw [hTN2, hTN]; exact hj
        refine v_iconst (pc' := 49) rfl dX5_strips_48 ?_
        refine v_istore (ls' := [(5, _), (4, _), (0, _), (1, _), (2, _), (3, _)]) (pc' := 51) rfl dX5_strips_49 rfl rfl ?_
        refine v_iload 1 (pc' := 53) rfl dX5_strips_51 rfl ?_
        refine v_istore (ls' := [(6, _), (5, _), (4, _), (0, _), (1, _), (2, _), (3, _)]) (pc' := 55) rfl dX5_strips_53 rfl rfl ?_
        refine v_ls [3, 4, 5, 6, 2, 1, 0] rfl ?_
        refine v_loop2 55 (fun (sum : Int) (fr : Int) => ∃ m fN : Nat, fr = fN ∧ fN + m = 14 ∧ BN ≤ fN ∧ stS (fun b => strN 2 b (t % tensL 10 t 1)) bN BN m fN sum = strN 3 bN t) (fun (sum : Int) (fr : Int) => (14 - fr).toNat) (fun (sum : Int) (fr : Int) => [(0, aI (b0)), (1, aI (t0)), (2, aI (d0)), (3, aI (tens)), (4, aI (boxes')), (5, aI (sum)), (6, aI (fr))]) (fun (sum : Int) (fr : Int) => []) (fun (sum : Int) (fr : Int) => w) (fun sum fr hI1 ih1 => ?_) (0) (boxes') (⟨14 - BN, BN, hboxes2, by omega, Nat.le_refl _, by simp only [strN]; rw [if_neg (by omega), ← hBN]⟩)
        obtain ⟨m, fN, hfr, hfm, hbf, hS⟩ := hI1
        refine v_iload 6 (pc' := 57) rfl dX5_strips_55 rfl ?_
        refine v_bipush (pc' := 59) rfl dX5_strips_57 rfl ?_
        refine v_icmp_ge (pc' := 62) (tgt := 155) rfl dX5_strips_59 (by decide) (by omega) (by omega) (fun c4 => ?_) (fun c4 => ?_)
        ·
          have hret : strN 3 bN t = sum := by rw [← hS, show m = 0 by omega]; rfl
          refine v_iload 5 (pc' := 157) rfl dX5_strips_155 rfl ?_
          refine v_iret dX5_strips_157 (by decide) (rfl) ?_
          exact ⟨hret.symm, rfl⟩
        ·
          obtain ⟨m, rfl⟩ : ∃ q, m = q + 1 := ⟨m - 1, by omega⟩
          refine v_iload 6 (pc' := 64) rfl dX5_strips_62 rfl ?_
          refine v_iload 4 (pc' := 66) rfl dX5_strips_64 rfl ?_
          refine v_isub (pc' := 67) rfl dX5_strips_66 ?_
          refine v_nm (fun to' hto' => ?_)
          refine v_istore (ls' := [(7, _), (0, _), (1, _), (2, _), (3, _), (4, _), (5, _), (6, _)]) (pc' := 69) rfl dX5_strips_67 rfl rfl ?_
          refine v_iload_n 1 (pc' := 70) rfl dX5_strips_69 rfl rfl ?_
          refine v_iload 7 (pc' := 72) rfl dX5_strips_70 rfl ?_
          refine v_ishr (z := ((bN / 2 ^ fN : Nat) : Int)) (pc' := 73) rfl dX5_strips_72 (iz_shrE hb hfr (by omega) (by omega)) ?_
          refine v_iconst (pc' := 74) rfl dX5_strips_73 ?_
          refine v_iand (z := ((bN / 2 ^ fN % 2 : Nat) : Int)) (pc' := 75) rfl dX5_strips_74 (iz_and1 rfl) ?_
          refine v_iconst (pc' := 76) rfl dX5_strips_75 ?_
          refine v_icmp_ne (pc' := 79) (tgt := 149) rfl dX5_strips_76 (by decide) (by omega) (by omega) (fun c5 => ?_) (fun c5 => ?_)
          ·
            have hA : ¬ bN / 2 ^ fN % 2 = 1 := by omega
            have hB := hA
            refine v_iinc (ls' := [(6, _), (7, _), (0, _), (1, _), (2, _), (3, _), (4, _), (5, _)]) 7 (pc' := 152) rfl dX5_strips_149 rfl rfl rfl ?_
            refine v_nl (fun fr' hfr' => ?_)
            refine v_goto (tgt := 55) dX5_strips_152 (by decide) ?_
            refine v_ls [2, 3, 4, 5, 6, 7, 0] rfl ?_
            exact ih1 (sum) (fr') (⟨m, fN + 1, by omega, by omega, by omega, by rw [← hS]; simp only [stS, hA, hB, if_true, if_false]⟩) (by omega)
          ·
            have hA : bN / 2 ^ fN % 2 = 1 := by omega
            refine v_iload_n 1 (pc' := 80) rfl dX5_strips_79 rfl rfl ?_
            refine v_iload 0 (pc' := 82) rfl dX5_strips_80 rfl ?_
            refine v_ishr (z := ((bN / 2 ^ (fN - BN) : Nat) : Int)) (pc' := 83) rfl dX5_strips_82 (iz_shrE hb (by omega) (by omega) (by omega)) ?_
            refine v_iconst (pc' := 84) rfl dX5_strips_83 ?_
            refine v_iand (z := ((bN / 2 ^ (fN - BN) % 2 : Nat) : Int)) (pc' := 85) rfl dX5_strips_84 (iz_and1 rfl) ?_
            refine v_if_ne (pc' := 88) (tgt := 149) rfl dX5_strips_85 (by decide) (by omega) (fun c6 => ?_) (fun c6 => ?_)
            ·
              have hB : ¬ bN / 2 ^ (fN - BN) % 2 = 0 := by omega
              refine v_iinc (ls' := [(6, _), (7, _), (0, _), (1, _), (2, _), (3, _), (4, _), (5, _)]) 7 (pc' := 152) rfl dX5_strips_149 rfl rfl rfl ?_
              refine v_nl (fun fr' hfr' => ?_)
              refine v_goto (tgt := 55) dX5_strips_152 (by decide) ?_
              refine v_ls [2, 3, 4, 5, 6, 7, 0] rfl ?_
              exact ih1 (sum) (fr') (⟨m, fN + 1, by omega, by omega, by omega, by rw [← hS]; simp only [stS, hA, hB, if_true, if_false]⟩) (by omega)
            ·
              have hB : bN / 2 ^ (fN - BN) % 2 = 0 := by omega
              refine v_iload_n 1 (pc' := 89) rfl dX5_strips_88 rfl rfl ?_
              refine v_iconst (pc' := 90) rfl dX5_strips_89 ?_
              refine v_iload 7 (pc' := 92) rfl dX5_strips_90 rfl ?_
              refine v_ishl (z := ((2 ^ fN : Nat) : Int)) (pc' := 93) rfl dX5_strips_92 (iz_one_shl hfr (by omega)) ?_
              refine v_iconst (pc' := 94) rfl dX5_strips_93 ?_
              refine v_isub (pc' := 95) rfl dX5_strips_94 ?_
              refine v_iand (z := ((bN % 2 ^ fN : Nat) : Int)) (pc' := 96) rfl dX5_strips_95 (iz_andlow hb rfl) ?_
              refine v_iconst (pc' := 97) rfl dX5_strips_96 ?_
              refine v_iload 0 (pc' := 99) rfl dX5_strips_97 rfl ?_
              refine v_ishl (z := ((2 ^ (fN - BN) : Nat) : Int)) (pc' := 100) rfl dX5_strips_99 (iz_one_shl (by omega) (by omega)) ?_
              refine v_ineg (pc' := 101) rfl dX5_strips_100 ?_
              refine v_iand (z := ((bN % 2 ^ fN / 2 ^ (fN - BN) * 2 ^ (fN - BN) : Nat) : Int)) (pc' := 102) rfl dX5_strips_101 (iz_mask rfl rfl (Nat.lt_of_le_of_lt (Nat.mod_le _ _) hbl) (by omega)) ?_
              refine v_nm (fun over' hover' => ?_)
              refine v_istore (ls' := [(8, _), (7, _), (0, _), (1, _), (2, _), (3, _), (4, _), (5, _), (6, _)]) (pc' := 104) rfl dX5_strips_102 rfl rfl ?_
              refine v_iload_n 2 (pc' := 105) rfl dX5_strips_104 rfl rfl ?_
              refine v_iconst (pc' := 106) rfl dX5_strips_105 ?_
              refine v_iload 8 (pc' := 108) rfl dX5_strips_106 rfl ?_
              refine v_ishl (z := ((2 ^ fN : Nat) : Int)) (pc' := 109) rfl dX5_strips_108 (iz_one_shl hfr (by omega)) ?_
              refine v_ixor (z := ((bN ^^^ 2 ^ fN : Nat) : Int)) (pc' := 110) rfl dX5_strips_109 (iz_xorE hb rfl) ?_
              refine v_iconst (pc' := 111) rfl dX5_strips_110 ?_
              refine v_iload 1 (pc' := 113) rfl dX5_strips_111 rfl ?_
              refine v_ishl (z := ((2 ^ (fN - BN) : Nat) : Int)) (pc' := 114) rfl dX5_strips_113 (iz_one_shl (by omega) (by omega)) ?_
              refine v_ixor (z := ((bN ^^^ 2 ^ fN ^^^ 2 ^ (fN - BN) : Nat) : Int)) (pc' := 115) rfl dX5_strips_114 (iz_xorE rfl rfl) ?_
              refine v_iload_n 3 (pc' := 116) rfl dX5_strips_115 rfl rfl ?_
              refine v_iload_n 5 (pc' := 117) rfl dX5_strips_116 rfl rfl ?_
              refine v_irem (z := ((t % TN : Nat) : Int)) (pc' := 118) rfl dX5_strips_117 (iz_ne (by omega) (by omega)) (by rw [iz_remN (by omega) (by omega) (by omega) (by omega), ht, htens2]; rfl) ?_
              refine v_iload_n 4 (pc' := 119) rfl dX5_strips_118 rfl rfl ?_
              refine v_iconst (pc' := 120) rfl dX5_strips_119 ?_
              refine v_iadd (pc' := 121) rfl dX5_strips_120 ?_
              refine v_cSP (pc' := 124) rfl dX5_strips_121 lk_RX5_32 rfl (c_strips2 l G rfl (xor_lt14 (xor_lt14 hbl (by omega)) (by omega)) (t := t % tensL 10 t 1) (by rw [hTN2]) hmod (by omega) w) rfl rfl rfl ?_
              refine v_nm (fun strips1 hstrips1 => ?_)
              refine v_istore (ls' := [(9, _), (8, _), (7, _), (0, _), (1, _), (2, _), (3, _), (4, _), (5, _), (6, _)]) (pc' := 126) rfl dX5_strips_124 rfl rfl ?_
              refine v_iload 8 (pc' := 128) rfl dX5_strips_126 rfl ?_
              refine v_iload 1 (pc' := 130) rfl dX5_strips_128 rfl ?_
              refine v_cSP (pc' := 133) rfl dX5_strips_130 lk_RX5_36 rfl (c_bitCount l G hover' (mask_lt hbl) w) rfl rfl rfl ?_
              refine v_nm (fun bitCount1 hbitCount1 => ?_)
              refine v_iconst (pc' := 134) rfl dX5_strips_133 ?_
              refine v_iand (z := ((popc ((bN % 2 ^ fN) / 2 ^ (fN - BN) * 2 ^ (fN - BN)) % 2 : Nat) : Int)) (pc' := 135) rfl dX5_strips_134 (iz_and1 hbitCount1) ?_
              refine v_if_ne (pc' := 138) (tgt := 143) rfl dX5_strips_135 (by decide) (by omega) (fun c7 => ?_) (fun c7 => ?_)
              ·
                have hC : ¬ popc ((bN % 2 ^ fN) / 2 ^ (fN - BN) * 2 ^ (fN - BN)) % 2 = 0 := by omega
                refine v_iload 0 (pc' := 145) rfl dX5_strips_143 rfl ?_
                refine v_ineg (pc' := 146) rfl dX5_strips_145 ?_
                refine v_iadd (pc' := 147) rfl dX5_strips_146 ?_
                refine v_nm (fun sum' hsum' => ?_)
                refine v_istore (ls' := [(5, _), (9, _), (8, _), (7, _), (0, _), (1, _), (2, _), (3, _), (4, _), (6, _)]) (pc' := 149) rfl dX5_strips_147 rfl rfl ?_
                refine v_iinc (ls' := [(6, _), (5, _), (9, _), (8, _), (7, _), (0, _), (1, _), (2, _), (3, _), (4, _)]) 9 (pc' := 152) rfl dX5_strips_149 rfl rfl rfl ?_
                refine v_nl (fun fr' hfr' => ?_)
                refine v_goto (tgt := 55) dX5_strips_152 (by decide) ?_
                refine v_ls [5, 6, 7, 8, 9, 1, 0] rfl ?_
                exact ih1 (sum') (fr') (⟨m, fN + 1, by omega, by omega, by omega, by rw [← hS]; simp only [stS, hA, hB, if_true, if_false, hC, hsum', hstrips1]⟩) (by omega)
              ·
                have hC : popc ((bN % 2 ^ fN) / 2 ^ (fN - BN) * 2 ^ (fN - BN)) % 2 = 0 := by omega
                refine v_iload 0 (pc' := 140) rfl dX5_strips_138 rfl ?_
                refine v_goto (tgt := 146) dX5_strips_140 (by decide) ?_
                refine v_iadd (pc' := 147) rfl dX5_strips_146 ?_
                refine v_nm (fun sum' hsum' => ?_)
                refine v_istore (ls' := [(5, _), (9, _), (8, _), (7, _), (0, _), (1, _), (2, _), (3, _), (4, _), (6, _)]) (pc' := 149) rfl dX5_strips_147 rfl rfl ?_
                refine v_iinc (ls' := [(6, _), (5, _), (9, _), (8, _), (7, _), (0, _), (1, _), (2, _), (3, _), (4, _)]) 9 (pc' := 152) rfl dX5_strips_149 rfl rfl rfl ?_
                refine v_nl (fun fr' hfr' => ?_)
                refine v_goto (tgt := 55) dX5_strips_152 (by decide) ?_
                refine v_ls [5, 6, 7, 8, 9, 1, 0] rfl ?_
                exact ih1 (sum') (fr') (⟨m, fN + 1, by omega, by omega, by omega, by rw [← hS]; simp only [stS, hA, hB, if_true, if_false, hC, hsum', hstrips1]⟩) (by omega)
      ·
        obtain ⟨m, rfl⟩ : ∃ q, m = q + 1 := ⟨m - 1, by omega⟩
        have hge : 10 ≤ t / 10 ^ j := by omega
        refine v_iload_n 3 (pc' := 33) rfl dX5_strips_32 rfl rfl ?_
        refine v_bipush (pc' := 35) rfl dX5_strips_33 rfl ?_
        refine v_imul (pc' := 36) rfl dX5_strips_35 ?_
        refine v_nm (fun tens' htens' => ?_)
        refine v_istore_n (ls' := [(3, _), (0, _), (1, _), (2, _), (4, _)]) (pc' := 37) rfl dX5_strips_36 rfl rfl rfl ?_
        refine v_iinc (ls' := [(4, _), (3, _), (0, _), (1, _), (2, _)]) 4 (pc' := 40) rfl dX5_strips_37 rfl rfl rfl ?_
        refine v_nl (fun i' hi' => ?_)
        refine v_goto (tgt := 17) dX5_strips_40 (by decide) ?_
        refine v_ls [2, 3, 4, 1, 0] rfl ?_
        exact ih0 (tens') (i') (⟨m, j + 1, by omega, by omega, by rw [Nat.pow_succ]; omega, by rw [Nat.pow_succ]; have := Nat.div_mul_le_self t (10 ^ j); have := (Nat.le_div_iff_mul_le hjp).mp hge; omega, by rw [← hT, Nat.pow_succ]; simp only [tensL]; rw [if_neg (by omega)]⟩) (by omega)
set_option maxHeartbeats 4000000 in
set_option maxRecDepth 100000 in
theorem c_strips4 (l : Launch) (G : Gx) {b0 t0 d0 : Int} {bN t : Nat} (hb : b0 = bN) (hbl : bN < 16384) (ht : t0 = t) (htk : t < 10000) (hd : 0 ≤ d0 ∧ d0 + 4 ≤ 7) (w : Wd) : SpP l G 4 mX5_strips [aI (b0), aI (t0), aI (d0)] w (strN 4 bN t) := by
  refine Sp_of RX5 rfl (by decide +kernel) rfl (Nat.le_of_ble_eq_true rfl) ?_
  refine v_iload_n 1 (pc' := 1) rfl dX5_strips_0 rfl rfl ?_
  refine v_if_eq (pc' := 4) (tgt := 10) rfl dX5_strips_1 (by decide) (by omega) (fun c0 => ?_) (fun c0 => ?_)
  ·
    refine v_iconst (pc' := 11) rfl dX5_strips_10 ?_
    refine v_iret dX5_strips_11 (by decide) (rfl) ?_
    have h0 : t = 0 := by omega
    exact ⟨by rw [h0]; rfl, rfl⟩
  ·
    refine v_iload_n 2 (pc' := 5) rfl dX5_strips_4 rfl rfl ?_
    refine v_bipush (pc' := 7) rfl dX5_strips_5 rfl ?_
    refine v_icmp_le (pc' := 10) (tgt := 12) rfl dX5_strips_7 (by decide) (by omega) (by omega) (fun c1 => ?_) (fun c1 => absurd c1 (by omega))
    refine v_iconst (pc' := 13) rfl dX5_strips_12 ?_
    refine v_istore_n (ls' := [(3, _), (0, _), (1, _), (2, _)]) (pc' := 14) rfl dX5_strips_13 rfl rfl rfl ?_
    refine v_iconst (pc' := 15) rfl dX5_strips_14 ?_
    refine v_istore (ls' := [(4, _), (3, _), (0, _), (1, _), (2, _)]) (pc' := 17) rfl dX5_strips_15 rfl rfl ?_
    refine v_ls [2, 3, 4, 1, 0] rfl ?_
    refine v_loop2 17 (fun (tens : Int) (i : Int) => ∃ m j : Nat, i + m = 10 ∧ 0 ≤ i ∧ tens = ((10 ^ j : Nat) : Int) ∧ 10 ^ j ≤ t ∧ tensL m t (10 ^ j) = tensL 10 t 1) (fun (tens : Int) (i : Int) => (10 - i).toNat) (fun (tens : Int) (i : Int) => [(0, aI (b0)), (1, aI (t0)), (2, aI (d0)), (3, aI (tens)), (4, aI (i))]) (fun (tens : Int) (i : Int) => []) (fun (tens : Int) (i : Int) => w) (fun tens i hI0 ih0 => ?_) (1) (0) (⟨10, 0, by omega, by omega, rfl, by omega, rfl⟩)
    obtain ⟨m, j, him, hi0, htens, hj, hT⟩ := hI0
    have hjp : 0 < 10 ^ j := Nat.pow_pos (by decide)
    refine v_iload 4 (pc' := 19) rfl dX5_strips_17 rfl ?_
    refine v_bipush (pc' := 21) rfl dX5_strips_19 rfl ?_
    refine v_icmp_ge (pc' := 24) (tgt := 43) rfl dX5_strips_21 (by decide) (by omega) (by omega) (fun c2 => ?_) (fun c2 => ?_)
    ·
      have hTN : tensL 10 t 1 = 10 ^ j := by rw [← hT, show m = 0 by omega]; rfl
      refine v_iload_n 1 (pc' := 44) rfl dX5_strips_43 rfl rfl ?_
      refine v_iload_n 3 (pc' := 45) rfl dX5_strips_44 rfl rfl ?_
      refine v_idiv (z := ((t / 10 ^ j : Nat) : Int)) (pc' := 46) rfl dX5_strips_45 (iz_ne (by omega) (by omega)) (by rw [iz_divN (by omega) (by omega) (by omega) (by omega), ht, htens]; rfl) ?_
      refine v_nm (fun boxes' hboxes' => ?_)
      refine v_istore (ls' := [(4, _), (0, _), (1, _), (2, _), (3, _)]) (pc' := 48) rfl dX5_strips_46 rfl rfl ?_
      have hj9 : t / 10 ^ j < 10 := tens_9 (by omega) (by omega) hTN
      obtain ⟨BN, hBN⟩ : ∃ q, q = t / tensL 10 t 1 := ⟨_, rfl⟩
      obtain ⟨TN, hTN2⟩ : ∃ q, q = tensL 10 t 1 := ⟨_, rfl⟩
      have hboxes2 : boxes' = (BN : Int) := by rw [hBN, hTN]; exact hboxes'
      have hBN9 : BN < 10 := by rw [hBN, hTN]; exact hj9
      have hmod : t % tensL 10 t 1 < 1000 := by rw [hTN]; exact tens_mod (k := 3) htk hj
      have htens2 : tens = (TN : Int) := by rw [hTN2, hTN]; exact htens
      have hTp : 0 < TN := by rw [hTN2, hTN]; exact hjp
      have hTt : TN ≤ t := by rw [hTN2, hTN]; exact hj
      refine v_iconst (pc' := 49) rfl dX5_strips_48 ?_
      refine v_istore (ls' := [(5, _), (4, _), (0, _), (1, _), (2, _), (3, _)]) (pc' := 51) rfl dX5_strips_49 rfl rfl ?_
      refine v_iload 1 (pc' := 53) rfl dX5_strips_51 rfl ?_
      refine v_istore (ls' := [(6, _), (5, _), (4, _), (0, _), (1, _), (2, _), (3, _)]) (pc' := 55) rfl dX5_strips_53 rfl rfl ?_
      refine v_ls [3, 4, 5, 6, 2, 1, 0] rfl ?_
      refine v_loop2 55 (fun (sum : Int) (fr : Int) => ∃ m fN : Nat, fr = fN ∧ fN + m = 14 ∧ BN ≤ fN ∧ stS (fun b => strN 3 b (t % tensL 10 t 1)) bN BN m fN sum = strN 4 bN t) (fun (sum : Int) (fr : Int) => (14 - fr).toNat) (fun (sum : Int) (fr : Int) => [(0, aI (b0)), (1, aI (t0)), (2, aI (d0)), (3, aI (tens)), (4, aI (boxes')), (5, aI (sum)), (6, aI (fr))]) (fun (sum : Int) (fr : Int) => []) (fun (sum : Int) (fr : Int) => w) (fun sum fr hI1 ih1 => ?_) (0) (boxes') (⟨14 - BN, BN, hboxes2, by omega, Nat.le_refl _, by simp only [strN]; rw [if_neg (by omega), ← hBN]⟩)
      obtain ⟨m, fN, hfr, hfm, hbf, hS⟩ := hI1
      refine v_iload 6 (pc' := 57) rfl dX5_strips_55 rfl ?_
      refine v_bipush (pc' := 59) rfl dX5_strips_57 rfl ?_
      refine v_icmp_ge (pc' := 62) (tgt := 155) rfl dX5_strips_59 (by decide) (by omega) (by omega) (fun c4 => ?_) (fun c4 => ?_)
      ·
        have hret : strN 4 bN t = sum := by rw [← hS, show m = 0 by omega]; rfl
        refine v_iload 5 (pc' := 157) rfl dX5_strips_155 rfl ?_
        refine v_iret dX5_strips_157 (by decide) (rfl) ?_
        exact ⟨hret.symm, rfl⟩
      ·
        obtain ⟨m, rfl⟩ : ∃ q, m = q + 1 := ⟨m - 1, by omega⟩
        refine v_iload 6 (pc' := 64) rfl dX5_strips_62 rfl ?_
        refine v_iload 4 (pc' := 66) rfl dX5_strips_64 rfl ?_
        refine v_isub (pc' := 67) rfl dX5_strips_66 ?_
        refine v_nm (fun to' hto' => ?_)
        refine v_istore (ls' := [(7, _), (0, _), (1, _), (2, _), (3, _), (4, _), (5, _), (6, _)]) (pc' := 69) rfl dX5_strips_67 rfl rfl ?_
        refine v_iload_n 1 (pc' := 70) rfl dX5_strips_69 rfl rfl ?_
        refine v_iload 7 (pc' := 72) rfl dX5_strips_70 rfl ?_
        refine v_ishr (z := ((bN / 2 ^ fN : Nat) : Int)) (pc' := 73) rfl dX5_strips_72 (iz_shrE hb hfr (by omega) (by omega)) ?_
        refine v_iconst (pc' := 74) rfl dX5_strips_73 ?_
        refine v_iand (z := ((bN / 2 ^ fN % 2 : Nat) : Int)) (pc' := 75) rfl dX5_strips_74 (iz_and1 rfl) ?_
        refine v_iconst (pc' := 76) rfl dX5_strips_75 ?_
        refine v_icmp_ne (pc' := 79) (tgt := 149) rfl dX5_strips_76 (by decide) (by omega) (by omega) (fun c5 => ?_) (fun c5 => ?_)
        ·
          have hA : ¬ bN / 2 ^ fN % 2 = 1 := by omega
          have hB := hA
          refine v_iinc (ls' := [(6, _), (7, _), (0, _), (1, _), (2, _), (3, _), (4, _), (5, _)]) 7 (pc' := 152) rfl dX5_strips_149 rfl rfl rfl ?_
          refine v_nl (fun fr' hfr' => ?_)
          refine v_goto (tgt := 55) dX5_strips_152 (by decide) ?_
          refine v_ls [2, 3, 4, 5, 6, 7, 0] rfl ?_
          exact ih1 (sum) (fr') (⟨m, fN + 1, by omega, by omega, by omega, by rw [← hS]; simp only [stS, hA, hB, if_true, if_false]⟩) (by omega)
        ·
          have hA : bN / 2 ^ fN % 2 = 1 := by omega
          refine v_iload_n 1 (pc' := 80) rfl dX5_strips_79 rfl rfl ?_
          refine v_iload 0 (pc' := 82) rfl dX5_strips_80 rfl ?_
          refine v_ishr (z := ((bN / 2 ^ (fN - BN) : Nat) : Int)) (pc' := 83) rfl dX5_strips_82 (iz_shrE hb (by omega) (by omega) (by omega)) ?_
          refine v_iconst (pc' := 84) rfl dX5_strips_83 ?_
          refine v_iand (z := ((bN / 2 ^ (fN - BN) % 2 : Nat) : Int)) (pc' := 85) rfl dX5_strips_84 (iz_and1 rfl) ?_
          refine v_if_ne (pc' := 88) (tgt := 149) rfl dX5_strips_85 (by decide) (by omega) (fun c6 => ?_) (fun c6 => ?_)
          ·
            have hB : ¬ bN / 2 ^ (fN - BN) % 2 = 0 := by omega
            refine v_iinc (ls' := [(6, _), (7, _), (0, _), (1, _), (2, _), (3, _), (4, _), (5, _)]) 7 (pc' := 152) rfl dX5_strips_149 rfl rfl rfl ?_
            refine v_nl (fun fr' hfr' => ?_)
            refine v_goto (tgt := 55) dX5_strips_152 (by decide) ?_
            refine v_ls [2, 3, 4, 5, 6, 7, 0] rfl ?_
            exact ih1 (sum) (fr') (⟨m, fN + 1, by omega, by omega, by omega, by rw [← hS]; simp only [stS, hA, hB, if_true, if_false]⟩) (by omega)
          ·
            have hB : bN / 2 ^ (fN - BN) % 2 = 0 := by omega
            refine v_iload_n 1 (pc' := 89) rfl dX5_strips_88 rfl rfl ?_
            refine v_iconst (pc' := 90) rfl dX5_strips_89 ?_
            refine v_iload 7 (pc' := 92) rfl dX5_strips_90 rfl ?_
            refine v_ishl (z := ((2 ^ fN : Nat) : Int)) (pc' := 93) rfl dX5_strips_92 (iz_one_shl hfr (by omega)) ?_
            refine v_iconst (pc' := 94) rfl dX5_strips_93 ?_
            refine v_isub (pc' := 95) rfl dX5_strips_94 ?_
            refine v_iand (z := ((bN % 2 ^ fN : Nat) : Int)) (pc' := 96) rfl dX5_strips_95 (iz_andlow hb rfl) ?_
            refine v_iconst (pc' := 97) rfl dX5_strips_96 ?_
            refine v_iload 0 (pc' := 99) rfl dX5_strips_97 rfl ?_
            refine v_ishl (z := ((2 ^ (fN - BN) : Nat) : Int)) (pc' := 100) rfl dX5_strips_99 (iz_one_shl (by omega) (by omega)) ?_
            refine v_ineg (pc' := 101) rfl dX5_strips_100 ?_
            refine v_iand (z := ((bN % 2 ^ fN / 2 ^ (fN - BN) * 2 ^ (fN - BN) : Nat) : Int)) (pc' := 102) rfl dX5_strips_101 (iz_mask rfl rfl (Nat.lt_of_le_of_lt (Nat.mod_le _ _) hbl) (by omega)) ?_
            refine v_nm (fun over' hover' => ?_)
            refine v_istore (ls' := [(8, _), (7, _), (0, _), (1, _), (2, _), (3, _), (4, _), (5, _), (6, _)]) (pc' := 104) rfl dX5_strips_102 rfl rfl ?_
            refine v_iload_n 2 (pc' := 105) rfl dX5_strips_104 rfl rfl ?_
            refine v_iconst (pc' := 106) rfl dX5_strips_105 ?_
            refine v_iload 8 (pc' := 108) rfl dX5_strips_106 rfl ?_
            refine v_ishl (z := ((2 ^ fN : Nat) : Int)) (pc' := 109) rfl dX5_strips_108 (iz_one_shl hfr (by omega)) ?_
            refine v_ixor (z := ((bN ^^^ 2 ^ fN : Nat) : Int)) (pc' := 110) rfl dX5_strips_109 (iz_xorE hb rfl) ?_
            refine v_iconst (pc' := 111) rfl dX5_strips_110 ?_
            refine v_iload 1 (pc' := 113) rfl dX5_strips_111 rfl ?_
            refine v_ishl (z := ((2 ^ (fN - BN) : Nat) : Int)) (pc' := 114) rfl dX5_strips_113 (iz_one_shl (by omega) (by omega)) ?_
            refine v_ixor (z := ((bN ^^^ 2 ^ fN ^^^ 2 ^ (fN - BN) : Nat) : Int)) (pc' := 115) rfl dX5_strips_114 (iz_xorE rfl rfl) ?_
            refine v_iload_n 3 (pc' := 116) rfl dX5_strips_115 rfl rfl ?_
            refine v_iload_n 5 (pc' := 117) rfl dX5_strips_116 rfl rfl ?_
            refine v_irem (z := ((t % TN : Nat) : Int)) (pc' := 118) rfl dX5_strips_117 (iz_ne (by omega) (by omega)) (by rw [iz_remN (by omega) (by omega) (by omega) (by omega), ht, htens2]; rfl) ?_
            refine v_iload_n 4 (pc' := 119) rfl dX5_strips_118 rfl rfl ?_
            refine v_iconst (pc' := 120) rfl dX5_strips_119 ?_
            refine v_iadd (pc' := 121) rfl dX5_strips_120 ?_
            refine v_cSP (pc' := 124) rfl dX5_strips_121 lk_RX5_32 rfl (c_strips3 l G rfl (xor_lt14 (xor_lt14 hbl (by omega)) (by omega)) (t := t % tensL 10 t 1) (by rw [hTN2]) hmod (by omega) w) rfl rfl rfl ?_
            refine v_nm (fun strips1 hstrips1 => ?_)
            refine v_istore (ls' := [(9, _), (8, _), (7, _), (0, _), (1, _), (2, _), (3, _), (4, _), (5, _), (6, _)]) (pc' := 126) rfl dX5_strips_124 rfl rfl ?_
            refine v_iload 8 (pc' := 128) rfl dX5_strips_126 rfl ?_
            refine v_iload 1 (pc' := 130) rfl dX5_strips_128 rfl ?_
            refine v_cSP (pc' := 133) rfl dX5_strips_130 lk_RX5_36 rfl (c_bitCount l G hover' (mask_lt hbl) w) rfl rfl rfl ?_
            refine v_nm (fun bitCount1 hbitCount1 => ?_)
            refine v_iconst (pc' := 134) rfl dX5_strips_133 ?_
            refine v_iand (z := ((popc ((bN % 2 ^ fN) / 2 ^ (fN - BN) * 2 ^ (fN - BN)) % 2 : Nat) : Int)) (pc' := 135) rfl dX5_strips_134 (iz_and1 hbitCount1) ?_
            refine v_if_ne (pc' := 138) (tgt := 143) rfl dX5_strips_135 (by decide) (by omega) (fun c7 => ?_) (fun c7 => ?_)
            ·
              have hC : ¬ popc ((bN % 2 ^ fN) / 2 ^ (fN - BN) * 2 ^ (fN - BN)) % 2 = 0 := by omega
              refine v_iload 0 (pc' := 145) rfl dX5_strips_143 rfl ?_
              refine v_ineg (pc' := 146) rfl dX5_strips_145 ?_
              refine v_iadd (pc' := 147) rfl dX5_strips_146 ?_
              refine v_nm (fun sum' hsum' => ?_)
              refine v_istore (ls' := [(5, _), (9, _), (8, _), (7, _), (0, _), (1, _), (2, _), (3, _), (4, _), (6, _)]) (pc' := 149) rfl dX5_strips_147 rfl rfl ?_
              refine v_iinc (ls' := [(6, _), (5, _), (9, _), (8, _), (7, _), (0, _), (1, _), (2, _), (3, _), (4, _)]) 9 (pc' := 152) rfl dX5_strips_149 rfl rfl rfl ?_
              refine v_nl (fun fr' hfr' => ?_)
              refine v_goto (tgt := 55) dX5_strips_152 (by decide) ?_
              refine v_ls [5, 6, 7, 8, 9, 1, 0] rfl ?_
              exact ih1 (sum') (fr') (⟨m, fN + 1, by omega, by omega, by omega, by rw [← hS]; simp only [stS, hA, hB, if_true, if_false, hC, hsum', hstrips1]⟩) (by omega)
            ·
              have hC : popc ((bN % 2 ^ fN) / 2 ^ (fN - BN) * 2 ^ (fN - BN)) % 2 = 0 := by omega
              refine v_iload 0 (pc' := 140) rfl dX5_strips_138 rfl ?_
              refine v_goto (tgt := 146) dX5_strips_140 (by decide) ?_
              refine v_iadd (pc' := 147) rfl dX5_strips_146 ?_
              refine v_nm (fun sum' hsum' => ?_)
              refine v_istore (ls' := [(5, _), (9, _), (8, _), (7, _), (0, _), (1, _), (2, _), (3, _), (4, _), (6, _)]) (pc' := 149) rfl dX5_strips_147 rfl rfl ?_
              refine v_iinc (ls' := [(6, _), (5, _), (9, _), (8, _), (7, _), (0, _), (1, _), (2, _), (3, _), (4, _)]) 9 (pc' := 152) rfl dX5_strips_149 rfl rfl rfl ?_
              refine v_nl (fun fr' hfr' => ?_)
              refine v_goto (tgt := 55) dX5_strips_152 (by decide) ?_
              refine v_ls [5, 6, 7, 8, 9, 1, 0] rfl ?_
              exact ih1 (sum') (fr') (⟨m, fN + 1, by omega, by omega, by omega, by rw [← hS]; simp only [stS, hA, hB, if_true, if_false, hC, hsum', hstrips1]⟩) (by omega)
    ·
      refine v_iload_n 1 (pc' := 25) rfl dX5_strips_24 rfl rfl ?_
      refine v_iload_n 3 (pc' := 26) rfl dX5_strips_25 rfl rfl ?_
      refine v_idiv (z := ((t / 10 ^ j : Nat) : Int)) (pc' := 27) rfl dX5_strips_26 (iz_ne (by omega) (by omega)) (by rw [iz_divN (by omega) (by omega) (by omega) (by omega), ht, htens]; rfl) ?_
      refine v_bipush (pc' := 29) rfl dX5_strips_27 rfl ?_
      refine v_icmp_lt (pc' := 32) (tgt := 43) rfl dX5_strips_29 (by decide) (by have hq := Nat.div_le_self t (10 ^ j); clear hT; generalize t / 10 ^ j = q at hq ⊢; omega) (by omega) (fun c3 => ?_) (fun c3 => ?_)
      ·
        have hTN : tensL 10 t 1 = 10 ^ j := by
          rw [← hT]
          cases m with
          | zero => rfl
          | succ m => simp only [tensL]; rw [if_pos (by omega)]
        refine v_iload_n 1 (pc' := 44) rfl dX5_strips_43 rfl rfl ?_
        refine v_iload_n 3 (pc' := 45) rfl dX5_strips_44 rfl rfl ?_
        refine v_idiv (z := ((t / 10 ^ j : Nat) : Int)) (pc' := 46) rfl dX5_strips_45 (iz_ne (by omega) (by omega)) (by rw [iz_divN (by omega) (by omega) (by omega) (by omega), ht, htens]; rfl) ?_
        refine v_nm (fun boxes' hboxes' => ?_)
        refine v_istore (ls' := [(4, _), (0, _), (1, _), (2, _), (3, _)]) (pc' := 48) rfl dX5_strips_46 rfl rfl ?_
        have hj9 : t / 10 ^ j < 10 := tens_9 (by omega) (by omega) hTN
        obtain ⟨BN, hBN⟩ : ∃ q, q = t / tensL 10 t 1 := ⟨_, rfl⟩
        obtain ⟨TN, hTN2⟩ : ∃ q, q = tensL 10 t 1 := ⟨_, rfl⟩
        have hboxes2 : boxes' = (BN : Int) := by rw [hBN, hTN]; exact hboxes'
        have hBN9 : BN < 10 := by rw [hBN, hTN]; exact hj9
        have hmod : t % tensL 10 t 1 < 1000 := by rw [hTN]; exact tens_mod (k := 3) htk hj
        have htens2 : tens = (TN : Int) := by rw [hTN2, hTN]; exact htens
        have hTp : 0 < TN := by rw [hTN2, hTN]; exact hjp
        have hTt : TN ≤ t := by rw [hTN2, hTN]; exact hj
        refine v_iconst (pc' := 49) rfl dX5_strips_48 ?_
        refine v_istore (ls' := [(5, _), (4, _), (0, _), (1, _), (2, _), (3, _)]) (pc' := 51) rfl dX5_strips_49 rfl rfl ?_
        refine v_iload 1 (pc' := 53) rfl dX5_strips_51 rfl ?_
        refine v_istore (ls' := [(6, _), (5, _), (4, _), (0, _), (1, _), (2, _), (3, _)]) (pc' := 55) rfl dX5_strips_53 rfl rfl ?_
        refine v_ls [3, 4, 5, 6, 2, 1, 0] rfl ?_
        refine v_loop2 55 (fun (sum : Int) (fr : Int) => ∃ m fN : Nat, fr = fN ∧ fN + m = 14 ∧ BN ≤ fN ∧ stS (fun b => strN 3 b (t % tensL 10 t 1)) bN BN m fN sum = strN 4 bN t) (fun (sum : Int) (fr : Int) => (14 - fr).toNat) (fun (sum : Int) (fr : Int) => [(0, aI (b0)), (1, aI (t0)), (2, aI (d0)), (3, aI (tens)), (4, aI (boxes')), (5, aI (sum)), (6, aI (fr))]) (fun (sum : Int) (fr : Int) => []) (fun (sum : Int) (fr : Int) => w) (fun sum fr hI1 ih1 => ?_) (0) (boxes') (⟨14 - BN, BN, hboxes2, by omega, Nat.le_refl _, by simp only [strN]; rw [if_neg (by omega), ← hBN]⟩)
        obtain ⟨m, fN, hfr, hfm, hbf, hS⟩ := hI1
        refine v_iload 6 (pc' := 57) rfl dX5_strips_55 rfl ?_
        refine v_bipush (pc' := 59) rfl dX5_strips_57 rfl ?_
        refine v_icmp_ge (pc' := 62) (tgt := 155) rfl dX5_strips_59 (by decide) (by omega) (by omega) (fun c4 => ?_) (fun c4 => ?_)
        ·
          have hret : strN 4 bN t = sum := by rw [← hS, show m = 0 by omega]; rfl
          refine v_iload 5 (pc' := 157) rfl dX5_strips_155 rfl ?_
          refine v_iret dX5_strips_157 (by decide) (rfl) ?_
          exact ⟨hret.symm, rfl⟩
        ·
          obtain ⟨m, rfl⟩ : ∃ q, m = q + 1 := ⟨m - 1, by omega⟩
          refine v_iload 6 (pc' := 64) rfl dX5_strips_62 rfl ?_
          refine v_iload 4 (pc' := 66) rfl dX5_strips_64 rfl ?_
          refine v_isub (pc' := 67) rfl dX5_strips_66 ?_
          refine v_nm (fun to' hto' => ?_)
          refine v_istore (ls' := [(7, _), (0, _), (1, _), (2, _), (3, _), (4, _), (5, _), (6, _)]) (pc' := 69) rfl dX5_strips_67 rfl rfl ?_
          refine v_iload_n 1 (pc' := 70) rfl dX5_strips_69 rfl rfl ?_
          refine v_iload 7 (pc' := 72) rfl dX5_strips_70 rfl ?_
          refine v_ishr (z := ((bN / 2 ^ fN : Nat) : Int)) (pc' := 73) rfl dX5_strips_72 (iz_shrE hb hfr (by omega) (by omega)) ?_
          refine v_iconst (pc' := 74) rfl dX5_strips_73 ?_
          refine v_iand (z := ((bN / 2 ^ fN % 2 : Nat) : Int)) (pc' := 75) rfl dX5_strips_74 (iz_and1 rfl) ?_
          refine v_iconst (pc' := 76) rfl dX5_strips_75 ?_
          refine v_icmp_ne (pc' := 79) (tgt := 149) rfl dX5_strips_76 (by decide) (by omega) (by omega) (fun c5 => ?_) (fun c5 => ?_)
          ·
            have hA : ¬ bN / 2 ^ fN % 2 = 1 := by omega
            have hB := hA
            refine v_iinc (ls' := [(6, _), (7, _), (0, _), (1, _), (2, _), (3, _), (4, _), (5, _)]) 7 (pc' := 152) rfl dX5_strips_149 rfl rfl rfl ?_
            refine v_nl (fun fr' hfr' => ?_)
            refine v_goto (tgt := 55) dX5_strips_152 (by decide) ?_
            refine v_ls [2, 3, 4, 5, 6, 7, 0] rfl ?_
            exact ih1 (sum) (fr') (⟨m, fN + 1, by omega, by omega, by omega, by rw [← hS]; simp only [stS, hA, hB, if_true, if_false]⟩) (by omega)
          ·
            have hA : bN / 2 ^ fN % 2 = 1 := by omega
            refine v_iload_n 1 (pc' := 80) rfl dX5_strips_79 rfl rfl ?_
            refine v_iload 0 (pc' := 82) rfl dX5_strips_80 rfl ?_
            refine v_ishr (z := ((bN / 2 ^ (fN - BN) : Nat) : Int)) (pc' := 83) rfl dX5_strips_82 (iz_shrE hb (by omega) (by omega) (by omega)) ?_
            refine v_iconst (pc' := 84) rfl dX5_strips_83 ?_
            refine v_iand (z := ((bN / 2 ^ (fN - BN) % 2 : Nat) : Int)) (pc' := 85) rfl dX5_strips_84 (iz_and1 rfl) ?_
            refine v_if_ne (pc' := 88) (tgt := 149) rfl dX5_strips_85 (by decide) (by omega) (fun c6 => ?_) (fun c6 => ?_)
            ·
              have hB : ¬ bN / 2 ^ (fN - BN) % 2 = 0 := by omega
              refine v_iinc (ls' := [(6, _), (7, _), (0, _), (1, _), (2, _), (3, _), (4, _), (5, _)]) 7 (pc' := 152) rfl dX5_strips_149 rfl rfl rfl ?_
              refine v_nl (fun fr' hfr' => ?_)
              refine v_goto (tgt := 55) dX5_strips_152 (by decide) ?_
              refine v_ls [2, 3, 4, 5, 6, 7, 0] rfl ?_
              exact ih1 (sum) (fr') (⟨m, fN + 1, by omega, by omega, by omega, by rw [← hS]; simp only [stS, hA, hB, if_true, if_false]⟩) (by omega)
            ·
              have hB : bN / 2 ^ (fN - BN) % 2 = 0 := by omega
              refine v_iload_n 1 (pc' := 89) rfl dX5_strips_88 rfl rfl ?_
              refine v_iconst (pc' := 90) rfl dX5_strips_89 ?_
              refine v_iload 7 (pc' := 92) rfl dX5_strips_90 rfl ?_
              refine v_ishl (z := ((2 ^ fN : Nat) : Int)) (pc' := 93) rfl dX5_strips_92 (iz_one_shl hfr (by omega)) ?_
              refine v_iconst (pc' := 94) rfl dX5_strips_93 ?_
              refine v_isub (pc' := 95) rfl dX5_strips_94 ?_
              refine v_iand (z := ((bN % 2 ^ fN : Nat) : Int)) (pc' := 96) rfl dX5_strips_95 (iz_andlow hb rfl) ?_
              refine v_iconst (pc' := 97) rfl dX5_strips_96 ?_
              refine v_iload 0 (pc' := 99) rfl dX5_strips_97 rfl ?_
              refine v_ishl (z := ((2 ^ (fN - BN) : Nat) : Int)) (pc' := 100) rfl dX5_strips_99 (iz_one_shl (by omega) (by omega)) ?_
              refine v_ineg (pc' := 101) rfl dX5_strips_100 ?_
              refine v_iand (z := ((bN % 2 ^ fN / 2 ^ (fN - BN) * 2 ^ (fN - BN) : Nat) : Int)) (pc' := 102) rfl dX5_strips_101 (iz_mask rfl rfl (Nat.lt_of_le_of_lt (Nat.mod_le _ _) hbl) (by omega)) ?_
              refine v_nm (fun over' hover' => ?_)
              refine v_istore (ls' := [(8, _), (7, _), (0, _), (1, _), (2, _), (3, _), (4, _), (5, _), (6, _)]) (pc' := 104) rfl dX5_strips_102 rfl rfl ?_
              refine v_iload_n 2 (pc' := 105) rfl dX5_strips_104 rfl rfl ?_
              refine v_iconst (pc' := 106) rfl dX5_strips_105 ?_
              refine v_iload 8 (pc' := 108) rfl dX5_strips_106 rfl ?_
              refine v_ishl (z := ((2 ^ fN : Nat) : Int)) (pc' := 109) rfl dX5_strips_108 (iz_one_shl hfr (by omega)) ?_
              refine v_ixor (z := ((bN ^^^ 2 ^ fN : Nat) : Int)) (pc' := 110) rfl dX5_strips_109 (iz_xorE hb rfl) ?_
              refine v_iconst (pc' := 111) rfl dX5_strips_110 ?_
              refine v_iload 1 (pc' := 113) rfl dX5_strips_111 rfl ?_
              refine v_ishl (z := ((2 ^ (fN - BN) : Nat) : Int)) (pc' := 114) rfl dX5_strips_113 (iz_one_shl (by omega) (by omega)) ?_
              refine v_ixor (z := ((bN ^^^ 2 ^ fN ^^^ 2 ^ (fN - BN) : Nat) : Int)) (pc' := 115) rfl dX5_strips_114 (iz_xorE rfl rfl) ?_
              refine v_iload_n 3 (pc' := 116) rfl dX5_strips_115 rfl rfl ?_
              refine v_iload_n 5 (pc' := 117) rfl dX5_strips_116 rfl rfl ?_
              refine v_irem (z := ((t % TN : Nat) : Int)) (pc' := 118) rfl dX5_strips_117 (iz_ne (by omega) (by omega)) (by rw [iz_remN (by omega) (by omega) (by omega) (by omega), ht, htens2]; rfl) ?_
              refine v_iload_n 4 (pc' := 119) rfl dX5_strips_118 rfl rfl ?_
              refine v_iconst (pc' := 120) rfl dX5_strips_119 ?_
              refine v_iadd (pc' := 121) rfl dX5_strips_120 ?_
              refine v_cSP (pc' := 124) rfl dX5_strips_121 lk_RX5_32 rfl (c_strips3 l G rfl (xor_lt14 (xor_lt14 hbl (by omega)) (by omega)) (t := t % tensL 10 t 1) (by rw [hTN2]) hmod (by omega) w) rfl rfl rfl ?_
              refine v_nm (fun strips1 hstrips1 => ?_)
              refine v_istore (ls' := [(9, _), (8, _), (7, _), (0, _), (1, _), (2, _), (3, _), (4, _), (5, _), (6, _)]) (pc' := 126) rfl dX5_strips_124 rfl rfl ?_
              refine v_iload 8 (pc' := 128) rfl dX5_strips_126 rfl ?_
              refine v_iload 1 (pc' := 130) rfl dX5_strips_128 rfl ?_
              refine v_cSP (pc' := 133) rfl dX5_strips_130 lk_RX5_36 rfl (c_bitCount l G hover' (mask_lt hbl) w) rfl rfl rfl ?_
              refine v_nm (fun bitCount1 hbitCount1 => ?_)
              refine v_iconst (pc' := 134) rfl dX5_strips_133 ?_
              refine v_iand (z := ((popc ((bN % 2 ^ fN) / 2 ^ (fN - BN) * 2 ^ (fN - BN)) % 2 : Nat) : Int)) (pc' := 135) rfl dX5_strips_134 (iz_and1 hbitCount1) ?_
              refine v_if_ne (pc' := 138) (tgt := 143) rfl dX5_strips_135 (by decide) (by omega) (fun c7 => ?_) (fun c7 => ?_)
              ·
                have hC : ¬ popc ((bN % 2 ^ fN) / 2 ^ (fN - BN) * 2 ^ (fN - BN)) % 2 = 0 := by omega
                refine v_iload 0 (pc' := 145) rfl dX5_strips_143 rfl ?_
                refine v_ineg (pc' := 146) rfl dX5_strips_145 ?_
                refine v_iadd (pc' := 147) rfl dX5_strips_146 ?_
                refine v_nm (fun sum' hsum' => ?_)
                refine v_istore (ls' := [(5, _), (9, _), (8, _), (7, _), (0, _), (1, _), (2, _), (3, _), (4, _), (6, _)]) (pc' := 149) rfl dX5_strips_147 rfl rfl ?_
                refine v_iinc (ls' := [(6, _), (5, _), (9, _), (8, _), (7, _), (0, _), (1, _), (2, _), (3, _), (4, _)]) 9 (pc' := 152) rfl dX5_strips_149 rfl rfl rfl ?_
                refine v_nl (fun fr' hfr' => ?_)
                refine v_goto (tgt := 55) dX5_strips_152 (by decide) ?_
                refine v_ls [5, 6, 7, 8, 9, 1, 0] rfl ?_
                exact ih1 (sum') (fr') (⟨m, fN + 1, by omega, by omega, by omega, by rw [← hS]; simp only [stS, hA, hB, if_true, if_false, hC, hsum', hstrips1]⟩) (by omega)
              ·
                have hC : popc ((bN % 2 ^ fN) / 2 ^ (fN - BN) * 2 ^ (fN - BN)) % 2 = 0 := by omega
                refine v_iload 0 (pc' := 140) rfl dX5_strips_138 rfl ?_
                refine v_goto (tgt := 146) dX5_strips_140 (by decide) ?_
                refine v_iadd (pc' := 147) rfl dX5_strips_146 ?_
                refine v_nm (fun sum' hsum' => ?_)
                refine v_istore (ls' := [(5, _), (9, _), (8, _), (7, _), (0, _), (1, _), (2, _), (3, _), (4, _), (6, _)]) (pc' := 149) rfl dX5_strips_147 rfl rfl ?_
                refine v_iinc (ls' := [(6, _), (5, _), (9, _), (8, _), (7, _), (0, _), (1, _), (2, _), (3, _), (4, _)]) 9 (pc' := 152) rfl dX5_strips_149 rfl rfl rfl ?_
                refine v_nl (fun fr' hfr' => ?_)
                refine v_goto (tgt := 55) dX5_strips_152 (by decide) ?_
                refine v_ls [5, 6, 7, 8, 9, 1, 0] rfl ?_
                exact ih1 (sum') (fr') (⟨m, fN + 1, by omega, by omega, by omega, by rw [← hS]; simp only [stS, hA, hB, if_true, if_false, hC, hsum', hstrips1]⟩) (by omega)
      ·
        obtain ⟨m, rfl⟩ : ∃ q, m = q + 1 := ⟨m - 1, by omega⟩
        have hge : 10 ≤ t / 10 ^ j := by omega
        refine v_iload_n 3 (pc' := 33) rfl dX5_strips_32 rfl rfl ?_
        refine v_bipush (pc' := 35) rfl dX5_strips_33 rfl ?_
        refine v_imul (pc' := 36) rfl dX5_strips_35 ?_
        refine v_nm (fun tens' htens' => ?_)
        refine v_istore_n (ls' := [(3, _), (0, _), (1, _), (2, _), (4, _)]) (pc' := 37) rfl dX5_strips_36 rfl rfl rfl ?_
        refine v_iinc (ls' := [(4, _), (3, _), (0, _), (1, _), (2, _)]) 4 (pc' := 40) rfl dX5_strips_37 rfl rfl rfl ?_
        refine v_nl (fun i' hi' => ?_)
        refine v_goto (tgt := 17) dX5_strips_40 (by decide) ?_
        refine v_ls [2, 3, 4, 1, 0] rfl ?_
        exact ih0 (tens') (i') (⟨m, j + 1, by omega, by omega, by rw [Nat.pow_succ]; omega, by rw [Nat.pow_succ]; have := Nat.div_mul_le_self t (10 ^ j); have := (Nat.le_div_iff_mul_le hjp).mp hge; omega, by rw [← hT, Nat.pow_succ]; simp only [tensL]; rw [if_neg (by omega)]⟩) (by omega)
set_option maxHeartbeats 4000000 in
set_option maxRecDepth 100000 in
theorem c_strips5 (l : Launch) (G : Gx) {b0 t0 d0 : Int} {bN t : Nat} (hb : b0 = bN) (hbl : bN < 16384) (ht : t0 = t) (htk : t < 100000) (hd : 0 ≤ d0 ∧ d0 + 5 ≤ 7) (w : Wd) : SpP l G 5 mX5_strips [aI (b0), aI (t0), aI (d0)] w (strN 5 bN t) := by
  refine Sp_of RX5 rfl (by decide +kernel) rfl (Nat.le_of_ble_eq_true rfl) ?_
  refine v_iload_n 1 (pc' := 1) rfl dX5_strips_0 rfl rfl ?_
  refine v_if_eq (pc' := 4) (tgt := 10) rfl dX5_strips_1 (by decide) (by omega) (fun c0 => ?_) (fun c0 => ?_)
  ·
    refine v_iconst (pc' := 11) rfl dX5_strips_10 ?_
    refine v_iret dX5_strips_11 (by decide) (rfl) ?_
    have h0 : t = 0 := by omega
    exact ⟨by rw [h0]; rfl, rfl⟩
  ·
    refine v_iload_n 2 (pc' := 5) rfl dX5_strips_4 rfl rfl ?_
    refine v_bipush (pc' := 7) rfl dX5_strips_5 rfl ?_
    refine v_icmp_le (pc' := 10) (tgt := 12) rfl dX5_strips_7 (by decide) (by omega) (by omega) (fun c1 => ?_) (fun c1 => absurd c1 (by omega))
    refine v_iconst (pc' := 13) rfl dX5_strips_12 ?_
    refine v_istore_n (ls' := [(3, _), (0, _), (1, _), (2, _)]) (pc' := 14) rfl dX5_strips_13 rfl rfl rfl ?_
    refine v_iconst (pc' := 15) rfl dX5_strips_14 ?_
    refine v_istore (ls' := [(4, _), (3, _), (0, _), (1, _), (2, _)]) (pc' := 17) rfl dX5_strips_15 rfl rfl ?_
    refine v_ls [2, 3, 4, 1, 0] rfl ?_
    refine v_loop2 17 (fun (tens : Int) (i : Int) => ∃ m j : Nat, i + m = 10 ∧ 0 ≤ i ∧ tens = ((10 ^ j : Nat) : Int) ∧ 10 ^ j ≤ t ∧ tensL m t (10 ^ j) = tensL 10 t 1) (fun (tens : Int) (i : Int) => (10 - i).toNat) (fun (tens : Int) (i : Int) => [(0, aI (b0)), (1, aI (t0)), (2, aI (d0)), (3, aI (tens)), (4, aI (i))]) (fun (tens : Int) (i : Int) => []) (fun (tens : Int) (i : Int) => w) (fun tens i hI0 ih0 => ?_) (1) (0) (⟨10, 0, by omega, by omega, rfl, by omega, rfl⟩)
    obtain ⟨m, j, him, hi0, htens, hj, hT⟩ := hI0
    have hjp : 0 < 10 ^ j := Nat.pow_pos (by decide)
    refine v_iload 4 (pc' := 19) rfl dX5_strips_17 rfl ?_
    refine v_bipush (pc' := 21) rfl dX5_strips_19 rfl ?_
    refine v_icmp_ge (pc' := 24) (tgt := 43) rfl dX5_strips_21 (by decide) (by omega) (by omega) (fun c2 => ?_) (fun c2 => ?_)
    ·
      have hTN : tensL 10 t 1 = 10 ^ j := by rw [← hT, show m = 0 by omega]; rfl
      refine v_iload_n 1 (pc' := 44) rfl dX5_strips_43 rfl rfl ?_
      refine v_iload_n 3 (pc' := 45) rfl dX5_strips_44 rfl rfl ?_
      refine v_idiv (z := ((t / 10 ^ j : Nat) : Int)) (pc' := 46) rfl dX5_strips_45 (iz_ne (by omega) (by omega)) (by rw [iz_divN (by omega) (by omega) (by omega) (by omega), ht, htens]; rfl) ?_
      refine v_nm (fun boxes' hboxes' => ?_)
      refine v_istore (ls' := [(4, _), (0, _), (1, _), (2, _), (3, _)]) (pc' := 48) rfl dX5_strips_46 rfl rfl ?_
      have hj9 : t / 10 ^ j < 10 := tens_9 (by omega) (by omega) hTN
      obtain ⟨BN, hBN⟩ : ∃ q, q = t / tensL 10 t 1 := ⟨_, rfl⟩
      obtain ⟨TN, hTN2⟩ : ∃ q, q = tensL 10 t 1 := ⟨_, rfl⟩
      have hboxes2 : boxes' = (BN : Int) := by rw [hBN, hTN]; exact hboxes'
      have hBN9 : BN < 10 := by rw [hBN, hTN]; exact hj9
      have hmod : t % tensL 10 t 1 < 10000 := by rw [hTN]; exact tens_mod (k := 4) htk hj
      have htens2 : tens = (TN : Int) := by rw [hTN2, hTN]; exact htens
      have hTp : 0 < TN := by rw [hTN2, hTN]; exact hjp
      have hTt : TN ≤ t := by rw [hTN2, hTN]; exact hj
      refine v_iconst (pc' := 49) rfl dX5_strips_48 ?_
      refine v_istore (ls' := [(5, _), (4, _), (0, _), (1, _), (2, _), (3, _)]) (pc' := 51) rfl dX5_strips_49 rfl rfl ?_
      refine v_iload 1 (pc' := 53) rfl dX5_strips_51 rfl ?_
      refine v_istore (ls' := [(6, _), (5, _), (4, _), (0, _), (1, _), (2, _), (3, _)]) (pc' := 55) rfl dX5_strips_53 rfl rfl ?_
      refine v_ls [3, 4, 5, 6, 2, 1, 0] rfl ?_
      refine v_loop2 55 (fun (sum : Int) (fr : Int) => ∃ m fN : Nat, fr = fN ∧ fN + m = 14 ∧ BN ≤ fN ∧ stS (fun b => strN 4 b (t % tensL 10 t 1)) bN BN m fN sum = strN 5 bN t) (fun (sum : Int) (fr : Int) => (14 - fr).toNat) (fun (sum : Int) (fr : Int) => [(0, aI (b0)), (1, aI (t0)), (2, aI (d0)), (3, aI (tens)), (4, aI (boxes')), (5, aI (sum)), (6, aI (fr))]) (fun (sum : Int) (fr : Int) => []) (fun (sum : Int) (fr : Int) => w) (fun sum fr hI1 ih1 => ?_) (0) (boxes') (⟨14 - BN, BN, hboxes2, by omega, Nat.le_refl _, by simp only [strN]; rw [if_neg (by omega), ← hBN]⟩)
      obtain ⟨m, fN, hfr, hfm, hbf, hS⟩ := hI1
      refine v_iload 6 (pc' := 57) rfl dX5_strips_55 rfl ?_
      refine v_bipush (pc' := 59) rfl dX5_strips_57 rfl ?_
      refine v_icmp_ge (pc' := 62) (tgt := 155) rfl dX5_strips_59 (by decide) (by omega) (by omega) (fun c4 => ?_) (fun c4 => ?_)
      ·
        have hret : strN 5 bN t = sum := by rw [← hS, show m = 0 by omega]; rfl
        refine v_iload 5 (pc' := 157) rfl dX5_strips_155 rfl ?_
        refine v_iret dX5_strips_157 (by decide) (rfl) ?_
        exact ⟨hret.symm, rfl⟩
      ·
        obtain ⟨m, rfl⟩ : ∃ q, m = q + 1 := ⟨m - 1, by omega⟩
        refine v_iload 6 (pc' := 64) rfl dX5_strips_62 rfl ?_
        refine v_iload 4 (pc' := 66) rfl dX5_strips_64 rfl ?_
        refine v_isub (pc' := 67) rfl dX5_strips_66 ?_
        refine v_nm (fun to' hto' => ?_)
        refine v_istore (ls' := [(7, _), (0, _), (1, _), (2, _), (3, _), (4, _), (5, _), (6, _)]) (pc' := 69) rfl dX5_strips_67 rfl rfl ?_
        refine v_iload_n 1 (pc' := 70) rfl dX5_strips_69 rfl rfl ?_
        refine v_iload 7 (pc' := 72) rfl dX5_strips_70 rfl ?_
        refine v_ishr (z := ((bN / 2 ^ fN : Nat) : Int)) (pc' := 73) rfl dX5_strips_72 (iz_shrE hb hfr (by omega) (by omega)) ?_
        refine v_iconst (pc' := 74) rfl dX5_strips_73 ?_
        refine v_iand (z := ((bN / 2 ^ fN % 2 : Nat) : Int)) (pc' := 75) rfl dX5_strips_74 (iz_and1 rfl) ?_
        refine v_iconst (pc' := 76) rfl dX5_strips_75 ?_
        refine v_icmp_ne (pc' := 79) (tgt := 149) rfl dX5_strips_76 (by decide) (by omega) (by omega) (fun c5 => ?_) (fun c5 => ?_)
        ·
          have hA : ¬ bN / 2 ^ fN % 2 = 1 := by omega
          have hB := hA
          refine v_iinc (ls' := [(6, _), (7, _), (0, _), (1, _), (2, _), (3, _), (4, _), (5, _)]) 7 (pc' := 152) rfl dX5_strips_149 rfl rfl rfl ?_
          refine v_nl (fun fr' hfr' => ?_)
          refine v_goto (tgt := 55) dX5_strips_152 (by decide) ?_
          refine v_ls [2, 3, 4, 5, 6, 7, 0] rfl ?_
          exact ih1 (sum) (fr') (⟨m, fN + 1, by omega, by omega, by omega, by rw [← hS]; simp only [stS, hA, hB, if_true, if_false]⟩) (by omega)
        ·
          have hA : bN / 2 ^ fN % 2 = 1 := by omega
          refine v_iload_n 1 (pc' := 80) rfl dX5_strips_79 rfl rfl ?_
          refine v_iload 0 (pc' := 82) rfl dX5_strips_80 rfl ?_
          refine v_ishr (z := ((bN / 2 ^ (fN - BN) : Nat) : Int)) (pc' := 83) rfl dX5_strips_82 (iz_shrE hb (by omega) (by omega) (by omega)) ?_
          refine v_iconst (pc' := 84) rfl dX5_strips_83 ?_
          refine v_iand (z := ((bN / 2 ^ (fN - BN) % 2 : Nat) : Int)) (pc' := 85) rfl dX5_strips_84 (iz_and1 rfl) ?_
          refine v_if_ne (pc' := 88) (tgt := 149) rfl dX5_strips_85 (by decide) (by omega) (fun c6 => ?_) (fun c6 => ?_)
          ·
            have hB : ¬ bN / 2 ^ (fN - BN) % 2 = 0 := by omega
            refine v_iinc (ls' := [(6, _), (7, _), (0, _), (1, _), (2, _), (3, _), (4, _), (5, _)]) 7 (pc' := 152) rfl dX5_strips_149 rfl rfl rfl ?_
            refine v_nl (fun fr' hfr' => ?_)
            refine v_goto (tgt := 55) dX5_strips_152 (by decide) ?_
            refine v_ls [2, 3, 4, 5, 6, 7, 0] rfl ?_
            exact ih1 (sum) (fr') (⟨m, fN + 1, by omega, by omega, by omega, by rw [← hS]; simp only [stS, hA, hB, if_true, if_false]⟩) (by omega)
          ·
            have hB : bN / 2 ^ (fN - BN) % 2 = 0 := by omega
            refine v_iload_n 1 (pc' := 89) rfl dX5_strips_88 rfl rfl ?_
            refine v_iconst (pc' := 90) rfl dX5_strips_89 ?_
            refine v_iload 7 (pc' := 92) rfl dX5_strips_90 rfl ?_
            refine v_ishl (z := ((2 ^ fN : Nat) : Int)) (pc' := 93) rfl dX5_strips_92 (iz_one_shl hfr (by omega)) ?_
            refine v_iconst (pc' := 94) rfl dX5_strips_93 ?_
            refine v_isub (pc' := 95) rfl dX5_strips_94 ?_
            refine v_iand (z := ((bN % 2 ^ fN : Nat) : Int)) (pc' := 96) rfl dX5_strips_95 (iz_andlow hb rfl) ?_
            refine v_iconst (pc' := 97) rfl dX5_strips_96 ?_
            refine v_iload 0 (pc' := 99) rfl dX5_strips_97 rfl ?_
            refine v_ishl (z := ((2 ^ (fN - BN) : Nat) : Int)) (pc' := 100) rfl dX5_strips_99 (iz_one_shl (by omega) (by omega)) ?_
            refine v_ineg (pc' := 101) rfl dX5_strips_100 ?_
            refine v_iand (z := ((bN % 2 ^ fN / 2 ^ (fN - BN) * 2 ^ (fN - BN) : Nat) : Int)) (pc' := 102) rfl dX5_strips_101 (iz_mask rfl rfl (Nat.lt_of_le_of_lt (Nat.mod_le _ _) hbl) (by omega)) ?_
            refine v_nm (fun over' hover' => ?_)
            refine v_istore (ls' := [(8, _), (7, _), (0, _), (1, _), (2, _), (3, _), (4, _), (5, _), (6, _)]) (pc' := 104) rfl dX5_strips_102 rfl rfl ?_
            refine v_iload_n 2 (pc' := 105) rfl dX5_strips_104 rfl rfl ?_
            refine v_iconst (pc' := 106) rfl dX5_strips_105 ?_
            refine v_iload 8 (pc' := 108) rfl dX5_strips_106 rfl ?_
            refine v_ishl (z := ((2 ^ fN : Nat) : Int)) (pc' := 109) rfl dX5_strips_108 (iz_one_shl hfr (by omega)) ?_
            refine v_ixor (z := ((bN ^^^ 2 ^ fN : Nat) : Int)) (pc' := 110) rfl dX5_strips_109 (iz_xorE hb rfl) ?_
            refine v_iconst (pc' := 111) rfl dX5_strips_110 ?_
            refine v_iload 1 (pc' := 113) rfl dX5_strips_111 rfl ?_
            refine v_ishl (z := ((2 ^ (fN - BN) : Nat) : Int)) (pc' := 114) rfl dX5_strips_113 (iz_one_shl (by omega) (by omega)) ?_
            refine v_ixor (z := ((bN ^^^ 2 ^ fN ^^^ 2 ^ (fN - BN) : Nat) : Int)) (pc' := 115) rfl dX5_strips_114 (iz_xorE rfl rfl) ?_
            refine v_iload_n 3 (pc' := 116) rfl dX5_strips_115 rfl rfl ?_
            refine v_iload_n 5 (pc' := 117) rfl dX5_strips_116 rfl rfl ?_
            refine v_irem (z := ((t % TN : Nat) : Int)) (pc' := 118) rfl dX5_strips_117 (iz_ne (by omega) (by omega)) (by rw [iz_remN (by omega) (by omega) (by omega) (by omega), ht, htens2]; rfl) ?_
            refine v_iload_n 4 (pc' := 119) rfl dX5_strips_118 rfl rfl ?_
            refine v_iconst (pc' := 120) rfl dX5_strips_119 ?_
            refine v_iadd (pc' := 121) rfl dX5_strips_120 ?_
            refine v_cSP (pc' := 124) rfl dX5_strips_121 lk_RX5_32 rfl (c_strips4 l G rfl (xor_lt14 (xor_lt14 hbl (by omega)) (by omega)) (t := t % tensL 10 t 1) (by rw [hTN2]) hmod (by omega) w) rfl rfl rfl ?_
            refine v_nm (fun strips1 hstrips1 => ?_)
            refine v_istore (ls' := [(9, _), (8, _), (7, _), (0, _), (1, _), (2, _), (3, _), (4, _), (5, _), (6, _)]) (pc' := 126) rfl dX5_strips_124 rfl rfl ?_
            refine v_iload 8 (pc' := 128) rfl dX5_strips_126 rfl ?_
            refine v_iload 1 (pc' := 130) rfl dX5_strips_128 rfl ?_
            refine v_cSP (pc' := 133) rfl dX5_strips_130 lk_RX5_36 rfl (c_bitCount l G hover' (mask_lt hbl) w) rfl rfl rfl ?_
            refine v_nm (fun bitCount1 hbitCount1 => ?_)
            refine v_iconst (pc' := 134) rfl dX5_strips_133 ?_
            refine v_iand (z := ((popc ((bN % 2 ^ fN) / 2 ^ (fN - BN) * 2 ^ (fN - BN)) % 2 : Nat) : Int)) (pc' := 135) rfl dX5_strips_134 (iz_and1 hbitCount1) ?_
            refine v_if_ne (pc' := 138) (tgt := 143) rfl dX5_strips_135 (by decide) (by omega) (fun c7 => ?_) (fun c7 => ?_)
            ·
              have hC : ¬ popc ((bN % 2 ^ fN) / 2 ^ (fN - BN) * 2 ^ (fN - BN)) % 2 = 0 := by omega
              refine v_iload 0 (pc' := 145) rfl dX5_strips_143 rfl ?_
              refine v_ineg (pc' := 146) rfl dX5_strips_145 ?_
              refine v_iadd (pc' := 147) rfl dX5_strips_146 ?_
              refine v_nm (fun sum' hsum' => ?_)
              refine v_istore (ls' := [(5, _), (9, _), (8, _), (7, _), (0, _), (1, _), (2, _), (3, _), (4, _), (6, _)]) (pc' := 149) rfl dX5_strips_147 rfl rfl ?_
              refine v_iinc (ls' := [(6, _), (5, _), (9, _), (8, _), (7, _), (0, _), (1, _), (2, _), (3, _), (4, _)]) 9 (pc' := 152) rfl dX5_strips_149 rfl rfl rfl ?_
              refine v_nl (fun fr' hfr' => ?_)
              refine v_goto (tgt := 55) dX5_strips_152 (by decide) ?_
              refine v_ls [5, 6, 7, 8, 9, 1, 0] rfl ?_
              exact ih1 (sum') (fr') (⟨m, fN + 1, by omega, by omega, by omega, by rw [← hS]; simp only [stS, hA, hB, if_true, if_false, hC, hsum', hstrips1]⟩) (by omega)
            ·
              have hC : popc ((bN % 2 ^ fN) / 2 ^ (fN - BN) * 2 ^ (fN - BN)) % 2 = 0 := by omega
              refine v_iload 0 (pc' := 140) rfl dX5_strips_138 rfl ?_
              refine v_goto (tgt := 146) dX5_strips_140 (by decide) ?_
              refine v_iadd (pc' := 147) rfl dX5_strips_146 ?_
              refine v_nm (fun sum' hsum' => ?_)
              refine v_istore (ls' := [(5, _), (9, _), (8, _), (7, _), (0, _), (1, _), (2, _), (3, _), (4, _), (6, _)]) (pc' := 149) rfl dX5_strips_147 rfl rfl ?_
              refine v_iinc (ls' := [(6, _), (5, _), (9, _), (8, _), (7, _), (0, _), (1, _), (2, _), (3, _), (4, _)]) 9 (pc' := 152) rfl dX5_strips_149 rfl rfl rfl ?_
              refine v_nl (fun fr' hfr' => ?_)
              refine v_goto (tgt := 55) dX5_strips_152 (by decide) ?_
              refine v_ls [5, 6, 7, 8, 9, 1, 0] rfl ?_
              exact ih1 (sum') (fr') (⟨m, fN + 1, by omega, by omega, by omega, by rw [← hS]; simp only [stS, hA, hB, if_true, if_false, hC, hsum', hstrips1]⟩) (by omega)
    ·
      refine v_iload_n 1 (pc' := 25) rfl dX5_strips_24 rfl rfl ?_
      refine v_iload_n 3 (pc' := 26) rfl dX5_strips_25 rfl rfl ?_
      refine v_idiv (z := ((t / 10 ^ j : Nat) : Int)) (pc' := 27) rfl dX5_strips_26 (iz_ne (by omega) (by omega)) (by rw [iz_divN (by omega) (by omega) (by omega) (by omega), ht, htens]; rfl) ?_
      refine v_bipush (pc' := 29) rfl dX5_strips_27 rfl ?_
      refine v_icmp_lt (pc' := 32) (tgt := 43) rfl dX5_strips_29 (by decide) (by have hq := Nat.div_le_self t (10 ^ j); clear hT; generalize t / 10 ^ j = q at hq ⊢; omega) (by omega) (fun c3 => ?_) (fun c3 => ?_)
      ·
        have hTN : tensL 10 t 1 = 10 ^ j := by
          rw [← hT]
          cases m with
          | zero => rfl
          | succ m => simp only [tensL]; rw [if_pos (by omega)]
        refine v_iload_n 1 (pc' := 44) rfl dX5_strips_43 rfl rfl ?_
        refine v_iload_n 3 (pc' := 45) rfl dX5_strips_44 rfl rfl ?_
        refine v_idiv (z := ((t / 10 ^ j : Nat) : Int)) (pc' := 46) rfl dX5_strips_45 (iz_ne (by omega) (by omega)) (by rw [iz_divN (by omega) (by omega) (by omega) (by omega), ht, htens]; rfl) ?_
        refine v_nm (fun boxes' hboxes' => ?_)
        refine v_istore (ls' := [(4, _), (0, _), (1, _), (2, _), (3, _)]) (pc' := 48) rfl dX5_strips_46 rfl rfl ?_
        have hj9 : t / 10 ^ j < 10 := tens_9 (by omega) (by omega) hTN
        obtain ⟨BN, hBN⟩ : ∃ q, q = t / tensL 10 t 1 := ⟨_, rfl⟩
        obtain ⟨TN, hTN2⟩ : ∃ q, q = tensL 10 t 1 := ⟨_, rfl⟩
        have hboxes2 : boxes' = (BN : Int) := by rw [hBN, hTN]; exact hboxes'
        have hBN9 : BN < 10 := by rw [hBN, hTN]; exact hj9
        have hmod : t % tensL 10 t 1 < 10000 := by rw [hTN]; exact tens_mod (k := 4) htk hj
        have htens2 : tens = (TN : Int) := by rw [hTN2, hTN]; exact htens
        have hTp : 0 < TN := by rw [hTN2, hTN]; exact hjp
        have hTt : TN ≤ t := by rw [hTN2, hTN]; exact hj
        refine v_iconst (pc' := 49) rfl dX5_strips_48 ?_
        refine v_istore (ls' := [(5, _), (4, _), (0, _), (1, _), (2, _), (3, _)]) (pc' := 51) rfl dX5_strips_49 rfl rfl ?_
        refine v_iload 1 (pc' := 53) rfl dX5_strips_51 rfl ?_
        refine v_istore (ls' := [(6, _), (5, _), (4, _), (0, _), (1, _), (2, _), (3, _)]) (pc' := 55) rfl dX5_strips_53 rfl rfl ?_
        refine v_ls [3, 4, 5, 6, 2, 1, 0] rfl ?_
        refine v_loop2 55 (fun (sum : Int) (fr : Int) => ∃ m fN : Nat, fr = fN ∧ fN + m = 14 ∧ BN ≤ fN ∧ stS (fun b => strN 4 b (t % tensL 10 t 1)) bN BN m fN sum = strN 5 bN t) (fun (sum : Int) (fr : Int) => (14 - fr).toNat) (fun (sum : Int) (fr : Int) => [(0, aI (b0)), (1, aI (t0)), (2, aI (d0)), (3, aI (tens)), (4, aI (boxes')), (5, aI (sum)), (6, aI (fr))]) (fun (sum : Int) (fr : Int) => []) (fun (sum : Int) (fr : Int) => w) (fun sum fr hI1 ih1 => ?_) (0) (boxes') (⟨14 - BN, BN, hboxes2, by omega, Nat.le_refl _, by simp only [strN]; rw [if_neg (by omega), ← hBN]⟩)
        obtain ⟨m, fN, hfr, hfm, hbf, hS⟩ := hI1
        refine v_iload 6 (pc' := 57) rfl dX5_strips_55 rfl ?_
        refine v_bipush (pc' := 59) rfl dX5_strips_57 rfl ?_
        refine v_icmp_ge (pc' := 62) (tgt := 155) rfl dX5_strips_59 (by decide) (by omega) (by omega) (fun c4 => ?_) (fun c4 => ?_)
        ·
          have hret : strN 5 bN t = sum := by rw [← hS, show m = 0 by omega]; rfl
          refine v_iload 5 (pc' := 157) rfl dX5_strips_155 rfl ?_
          refine v_iret dX5_strips_157 (by decide) (rfl) ?_
          exact ⟨hret.symm, rfl⟩
        ·
          obtain ⟨m, rfl⟩ : ∃ q, m = q + 1 := ⟨m - 1, by omega⟩
          refine v_iload 6 (pc' := 64) rfl dX5_strips_62 rfl ?_
          refine v_iload 4 (pc' := 66) rfl dX5_strips_64 rfl ?_
          refine v_isub (pc' := 67) rfl dX5_strips_66 ?_
          refine v_nm (fun to' hto' => ?_)
          refine v_istore (ls' := [(7, _), (0, _), (1, _), (2, _), (3, _), (4, _), (5, _), (6, _)]) (pc' := 69) rfl dX5_strips_67 rfl rfl ?_
          refine v_iload_n 1 (pc' := 70) rfl dX5_strips_69 rfl rfl ?_
          refine v_iload 7 (pc' := 72) rfl dX5_strips_70 rfl ?_
          refine v_ishr (z := ((bN / 2 ^ fN : Nat) : Int)) (pc' := 73) rfl dX5_strips_72 (iz_shrE hb hfr (by omega) (by omega)) ?_
          refine v_iconst (pc' := 74) rfl dX5_strips_73 ?_
          refine v_iand (z := ((bN / 2 ^ fN % 2 : Nat) : Int)) (pc' := 75) rfl dX5_strips_74 (iz_and1 rfl) ?_
          refine v_iconst (pc' := 76) rfl dX5_strips_75 ?_
          refine v_icmp_ne (pc' := 79) (tgt := 149) rfl dX5_strips_76 (by decide) (by omega) (by omega) (fun c5 => ?_) (fun c5 => ?_)
          ·
            have hA : ¬ bN / 2 ^ fN % 2 = 1 := by omega
            have hB := hA
            refine v_iinc (ls' := [(6, _), (7, _), (0, _), (1, _), (2, _), (3, _), (4, _), (5, _)]) 7 (pc' := 152) rfl dX5_strips_149 rfl rfl rfl ?_
            refine v_nl (fun fr' hfr' => ?_)
            refine v_goto (tgt := 55) dX5_strips_152 (by decide) ?_
            refine v_ls [2, 3, 4, 5, 6, 7, 0] rfl ?_
            exact ih1 (sum) (fr') (⟨m, fN + 1, by omega, by omega, by omega, by rw [← hS]; simp only [stS, hA, hB, if_true, if_false]⟩) (by omega)
          ·
            have hA : bN / 2 ^ fN % 2 = 1 := by omega
            refine v_iload_n 1 (pc' := 80) rfl dX5_strips_79 rfl rfl ?_
            refine v_iload 0 (pc' := 82) rfl dX5_strips_80 rfl ?_
            refine v_ishr (z := ((bN / 2 ^ (fN - BN) : Nat) : Int)) (pc' := 83) rfl dX5_strips_82 (iz_shrE hb (by omega) (by omega) (by omega)) ?_
            refine v_iconst (pc' := 84) rfl dX5_strips_83 ?_
            refine v_iand (z := ((bN / 2 ^ (fN - BN) % 2 : Nat) : Int)) (pc' := 85) rfl dX5_strips_84 (iz_and1 rfl) ?_
            refine v_if_ne (pc' := 88) (tgt := 149) rfl dX5_strips_85 (by decide) (by omega) (fun c6 => ?_) (fun c6 => ?_)
            ·
              have hB : ¬ bN / 2 ^ (fN - BN) % 2 = 0 := by omega
              refine v_iinc (ls' := [(6, _), (7, _), (0, _), (1, _), (2, _), (3, _), (4, _), (5, _)]) 7 (pc' := 152) rfl dX5_strips_149 rfl rfl rfl ?_
              refine v_nl (fun fr' hfr' => ?_)
              refine v_goto (tgt := 55) dX5_strips_152 (by decide) ?_
              refine v_ls [2, 3, 4, 5, 6, 7, 0] rfl ?_
              exact ih1 (sum) (fr') (⟨m, fN + 1, by omega, by omega, by omega, by rw [← hS]; simp only [stS, hA, hB, if_true, if_false]⟩) (by omega)
            ·
              have hB : bN / 2 ^ (fN - BN) % 2 = 0 := by omega
              refine v_iload_n 1 (pc' := 89) rfl dX5_strips_88 rfl rfl ?_
              refine v_iconst (pc' := 90) rfl dX5_strips_89 ?_
              refine v_iload 7 (pc' := 92) rfl dX5_strips_90 rfl ?_
              refine v_ishl (z := ((2 ^ fN : Nat) : Int)) (pc' := 93) rfl dX5_strips_92 (iz_one_shl hfr (by omega)) ?_
              refine v_iconst (pc' := 94) rfl dX5_strips_93 ?_
              refine v_isub (pc' := 95) rfl dX5_strips_94 ?_
              refine v_iand (z := ((bN % 2 ^ fN : Nat) : Int)) (pc' := 96) rfl dX5_strips_95 (iz_andlow hb rfl) ?_
              refine v_iconst (pc' := 97) rfl dX5_strips_96 ?_
              refine v_iload 0 (pc' := 99) rfl dX5_strips_97 rfl ?_
              refine v_ishl (z := ((2 ^ (fN - BN) : Nat) : Int)) (pc' := 100) rfl dX5_strips_99 (iz_one_shl (by omega) (by omega)) ?_
              refine v_ineg (pc' := 101) rfl dX5_strips_100 ?_
              refine v_iand (z := ((bN % 2 ^ fN / 2 ^ (fN - BN) * 2 ^ (fN - BN) : Nat) : Int)) (pc' := 102) rfl dX5_strips_101 (iz_mask rfl rfl (Nat.lt_of_le_of_lt (Nat.mod_le _ _) hbl) (by omega)) ?_
              refine v_nm (fun over' hover' => ?_)
              refine v_istore (ls' := [(8, _), (7, _), (0, _), (1, _), (2, _), (3, _), (4, _), (5, _), (6, _)]) (pc' := 104) rfl dX5_strips_102 rfl rfl ?_
              refine v_iload_n 2 (pc' := 105) rfl dX5_strips_104 rfl rfl ?_
              refine v_iconst (pc' := 106) rfl dX5_strips_105 ?_
              refine v_iload 8 (pc' := 108) rfl dX5_strips_106 rfl ?_
              refine v_ishl (z := ((2 ^ fN : Nat) : Int)) (pc' := 109) rfl dX5_strips_108 (iz_one_shl hfr (by omega)) ?_
              refine v_ixor (z := ((bN ^^^ 2 ^ fN : Nat) : Int)) (pc' := 110) rfl dX5_strips_109 (iz_xorE hb rfl) ?_
              refine v_iconst (pc' := 111) rfl dX5_strips_110 ?_
              refine v_iload 1 (pc' := 113) rfl dX5_strips_111 rfl ?_
              refine v_ishl (z := ((2 ^ (fN - BN) : Nat) : Int)) (pc' := 114) rfl dX5_strips_113 (iz_one_shl (by omega) (by omega)) ?_
              refine v_ixor (z := ((bN ^^^ 2 ^ fN ^^^ 2 ^ (fN - BN) : Nat) : Int)) (pc' := 115) rfl dX5_strips_114 (iz_xorE rfl rfl) ?_
              refine v_iload_n 3 (pc' := 116) rfl dX5_strips_115 rfl rfl ?_
              refine v_iload_n 5 (pc' := 117) rfl dX5_strips_116 rfl rfl ?_
              refine v_irem (z := ((t % TN : Nat) : Int)) (pc' := 118) rfl dX5_strips_117 (iz_ne (by omega) (by omega)) (by rw [iz_remN (by omega) (by omega) (by omega) (by omega), ht, htens2]; rfl) ?_
              refine v_iload_n 4 (pc' := 119) rfl dX5_strips_118 rfl rfl ?_
              refine v_iconst (pc' := 120) rfl dX5_strips_119 ?_
              refine v_iadd (pc' := 121) rfl dX5_strips_120 ?_
              refine v_cSP (pc' := 124) rfl dX5_strips_121 lk_RX5_32 rfl (c_strips4 l G rfl (xor_lt14 (xor_lt14 hbl (by omega)) (by omega)) (t := t % tensL 10 t 1) (by rw [hTN2]) hmod (by omega) w) rfl rfl rfl ?_
              refine v_nm (fun strips1 hstrips1 => ?_)
              refine v_istore (ls' := [(9, _), (8, _), (7, _), (0, _), (1, _), (2, _), (3, _), (4, _), (5, _), (6, _)]) (pc' := 126) rfl dX5_strips_124 rfl rfl ?_
              refine v_iload 8 (pc' := 128) rfl dX5_strips_126 rfl ?_
              refine v_iload 1 (pc' := 130) rfl dX5_strips_128 rfl ?_
              refine v_cSP (pc' := 133) rfl dX5_strips_130 lk_RX5_36 rfl (c_bitCount l G hover' (mask_lt hbl) w) rfl rfl rfl ?_
              refine v_nm (fun bitCount1 hbitCount1 => ?_)
              refine v_iconst (pc' := 134) rfl dX5_strips_133 ?_
              refine v_iand (z := ((popc ((bN % 2 ^ fN) / 2 ^ (fN - BN) * 2 ^ (fN - BN)) % 2 : Nat) : Int)) (pc' := 135) rfl dX5_strips_134 (iz_and1 hbitCount1) ?_
              refine v_if_ne (pc' := 138) (tgt := 143) rfl dX5_strips_135 (by decide) (by omega) (fun c7 => ?_) (fun c7 => ?_)
              ·
                have hC : ¬ popc ((bN % 2 ^ fN) / 2 ^ (fN - BN) * 2 ^ (fN - BN)) % 2 = 0 := by omega
                refine v_iload 0 (pc' := 145) rfl dX5_strips_143 rfl ?_
                refine v_ineg (pc' := 146) rfl dX5_strips_145 ?_
                refine v_iadd (pc' := 147) rfl dX5_strips_146 ?_
                refine v_nm (fun sum' hsum' => ?_)
                refine v_istore (ls' := [(5, _), (9, _), (8, _), (7, _), (0, _), (1, _), (2, _), (3, _), (4, _), (6, _)]) (pc' := 149) rfl dX5_strips_147 rfl rfl ?_
                refine v_iinc (ls' := [(6, _), (5, _), (9, _), (8, _), (7, _), (0, _), (1, _), (2, _), (3, _), (4, _)]) 9 (pc' := 152) rfl dX5_strips_149 rfl rfl rfl ?_
                refine v_nl (fun fr' hfr' => ?_)
                refine v_goto (tgt := 55) dX5_strips_152 (by decide) ?_
                refine v_ls [5, 6, 7, 8, 9, 1, 0] rfl ?_
                exact ih1 (sum') (fr') (⟨m, fN + 1, by omega, by omega, by omega, by rw [← hS]; simp only [stS, hA, hB, if_true, if_false, hC, hsum', hstrips1]⟩) (by omega)
              ·
                have hC : popc ((bN % 2 ^ fN) / 2 ^ (fN - BN) * 2 ^ (fN - BN)) % 2 = 0 := by omega
                refine v_iload 0 (pc' := 140) rfl dX5_strips_138 rfl ?_
                refine v_goto (tgt := 146) dX5_strips_140 (by decide) ?_
                refine v_iadd (pc' := 147) rfl dX5_strips_146 ?_
                refine v_nm (fun sum' hsum' => ?_)
                refine v_istore (ls' := [(5, _), (9, _), (8, _), (7, _), (0, _), (1, _), (2, _), (3, _), (4, _), (6, _)]) (pc' := 149) rfl dX5_strips_147 rfl rfl ?_
                refine v_iinc (ls' := [(6, _), (5, _), (9, _), (8, _), (7, _), (0, _), (1, _), (2, _), (3, _), (4, _)]) 9 (pc' := 152) rfl dX5_strips_149 rfl rfl rfl ?_
                refine v_nl (fun fr' hfr' => ?_)
                refine v_goto (tgt := 55) dX5_strips_152 (by decide) ?_
                refine v_ls [5, 6, 7, 8, 9, 1, 0] rfl ?_
                exact ih1 (sum') (fr') (⟨m, fN + 1, by omega, by omega, by omega, by rw [← hS]; simp only [stS, hA, hB, if_true, if_false, hC, hsum', hstrips1]⟩) (by omega)
      ·
        obtain ⟨m, rfl⟩ : ∃ q, m = q + 1 := ⟨m - 1, by omega⟩
        have hge : 10 ≤ t / 10 ^ j := by omega
        refine v_iload_n 3 (pc' := 33) rfl dX5_strips_32 rfl rfl ?_
        refine v_bipush (pc' := 35) rfl dX5_strips_33 rfl ?_
        refine v_imul (pc' := 36) rfl dX5_strips_35 ?_
        refine v_nm (fun tens' htens' => ?_)
        refine v_istore_n (ls' := [(3, _), (0, _), (1, _), (2, _), (4, _)]) (pc' := 37) rfl dX5_strips_36 rfl rfl rfl ?_
        refine v_iinc (ls' := [(4, _), (3, _), (0, _), (1, _), (2, _)]) 4 (pc' := 40) rfl dX5_strips_37 rfl rfl rfl ?_
        refine v_nl (fun i' hi' => ?_)
        refine v_goto (tgt := 17) dX5_strips_40 (by decide) ?_
        refine v_ls [2, 3, 4, 1, 0] rfl ?_
        exact ih0 (tens') (i') (⟨m, j + 1, by omega, by omega, by rw [Nat.pow_succ]; omega, by rw [Nat.pow_succ]; have := Nat.div_mul_le_self t (10 ^ j); have := (Nat.le_div_iff_mul_le hjp).mp hge; omega, by rw [← hT, Nat.pow_succ]; simp only [tensL]; rw [if_neg (by omega)]⟩) (by omega)
set_option maxHeartbeats 4000000 in
set_option maxRecDepth 100000 in
theorem c_strips6 (l : Launch) (G : Gx) {b0 t0 d0 : Int} {bN t : Nat} (hb : b0 = bN) (hbl : bN < 16384) (ht : t0 = t) (htk : t < 1000000) (hd : 0 ≤ d0 ∧ d0 + 6 ≤ 7) (w : Wd) : SpP l G 6 mX5_strips [aI (b0), aI (t0), aI (d0)] w (strN 6 bN t) := by
  refine Sp_of RX5 rfl (by decide +kernel) rfl (Nat.le_of_ble_eq_true rfl) ?_
  refine v_iload_n 1 (pc' := 1) rfl dX5_strips_0 rfl rfl ?_
  refine v_if_eq (pc' := 4) (tgt := 10) rfl dX5_strips_1 (by decide) (by omega) (fun c0 => ?_) (fun c0 => ?_)
  ·
    refine v_iconst (pc' := 11) rfl dX5_strips_10 ?_
    refine v_iret dX5_strips_11 (by decide) (rfl) ?_
    have h0 : t = 0 := by omega
    exact ⟨by rw [h0]; rfl, rfl⟩
  ·
    refine v_iload_n 2 (pc' := 5) rfl dX5_strips_4 rfl rfl ?_
    refine v_bipush (pc' := 7) rfl dX5_strips_5 rfl ?_
    refine v_icmp_le (pc' := 10) (tgt := 12) rfl dX5_strips_7 (by decide) (by omega) (by omega) (fun c1 => ?_) (fun c1 => absurd c1 (by omega))
    refine v_iconst (pc' := 13) rfl dX5_strips_12 ?_
    refine v_istore_n (ls' := [(3, _), (0, _), (1, _), (2, _)]) (pc' := 14) rfl dX5_strips_13 rfl rfl rfl ?_
    refine v_iconst (pc' := 15) rfl dX5_strips_14 ?_
    refine v_istore (ls' := [(4, _), (3, _), (0, _), (1, _), (2, _)]) (pc' := 17) rfl dX5_strips_15 rfl rfl ?_
    refine v_ls [2, 3, 4, 1, 0] rfl ?_
    refine v_loop2 17 (fun (tens : Int) (i : Int) => ∃ m j : Nat, i + m = 10 ∧ 0 ≤ i ∧ tens = ((10 ^ j : Nat) : Int) ∧ 10 ^ j ≤ t ∧ tensL m t (10 ^ j) = tensL 10 t 1) (fun (tens : Int) (i : Int) => (10 - i).toNat) (fun (tens : Int) (i : Int) => [(0, aI (b0)), (1, aI (t0)), (2, aI (d0)), (3, aI (tens)), (4, aI (i))]) (fun (tens : Int) (i : Int) => []) (fun (tens : Int) (i : Int) => w) (fun tens i hI0 ih0 => ?_) (1) (0) (⟨10, 0, by omega, by omega, rfl, by omega, rfl⟩)
    obtain ⟨m, j, him, hi0, htens, hj, hT⟩ := hI0
    have hjp : 0 < 10 ^ j := Nat.pow_pos (by decide)
    refine v_iload 4 (pc' := 19) rfl dX5_strips_17 rfl ?_
    refine v_bipush (pc' := 21) rfl dX5_strips_19 rfl ?_
    refine v_icmp_ge (pc' := 24) (tgt := 43) rfl dX5_strips_21 (by decide) (by omega) (by omega) (fun c2 => ?_) (fun c2 => ?_)
    ·
      have hTN : tensL 10 t 1 = 10 ^ j := by rw [← hT, show m = 0 by omega]; rfl
      refine v_iload_n 1 (pc' := 44) rfl dX5_strips_43 rfl rfl ?_
      refine v_iload_n 3 (pc' := 45) rfl dX5_strips_44 rfl rfl ?_
      refine v_idiv (z := ((t / 10 ^ j : Nat) : Int)) (pc' := 46) rfl dX5_strips_45 (iz_ne (by omega) (by omega)) (by rw [iz_divN (by omega) (by omega) (by omega) (by omega), ht, htens]; rfl) ?_
      refine v_nm (fun boxes' hboxes' => ?_)
      refine v_istore (ls' := [(4, _), (0, _), (1, _), (2, _), (3, _)]) (pc' := 48) rfl dX5_strips_46 rfl rfl ?_
      have hj9 : t / 10 ^ j < 10 := tens_9 (by omega) (by omega) hTN
      obtain ⟨BN, hBN⟩ : ∃ q, q = t / tensL 10 t 1 := ⟨_, rfl⟩
      obtain ⟨TN, hTN2⟩ : ∃ q, q = tensL 10 t 1 := ⟨_, rfl⟩
      have hboxes2 : boxes' = (BN : Int) := by rw [hBN, hTN]; exact hboxes'
      have hBN9 : BN < 10 := by rw [hBN, hTN]; exact hj9
      have hmod : t % tensL 10 t 1 < 100000 := by rw [hTN]; exact tens_mod (k := 5) htk hj
      have htens2 : tens = (TN : Int) := by rw [hTN2, hTN]; exact htens
      have hTp : 0 < TN := by rw [hTN2, hTN]; exact hjp
      have hTt : TN ≤ t := by rw [hTN2, hTN]; exact hj
      refine v_iconst (pc' := 49) rfl dX5_strips_48 ?_
      refine v_istore (ls' := [(5, _), (4, _), (0, _), (1, _), (2, _), (3, _)]) (pc' := 51) rfl dX5_strips_49 rfl rfl ?_
      refine v_iload 1 (pc' := 53) rfl dX5_strips_51 rfl ?_
      refine v_istore (ls' := [(6, _), (5, _), (4, _), (0, _), (1, _), (2, _), (3, _)]) (pc' := 55) rfl dX5_strips_53 rfl rfl ?_
      refine v_ls [3, 4, 5, 6, 2, 1, 0] rfl ?_
      refine v_loop2 55 (fun (sum : Int) (fr : Int) => ∃ m fN : Nat, fr = fN ∧ fN + m = 14 ∧ BN ≤ fN ∧ stS (fun b => strN 5 b (t % tensL 10 t 1)) bN BN m fN sum = strN 6 bN t) (fun (sum : Int) (fr : Int) => (14 - fr).toNat) (fun (sum : Int) (fr : Int) => [(0, aI (b0)), (1, aI (t0)), (2, aI (d0)), (3, aI (tens)), (4, aI (boxes')), (5, aI (sum)), (6, aI (fr))]) (fun (sum : Int) (fr : Int) => []) (fun (sum : Int) (fr : Int) => w) (fun sum fr hI1 ih1 => ?_) (0) (boxes') (⟨14 - BN, BN, hboxes2, by omega, Nat.le_refl _, by simp only [strN]; rw [if_neg (by omega), ← hBN]⟩)
      obtain ⟨m, fN, hfr, hfm, hbf, hS⟩ := hI1
      refine v_iload 6 (pc' := 57) rfl dX5_strips_55 rfl ?_
      refine v_bipush (pc' := 59) rfl dX5_strips_57 rfl ?_
      refine v_icmp_ge (pc' := 62) (tgt := 155) rfl dX5_strips_59 (by decide) (by omega) (by omega) (fun c4 => ?_) (fun c4 => ?_)
      ·
        have hret : strN 6 bN t = sum := by rw [← hS, show m = 0 by omega]; rfl
        refine v_iload 5 (pc' := 157) rfl dX5_strips_155 rfl ?_
        refine v_iret dX5_strips_157 (by decide) (rfl) ?_
        exact ⟨hret.symm, rfl⟩
      ·
        obtain ⟨m, rfl⟩ : ∃ q, m = q + 1 := ⟨m - 1, by omega⟩
        refine v_iload 6 (pc' := 64) rfl dX5_strips_62 rfl ?_
        refine v_iload 4 (pc' := 66) rfl dX5_strips_64 rfl ?_
        refine v_isub (pc' := 67) rfl dX5_strips_66 ?_
        refine v_nm (fun to' hto' => ?_)
        refine v_istore (ls' := [(7, _), (0, _), (1, _), (2, _), (3, _), (4, _), (5, _), (6, _)]) (pc' := 69) rfl dX5_strips_67 rfl rfl ?_
        refine v_iload_n 1 (pc' := 70) rfl dX5_strips_69 rfl rfl ?_
        refine v_iload 7 (pc' := 72) rfl dX5_strips_70 rfl ?_
        refine v_ishr (z := ((bN / 2 ^ fN : Nat) : Int)) (pc' := 73) rfl dX5_strips_72 (iz_shrE hb hfr (by omega) (by omega)) ?_
        refine v_iconst (pc' := 74) rfl dX5_strips_73 ?_
        refine v_iand (z := ((bN / 2 ^ fN % 2 : Nat) : Int)) (pc' := 75) rfl dX5_strips_74 (iz_and1 rfl) ?_
        refine v_iconst (pc' := 76) rfl dX5_strips_75 ?_
        refine v_icmp_ne (pc' := 79) (tgt := 149) rfl dX5_strips_76 (by decide) (by omega) (by omega) (fun c5 => ?_) (fun c5 => ?_)
        ·
          have hA : ¬ bN / 2 ^ fN % 2 = 1 := by omega
          have hB := hA
          refine v_iinc (ls' := [(6, _), (7, _), (0, _), (1, _), (2, _), (3, _), (4, _), (5, _)]) 7 (pc' := 152) rfl dX5_strips_149 rfl rfl rfl ?_
          refine v_nl (fun fr' hfr' => ?_)
          refine v_goto (tgt := 55) dX5_strips_152 (by decide) ?_
          refine v_ls [2, 3, 4, 5, 6, 7, 0] rfl ?_
          exact ih1 (sum) (fr') (⟨m, fN + 1, by omega, by omega, by omega, by rw [← hS]; simp only [stS, hA, hB, if_true, if_false]⟩) (by omega)
        ·
          have hA : bN / 2 ^ fN % 2 = 1 := by omega
          refine v_iload_n 1 (pc' := 80) rfl dX5_strips_79 rfl rfl ?_
          refine v_iload 0 (pc' := 82) rfl dX5_strips_80 rfl ?_
          refine v_ishr (z := ((bN / 2 ^ (fN - BN) : Nat) : Int)) (pc' := 83) rfl dX5_strips_82 (iz_shrE hb (by omega) (by omega) (by omega)) ?_
          refine v_iconst (pc' := 84) rfl dX5_strips_83 ?_
          refine v_iand (z := ((bN / 2 ^ (fN - BN) % 2 : Nat) : Int)) (pc' := 85) rfl dX5_strips_84 (iz_and1 rfl) ?_
          refine v_if_ne (pc' := 88) (tgt := 149) rfl dX5_strips_85 (by decide) (by omega) (fun c6 => ?_) (fun c6 => ?_)
          ·
            have hB : ¬ bN / 2 ^ (fN - BN) % 2 = 0 := by omega
            refine v_iinc (ls' := [(6, _), (7, _), (0, _), (1, _), (2, _), (3, _), (4, _), (5, _)]) 7 (pc' := 152) rfl dX5_strips_149 rfl rfl rfl ?_
            refine v_nl (fun fr' hfr' => ?_)
            refine v_goto (tgt := 55) dX5_strips_152 (by decide) ?_
            refine v_ls [2, 3, 4, 5, 6, 7, 0] rfl ?_
            exact ih1 (sum) (fr') (⟨m, fN + 1, by omega, by omega, by omega, by rw [← hS]; simp only [stS, hA, hB, if_true, if_false]⟩) (by omega)
          ·
            have hB : bN / 2 ^ (fN - BN) % 2 = 0 := by omega
            refine v_iload_n 1 (pc' := 89) rfl dX5_strips_88 rfl rfl ?_
            refine v_iconst (pc' := 90) rfl dX5_strips_89 ?_
            refine v_iload 7 (pc' := 92) rfl dX5_strips_90 rfl ?_
            refine v_ishl (z := ((2 ^ fN : Nat) : Int)) (pc' := 93) rfl dX5_strips_92 (iz_one_shl hfr (by omega)) ?_
            refine v_iconst (pc' := 94) rfl dX5_strips_93 ?_
            refine v_isub (pc' := 95) rfl dX5_strips_94 ?_
            refine v_iand (z := ((bN % 2 ^ fN : Nat) : Int)) (pc' := 96) rfl dX5_strips_95 (iz_andlow hb rfl) ?_
            refine v_iconst (pc' := 97) rfl dX5_strips_96 ?_
            refine v_iload 0 (pc' := 99) rfl dX5_strips_97 rfl ?_
            refine v_ishl (z := ((2 ^ (fN - BN) : Nat) : Int)) (pc' := 100) rfl dX5_strips_99 (iz_one_shl (by omega) (by omega)) ?_
            refine v_ineg (pc' := 101) rfl dX5_strips_100 ?_
            refine v_iand (z := ((bN % 2 ^ fN / 2 ^ (fN - BN) * 2 ^ (fN - BN) : Nat) : Int)) (pc' := 102) rfl dX5_strips_101 (iz_mask rfl rfl (Nat.lt_of_le_of_lt (Nat.mod_le _ _) hbl) (by omega)) ?_
            refine v_nm (fun over' hover' => ?_)
            refine v_istore (ls' := [(8, _), (7, _), (0, _), (1, _), (2, _), (3, _), (4, _), (5, _), (6, _)]) (pc' := 104) rfl dX5_strips_102 rfl rfl ?_
            refine v_iload_n 2 (pc' := 105) rfl dX5_strips_104 rfl rfl ?_
            refine v_iconst (pc' := 106) rfl dX5_strips_105 ?_
            refine v_iload 8 (pc' := 108) rfl dX5_strips_106 rfl ?_
            refine v_ishl (z := ((2 ^ fN : Nat) : Int)) (pc' := 109) rfl dX5_strips_108 (iz_one_shl hfr (by omega)) ?_
            refine v_ixor (z := ((bN ^^^ 2 ^ fN : Nat) : Int)) (pc' := 110) rfl dX5_strips_109 (iz_xorE hb rfl) ?_
            refine v_iconst (pc' := 111) rfl dX5_strips_110 ?_
            refine v_iload 1 (pc' := 113) rfl dX5_strips_111 rfl ?_
            refine v_ishl (z := ((2 ^ (fN - BN) : Nat) : Int)) (pc' := 114) rfl dX5_strips_113 (iz_one_shl (by omega) (by omega)) ?_
            refine v_ixor (z := ((bN ^^^ 2 ^ fN ^^^ 2 ^ (fN - BN) : Nat) : Int)) (pc' := 115) rfl dX5_strips_114 (iz_xorE rfl rfl) ?_
            refine v_iload_n 3 (pc' := 116) rfl dX5_strips_115 rfl rfl ?_
            refine v_iload_n 5 (pc' := 117) rfl dX5_strips_116 rfl rfl ?_
            refine v_irem (z := ((t % TN : Nat) : Int)) (pc' := 118) rfl dX5_strips_117 (iz_ne (by omega) (by omega)) (by rw [iz_remN (by omega) (by omega) (by omega) (by omega), ht, htens2]; rfl) ?_
            refine v_iload_n 4 (pc' := 119) rfl dX5_strips_118 rfl rfl ?_
            refine v_iconst (pc' := 120) rfl dX5_strips_119 ?_
            refine v_iadd (pc' := 121) rfl dX5_strips_120 ?_
            refine v_cSP (pc' := 124) rfl dX5_strips_121 lk_RX5_32 rfl (c_strips5 l G rfl (xor_lt14 (xor_lt14 hbl (by omega)) (by omega)) (t := t % tensL 10 t 1) (by rw [hTN2]) hmod (by omega) w) rfl rfl rfl ?_
            refine v_nm (fun strips1 hstrips1 => ?_)
            refine v_istore (ls' := [(9, _), (8, _), (7, _), (0, _), (1, _), (2, _), (3, _), (4, _), (5, _), (6, _)]) (pc' := 126) rfl dX5_strips_124 rfl rfl ?_
            refine v_iload 8 (pc' := 128) rfl dX5_strips_126 rfl ?_
            refine v_iload 1 (pc' := 130) rfl dX5_strips_128 rfl ?_
            refine v_cSP (pc' := 133) rfl dX5_strips_130 lk_RX5_36 rfl (c_bitCount l G hover' (mask_lt hbl) w) rfl rfl rfl ?_
            refine v_nm (fun bitCount1 hbitCount1 => ?_)
            refine v_iconst (pc' := 134) rfl dX5_strips_133 ?_
            refine v_iand (z := ((popc ((bN % 2 ^ fN) / 2 ^ (fN - BN) * 2 ^ (fN - BN)) % 2 : Nat) : Int)) (pc' := 135) rfl dX5_strips_134 (iz_and1 hbitCount1) ?_
            refine v_if_ne (pc' := 138) (tgt := 143) rfl dX5_strips_135 (by decide) (by omega) (fun c7 => ?_) (fun c7 => ?_)
            ·
              have hC : ¬ popc ((bN % 2 ^ fN) / 2 ^ (fN - BN) * 2 ^ (fN - BN)) % 2 = 0 := by omega
              refine v_iload 0 (pc' := 145) rfl dX5_strips_143 rfl ?_
              refine v_ineg (pc' := 146) rfl dX5_strips_145 ?_
              refine v_iadd (pc' := 147) rfl dX5_strips_146 ?_
              refine v_nm (fun sum' hsum' => ?_)
              refine v_istore (ls' := [(5, _), (9, _), (8, _), (7, _), (0, _), (1, _), (2, _), (3, _), (4, _), (6, _)]) (pc' := 149) rfl dX5_strips_147 rfl rfl ?_
              refine v_iinc (ls' := [(6, _), (5, _), (9, _), (8, _), (7, _), (0, _), (1, _), (2, _), (3, _), (4, _)]) 9 (pc' := 152) rfl dX5_strips_149 rfl rfl rfl ?_
              refine v_nl (fun fr' hfr' => ?_)
              refine v_goto (tgt := 55) dX5_strips_152 (by decide) ?_
              refine v_ls [5, 6, 7, 8, 9, 1, 0] rfl ?_
              exact ih1 (sum') (fr') (⟨m, fN + 1, by omega, by omega, by omega, by rw [← hS]; simp only [stS, hA, hB, if_true, if_false, hC, hsum', hstrips1]⟩) (by omega)
            ·
              have hC : popc ((bN % 2 ^ fN) / 2 ^ (fN - BN) * 2 ^ (fN - BN)) % 2 = 0 := by omega
              refine v_iload 0 (pc' := 140) rfl dX5_strips_138 rfl ?_
              refine v_goto (tgt := 146) dX5_strips_140 (by decide) ?_
              refine v_iadd (pc' := 147) rfl dX5_strips_146 ?_
              refine v_nm (fun sum' hsum' => ?_)
              refine v_istore (ls' := [(5, _), (9, _), (8, _), (7, _), (0, _), (1, _), (2, _), (3, _), (4, _), (6, _)]) (pc' := 149) rfl dX5_strips_147 rfl rfl ?_
              refine v_iinc (ls' := [(6, _), (5, _), (9, _), (8, _), (7, _), (0, _), (1, _), (2, _), (3, _), (4, _)]) 9 (pc' := 152) rfl dX5_strips_149 rfl rfl rfl ?_
              refine v_nl (fun fr' hfr' => ?_)
              refine v_goto (tgt := 55) dX5_strips_152 (by decide) ?_
              refine v_ls [5, 6, 7, 8, 9, 1, 0] rfl ?_
              exact ih1 (sum') (fr') (⟨m, fN + 1, by omega, by omega, by omega, by rw [← hS]; simp only [stS, hA, hB, if_true, if_false, hC, hsum', hstrips1]⟩) (by omega)
    ·
      refine v_iload_n 1 (pc' := 25) rfl dX5_strips_24 rfl rfl ?_
      refine v_iload_n 3 (pc' := 26) rfl dX5_strips_25 rfl rfl ?_
      refine v_idiv (z := ((t / 10 ^ j : Nat) : Int)) (pc' := 27) rfl dX5_strips_26 (iz_ne (by omega) (by omega)) (by rw [iz_divN (by omega) (by omega) (by omega) (by omega), ht, htens]; rfl) ?_
      refine v_bipush (pc' := 29) rfl dX5_strips_27 rfl ?_
      refine v_icmp_lt (pc' := 32) (tgt := 43) rfl dX5_strips_29 (by decide) (by have hq := Nat.div_le_self t (10 ^ j); clear hT; generalize t / 10 ^ j = q at hq ⊢; omega) (by omega) (fun c3 => ?_) (fun c3 => ?_)
      ·
        have hTN : tensL 10 t 1 = 10 ^ j := by
          rw [← hT]
          cases m with
          | zero => rfl
          | succ m => simp only [tensL]; rw [if_pos (by omega)]
        refine v_iload_n 1 (pc' := 44) rfl dX5_strips_43 rfl rfl ?_
        refine v_iload_n 3 (pc' := 45) rfl dX5_strips_44 rfl rfl ?_
        refine v_idiv (z := ((t / 10 ^ j : Nat) : Int)) (pc' := 46) rfl dX5_strips_45 (iz_ne (by omega) (by omega)) (by rw [iz_divN (by omega) (by omega) (by omega) (by omega), ht, htens]; rfl) ?_
        refine v_nm (fun boxes' hboxes' => ?_)
        refine v_istore (ls' := [(4, _), (0, _), (1, _), (2, _), (3, _)]) (pc' := 48) rfl dX5_strips_46 rfl rfl ?_
        have hj9 : t / 10 ^ j < 10 := tens_9 (by omega) (by omega) hTN
        obtain ⟨BN, hBN⟩ : ∃ q, q = t / tensL 10 t 1 := ⟨_, rfl⟩
        obtain ⟨TN, hTN2⟩ : ∃ q, q = tensL 10 t 1 := ⟨_, rfl⟩
        have hboxes2 : boxes' = (BN : Int) := by rw [hBN, hTN]; exact hboxes'
        have hBN9 : BN < 10 := by rw [hBN, hTN]; exact hj9
        have hmod : t % tensL 10 t 1 < 100000 := by rw [hTN]; exact tens_mod (k := 5) htk hj
        have htens2 : tens = (TN : Int) := by rw [hTN2, hTN]; exact htens
        have hTp : 0 < TN := by rw [hTN2, hTN]; exact hjp
        have hTt : TN ≤ t := by rw [hTN2, hTN]; exact hj
        refine v_iconst (pc' := 49) rfl dX5_strips_48 ?_
        refine v_istore (ls' := [(5, _), (4, _), (0, _), (1, _), (2, _), (3, _)]) (pc' := 51) rfl dX5_strips_49 rfl rfl ?_
        refine v_iload 1 (pc' := 53) rfl dX5_strips_51 rfl ?_
        refine v_istore (ls' := [(6, _), (5, _), (4, _), (0, _), (1, _), (2, _), (3, _)]) (pc' := 55) rfl dX5_strips_53 rfl rfl ?_
        refine v_ls [3, 4, 5, 6, 2, 1, 0] rfl ?_
        refine v_loop2 55 (fun (sum : Int) (fr : Int) => ∃ m fN : Nat, fr = fN ∧ fN + m = 14 ∧ BN ≤ fN ∧ stS (fun b => strN 5 b (t % tensL 10 t 1)) bN BN m fN sum = strN 6 bN t) (fun (sum : Int) (fr : Int) => (14 - fr).toNat) (fun (sum : Int) (fr : Int) => [(0, aI (b0)), (1, aI (t0)), (2, aI (d0)), (3, aI (tens)), (4, aI (boxes')), (5, aI (sum)), (6, aI (fr))]) (fun (sum : Int) (fr : Int) => []) (fun (sum : Int) (fr : Int) => w) (fun sum fr hI1 ih1 => ?_) (0) (boxes') (⟨14 - BN, BN, hboxes2, by omega, Nat.le_refl _, by simp only [strN]; rw [if_neg (by omega), ← hBN]⟩)
        obtain ⟨m, fN, hfr, hfm, hbf, hS⟩ := hI1
        refine v_iload 6 (pc' := 57) rfl dX5_strips_55 rfl ?_
        refine v_bipush (pc' := 59) rfl dX5_strips_57 rfl ?_
        refine v_icmp_ge (pc' := 62) (tgt := 155) rfl dX5_strips_59 (by decide) (by omega) (by omega) (fun c4 => ?_) (fun c4 => ?_)
        ·
          have hret : strN 6 bN t = sum := by rw [← hS, show m = 0 by omega]; rfl
          refine v_iload 5 (pc' := 157) rfl dX5_strips_155 rfl ?_
          refine v_iret dX5_strips_157 (by decide) (rfl) ?_
          exact ⟨hret.symm, rfl⟩
        ·
          obtain ⟨m, rfl⟩ : ∃ q, m = q + 1 := ⟨m - 1, by omega⟩
          refine v_iload 6 (pc' := 64) rfl dX5_strips_62 rfl ?_
          refine v_iload 4 (pc' := 66) rfl dX5_strips_64 rfl ?_
          refine v_isub (pc' := 67) rfl dX5_strips_66 ?_
          refine v_nm (fun to' hto' => ?_)
          refine v_istore (ls' := [(7, _), (0, _), (1, _), (2, _), (3, _), (4, _), (5, _), (6, _)]) (pc' := 69) rfl dX5_strips_67 rfl rfl ?_
          refine v_iload_n 1 (pc' := 70) rfl dX5_strips_69 rfl rfl ?_
          refine v_iload 7 (pc' := 72) rfl dX5_strips_70 rfl ?_
          refine v_ishr (z := ((bN / 2 ^ fN : Nat) : Int)) (pc' := 73) rfl dX5_strips_72 (iz_shrE hb hfr (by omega) (by omega)) ?_
          refine v_iconst (pc' := 74) rfl dX5_strips_73 ?_
          refine v_iand (z := ((bN / 2 ^ fN % 2 : Nat) : Int)) (pc' := 75) rfl dX5_strips_74 (iz_and1 rfl) ?_
          refine v_iconst (pc' := 76) rfl dX5_strips_75 ?_
          refine v_icmp_ne (pc' := 79) (tgt := 149) rfl dX5_strips_76 (by decide) (by omega) (by omega) (fun c5 => ?_) (fun c5 => ?_)
          ·
            have hA : ¬ bN / 2 ^ fN % 2 = 1 := by omega
            have hB := hA
            refine v_iinc (ls' := [(6, _), (7, _), (0, _), (1, _), (2, _), (3, _), (4, _), (5, _)]) 7 (pc' := 152) rfl dX5_strips_149 rfl rfl rfl ?_
            refine v_nl (fun fr' hfr' => ?_)
            refine v_goto (tgt := 55) dX5_strips_152 (by decide) ?_
            refine v_ls [2, 3, 4, 5, 6, 7, 0] rfl ?_
            exact ih1 (sum) (fr') (⟨m, fN + 1, by omega, by omega, by omega, by rw [← hS]; simp only [stS, hA, hB, if_true, if_false]⟩) (by omega)
          ·
            have hA : bN / 2 ^ fN % 2 = 1 := by omega
            refine v_iload_n 1 (pc' := 80) rfl dX5_strips_79 rfl rfl ?_
            refine v_iload 0 (pc' := 82) rfl dX5_strips_80 rfl ?_
            refine v_ishr (z := ((bN / 2 ^ (fN - BN) : Nat) : Int)) (pc' := 83) rfl dX5_strips_82 (iz_shrE hb (by omega) (by omega) (by omega)) ?_
            refine v_iconst (pc' := 84) rfl dX5_strips_83 ?_
            refine v_iand (z := ((bN / 2 ^ (fN - BN) % 2 : Nat) : Int)) (pc' := 85) rfl dX5_strips_84 (iz_and1 rfl) ?_
            refine v_if_ne (pc' := 88) (tgt := 149) rfl dX5_strips_85 (by decide) (by omega) (fun c6 => ?_) (fun c6 => ?_)
            ·
              have hB : ¬ bN / 2 ^ (fN - BN) % 2 = 0 := by omega
              refine v_iinc (ls' := [(6, _), (7, _), (0, _), (1, _), (2, _), (3, _), (4, _), (5, _)]) 7 (pc' := 152) rfl dX5_strips_149 rfl rfl rfl ?_
              refine v_nl (fun fr' hfr' => ?_)
              refine v_goto (tgt := 55) dX5_strips_152 (by decide) ?_
              refine v_ls [2, 3, 4, 5, 6, 7, 0] rfl ?_
              exact ih1 (sum) (fr') (⟨m, fN + 1, by omega, by omega, by omega, by rw [← hS]; simp only [stS, hA, hB, if_true, if_false]⟩) (by omega)
            ·
              have hB : bN / 2 ^ (fN - BN) % 2 = 0 := by omega
              refine v_iload_n 1 (pc' := 89) rfl dX5_strips_88 rfl rfl ?_
              refine v_iconst (pc' := 90) rfl dX5_strips_89 ?_
              refine v_iload 7 (pc' := 92) rfl dX5_strips_90 rfl ?_
              refine v_ishl (z := ((2 ^ fN : Nat) : Int)) (pc' := 93) rfl dX5_strips_92 (iz_one_shl hfr (by omega)) ?_
              refine v_iconst (pc' := 94) rfl dX5_strips_93 ?_
              refine v_isub (pc' := 95) rfl dX5_strips_94 ?_
              refine v_iand (z := ((bN % 2 ^ fN : Nat) : Int)) (pc' := 96) rfl dX5_strips_95 (iz_andlow hb rfl) ?_
              refine v_iconst (pc' := 97) rfl dX5_strips_96 ?_
              refine v_iload 0 (pc' := 99) rfl dX5_strips_97 rfl ?_
              refine v_ishl (z := ((2 ^ (fN - BN) : Nat) : Int)) (pc' := 100) rfl dX5_strips_99 (iz_one_shl (by omega) (by omega)) ?_
              refine v_ineg (pc' := 101) rfl dX5_strips_100 ?_
              refine v_iand (z := ((bN % 2 ^ fN / 2 ^ (fN - BN) * 2 ^ (fN - BN) : Nat) : Int)) (pc' := 102) rfl dX5_strips_101 (iz_mask rfl rfl (Nat.lt_of_le_of_lt (Nat.mod_le _ _) hbl) (by omega)) ?_
              refine v_nm (fun over' hover' => ?_)
              refine v_istore (ls' := [(8, _), (7, _), (0, _), (1, _), (2, _), (3, _), (4, _), (5, _), (6, _)]) (pc' := 104) rfl dX5_strips_102 rfl rfl ?_
              refine v_iload_n 2 (pc' := 105) rfl dX5_strips_104 rfl rfl ?_
              refine v_iconst (pc' := 106) rfl dX5_strips_105 ?_
              refine v_iload 8 (pc' := 108) rfl dX5_strips_106 rfl ?_
              refine v_ishl (z := ((2 ^ fN : Nat) : Int)) (pc' := 109) rfl dX5_strips_108 (iz_one_shl hfr (by omega)) ?_
              refine v_ixor (z := ((bN ^^^ 2 ^ fN : Nat) : Int)) (pc' := 110) rfl dX5_strips_109 (iz_xorE hb rfl) ?_
              refine v_iconst (pc' := 111) rfl dX5_strips_110 ?_
              refine v_iload 1 (pc' := 113) rfl dX5_strips_111 rfl ?_
              refine v_ishl (z := ((2 ^ (fN - BN) : Nat) : Int)) (pc' := 114) rfl dX5_strips_113 (iz_one_shl (by omega) (by omega)) ?_
              refine v_ixor (z := ((bN ^^^ 2 ^ fN ^^^ 2 ^ (fN - BN) : Nat) : Int)) (pc' := 115) rfl dX5_strips_114 (iz_xorE rfl rfl) ?_
              refine v_iload_n 3 (pc' := 116) rfl dX5_strips_115 rfl rfl ?_
              refine v_iload_n 5 (pc' := 117) rfl dX5_strips_116 rfl rfl ?_
              refine v_irem (z := ((t % TN : Nat) : Int)) (pc' := 118) rfl dX5_strips_117 (iz_ne (by omega) (by omega)) (by rw [iz_remN (by omega) (by omega) (by omega) (by omega), ht, htens2]; rfl) ?_
              refine v_iload_n 4 (pc' := 119) rfl dX5_strips_118 rfl rfl ?_
              refine v_iconst (pc' := 120) rfl dX5_strips_119 ?_
              refine v_iadd (pc' := 121) rfl dX5_strips_120 ?_
              refine v_cSP (pc' := 124) rfl dX5_strips_121 lk_RX5_32 rfl (c_strips5 l G rfl (xor_lt14 (xor_lt14 hbl (by omega)) (by omega)) (t := t % tensL 10 t 1) (by rw [hTN2]) hmod (by omega) w) rfl rfl rfl ?_
              refine v_nm (fun strips1 hstrips1 => ?_)
              refine v_istore (ls' := [(9, _), (8, _), (7, _), (0, _), (1, _), (2, _), (3, _), (4, _), (5, _), (6, _)]) (pc' := 126) rfl dX5_strips_124 rfl rfl ?_
              refine v_iload 8 (pc' := 128) rfl dX5_strips_126 rfl ?_
              refine v_iload 1 (pc' := 130) rfl dX5_strips_128 rfl ?_
              refine v_cSP (pc' := 133) rfl dX5_strips_130 lk_RX5_36 rfl (c_bitCount l G hover' (mask_lt hbl) w) rfl rfl rfl ?_
              refine v_nm (fun bitCount1 hbitCount1 => ?_)
              refine v_iconst (pc' := 134) rfl dX5_strips_133 ?_
              refine v_iand (z := ((popc ((bN % 2 ^ fN) / 2 ^ (fN - BN) * 2 ^ (fN - BN)) % 2 : Nat) : Int)) (pc' := 135) rfl dX5_strips_134 (iz_and1 hbitCount1) ?_
              refine v_if_ne (pc' := 138) (tgt := 143) rfl dX5_strips_135 (by decide) (by omega) (fun c7 => ?_) (fun c7 => ?_)
              ·
                have hC : ¬ popc ((bN % 2 ^ fN) / 2 ^ (fN - BN) * 2 ^ (fN - BN)) % 2 = 0 := by omega
                refine v_iload 0 (pc' := 145) rfl dX5_strips_143 rfl ?_
                refine v_ineg (pc' := 146) rfl dX5_strips_145 ?_
                refine v_iadd (pc' := 147) rfl dX5_strips_146 ?_
                refine v_nm (fun sum' hsum' => ?_)
                refine v_istore (ls' := [(5, _), (9, _), (8, _), (7, _), (0, _), (1, _), (2, _), (3, _), (4, _), (6, _)]) (pc' := 149) rfl dX5_strips_147 rfl rfl ?_
                refine v_iinc (ls' := [(6, _), (5, _), (9, _), (8, _), (7, _), (0, _), (1, _), (2, _), (3, _), (4, _)]) 9 (pc' := 152) rfl dX5_strips_149 rfl rfl rfl ?_
                refine v_nl (fun fr' hfr' => ?_)
                refine v_goto (tgt := 55) dX5_strips_152 (by decide) ?_
                refine v_ls [5, 6, 7, 8, 9, 1, 0] rfl ?_
                exact ih1 (sum') (fr') (⟨m, fN + 1, by omega, by omega, by omega, by rw [← hS]; simp only [stS, hA, hB, if_true, if_false, hC, hsum', hstrips1]⟩) (by omega)
              ·
                have hC : popc ((bN % 2 ^ fN) / 2 ^ (fN - BN) * 2 ^ (fN - BN)) % 2 = 0 := by omega
                refine v_iload 0 (pc' := 140) rfl dX5_strips_138 rfl ?_
                refine v_goto (tgt := 146) dX5_strips_140 (by decide) ?_
                refine v_iadd (pc' := 147) rfl dX5_strips_146 ?_
                refine v_nm (fun sum' hsum' => ?_)
                refine v_istore (ls' := [(5, _), (9, _), (8, _), (7, _), (0, _), (1, _), (2, _), (3, _), (4, _), (6, _)]) (pc' := 149) rfl dX5_strips_147 rfl rfl ?_
                refine v_iinc (ls' := [(6, _), (5, _), (9, _), (8, _), (7, _), (0, _), (1, _), (2, _), (3, _), (4, _)]) 9 (pc' := 152) rfl dX5_strips_149 rfl rfl rfl ?_
                refine v_nl (fun fr' hfr' => ?_)
                refine v_goto (tgt := 55) dX5_strips_152 (by decide) ?_
                refine v_ls [5, 6, 7, 8, 9, 1, 0] rfl ?_
                exact ih1 (sum') (fr') (⟨m, fN + 1, by omega, by omega, by omega, by rw [← hS]; simp only [stS, hA, hB, if_true, if_false, hC, hsum', hstrips1]⟩) (by omega)
      ·
        obtain ⟨m, rfl⟩ : ∃ q, m = q + 1 := ⟨m - 1, by omega⟩
        have hge : 10 ≤ t / 10 ^ j := by omega
        refine v_iload_n 3 (pc' := 33) rfl dX5_strips_32 rfl rfl ?_
        refine v_bipush (pc' := 35) rfl dX5_strips_33 rfl ?_
        refine v_imul (pc' := 36) rfl dX5_strips_35 ?_
        refine v_nm (fun tens' htens' => ?_)
        refine v_istore_n (ls' := [(3, _), (0, _), (1, _), (2, _), (4, _)]) (pc' := 37) rfl dX5_strips_36 rfl rfl rfl ?_
        refine v_iinc (ls' := [(4, _), (3, _), (0, _), (1, _), (2, _)]) 4 (pc' := 40) rfl dX5_strips_37 rfl rfl rfl ?_
        refine v_nl (fun i' hi' => ?_)
        refine v_goto (tgt := 17) dX5_strips_40 (by decide) ?_
        refine v_ls [2, 3, 4, 1, 0] rfl ?_
        exact ih0 (tens') (i') (⟨m, j + 1, by omega, by omega, by rw [Nat.pow_succ]; omega, by rw [Nat.pow_succ]; have := Nat.div_mul_le_self t (10 ^ j); have := (Nat.le_div_iff_mul_le hjp).mp hge; omega, by rw [← hT, Nat.pow_succ]; simp only [tensL]; rw [if_neg (by omega)]⟩) (by omega)
set_option maxHeartbeats 4000000 in
set_option maxRecDepth 100000 in
theorem c_strips7 (l : Launch) (G : Gx) {b0 t0 d0 : Int} {bN t : Nat} (hb : b0 = bN) (hbl : bN < 16384) (ht : t0 = t) (htk : t < 10000000) (hd : 0 ≤ d0 ∧ d0 + 7 ≤ 7) (w : Wd) : SpP l G 7 mX5_strips [aI (b0), aI (t0), aI (d0)] w (strN 7 bN t) := by
  refine Sp_of RX5 rfl (by decide +kernel) rfl (Nat.le_of_ble_eq_true rfl) ?_
  refine v_iload_n 1 (pc' := 1) rfl dX5_strips_0 rfl rfl ?_
  refine v_if_eq (pc' := 4) (tgt := 10) rfl dX5_strips_1 (by decide) (by omega) (fun c0 => ?_) (fun c0 => ?_)
  ·
    refine v_iconst (pc' := 11) rfl dX5_strips_10 ?_
    refine v_iret dX5_strips_11 (by decide) (rfl) ?_
    have h0 : t = 0 := by omega
    exact ⟨by rw [h0]; rfl, rfl⟩
  ·
    refine v_iload_n 2 (pc' := 5) rfl dX5_strips_4 rfl rfl ?_
    refine v_bipush (pc' := 7) rfl dX5_strips_5 rfl ?_
    refine v_icmp_le (pc' := 10) (tgt := 12) rfl dX5_strips_7 (by decide) (by omega) (by omega) (fun c1 => ?_) (fun c1 => absurd c1 (by omega))
    refine v_iconst (pc' := 13) rfl dX5_strips_12 ?_
    refine v_istore_n (ls' := [(3, _), (0, _), (1, _), (2, _)]) (pc' := 14) rfl dX5_strips_13 rfl rfl rfl ?_
    refine v_iconst (pc' := 15) rfl dX5_strips_14 ?_
    refine v_istore (ls' := [(4, _), (3, _), (0, _), (1, _), (2, _)]) (pc' := 17) rfl dX5_strips_15 rfl rfl ?_
    refine v_ls [2, 3, 4, 1, 0] rfl ?_
    refine v_loop2 17 (fun (tens : Int) (i : Int) => ∃ m j : Nat, i + m = 10 ∧ 0 ≤ i ∧ tens = ((10 ^ j : Nat) : Int) ∧ 10 ^ j ≤ t ∧ tensL m t (10 ^ j) = tensL 10 t 1) (fun (tens : Int) (i : Int) => (10 - i).toNat) (fun (tens : Int) (i : Int) => [(0, aI (b0)), (1, aI (t0)), (2, aI (d0)), (3, aI (tens)), (4, aI (i))]) (fun (tens : Int) (i : Int) => []) (fun (tens : Int) (i : Int) => w) (fun tens i hI0 ih0 => ?_) (1) (0) (⟨10, 0, by omega, by omega, rfl, by omega, rfl⟩)
    obtain ⟨m, j, him, hi0, htens, hj, hT⟩ := hI0
    have hjp : 0 < 10 ^ j := Nat.pow_pos (by decide)
    refine v_iload 4 (pc' := 19) rfl dX5_strips_17 rfl ?_
    refine v_bipush (pc' := 21) rfl dX5_strips_19 rfl ?_
    refine v_icmp_ge (pc' := 24) (tgt := 43) rfl dX5_strips_21 (by decide) (by omega) (by omega) (fun c2 => ?_) (fun c2 => ?_)
    ·
      have hTN : tensL 10 t 1 = 10 ^ j := by rw [← hT, show m = 0 by omega]; rfl
      refine v_iload_n 1 (pc' := 44) rfl dX5_strips_43 rfl rfl ?_
      refine v_iload_n 3 (pc' := 45) rfl dX5_strips_44 rfl rfl ?_
      refine v_idiv (z := ((t / 10 ^ j : Nat) : Int)) (pc' := 46) rfl dX5_strips_45 (iz_ne (by omega) (by omega)) (by rw [iz_divN (by omega) (by omega) (by omega) (by omega), ht, htens]; rfl) ?_
      refine v_nm (fun boxes' hboxes' => ?_)
      refine v_istore (ls' := [(4, _), (0, _), (1, _), (2, _), (3, _)]) (pc' := 48) rfl dX5_strips_46 rfl rfl ?_
      have hj9 : t / 10 ^ j < 10 := tens_9 (by omega) (by omega) hTN
      obtain ⟨BN, hBN⟩ : ∃ q, q = t / tensL 10 t 1 := ⟨_, rfl⟩
      obtain ⟨TN, hTN2⟩ : ∃ q, q = tensL 10 t 1 := ⟨_, rfl⟩
      have hboxes2 : boxes' = (BN : Int) := by rw [hBN, hTN]; exact hboxes'
      have hBN9 : BN < 10 := by rw [hBN, hTN]; exact hj9
      have hmod : t % tensL 10 t 1 < 1000000 := by rw [hTN]; exact tens_mod (k := 6) htk hj
      have htens2 : tens = (TN : Int) := by rw [hTN2, hTN]; exact htens
      have hTp : 0 < TN := by rw [hTN2, hTN]; exact hjp
      have hTt : TN ≤ t := by rw [hTN2, hTN]; exact hj
      refine v_iconst (pc' := 49) rfl dX5_strips_48 ?_
      refine v_istore (ls' := [(5, _), (4, _), (0, _), (1, _), (2, _), (3, _)]) (pc' := 51) rfl dX5_strips_49 rfl rfl ?_
      refine v_iload 1 (pc' := 53) rfl dX5_strips_51 rfl ?_
      refine v_istore (ls' := [(6, _), (5, _), (4, _), (0, _), (1, _), (2, _), (3, _)]) (pc' := 55) rfl dX5_strips_53 rfl rfl ?_
      refine v_ls [3, 4, 5, 6, 2, 1, 0] rfl ?_
      refine v_loop2 55 (fun (sum : Int) (fr : Int) => ∃ m fN : Nat, fr = fN ∧ fN + m = 14 ∧ BN ≤ fN ∧ stS (fun b => strN 6 b (t % tensL 10 t 1)) bN BN m fN sum = strN 7 bN t) (fun (sum : Int) (fr : Int) => (14 - fr).toNat) (fun (sum : Int) (fr : Int) => [(0, aI (b0)), (1, aI (t0)), (2, aI (d0)), (3, aI (tens)), (4, aI (boxes')), (5, aI (sum)), (6, aI (fr))]) (fun (sum : Int) (fr : Int) => []) (fun (sum : Int) (fr : Int) => w) (fun sum fr hI1 ih1 => ?_) (0) (boxes') (⟨14 - BN, BN, hboxes2, by omega, Nat.le_refl _, by simp only [strN]; rw [if_neg (by omega), ← hBN]⟩)
      obtain ⟨m, fN, hfr, hfm, hbf, hS⟩ := hI1
      refine v_iload 6 (pc' := 57) rfl dX5_strips_55 rfl ?_
      refine v_bipush (pc' := 59) rfl dX5_strips_57 rfl ?_
      refine v_icmp_ge (pc' := 62) (tgt := 155) rfl dX5_strips_59 (by decide) (by omega) (by omega) (fun c4 => ?_) (fun c4 => ?_)
      ·
        have hret : strN 7 bN t = sum := by rw [← hS, show m = 0 by omega]; rfl
        refine v_iload 5 (pc' := 157) rfl dX5_strips_155 rfl ?_
        refine v_iret dX5_strips_157 (by decide) (rfl) ?_
        exact ⟨hret.symm, rfl⟩
      ·
        obtain ⟨m, rfl⟩ : ∃ q, m = q + 1 := ⟨m - 1, by omega⟩
        refine v_iload 6 (pc' := 64) rfl dX5_strips_62 rfl ?_
        refine v_iload 4 (pc' := 66) rfl dX5_strips_64 rfl ?_
        refine v_isub (pc' := 67) rfl dX5_strips_66 ?_
        refine v_nm (fun to' hto' => ?_)
        refine v_istore (ls' := [(7, _), (0, _), (1, _), (2, _), (3, _), (4, _), (5, _), (6, _)]) (pc' := 69) rfl dX5_strips_67 rfl rfl ?_
        refine v_iload_n 1 (pc' := 70) rfl dX5_strips_69 rfl rfl ?_
        refine v_iload 7 (pc' := 72) rfl dX5_strips_70 rfl ?_
        refine v_ishr (z := ((bN / 2 ^ fN : Nat) : Int)) (pc' := 73) rfl dX5_strips_72 (iz_shrE hb hfr (by omega) (by omega)) ?_
        refine v_iconst (pc' := 74) rfl dX5_strips_73 ?_
        refine v_iand (z := ((bN / 2 ^ fN % 2 : Nat) : Int)) (pc' := 75) rfl dX5_strips_74 (iz_and1 rfl) ?_
        refine v_iconst (pc' := 76) rfl dX5_strips_75 ?_
        refine v_icmp_ne (pc' := 79) (tgt := 149) rfl dX5_strips_76 (by decide) (by omega) (by omega) (fun c5 => ?_) (fun c5 => ?_)
        ·
          have hA : ¬ bN / 2 ^ fN % 2 = 1 := by omega
          have hB := hA
          refine v_iinc (ls' := [(6, _), (7, _), (0, _), (1, _), (2, _), (3, _), (4, _), (5, _)]) 7 (pc' := 152) rfl dX5_strips_149 rfl rfl rfl ?_
          refine v_nl (fun fr' hfr' => ?_)
          refine v_goto (tgt := 55) dX5_strips_152 (by decide) ?_
          refine v_ls [2, 3, 4, 5, 6, 7, 0] rfl ?_
          exact ih1 (sum) (fr') (⟨m, fN + 1, by omega, by omega, by omega, by rw [← hS]; simp only [stS, hA, hB, if_true, if_false]⟩) (by omega)
        ·
          have hA : bN / 2 ^ fN % 2 = 1 := by omega
          refine v_iload_n 1 (pc' := 80) rfl dX5_strips_79 rfl rfl ?_
          refine v_iload 0 (pc' := 82) rfl dX5_strips_80 rfl ?_
          refine v_ishr (z := ((bN / 2 ^ (fN - BN) : Nat) : Int)) (pc' := 83) rfl dX5_strips_82 (iz_shrE hb (by omega) (by omega) (by omega)) ?_
          refine v_iconst (pc' := 84) rfl dX5_strips_83 ?_
          refine v_iand (z := ((bN / 2 ^ (fN - BN) % 2 : Nat) : Int)) (pc' := 85) rfl dX5_strips_84 (iz_and1 rfl) ?_
          refine v_if_ne (pc' := 88) (tgt := 149) rfl dX5_strips_85 (by decide) (by omega) (fun c6 => ?_) (fun c6 => ?_)
          ·
            have hB : ¬ bN / 2 ^ (fN - BN) % 2 = 0 := by omega
            refine v_iinc (ls' := [(6, _), (7, _), (0, _), (1, _), (2, _), (3, _), (4, _), (5, _)]) 7 (pc' := 152) rfl dX5_strips_149 rfl rfl rfl ?_
            refine v_nl (fun fr' hfr' => ?_)
            refine v_goto (tgt := 55) dX5_strips_152 (by decide) ?_
            refine v_ls [2, 3, 4, 5, 6, 7, 0] rfl ?_
            exact ih1 (sum) (fr') (⟨m, fN + 1, by omega, by omega, by omega, by rw [← hS]; simp only [stS, hA, hB, if_true, if_false]⟩) (by omega)
          ·
            have hB : bN / 2 ^ (fN - BN) % 2 = 0 := by omega
            refine v_iload_n 1 (pc' := 89) rfl dX5_strips_88 rfl rfl ?_
            refine v_iconst (pc' := 90) rfl dX5_strips_89 ?_
            refine v_iload 7 (pc' := 92) rfl dX5_strips_90 rfl ?_
            refine v_ishl (z := ((2 ^ fN : Nat) : Int)) (pc' := 93) rfl dX5_strips_92 (iz_one_shl hfr (by omega)) ?_
            refine v_iconst (pc' := 94) rfl dX5_strips_93 ?_
            refine v_isub (pc' := 95) rfl dX5_strips_94 ?_
            refine v_iand (z := ((bN % 2 ^ fN : Nat) : Int)) (pc' := 96) rfl dX5_strips_95 (iz_andlow hb rfl) ?_
            refine v_iconst (pc' := 97) rfl dX5_strips_96 ?_
            refine v_iload 0 (pc' := 99) rfl dX5_strips_97 rfl ?_
            refine v_ishl (z := ((2 ^ (fN - BN) : Nat) : Int)) (pc' := 100) rfl dX5_strips_99 (iz_one_shl (by omega) (by omega)) ?_
            refine v_ineg (pc' := 101) rfl dX5_strips_100 ?_
            refine v_iand (z := ((bN % 2 ^ fN / 2 ^ (fN - BN) * 2 ^ (fN - BN) : Nat) : Int)) (pc' := 102) rfl dX5_strips_101 (iz_mask rfl rfl (Nat.lt_of_le_of_lt (Nat.mod_le _ _) hbl) (by omega)) ?_
            refine v_nm (fun over' hover' => ?_)
            refine v_istore (ls' := [(8, _), (7, _), (0, _), (1, _), (2, _), (3, _), (4, _), (5, _), (6, _)]) (pc' := 104) rfl dX5_strips_102 rfl rfl ?_
            refine v_iload_n 2 (pc' := 105) rfl dX5_strips_104 rfl rfl ?_
            refine v_iconst (pc' := 106) rfl dX5_strips_105 ?_
            refine v_iload 8 (pc' := 108) rfl dX5_strips_106 rfl ?_
            refine v_ishl (z := ((2 ^ fN : Nat) : Int)) (pc' := 109) rfl dX5_strips_108 (iz_one_shl hfr (by omega)) ?_
            refine v_ixor (z := ((bN ^^^ 2 ^ fN : Nat) : Int)) (pc' := 110) rfl dX5_strips_109 (iz_xorE hb rfl) ?_
            refine v_iconst (pc' := 111) rfl dX5_strips_110 ?_
            refine v_iload 1 (pc' := 113) rfl dX5_strips_111 rfl ?_
            refine v_ishl (z := ((2 ^ (fN - BN) : Nat) : Int)) (pc' := 114) rfl dX5_strips_113 (iz_one_shl (by omega) (by omega)) ?_
            refine v_ixor (z := ((bN ^^^ 2 ^ fN ^^^ 2 ^ (fN - BN) : Nat) : Int)) (pc' := 115) rfl dX5_strips_114 (iz_xorE rfl rfl) ?_
            refine v_iload_n 3 (pc' := 116) rfl dX5_strips_115 rfl rfl ?_
            refine v_iload_n 5 (pc' := 117) rfl dX5_strips_116 rfl rfl ?_
            refine v_irem (z := ((t % TN : Nat) : Int)) (pc' := 118) rfl dX5_strips_117 (iz_ne (by omega) (by omega)) (by rw [iz_remN (by omega) (by omega) (by omega) (by omega), ht, htens2]; rfl) ?_
            refine v_iload_n 4 (pc' := 119) rfl dX5_strips_118 rfl rfl ?_
            refine v_iconst (pc' := 120) rfl dX5_strips_119 ?_
            refine v_iadd (pc' := 121) rfl dX5_strips_120 ?_
            refine v_cSP (pc' := 124) rfl dX5_strips_121 lk_RX5_32 rfl (c_strips6 l G rfl (xor_lt14 (xor_lt14 hbl (by omega)) (by omega)) (t := t % tensL 10 t 1) (by rw [hTN2]) hmod (by omega) w) rfl rfl rfl ?_
            refine v_nm (fun strips1 hstrips1 => ?_)
            refine v_istore (ls' := [(9, _), (8, _), (7, _), (0, _), (1, _), (2, _), (3, _), (4, _), (5, _), (6, _)]) (pc' := 126) rfl dX5_strips_124 rfl rfl ?_
            refine v_iload 8 (pc' := 128) rfl dX5_strips_126 rfl ?_
            refine v_iload 1 (pc' := 130) rfl dX5_strips_128 rfl ?_
            refine v_cSP (pc' := 133) rfl dX5_strips_130 lk_RX5_36 rfl (c_bitCount l G hover' (mask_lt hbl) w) rfl rfl rfl ?_
            refine v_nm (fun bitCount1 hbitCount1 => ?_)
            refine v_iconst (pc' := 134) rfl dX5_strips_133 ?_
            refine v_iand (z := ((popc ((bN % 2 ^ fN) / 2 ^ (fN - BN) * 2 ^ (fN - BN)) % 2 : Nat) : Int)) (pc' := 135) rfl dX5_strips_134 (iz_and1 hbitCount1) ?_
            refine v_if_ne (pc' := 138) (tgt := 143) rfl dX5_strips_135 (by decide) (by omega) (fun c7 => ?_) (fun c7 => ?_)
            ·
              have hC : ¬ popc ((bN % 2 ^ fN) / 2 ^ (fN - BN) * 2 ^ (fN - BN)) % 2 = 0 := by omega
              refine v_iload 0 (pc' := 145) rfl dX5_strips_143 rfl ?_
              refine v_ineg (pc' := 146) rfl dX5_strips_145 ?_
              refine v_iadd (pc' := 147) rfl dX5_strips_146 ?_
              refine v_nm (fun sum' hsum' => ?_)
              refine v_istore (ls' := [(5, _), (9, _), (8, _), (7, _), (0, _), (1, _), (2, _), (3, _), (4, _), (6, _)]) (pc' := 149) rfl dX5_strips_147 rfl rfl ?_
              refine v_iinc (ls' := [(6, _), (5, _), (9, _), (8, _), (7, _), (0, _), (1, _), (2, _), (3, _), (4, _)]) 9 (pc' := 152) rfl dX5_strips_149 rfl rfl rfl ?_
              refine v_nl (fun fr' hfr' => ?_)
              refine v_goto (tgt := 55) dX5_strips_152 (by decide) ?_
              refine v_ls [5, 6, 7, 8, 9, 1, 0] rfl ?_
              exact ih1 (sum') (fr') (⟨m, fN + 1, by omega, by omega, by omega, by rw [← hS]; simp only [stS, hA, hB, if_true, if_false, hC, hsum', hstrips1]⟩) (by omega)
            ·
              have hC : popc ((bN % 2 ^ fN) / 2 ^ (fN - BN) * 2 ^ (fN - BN)) % 2 = 0 := by omega
              refine v_iload 0 (pc' := 140) rfl dX5_strips_138 rfl ?_
              refine v_goto (tgt := 146) dX5_strips_140 (by decide) ?_
              refine v_iadd (pc' := 147) rfl dX5_strips_146 ?_
              refine v_nm (fun sum' hsum' => ?_)
              refine v_istore (ls' := [(5, _), (9, _), (8, _), (7, _), (0, _), (1, _), (2, _), (3, _), (4, _), (6, _)]) (pc' := 149) rfl dX5_strips_147 rfl rfl ?_
              refine v_iinc (ls' := [(6, _), (5, _), (9, _), (8, _), (7, _), (0, _), (1, _), (2, _), (3, _), (4, _)]) 9 (pc' := 152) rfl dX5_strips_149 rfl rfl rfl ?_
              refine v_nl (fun fr' hfr' => ?_)
              refine v_goto (tgt := 55) dX5_strips_152 (by decide) ?_
              refine v_ls [5, 6, 7, 8, 9, 1, 0] rfl ?_
              exact ih1 (sum') (fr') (⟨m, fN + 1, by omega, by omega, by omega, by rw [← hS]; simp only [stS, hA, hB, if_true, if_false, hC, hsum', hstrips1]⟩) (by omega)
    ·
      refine v_iload_n 1 (pc' := 25) rfl dX5_strips_24 rfl rfl ?_
      refine v_iload_n 3 (pc' := 26) rfl dX5_strips_25 rfl rfl ?_
      refine v_idiv (z := ((t / 10 ^ j : Nat) : Int)) (pc' := 27) rfl dX5_strips_26 (iz_ne (by omega) (by omega)) (by rw [iz_divN (by omega) (by omega) (by omega) (by omega), ht, htens]; rfl) ?_
      refine v_bipush (pc' := 29) rfl dX5_strips_27 rfl ?_
      refine v_icmp_lt (pc' := 32) (tgt := 43) rfl dX5_strips_29 (by decide) (by have hq := Nat.div_le_self t (10 ^ j); clear hT; generalize t / 10 ^ j = q at hq ⊢; omega) (by omega) (fun c3 => ?_) (fun c3 => ?_)
      ·
        have hTN : tensL 10 t 1 = 10 ^ j := by
          rw [← hT]
          cases m with
          | zero => rfl
          | succ m => simp only [tensL]; rw [if_pos (by omega)]
        refine v_iload_n 1 (pc' := 44) rfl dX5_strips_43 rfl rfl ?_
        refine v_iload_n 3 (pc' := 45) rfl dX5_strips_44 rfl rfl ?_
        refine v_idiv (z := ((t / 10 ^ j : Nat) : Int)) (pc' := 46) rfl dX5_strips_45 (iz_ne (by omega) (by omega)) (by rw [iz_divN (by omega) (by omega) (by omega) (by omega), ht, htens]; rfl) ?_
        refine v_nm (fun boxes' hboxes' => ?_)
        refine v_istore (ls' := [(4, _), (0, _), (1, _), (2, _), (3, _)]) (pc' := 48) rfl dX5_strips_46 rfl rfl ?_
        have hj9 : t / 10 ^ j < 10 := tens_9 (by omega) (by omega) hTN
        obtain ⟨BN, hBN⟩ : ∃ q, q = t / tensL 10 t 1 := ⟨_, rfl⟩
        obtain ⟨TN, hTN2⟩ : ∃ q, q = tensL 10 t 1 := ⟨_, rfl⟩
        have hboxes2 : boxes' = (BN : Int) := by rw [hBN, hTN]; exact hboxes'
        have hBN9 : BN < 10 := by rw [hBN, hTN]; exact hj9
        have hmod : t % tensL 10 t 1 < 1000000 := by rw [hTN]; exact tens_mod (k := 6) htk hj
        have htens2 : tens = (TN : Int) := by rw [hTN2, hTN]; exact htens
        have hTp : 0 < TN := by rw [hTN2, hTN]; exact hjp
        have hTt : TN ≤ t := by rw [hTN2, hTN]; exact hj
        refine v_iconst (pc' := 49) rfl dX5_strips_48 ?_
        refine v_istore (ls' := [(5, _), (4, _), (0, _), (1, _), (2, _), (3, _)]) (pc' := 51) rfl dX5_strips_49 rfl rfl ?_
        refine v_iload 1 (pc' := 53) rfl dX5_strips_51 rfl ?_
        refine v_istore (ls' := [(6, _), (5, _), (4, _), (0, _), (1, _), (2, _), (3, _)]) (pc' := 55) rfl dX5_strips_53 rfl rfl ?_
        refine v_ls [3, 4, 5, 6, 2, 1, 0] rfl ?_
        refine v_loop2 55 (fun (sum : Int) (fr : Int) => ∃ m fN : Nat, fr = fN ∧ fN + m = 14 ∧ BN ≤ fN ∧ stS (fun b => strN 6 b (t % tensL 10 t 1)) bN BN m fN sum = strN 7 bN t) (fun (sum : Int) (fr : Int) => (14 - fr).toNat) (fun (sum : Int) (fr : Int) => [(0, aI (b0)), (1, aI (t0)), (2, aI (d0)), (3, aI (tens)), (4, aI (boxes')), (5, aI (sum)), (6, aI (fr))]) (fun (sum : Int) (fr : Int) => []) (fun (sum : Int) (fr : Int) => w) (fun sum fr hI1 ih1 => ?_) (0) (boxes') (⟨14 - BN, BN, hboxes2, by omega, Nat.le_refl _, by simp only [strN]; rw [if_neg (by omega), ← hBN]⟩)
        obtain ⟨m, fN, hfr, hfm, hbf, hS⟩ := hI1
        refine v_iload 6 (pc' := 57) rfl dX5_strips_55 rfl ?_
        refine v_bipush (pc' := 59) rfl dX5_strips_57 rfl ?_
        refine v_icmp_ge (pc' := 62) (tgt := 155) rfl dX5_strips_59 (by decide) (by omega) (by omega) (fun c4 => ?_) (fun c4 => ?_)
        ·
          have hret : strN 7 bN t = sum := by rw [← hS, show m = 0 by omega]; rfl
          refine v_iload 5 (pc' := 157) rfl dX5_strips_155 rfl ?_
          refine v_iret dX5_strips_157 (by decide) (rfl) ?_
          exact ⟨hret.symm, rfl⟩
        ·
          obtain ⟨m, rfl⟩ : ∃ q, m = q + 1 := ⟨m - 1, by omega⟩
          refine v_iload 6 (pc' := 64) rfl dX5_strips_62 rfl ?_
          refine v_iload 4 (pc' := 66) rfl dX5_strips_64 rfl ?_
          refine v_isub (pc' := 67) rfl dX5_strips_66 ?_
          refine v_nm (fun to' hto' => ?_)
          refine v_istore (ls' := [(7, _), (0, _), (1, _), (2, _), (3, _), (4, _), (5, _), (6, _)]) (pc' := 69) rfl dX5_strips_67 rfl rfl ?_
          refine v_iload_n 1 (pc' := 70) rfl dX5_strips_69 rfl rfl ?_
          refine v_iload 7 (pc' := 72) rfl dX5_strips_70 rfl ?_
          refine v_ishr (z := ((bN / 2 ^ fN : Nat) : Int)) (pc' := 73) rfl dX5_strips_72 (iz_shrE hb hfr (by omega) (by omega)) ?_
          refine v_iconst (pc' := 74) rfl dX5_strips_73 ?_
          refine v_iand (z := ((bN / 2 ^ fN % 2 : Nat) : Int)) (pc' := 75) rfl dX5_strips_74 (iz_and1 rfl) ?_
          refine v_iconst (pc' := 76) rfl dX5_strips_75 ?_
          refine v_icmp_ne (pc' := 79) (tgt := 149) rfl dX5_strips_76 (by decide) (by omega) (by omega) (fun c5 => ?_) (fun c5 => ?_)
          ·
            have hA : ¬ bN / 2 ^ fN % 2 = 1 := by omega
            have hB := hA
            refine v_iinc (ls' := [(6, _), (7, _), (0, _), (1, _), (2, _), (3, _), (4, _), (5, _)]) 7 (pc' := 152) rfl dX5_strips_149 rfl rfl rfl ?_
            refine v_nl (fun fr' hfr' => ?_)
            refine v_goto (tgt := 55) dX5_strips_152 (by decide) ?_
            refine v_ls [2, 3, 4, 5, 6, 7, 0] rfl ?_
            exact ih1 (sum) (fr') (⟨m, fN + 1, by omega, by omega, by omega, by rw [← hS]; simp only [stS, hA, hB, if_true, if_false]⟩) (by omega)
          ·
            have hA : bN / 2 ^ fN % 2 = 1 := by omega
            refine v_iload_n 1 (pc' := 80) rfl dX5_strips_79 rfl rfl ?_
            refine v_iload 0 (pc' := 82) rfl dX5_strips_80 rfl ?_
            refine v_ishr (z := ((bN / 2 ^ (fN - BN) : Nat) : Int)) (pc' := 83) rfl dX5_strips_82 (iz_shrE hb (by omega) (by omega) (by omega)) ?_
            refine v_iconst (pc' := 84) rfl dX5_strips_83 ?_
            refine v_iand (z := ((bN / 2 ^ (fN - BN) % 2 : Nat) : Int)) (pc' := 85) rfl dX5_strips_84 (iz_and1 rfl) ?_
            refine v_if_ne (pc' := 88) (tgt := 149) rfl dX5_strips_85 (by decide) (by omega) (fun c6 => ?_) (fun c6 => ?_)
            ·
              have hB : ¬ bN / 2 ^ (fN - BN) % 2 = 0 := by omega
              refine v_iinc (ls' := [(6, _), (7, _), (0, _), (1, _), (2, _), (3, _), (4, _), (5, _)]) 7 (pc' := 152) rfl dX5_strips_149 rfl rfl rfl ?_
              refine v_nl (fun fr' hfr' => ?_)
              refine v_goto (tgt := 55) dX5_strips_152 (by decide) ?_
              refine v_ls [2, 3, 4, 5, 6, 7, 0] rfl ?_
              exact ih1 (sum) (fr') (⟨m, fN + 1, by omega, by omega, by omega, by rw [← hS]; simp only [stS, hA, hB, if_true, if_false]⟩) (by omega)
            ·
              have hB : bN / 2 ^ (fN - BN) % 2 = 0 := by omega
              refine v_iload_n 1 (pc' := 89) rfl dX5_strips_88 rfl rfl ?_
              refine v_iconst (pc' := 90) rfl dX5_strips_89 ?_
              refine v_iload 7 (pc' := 92) rfl dX5_strips_90 rfl ?_
              refine v_ishl (z := ((2 ^ fN : Nat) : Int)) (pc' := 93) rfl dX5_strips_92 (iz_one_shl hfr (by omega)) ?_
              refine v_iconst (pc' := 94) rfl dX5_strips_93 ?_
              refine v_isub (pc' := 95) rfl dX5_strips_94 ?_
              refine v_iand (z := ((bN % 2 ^ fN : Nat) : Int)) (pc' := 96) rfl dX5_strips_95 (iz_andlow hb rfl) ?_
              refine v_iconst (pc' := 97) rfl dX5_strips_96 ?_
              refine v_iload 0 (pc' := 99) rfl dX5_strips_97 rfl ?_
              refine v_ishl (z := ((2 ^ (fN - BN) : Nat) : Int)) (pc' := 100) rfl dX5_strips_99 (iz_one_shl (by omega) (by omega)) ?_
              refine v_ineg (pc' := 101) rfl dX5_strips_100 ?_
              refine v_iand (z := ((bN % 2 ^ fN / 2 ^ (fN - BN) * 2 ^ (fN - BN) : Nat) : Int)) (pc' := 102) rfl dX5_strips_101 (iz_mask rfl rfl (Nat.lt_of_le_of_lt (Nat.mod_le _ _) hbl) (by omega)) ?_
              refine v_nm (fun over' hover' => ?_)
              refine v_istore (ls' := [(8, _), (7, _), (0, _), (1, _), (2, _), (3, _), (4, _), (5, _), (6, _)]) (pc' := 104) rfl dX5_strips_102 rfl rfl ?_
              refine v_iload_n 2 (pc' := 105) rfl dX5_strips_104 rfl rfl ?_
              refine v_iconst (pc' := 106) rfl dX5_strips_105 ?_
              refine v_iload 8 (pc' := 108) rfl dX5_strips_106 rfl ?_
              refine v_ishl (z := ((2 ^ fN : Nat) : Int)) (pc' := 109) rfl dX5_strips_108 (iz_one_shl hfr (by omega)) ?_
              refine v_ixor (z := ((bN ^^^ 2 ^ fN : Nat) : Int)) (pc' := 110) rfl dX5_strips_109 (iz_xorE hb rfl) ?_
              refine v_iconst (pc' := 111) rfl dX5_strips_110 ?_
              refine v_iload 1 (pc' := 113) rfl dX5_strips_111 rfl ?_
              refine v_ishl (z := ((2 ^ (fN - BN) : Nat) : Int)) (pc' := 114) rfl dX5_strips_113 (iz_one_shl (by omega) (by omega)) ?_
              refine v_ixor (z := ((bN ^^^ 2 ^ fN ^^^ 2 ^ (fN - BN) : Nat) : Int)) (pc' := 115) rfl dX5_strips_114 (iz_xorE rfl rfl) ?_
              refine v_iload_n 3 (pc' := 116) rfl dX5_strips_115 rfl rfl ?_
              refine v_iload_n 5 (pc' := 117) rfl dX5_strips_116 rfl rfl ?_
              refine v_irem (z := ((t % TN : Nat) : Int)) (pc' := 118) rfl dX5_strips_117 (iz_ne (by omega) (by omega)) (by rw [iz_remN (by omega) (by omega) (by omega) (by omega), ht, htens2]; rfl) ?_
              refine v_iload_n 4 (pc' := 119) rfl dX5_strips_118 rfl rfl ?_
              refine v_iconst (pc' := 120) rfl dX5_strips_119 ?_
              refine v_iadd (pc' := 121) rfl dX5_strips_120 ?_
              refine v_cSP (pc' := 124) rfl dX5_strips_121 lk_RX5_32 rfl (c_strips6 l G rfl (xor_lt14 (xor_lt14 hbl (by omega)) (by omega)) (t := t % tensL 10 t 1) (by rw [hTN2]) hmod (by omega) w) rfl rfl rfl ?_
              refine v_nm (fun strips1 hstrips1 => ?_)
              refine v_istore (ls' := [(9, _), (8, _), (7, _), (0, _), (1, _), (2, _), (3, _), (4, _), (5, _), (6, _)]) (pc' := 126) rfl dX5_strips_124 rfl rfl ?_
              refine v_iload 8 (pc' := 128) rfl dX5_strips_126 rfl ?_
              refine v_iload 1 (pc' := 130) rfl dX5_strips_128 rfl ?_
              refine v_cSP (pc' := 133) rfl dX5_strips_130 lk_RX5_36 rfl (c_bitCount l G hover' (mask_lt hbl) w) rfl rfl rfl ?_
              refine v_nm (fun bitCount1 hbitCount1 => ?_)
              refine v_iconst (pc' := 134) rfl dX5_strips_133 ?_
              refine v_iand (z := ((popc ((bN % 2 ^ fN) / 2 ^ (fN - BN) * 2 ^ (fN - BN)) % 2 : Nat) : Int)) (pc' := 135) rfl dX5_strips_134 (iz_and1 hbitCount1) ?_
              refine v_if_ne (pc' := 138) (tgt := 143) rfl dX5_strips_135 (by decide) (by omega) (fun c7 => ?_) (fun c7 => ?_)
              ·
                have hC : ¬ popc ((bN % 2 ^ fN) / 2 ^ (fN - BN) * 2 ^ (fN - BN)) % 2 = 0 := by omega
                refine v_iload 0 (pc' := 145) rfl dX5_strips_143 rfl ?_
                refine v_ineg (pc' := 146) rfl dX5_strips_145 ?_
                refine v_iadd (pc' := 147) rfl dX5_strips_146 ?_
                refine v_nm (fun sum' hsum' => ?_)
                refine v_istore (ls' := [(5, _), (9, _), (8, _), (7, _), (0, _), (1, _), (2, _), (3, _), (4, _), (6, _)]) (pc' := 149) rfl dX5_strips_147 rfl rfl ?_
                refine v_iinc (ls' := [(6, _), (5, _), (9, _), (8, _), (7, _), (0, _), (1, _), (2, _), (3, _), (4, _)]) 9 (pc' := 152) rfl dX5_strips_149 rfl rfl rfl ?_
                refine v_nl (fun fr' hfr' => ?_)
                refine v_goto (tgt := 55) dX5_strips_152 (by decide) ?_
                refine v_ls [5, 6, 7, 8, 9, 1, 0] rfl ?_
                exact ih1 (sum') (fr') (⟨m, fN + 1, by omega, by omega, by omega, by rw [← hS]; simp only [stS, hA, hB, if_true, if_false, hC, hsum', hstrips1]⟩) (by omega)
              ·
                have hC : popc ((bN % 2 ^ fN) / 2 ^ (fN - BN) * 2 ^ (fN - BN)) % 2 = 0 := by omega
                refine v_iload 0 (pc' := 140) rfl dX5_strips_138 rfl ?_
                refine v_goto (tgt := 146) dX5_strips_140 (by decide) ?_
                refine v_iadd (pc' := 147) rfl dX5_strips_146 ?_
                refine v_nm (fun sum' hsum' => ?_)
                refine v_istore (ls' := [(5, _), (9, _), (8, _), (7, _), (0, _), (1, _), (2, _), (3, _), (4, _), (6, _)]) (pc' := 149) rfl dX5_strips_147 rfl rfl ?_
                refine v_iinc (ls' := [(6, _), (5, _), (9, _), (8, _), (7, _), (0, _), (1, _), (2, _), (3, _), (4, _)]) 9 (pc' := 152) rfl dX5_strips_149 rfl rfl rfl ?_
                refine v_nl (fun fr' hfr' => ?_)
                refine v_goto (tgt := 55) dX5_strips_152 (by decide) ?_
                refine v_ls [5, 6, 7, 8, 9, 1, 0] rfl ?_
                exact ih1 (sum') (fr') (⟨m, fN + 1, by omega, by omega, by omega, by rw [← hS]; simp only [stS, hA, hB, if_true, if_false, hC, hsum', hstrips1]⟩) (by omega)
      ·
        obtain ⟨m, rfl⟩ : ∃ q, m = q + 1 := ⟨m - 1, by omega⟩
        have hge : 10 ≤ t / 10 ^ j := by omega
        refine v_iload_n 3 (pc' := 33) rfl dX5_strips_32 rfl rfl ?_
        refine v_bipush (pc' := 35) rfl dX5_strips_33 rfl ?_
        refine v_imul (pc' := 36) rfl dX5_strips_35 ?_
        refine v_nm (fun tens' htens' => ?_)
        refine v_istore_n (ls' := [(3, _), (0, _), (1, _), (2, _), (4, _)]) (pc' := 37) rfl dX5_strips_36 rfl rfl rfl ?_
        refine v_iinc (ls' := [(4, _), (3, _), (0, _), (1, _), (2, _)]) 4 (pc' := 40) rfl dX5_strips_37 rfl rfl rfl ?_
        refine v_nl (fun i' hi' => ?_)
        refine v_goto (tgt := 17) dX5_strips_40 (by decide) ?_
        refine v_ls [2, 3, 4, 1, 0] rfl ?_
        exact ih0 (tens') (i') (⟨m, j + 1, by omega, by omega, by rw [Nat.pow_succ]; omega, by rw [Nat.pow_succ]; have := Nat.div_mul_le_self t (10 ^ j); have := (Nat.le_div_iff_mul_le hjp).mp hge; omega, by rw [← hT, Nat.pow_succ]; simp only [tensL]; rw [if_neg (by omega)]⟩) (by omega)
set_option maxHeartbeats 4000000 in
set_option maxRecDepth 100000 in
theorem c_value (l : Launch) (G : Gx) {p0 t0 : Int} {p t : Nat} (hp : p0 = p) (hp7 : p < 10000000) (hb : vbL 7 p 0 0 < 16384) (ht : t0 = t) (ht7 : t < 10000000) (w : Wd) : SpP l G 8 mX5_value [aI (p0), aI (t0)] w (valN p t) := by
  refine Sp_of RX5 rfl (by decide +kernel) rfl (Nat.le_of_ble_eq_true rfl) ?_
  refine v_iconst (pc' := 1) rfl dX5_value_0 ?_
  refine v_istore_n (ls' := [(2, _), (0, _), (1, _)]) (pc' := 2) rfl dX5_value_1 rfl rfl rfl ?_
  refine v_iconst (pc' := 3) rfl dX5_value_2 ?_
  refine v_istore_n (ls' := [(3, _), (2, _), (0, _), (1, _)]) (pc' := 4) rfl dX5_value_3 rfl rfl rfl ?_
  refine v_iload_n 2 (pc' := 5) rfl dX5_value_4 rfl rfl ?_
  refine v_istore (ls' := [(4, _), (3, _), (2, _), (0, _), (1, _)]) (pc' := 7) rfl dX5_value_5 rfl rfl ?_
  refine v_ls [3, 4, 2, 1, 0] rfl ?_
  refine v_loop3 7 (fun (beads : Int) (row : Int) (rest : Int) => ∃ k rN bN wN : Nat, rest = rN ∧ beads = bN ∧ row = wN ∧ wN + k = 7 ∧ rN < 10 ^ k ∧ k ≤ 7 ∧ vbL k rN bN wN = vbL 7 p 0 0) (fun (beads : Int) (row : Int) (rest : Int) => rest.toNat) (fun (beads : Int) (row : Int) (rest : Int) => [(0, aI (p0)), (1, aI (t0)), (2, aI (beads)), (3, aI (row)), (4, aI (rest))]) (fun (beads : Int) (row : Int) (rest : Int) => []) (fun (beads : Int) (row : Int) (rest : Int) => w) (fun beads row rest hI0 ih0 => ?_) (0) (0) (p0) (⟨7, p, 0, 0, hp, rfl, rfl, by omega, hp7, by omega, rfl⟩)
  obtain ⟨k, rN, bN, wN, hrest, hbe, hrow, hwk, hk, hk7, hR⟩ := hI0
  have h10 : (10 : Nat) ^ k ≤ 10 ^ 7 := Nat.pow_le_pow_right (by decide) hk7
  have h107 : (10 : Nat) ^ 7 = 10000000 := by decide
  refine v_iload 4 (pc' := 9) rfl dX5_value_7 rfl ?_
  refine v_if_le (pc' := 12) (tgt := 37) rfl dX5_value_9 (by decide) (by omega) (fun c0 => ?_) (fun c0 => ?_)
  ·
    have hret : vbL 7 p 0 0 = bN := by rw [← hR, show rN = 0 by omega]; cases k <;> rfl
    refine v_iload_n 2 (pc' := 38) rfl dX5_value_37 rfl rfl ?_
    refine v_iload_n 1 (pc' := 39) rfl dX5_value_38 rfl rfl ?_
    refine v_iconst (pc' := 40) rfl dX5_value_39 ?_
    refine v_cSP (pc' := 43) rfl dX5_value_40 lk_RX5_32 rfl (c_strips7 l G hbe (by omega) ht ht7 (by omega) w) rfl rfl rfl ?_
    refine v_nm (fun strips1 hstrips1 => ?_)
    refine v_iret dX5_value_43 (by decide) (rfl) ?_
    exact ⟨by rw [hstrips1]; unfold valN; rw [hret], rfl⟩
  ·
    obtain ⟨k, rfl⟩ : ∃ j, k = j + 1 := by
      cases k with
      | zero => exact absurd hk (by omega)
      | succ j => exact ⟨j, rfl⟩
    refine v_iload_n 2 (pc' := 13) rfl dX5_value_12 rfl rfl ?_
    refine v_iconst (pc' := 14) rfl dX5_value_13 ?_
    refine v_iload 4 (pc' := 16) rfl dX5_value_14 rfl ?_
    refine v_bipush (pc' := 18) rfl dX5_value_16 rfl ?_
    refine v_irem (z := (rest % 10)) (pc' := 19) rfl dX5_value_18 (iz_ne (by omega) (by omega)) (iz_remN (by omega) (by omega) (by omega) (by omega)) ?_
    refine v_iload_n 3 (pc' := 20) rfl dX5_value_19 rfl rfl ?_
    refine v_iadd (pc' := 21) rfl dX5_value_20 ?_
    refine v_ishl (z := ((2 ^ (rN % 10 + wN) : Nat) : Int)) (pc' := 22) rfl dX5_value_21 (iz_one_shl (by omega) (by omega)) ?_
    refine v_ior (z := ((bN ||| 2 ^ (rN % 10 + wN) : Nat) : Int)) (pc' := 23) rfl dX5_value_22 (iz_orE hbe rfl) ?_
    refine v_nm (fun beads' hbeads' => ?_)
    refine v_istore_n (ls' := [(2, _), (0, _), (1, _), (3, _), (4, _)]) (pc' := 24) rfl dX5_value_23 rfl rfl rfl ?_
    refine v_iinc (ls' := [(3, _), (2, _), (0, _), (1, _), (4, _)]) 3 (pc' := 27) rfl dX5_value_24 rfl rfl rfl ?_
    refine v_nl (fun row' hrow' => ?_)
    refine v_iload 4 (pc' := 29) rfl dX5_value_27 rfl ?_
    refine v_bipush (pc' := 31) rfl dX5_value_29 rfl ?_
    refine v_idiv (z := (rest / 10)) (pc' := 32) rfl dX5_value_31 (iz_ne (by omega) (by omega)) (iz_divN (by omega) (by omega) (by omega) (by omega)) ?_
    refine v_nm (fun rest' hrest' => ?_)
    refine v_istore (ls' := [(4, _), (3, _), (2, _), (0, _), (1, _)]) (pc' := 34) rfl dX5_value_32 rfl rfl ?_
    refine v_goto (tgt := 7) dX5_value_34 (by decide) ?_
    refine v_ls [3, 4, 2, 1, 0] rfl ?_
    exact ih0 (beads') (row') (rest') (⟨k, rN / 10, bN ||| 2 ^ (rN % 10 + wN), wN + 1, by omega, hbeads', by omega, by omega, by rw [Nat.pow_succ] at hk; omega, by omega, by rw [← hR]; simp only [vbL]; rw [if_neg (by omega)]⟩) (by omega)

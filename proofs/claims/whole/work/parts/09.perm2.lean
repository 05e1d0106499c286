theorem ringsL_0 (f : Nat → Nat) (m : Nat) : ∀ k, ringsL f k 0 m = m
  | 0 => rfl
  | _ + 1 => by simp only [ringsL]; rw [if_pos trivial]
theorem tallyL_0 (f g : Nat → Nat) : ∀ k, tallyL f k 0 g = g
  | 0 => rfl
  | _ + 1 => by simp only [tallyL]; rw [if_pos trivial]
theorem orderL_0 (f : Nat → Nat) (t : Nat) : ∀ k, orderL f k 0 t = t
  | 0 => rfl
  | _ + 1 => by simp only [orderL]; rw [if_pos trivial]
theorem partsL_0 (s a : Nat → Nat) (m : Nat) : ∀ k, partsL s a k 0 m = m
  | 0 => rfl
  | _ + 1 => by simp only [partsL]; rw [if_pos trivial]
theorem reachL_0 (s a : Nat → Nat) (r : Nat) : ∀ k, reachL s a k 0 r = r
  | 0 => rfl
  | _ + 1 => by simp only [reachL]; rw [if_pos trivial]
theorem hx_gadd (g : Nat → Nat) {c : Nat} (h1 : 1 ≤ c) (h2 : c ≤ 7) : hx (gadd g c) = hx g + 2 ^ (28 - 4 * c) := by
  rw [hx_eq, hx_eq]
  unfold gadd
  rcases (show c = 1 ∨ c = 2 ∨ c = 3 ∨ c = 4 ∨ c = 5 ∨ c = 6 ∨ c = 7 by omega) with rfl | rfl | rfl | rfl | rfl | rfl | rfl <;> simp <;> omega
theorem multL_le (t size : Nat) : ∀ k s, multL t size k s ≤ s + k * t
  | 0, s => by simp only [multL]; omega
  | k + 1, s => by
    simp only [multL]
    have e : (k + 1) * t = k * t + t := Nat.succ_mul k t
    split
    · omega
    · have := multL_le t size k (s + t); omega
theorem multN_le {t size : Nat} (h : size ≤ 7) : multN t size ≤ 8 * t := by
  have a := multL_le t size size t
  have b : size * t ≤ 7 * t := Nat.mul_le_mul_right t h
  unfold multN; omega
theorem ringN_nz {f : Nat → Nat} {x : Nat} (h1 : 1 ≤ x) (h2 : x ≤ 7) : ringN f x ≠ 0 := by
  have key : ∀ k s y, s ≠ 0 → ringL f k s y ≠ 0 := by
    intro k
    induction k with
    | zero => intro s y h; exact h
    | succ k ih =>
      intro s y h
      simp only [ringL]
      split
      · apply ih
        intro e
        exact h (Nat.or_eq_zero_iff.mp e).1
      · exact h
  have e : ringN f x = ringL f 6 (0 ||| bt x) (f x) := by
    show (if 0 &&& bt x = 0 then _ else _) = _
    rw [if_pos (Nat.zero_and _)]
  have hb := bt_le h1 h2
  rw [e]
  apply key
  rw [Nat.zero_or]; omega
theorem ob1 {t k : Nat} (h : t * 8 ^ k ≤ 8 ^ 7) : t ≤ 100000000 := by
  have a : t * 1 ≤ t * 8 ^ k := Nat.mul_le_mul_left t (Nat.one_le_pow _ _ (by decide))
  have : (8 : Nat) ^ 7 = 2097152 := by decide
  omega
theorem ob2 {t size k : Nat} (h : size ≤ 7) (hb : t * 8 ^ (k + 1) ≤ 8 ^ 7) : multN t size * 8 ^ k ≤ 8 ^ 7 := by
  have a := Nat.mul_le_mul_right (8 ^ k) (multN_le (t := t) h)
  have d : 8 * t * 8 ^ k = t * 8 ^ (k + 1) := by rw [Nat.pow_succ, Nat.mul_comm 8 t, Nat.mul_assoc, Nat.mul_comm 8 (8 ^ k)]
  omega
theorem pstep_7 {f : Nat → Nat} (hf : P7 f) : ∀ k y, 1 ≤ y → y ≤ 7 → 1 ≤ pstep f k y ∧ pstep f k y ≤ 7
  | 0, y, a, b => ⟨a, b⟩
  | k + 1, y, a, b => pstep_7 hf k (f y) (hf y a b).1 (hf y a b).2
theorem pstep_add (f : Nat → Nat) : ∀ i j y, pstep f (i + j) y = pstep f j (pstep f i y)
  | 0, j, y => by rw [Nat.zero_add]; rfl
  | i + 1, j, y => by rw [show i + 1 + j = (i + j) + 1 from by omega]; simp only [pstep]; exact pstep_add f i j (f y)
theorem rootB_iff (q : Nat → Nat) (k : Nat) (p : Nat → Nat) : ∀ m, rootB q k p m = true ↔ ∀ x, 1 ≤ x → x ≤ m → pstep q k x = p x
  | 0 => by simp only [rootB]; exact ⟨fun _ x a b => by omega, fun _ => trivial⟩
  | m + 1 => by
    simp only [rootB, Bool.and_eq_true, beq_iff_eq, rootB_iff q k p m]
    constructor
    · intro h x a b
      by_cases e : x = m + 1
      · rw [e]; exact h.2
      · exact h.1 x a (by omega)
    · intro h; exact ⟨fun x a b => h x a (by omega), h (m + 1) (by omega) (Nat.le_refl _)⟩
theorem rootB_no {q : Nat → Nat} {k : Nat} {p : Nat → Nat} {m x : Nat} (h1 : 1 ≤ x) (h2 : x ≤ m) (h : pstep q k x ≠ p x) : rootB q k p m = false := by
  rw [Bool.eq_false_iff]; intro e; exact h ((rootB_iff q k p m).mp e x h1 h2)
set_option maxHeartbeats 4000000 in
set_option maxRecDepth 100000 in
theorem c_rings (l : Launch) (G : Gx) {p s0 : Int} {f : Nat → Nat} {s : Nat} (hp : p = (hx f : Nat)) (hf : P7 f) (hs : s0 = s) (h1 : s < 128) (w : Wd) : SpP l G 2 mX6_rings [aI (p), aI (s0)] w (((ringsN f s : Nat) : Int)) := by
  refine Sp_of RX6 rfl (by decide +kernel) rfl (Nat.le_of_ble_eq_true rfl) ?_
  refine v_iconst (pc' := 1) rfl dX6_rings_0 ?_
  refine v_istore_n (ls' := [(2, _), (0, _), (1, _)]) (pc' := 2) rfl dX6_rings_1 rfl rfl rfl ?_
  refine v_iload_n 2 (pc' := 3) rfl dX6_rings_2 rfl rfl ?_
  refine v_istore_n (ls' := [(3, _), (2, _), (0, _), (1, _)]) (pc' := 4) rfl dX6_rings_3 rfl rfl rfl ?_
  refine v_iconst (pc' := 5) rfl dX6_rings_4 ?_
  refine v_istore (ls' := [(4, _), (3, _), (2, _), (0, _), (1, _)]) (pc' := 7) rfl dX6_rings_5 rfl rfl ?_
  refine v_ls [3, 4, 2, 1, 0] rfl ?_
  refine v_loop3 7 (fun (many : Int) (left : Int) (i : Int) => ∃ k lN mN : Nat, (i + k = 7 ∧ 0 ≤ i) ∧ left = lN ∧ many = mN ∧ lN < 128 ∧ ringsL f k lN mN = ringsN f s) (fun (many : Int) (left : Int) (i : Int) => (7 - i).toNat) (fun (many : Int) (left : Int) (i : Int) => [(0, aI (p)), (1, aI (s0)), (2, aI (many)), (3, aI (left)), (4, aI (i))]) (fun (many : Int) (left : Int) (i : Int) => []) (fun (many : Int) (left : Int) (i : Int) => w) (fun many left i hI0 ih0 => ?_) (0) (s0) (0) (⟨7, s, 0, by omega, hs, rfl, h1, rfl⟩)
  obtain ⟨k, lN, mN, hik, hleft, hmany, hl, hR⟩ := hI0
  refine v_iload 4 (pc' := 9) rfl dX6_rings_7 rfl ?_
  refine v_bipush (pc' := 11) rfl dX6_rings_9 rfl ?_
  refine v_icmp_ge (pc' := 14) (tgt := 40) rfl dX6_rings_11 (by decide) (by omega) (by omega) (fun c0 => ?_) (fun c0 => ?_)
  ·
    have hret : ringsN f s = mN := by rw [← hR, show k = 0 by omega]; rfl
    refine v_iload_n 2 (pc' := 41) rfl dX6_rings_40 rfl rfl ?_
    refine v_iret dX6_rings_41 (by decide) (rfl) ?_
    exact ⟨by rw [hmany, hret], rfl⟩
  ·
    refine v_iload_n 3 (pc' := 15) rfl dX6_rings_14 rfl rfl ?_
    refine v_if_eq (pc' := 18) (tgt := 40) rfl dX6_rings_15 (by decide) (by omega) (fun c1 => ?_) (fun c1 => ?_)
    ·
      have hret : ringsN f s = mN := by rw [← hR, show lN = 0 by omega]; exact ringsL_0 f mN k
      refine v_iload_n 2 (pc' := 41) rfl dX6_rings_40 rfl rfl ?_
      refine v_iret dX6_rings_41 (by decide) (rfl) ?_
      exact ⟨by rw [hmany, hret], rfl⟩
    ·
      obtain ⟨k, rfl⟩ : ∃ j, k = j + 1 := ⟨k - 1, by omega⟩
      have hlow := low_in lN hl (by omega)
      refine v_iload_n 3 (pc' := 19) rfl dX6_rings_18 rfl rfl ?_
      refine v_iload_n 0 (pc' := 20) rfl dX6_rings_19 rfl rfl ?_
      refine v_iload_n 3 (pc' := 21) rfl dX6_rings_20 rfl rfl ?_
      refine v_cSP (pc' := 24) rfl dX6_rings_21 lk_RX6_47 rfl (c_lowest l G hleft hl (by omega) w) rfl rfl rfl ?_
      refine v_nm (fun lowest1 hlowest1 => ?_)
      refine v_cSP (pc' := 27) rfl dX6_rings_24 lk_RX6_44 rfl (c_ring l G hp hf hlowest1 hlow.1 hlow.2 w) rfl rfl rfl ?_
      refine v_nm (fun ring1 hring1 => ?_)
      refine v_iconst (pc' := 28) rfl dX6_rings_27 ?_
      refine v_ixor (pc' := 29) rfl dX6_rings_28 (bxor_iz ring1 (-1)) ?_
      refine v_iand (z := ((andn lN (ringN f (lowN lN)) : Nat) : Int)) (pc' := 30) rfl dX6_rings_29 (by rw [hleft, hring1]; exact andn_bits _ hl _ (ringN_lt hf hlow.1 hlow.2)) ?_
      refine v_nm (fun left' hleft' => ?_)
      refine v_istore_n (ls' := [(3, _), (0, _), (1, _), (2, _), (4, _)]) (pc' := 31) rfl dX6_rings_30 rfl rfl rfl ?_
      refine v_iinc (ls' := [(2, _), (3, _), (0, _), (1, _), (4, _)]) 3 (pc' := 34) rfl dX6_rings_31 rfl rfl rfl ?_
      refine v_nl (fun many' hmany' => ?_)
      refine v_iinc (ls' := [(4, _), (2, _), (3, _), (0, _), (1, _)]) 4 (pc' := 37) rfl dX6_rings_34 rfl rfl rfl ?_
      refine v_nl (fun i' hi' => ?_)
      refine v_goto (tgt := 7) dX6_rings_37 (by decide) ?_
      refine v_ls [3, 4, 1, 2, 0] rfl ?_
      exact ih0 (many') (left') (i') (⟨k, andn lN (ringN f (lowN lN)), mN + 1, by omega, hleft', by omega, andn_lt7 hl, by rw [← hR]; simp only [ringsL]; rw [if_neg (by omega)]⟩) (by omega)
set_option maxHeartbeats 4000000 in
set_option maxRecDepth 100000 in
theorem c_leastOfRing (l : Launch) (G : Gx) {p i : Int} {f : Nat → Nat} {x : Nat} (hp : p = (hx f : Nat)) (hf : P7 f) (hi : i = x) (h1 : 1 ≤ x) (h2 : x ≤ 7) (w : Wd) : SpP l G 2 mX6_leastOfRing [aI (p), aI (i)] w ((if leastB f x then 1 else 0 : Int)) := by
  have hb := bt_le h1 h2
  have hr := ringN_lt hf h1 h2
  refine Sp_of RX6 rfl (by decide +kernel) rfl (Nat.le_of_ble_eq_true rfl) ?_
  refine v_iload_n 0 (pc' := 1) rfl dX6_leastOfRing_0 rfl rfl ?_
  refine v_iload_n 1 (pc' := 2) rfl dX6_leastOfRing_1 rfl rfl ?_
  refine v_cSP (pc' := 5) rfl dX6_leastOfRing_2 lk_RX6_44 rfl (c_ring l G hp hf hi h1 h2 w) rfl rfl rfl ?_
  refine v_nm (fun ring1 hring1 => ?_)
  refine v_iload_n 1 (pc' := 6) rfl dX6_leastOfRing_5 rfl rfl ?_
  refine v_cSP (pc' := 9) rfl dX6_leastOfRing_6 lk_RX6_34 rfl (c_bit l G hi h1 (by omega) w) rfl rfl rfl ?_
  refine v_nm (fun bit1 hbit1 => ?_)
  refine v_iconst (pc' := 10) rfl dX6_leastOfRing_9 ?_
  refine v_isub (pc' := 11) rfl dX6_leastOfRing_10 ?_
  refine v_iand (z := ((ringN f x &&& (bt x - 1) : Nat) : Int)) (pc' := 12) rfl dX6_leastOfRing_11 (iz_andE hring1 (by omega)) ?_
  refine v_if_ne (pc' := 15) (tgt := 19) rfl dX6_leastOfRing_12 (by decide) (by have := and_lt7 (b := bt x - 1) hr; omega) (fun c0 => ?_) (fun c0 => ?_)
  ·
    have hB : leastB f x = false := by unfold leastB; rw [beq_eq_false_iff_ne]; omega
    refine v_iconst (pc' := 20) rfl dX6_leastOfRing_19 ?_
    refine v_iret dX6_leastOfRing_20 (by decide) (rfl) ?_
    exact ⟨by rw [hB]; rfl, rfl⟩
  ·
    have hB : leastB f x = true := by unfold leastB; rw [beq_iff_eq]; omega
    refine v_iconst (pc' := 16) rfl dX6_leastOfRing_15 ?_
    refine v_goto (tgt := 20) dX6_leastOfRing_16 (by decide) ?_
    refine v_iret dX6_leastOfRing_20 (by decide) (rfl) ?_
    exact ⟨by rw [hB]; rfl, rfl⟩
set_option maxHeartbeats 4000000 in
set_option maxRecDepth 100000 in
theorem c_nthLeast (l : Launch) (G : Gx) {p n0 i0 : Int} {f : Nat → Nat} {n i : Nat} (hp : p = (hx f : Nat)) (hf : P7 f) (hn : n0 = n) (hn7 : n ≤ 7) (hi : i0 = i) (hi2 : i ≤ 2147483647) (w : Wd) : SpP l G 3 mX6_nthLeast [aI (p), aI (n0), aI (i0)] w (((nthN f n i : Nat) : Int)) := by
  refine Sp_of RX6 rfl (by decide +kernel) rfl (Nat.le_of_ble_eq_true rfl) ?_
  refine v_iload_n 2 (pc' := 1) rfl dX6_nthLeast_0 rfl rfl ?_
  refine v_istore_n (ls' := [(3, _), (0, _), (1, _), (2, _)]) (pc' := 2) rfl dX6_nthLeast_1 rfl rfl rfl ?_
  refine v_iconst (pc' := 3) rfl dX6_nthLeast_2 ?_
  refine v_istore (ls' := [(4, _), (3, _), (0, _), (1, _), (2, _)]) (pc' := 5) rfl dX6_nthLeast_3 rfl rfl ?_
  refine v_ls [2, 3, 4, 1, 0] rfl ?_
  refine v_loop2 5 (fun (left : Int) (x : Int) => ∃ k xN iN : Nat, x = xN ∧ xN + k = n + 1 ∧ 1 ≤ xN ∧ left = iN ∧ iN ≤ 2147483647 ∧ nthL f k xN iN = nthN f n i) (fun (left : Int) (x : Int) => (8 - x).toNat) (fun (left : Int) (x : Int) => [(0, aI (p)), (1, aI (n0)), (2, aI (i0)), (3, aI (left)), (4, aI (x))]) (fun (left : Int) (x : Int) => []) (fun (left : Int) (x : Int) => w) (fun left x hI0 ih0 => ?_) (i0) (1) (⟨n, 1, i, rfl, by omega, by omega, hi, hi2, rfl⟩)
  obtain ⟨k, xN, iN, hx1, hk, hx2, hleft, hi3, hR⟩ := hI0
  refine v_iload 4 (pc' := 7) rfl dX6_nthLeast_5 rfl ?_
  refine v_iload_n 1 (pc' := 8) rfl dX6_nthLeast_7 rfl rfl ?_
  refine v_icmp_gt (pc' := 11) (tgt := 36) rfl dX6_nthLeast_8 (by decide) (by omega) (by omega) (fun c0 => ?_) (fun c0 => ?_)
  ·
    have hret : nthN f n i = 0 := by rw [← hR, show k = 0 by omega]; rfl
    refine v_iconst (pc' := 37) rfl dX6_nthLeast_36 ?_
    refine v_iret dX6_nthLeast_37 (by decide) (rfl) ?_
    exact ⟨by rw [hret]; rfl, rfl⟩
  ·
    obtain ⟨k, rfl⟩ : ∃ j, k = j + 1 := ⟨k - 1, by omega⟩
    refine v_iload_n 0 (pc' := 12) rfl dX6_nthLeast_11 rfl rfl ?_
    refine v_iload 4 (pc' := 14) rfl dX6_nthLeast_12 rfl ?_
    refine v_cSP (pc' := 17) rfl dX6_nthLeast_14 lk_RX6_50 rfl (c_leastOfRing l G hp hf hx1 (by omega) (by omega) w) rfl rfl rfl ?_
    refine v_nm (fun leastOfRing1 hleastOfRing1 => ?_)
    refine v_if_eq (pc' := 20) (tgt := 30) rfl dX6_nthLeast_17 (by decide) (by rw [hleastOfRing1]; split <;> omega) (fun c1 => ?_) (fun c1 => ?_)
    ·
      have hB : leastB f xN = false := by rw [Bool.eq_false_iff]; intro q; rw [q] at hleastOfRing1; simp only [if_true] at hleastOfRing1; omega
      have hz := hB
      refine v_iinc (ls' := [(4, _), (0, _), (1, _), (2, _), (3, _)]) 4 (pc' := 33) rfl dX6_nthLeast_30 rfl rfl rfl ?_
      refine v_nl (fun x' hx' => ?_)
      refine v_goto (tgt := 5) dX6_nthLeast_33 (by decide) ?_
      refine v_ls [1, 2, 3, 4, 0] rfl ?_
      exact ih0 (left) (x') (⟨k, xN + 1, iN, by omega, by omega, by omega, by omega, by omega, by rw [← hR]; simp only [nthL, hB, hz, if_true, if_false, Bool.false_eq_true]⟩) (by omega)
    ·
      have hB : leastB f xN = true := by rw [← Bool.not_eq_false]; intro q; rw [q] at hleastOfRing1; simp only [Bool.false_eq_true, if_false] at hleastOfRing1; omega
      refine v_iload_n 3 (pc' := 21) rfl dX6_nthLeast_20 rfl rfl ?_
      refine v_if_ne (pc' := 24) (tgt := 27) rfl dX6_nthLeast_21 (by decide) (by omega) (fun c2 => ?_) (fun c2 => ?_)
      ·
        have hz : ¬ iN = 0 := by omega
        refine v_iinc (ls' := [(3, _), (0, _), (1, _), (2, _), (4, _)]) 3 (pc' := 30) rfl dX6_nthLeast_27 rfl rfl rfl ?_
        refine v_nl (fun left' hleft' => ?_)
        refine v_iinc (ls' := [(4, _), (3, _), (0, _), (1, _), (2, _)]) 4 (pc' := 33) rfl dX6_nthLeast_30 rfl rfl rfl ?_
        refine v_nl (fun x' hx' => ?_)
        refine v_goto (tgt := 5) dX6_nthLeast_33 (by decide) ?_
        refine v_ls [2, 3, 4, 1, 0] rfl ?_
        exact ih0 (left') (x') (⟨k, xN + 1, iN - 1, by omega, by omega, by omega, by omega, by omega, by rw [← hR]; simp only [nthL, hB, hz, if_true, if_false, Bool.false_eq_true]⟩) (by omega)
      ·
        have hz : iN = 0 := by omega
        have hret : nthN f n i = xN := by rw [← hR]; simp only [nthL, hB, hz, if_true]
        refine v_iload 4 (pc' := 26) rfl dX6_nthLeast_24 rfl ?_
        refine v_iret dX6_nthLeast_26 (by decide) (rfl) ?_
        exact ⟨by rw [hx1, hret], rfl⟩
set_option maxHeartbeats 4000000 in
set_option maxRecDepth 100000 in
theorem c_kind (l : Launch) (G : Gx) {p n0 : Int} {f : Nat → Nat} {n : Nat} (hp : p = (hx f : Nat)) (hf : P7 f) (hn : n0 = n) (hn7 : n ≤ 7) (w : Wd) : SpP l G 2 mX6_kind [aI (p), aI (n0)] w (((kindN f n : Nat) : Int)) := by
  refine Sp_of RX6 rfl (by decide +kernel) rfl (Nat.le_of_ble_eq_true rfl) ?_
  refine v_iconst (pc' := 1) rfl dX6_kind_0 ?_
  refine v_istore_n (ls' := [(2, _), (0, _), (1, _)]) (pc' := 2) rfl dX6_kind_1 rfl rfl rfl ?_
  refine v_iload_n 2 (pc' := 3) rfl dX6_kind_2 rfl rfl ?_
  refine v_cSP (pc' := 6) rfl dX6_kind_3 lk_RX6_37 rfl (c_darts l G hn hn7 w) rfl rfl rfl ?_
  refine v_nm (fun darts1 hdarts1 => ?_)
  refine v_istore_n (ls' := [(3, _), (2, _), (0, _), (1, _)]) (pc' := 7) rfl dX6_kind_6 rfl rfl rfl ?_
  refine v_iconst (pc' := 8) rfl dX6_kind_7 ?_
  refine v_istore (ls' := [(4, _), (3, _), (2, _), (0, _), (1, _)]) (pc' := 10) rfl dX6_kind_8 rfl rfl ?_
  refine v_ls [3, 4, 2, 1, 0] rfl ?_
  refine v_loop3 10 (fun (tally : Int) (left : Int) (i : Int) => ∃ (k lN : Nat) (g : Nat → Nat), (i + k = 7 ∧ 0 ≤ i) ∧ left = lN ∧ tally = (hx g : Nat) ∧ lN < 128 ∧ (∀ z, g z + k ≤ 7) ∧ tallyL f k lN g = tallyN f n) (fun (tally : Int) (left : Int) (i : Int) => (7 - i).toNat) (fun (tally : Int) (left : Int) (i : Int) => [(0, aI (p)), (1, aI (n0)), (2, aI (tally)), (3, aI (left)), (4, aI (i))]) (fun (tally : Int) (left : Int) (i : Int) => []) (fun (tally : Int) (left : Int) (i : Int) => w) (fun tally left i hI0 ih0 => ?_) (0) (darts1) (0) (⟨7, full n, fun _ => 0, by omega, hdarts1, rfl, full_lt hn7, fun _ => by show 0 + 7 ≤ 7; omega, rfl⟩)
  obtain ⟨k, lN, g, hik, hleft, htally, hl, hg, hR⟩ := hI0
  refine v_iload 4 (pc' := 12) rfl dX6_kind_10 rfl ?_
  refine v_bipush (pc' := 14) rfl dX6_kind_12 rfl ?_
  refine v_icmp_ge (pc' := 17) (tgt := 57) rfl dX6_kind_14 (by decide) (by omega) (by omega) (fun c0 => ?_) (fun c0 => ?_)
  ·
    have hG : g = tallyN f n := by rw [← hR, show k = 0 by omega]; rfl
    have hgz : ∀ z, g z ≤ 7 := fun z => by have := hg z; omega
    refine v_iconst (pc' := 58) rfl dX6_kind_57 ?_
    refine v_istore (ls' := [(4, _), (0, _), (1, _), (2, _), (3, _)]) (pc' := 60) rfl dX6_kind_58 rfl rfl ?_
    refine v_iload_n 2 (pc' := 61) rfl dX6_kind_60 rfl rfl ?_
    refine v_istore (ls' := [(5, _), (4, _), (0, _), (1, _), (2, _), (3, _)]) (pc' := 63) rfl dX6_kind_61 rfl rfl ?_
    refine v_ls [2, 3, 4, 1, 0] rfl ?_
    refine v_loop2 63 (fun (ty : Int) (size : Int) => ∃ sN tN : Nat, size = sN ∧ sN ≤ n ∧ ty = tN ∧ typL g sN tN = kindN f n) (fun (ty : Int) (size : Int) => size.toNat) (fun (ty : Int) (size : Int) => [(0, aI (p)), (1, aI (n0)), (2, aI (tally)), (4, aI (ty)), (5, aI (size))]) (fun (ty : Int) (size : Int) => []) (fun (ty : Int) (size : Int) => w) (fun ty size hI1 ih1 => ?_) (0) (n0) (⟨n, 0, hn, Nat.le_refl _, rfl, by rw [hG]; rfl⟩)
    obtain ⟨sN, tN, hsize, hsn, hty, hT⟩ := hI1
    refine v_iload 4 (pc' := 65) rfl dX6_kind_63 rfl ?_
    refine v_iconst (pc' := 66) rfl dX6_kind_65 ?_
    refine v_icmp_lt (pc' := 69) (tgt := 104) rfl dX6_kind_66 (by decide) (by omega) (by omega) (fun c2 => ?_) (fun c2 => ?_)
    ·
      have hs0 : sN = 0 := by omega
      subst hs0
      refine v_iload 3 (pc' := 106) rfl dX6_kind_104 rfl ?_
      refine v_iret dX6_kind_106 (by decide) (rfl) ?_
      exact ⟨by rw [hty, ← hT]; rfl, rfl⟩
    ·
      obtain ⟨sN, rfl⟩ : ∃ j, sN = j + 1 := ⟨sN - 1, by omega⟩
      refine v_iload_n 2 (pc' := 70) rfl dX6_kind_69 rfl rfl ?_
      refine v_iload 4 (pc' := 72) rfl dX6_kind_70 rfl ?_
      refine v_cSP (pc' := 75) rfl dX6_kind_72 lk_RX6_21 rfl (c_at l G htally (fun z _ _ => hgz z) (x := sN + 1) (by omega) (by omega) (by omega) w) rfl rfl rfl ?_
      refine v_nm (fun at1 hat1 => ?_)
      refine v_istore (ls' := [(6, _), (0, _), (1, _), (2, _), (4, _), (5, _)]) (pc' := 77) rfl dX6_kind_75 rfl rfl ?_
      refine v_ls [1, 2, 3, 4, 5, 0] rfl ?_
      refine v_loop2 77 (fun (ty : Int) (many : Int) => ∃ mN uN : Nat, many = mN ∧ mN ≤ 7 ∧ ty = uN ∧ repD uN (sN + 1) mN = repD tN (sN + 1) (g (sN + 1))) (fun (ty : Int) (many : Int) => many.toNat) (fun (ty : Int) (many : Int) => [(0, aI (p)), (1, aI (n0)), (2, aI (tally)), (4, aI (ty)), (5, aI (size)), (6, aI (many))]) (fun (ty : Int) (many : Int) => []) (fun (ty : Int) (many : Int) => w) (fun ty many hI2 ih2 => ?_) (ty) (at1) (⟨g (sN + 1), tN, hat1, hgz (sN + 1), hty, rfl⟩)
      obtain ⟨mN, uN, hmany, hm7, hty2, hU⟩ := hI2
      refine v_iload 5 (pc' := 79) rfl dX6_kind_77 rfl ?_
      refine v_if_le (pc' := 82) (tgt := 98) rfl dX6_kind_79 (by decide) (by omega) (fun c3 => ?_) (fun c3 => ?_)
      ·
        refine v_iinc (ls' := [(5, _), (0, _), (1, _), (2, _), (4, _), (6, _)]) 4 (pc' := 101) rfl dX6_kind_98 rfl rfl rfl ?_
        refine v_nl (fun size' hsize' => ?_)
        refine v_goto (tgt := 63) dX6_kind_101 (by decide) ?_
        refine v_ls [1, 2, 3, 4, 0] rfl ?_
        have h0 : mN = 0 := by omega
        subst h0
        exact ih1 (ty) (size') (⟨sN, uN, by omega, by omega, hty2, by rw [← hT]; simp only [typL]; rw [← hU]; rfl⟩) (by omega)
      ·
        refine v_bipush (pc' := 84) rfl dX6_kind_82 rfl ?_
        refine v_iload 3 (pc' := 86) rfl dX6_kind_84 rfl ?_
        refine v_imul (pc' := 87) rfl dX6_kind_86 ?_
        refine v_iload 4 (pc' := 89) rfl dX6_kind_87 rfl ?_
        refine v_iadd (pc' := 90) rfl dX6_kind_89 ?_
        refine v_nm (fun ty' hty' => ?_)
        refine v_istore (ls' := [(4, _), (0, _), (1, _), (2, _), (5, _), (6, _)]) (pc' := 92) rfl dX6_kind_90 rfl rfl ?_
        refine v_iinc (ls' := [(6, _), (4, _), (0, _), (1, _), (2, _), (5, _)]) 5 (pc' := 95) rfl dX6_kind_92 rfl rfl rfl ?_
        refine v_nl (fun many' hmany' => ?_)
        refine v_goto (tgt := 77) dX6_kind_95 (by decide) ?_
        refine v_ls [2, 3, 4, 1, 5, 0] rfl ?_
        obtain ⟨mN, rfl⟩ : ∃ j, mN = j + 1 := ⟨mN - 1, by omega⟩
        exact ih2 (ty') (many') (⟨mN, 10 * uN + (sN + 1), by omega, by omega, by omega, by rw [← hU]; simp only [repD]⟩) (by omega)
  ·
    refine v_iload_n 3 (pc' := 18) rfl dX6_kind_17 rfl rfl ?_
    refine v_if_eq (pc' := 21) (tgt := 57) rfl dX6_kind_18 (by decide) (by omega) (fun c1 => ?_) (fun c1 => ?_)
    ·
      have hG : g = tallyN f n := by rw [← hR, show lN = 0 by omega]; exact (tallyL_0 f g k).symm
      have hgz : ∀ z, g z ≤ 7 := fun z => by have := hg z; omega
      refine v_iconst (pc' := 58) rfl dX6_kind_57 ?_
      refine v_istore (ls' := [(4, _), (0, _), (1, _), (2, _), (3, _)]) (pc' := 60) rfl dX6_kind_58 rfl rfl ?_
      refine v_iload_n 2 (pc' := 61) rfl dX6_kind_60 rfl rfl ?_
      refine v_istore (ls' := [(5, _), (4, _), (0, _), (1, _), (2, _), (3, _)]) (pc' := 63) rfl dX6_kind_61 rfl rfl ?_
      refine v_ls [2, 3, 4, 1, 0] rfl ?_
      refine v_loop2 63 (fun (ty : Int) (size : Int) => ∃ sN tN : Nat, size = sN ∧ sN ≤ n ∧ ty = tN ∧ typL g sN tN = kindN f n) (fun (ty : Int) (size : Int) => size.toNat) (fun (ty : Int) (size : Int) => [(0, aI (p)), (1, aI (n0)), (2, aI (tally)), (4, aI (ty)), (5, aI (size))]) (fun (ty : Int) (size : Int) => []) (fun (ty : Int) (size : Int) => w) (fun ty size hI1 ih1 => ?_) (0) (n0) (⟨n, 0, hn, Nat.le_refl _, rfl, by rw [hG]; rfl⟩)
      obtain ⟨sN, tN, hsize, hsn, hty, hT⟩ := hI1
      refine v_iload 4 (pc' := 65) rfl dX6_kind_63 rfl ?_
      refine v_iconst (pc' := 66) rfl dX6_kind_65 ?_
      refine v_icmp_lt (pc' := 69) (tgt := 104) rfl dX6_kind_66 (by decide) (by omega) (by omega) (fun c2 => ?_) (fun c2 => ?_)
      ·
        have hs0 : sN = 0 := by omega
        subst hs0
        refine v_iload 3 (pc' := 106) rfl dX6_kind_104 rfl ?_
        refine v_iret dX6_kind_106 (by decide) (rfl) ?_
        exact ⟨by rw [hty, ← hT]; rfl, rfl⟩
      ·
        obtain ⟨sN, rfl⟩ : ∃ j, sN = j + 1 := ⟨sN - 1, by omega⟩
        refine v_iload_n 2 (pc' := 70) rfl dX6_kind_69 rfl rfl ?_
        refine v_iload 4 (pc' := 72) rfl dX6_kind_70 rfl ?_
        refine v_cSP (pc' := 75) rfl dX6_kind_72 lk_RX6_21 rfl (c_at l G htally (fun z _ _ => hgz z) (x := sN + 1) (by omega) (by omega) (by omega) w) rfl rfl rfl ?_
        refine v_nm (fun at1 hat1 => ?_)
        refine v_istore (ls' := [(6, _), (0, _), (1, _), (2, _), (4, _), (5, _)]) (pc' := 77) rfl dX6_kind_75 rfl rfl ?_
        refine v_ls [1, 2, 3, 4, 5, 0] rfl ?_
        refine v_loop2 77 (fun (ty : Int) (many : Int) => ∃ mN uN : Nat, many = mN ∧ mN ≤ 7 ∧ ty = uN ∧ repD uN (sN + 1) mN = repD tN (sN + 1) (g (sN + 1))) (fun (ty : Int) (many : Int) => many.toNat) (fun (ty : Int) (many : Int) => [(0, aI (p)), (1, aI (n0)), (2, aI (tally)), (4, aI (ty)), (5, aI (size)), (6, aI (many))]) (fun (ty : Int) (many : Int) => []) (fun (ty : Int) (many : Int) => w) (fun ty many hI2 ih2 => ?_) (ty) (at1) (⟨g (sN + 1), tN, hat1, hgz (sN + 1), hty, rfl⟩)
        obtain ⟨mN, uN, hmany, hm7, hty2, hU⟩ := hI2
        refine v_iload 5 (pc' := 79) rfl dX6_kind_77 rfl ?_
        refine v_if_le (pc' := 82) (tgt := 98) rfl dX6_kind_79 (by decide) (by omega) (fun c3 => ?_) (fun c3 => ?_)
        ·
          refine v_iinc (ls' := [(5, _), (0, _), (1, _), (2, _), (4, _), (6, _)]) 4 (pc' := 101) rfl dX6_kind_98 rfl rfl rfl ?_
          refine v_nl (fun size' hsize' => ?_)
          refine v_goto (tgt := 63) dX6_kind_101 (by decide) ?_
          refine v_ls [1, 2, 3, 4, 0] rfl ?_
          have h0 : mN = 0 := by omega
          subst h0
          exact ih1 (ty) (size') (⟨sN, uN, by omega, by omega, hty2, by rw [← hT]; simp only [typL]; rw [← hU]; rfl⟩) (by omega)
        ·
          refine v_bipush (pc' := 84) rfl dX6_kind_82 rfl ?_
          refine v_iload 3 (pc' := 86) rfl dX6_kind_84 rfl ?_
          refine v_imul (pc' := 87) rfl dX6_kind_86 ?_
          refine v_iload 4 (pc' := 89) rfl dX6_kind_87 rfl ?_
          refine v_iadd (pc' := 90) rfl dX6_kind_89 ?_
          refine v_nm (fun ty' hty' => ?_)
          refine v_istore (ls' := [(4, _), (0, _), (1, _), (2, _), (5, _), (6, _)]) (pc' := 92) rfl dX6_kind_90 rfl rfl ?_
          refine v_iinc (ls' := [(6, _), (4, _), (0, _), (1, _), (2, _), (5, _)]) 5 (pc' := 95) rfl dX6_kind_92 rfl rfl rfl ?_
          refine v_nl (fun many' hmany' => ?_)
          refine v_goto (tgt := 77) dX6_kind_95 (by decide) ?_
          refine v_ls [2, 3, 4, 1, 5, 0] rfl ?_
          obtain ⟨mN, rfl⟩ : ∃ j, mN = j + 1 := ⟨mN - 1, by omega⟩
          exact ih2 (ty') (many') (⟨mN, 10 * uN + (sN + 1), by omega, by omega, by omega, by rw [← hU]; simp only [repD]⟩) (by omega)
    ·
      obtain ⟨k, rfl⟩ : ∃ j, k = j + 1 := ⟨k - 1, by omega⟩
      have hlow := low_in lN hl (by omega)
      have hpop : 1 ≤ popc (ringN f (lowN lN)) ∧ popc (ringN f (lowN lN)) ≤ 7 := ⟨popc_pos _ (ringN_lt hf hlow.1 hlow.2) (ringN_nz hlow.1 hlow.2), popc_le _ (ringN_lt hf hlow.1 hlow.2)⟩
      refine v_iload_n 0 (pc' := 22) rfl dX6_kind_21 rfl rfl ?_
      refine v_iload_n 3 (pc' := 23) rfl dX6_kind_22 rfl rfl ?_
      refine v_cSP (pc' := 26) rfl dX6_kind_23 lk_RX6_47 rfl (c_lowest l G hleft hl (by omega) w) rfl rfl rfl ?_
      refine v_nm (fun lowest1 hlowest1 => ?_)
      refine v_cSP (pc' := 29) rfl dX6_kind_26 lk_RX6_44 rfl (c_ring l G hp hf hlowest1 hlow.1 hlow.2 w) rfl rfl rfl ?_
      refine v_nm (fun ring1 hring1 => ?_)
      refine v_istore (ls' := [(5, _), (0, _), (1, _), (2, _), (3, _), (4, _)]) (pc' := 31) rfl dX6_kind_29 rfl rfl ?_
      refine v_iload_n 4 (pc' := 32) rfl dX6_kind_31 rfl rfl ?_
      refine v_iload 0 (pc' := 34) rfl dX6_kind_32 rfl ?_
      refine v_iconst (pc' := 35) rfl dX6_kind_34 ?_
      refine v_ixor (pc' := 36) rfl dX6_kind_35 (bxor_iz ring1 (-1)) ?_
      refine v_iand (z := ((andn lN (ringN f (lowN lN)) : Nat) : Int)) (pc' := 37) rfl dX6_kind_36 (by rw [hleft, hring1]; exact andn_bits _ hl _ (ringN_lt hf hlow.1 hlow.2)) ?_
      refine v_nm (fun left' hleft' => ?_)
      refine v_istore_n (ls' := [(3, _), (5, _), (0, _), (1, _), (2, _), (4, _)]) (pc' := 38) rfl dX6_kind_37 rfl rfl rfl ?_
      refine v_iload_n 4 (pc' := 39) rfl dX6_kind_38 rfl rfl ?_
      refine v_iconst (pc' := 40) rfl dX6_kind_39 ?_
      refine v_iload 1 (pc' := 42) rfl dX6_kind_40 rfl ?_
      refine v_cSP (pc' := 45) rfl dX6_kind_42 lk_RX6_9 rfl (c_bitCount l G hring1 (by have := ringN_lt hf hlow.1 hlow.2; omega) w) rfl rfl rfl ?_
      refine v_nm (fun bitCount1 hbitCount1 => ?_)
      refine v_cSP (pc' := 48) rfl dX6_kind_45 lk_RX6_18 rfl (c_shift l G w) rfl rfl rfl ?_
      refine v_nm (fun shift1 hshift1 => ?_)
      refine v_ishl (z := ((2 ^ (28 - 4 * popc (ringN f (lowN lN))) : Nat) : Int)) (pc' := 49) rfl dX6_kind_48 (by have := iz_shlE (a := 1) (b := shift1) (n := 1) (k := 28 - 4 * popc (ringN f (lowN lN))) rfl (by omega) (by omega); rw [Nat.one_mul] at this; exact this) ?_
      refine v_iadd (pc' := 50) rfl dX6_kind_49 ?_
      refine v_nm (fun tally' htally' => ?_)
      refine v_istore_n (ls' := [(2, _), (3, _), (5, _), (0, _), (1, _), (4, _)]) (pc' := 51) rfl dX6_kind_50 rfl rfl rfl ?_
      refine v_iinc (ls' := [(4, _), (2, _), (3, _), (5, _), (0, _), (1, _)]) 5 (pc' := 54) rfl dX6_kind_51 rfl rfl rfl ?_
      refine v_nl (fun i' hi' => ?_)
      refine v_goto (tgt := 10) dX6_kind_54 (by decide) ?_
      refine v_ls [4, 5, 1, 2, 0] rfl ?_
      exact ih0 (tally') (left') (i') (⟨k, andn lN (ringN f (lowN lN)), gadd g (popc (ringN f (lowN lN))), by omega, hleft', by rw [htally', hx_gadd g hpop.1 hpop.2, htally]; simp, andn_lt7 hl, fun z => by have := hg z; unfold gadd; split <;> omega, by rw [← hR]; simp only [tallyL]; rw [if_neg (by omega)]⟩) (by omega)
set_option maxHeartbeats 4000000 in
set_option maxRecDepth 100000 in
theorem c_resting (l : Launch) (G : Gx) {p n0 : Int} {f : Nat → Nat} {n : Nat} (hp : p = (hx f : Nat)) (hf : P7 f) (hn : n0 = n) (hn7 : n ≤ 7) (w : Wd) : SpP l G 1 mX6_resting [aI (p), aI (n0)] w (((restN f n : Nat) : Int)) := by
  refine Sp_of RX6 rfl (by decide +kernel) rfl (Nat.le_of_ble_eq_true rfl) ?_
  refine v_iconst (pc' := 1) rfl dX6_resting_0 ?_
  refine v_istore_n (ls' := [(2, _), (0, _), (1, _)]) (pc' := 2) rfl dX6_resting_1 rfl rfl rfl ?_
  refine v_iconst (pc' := 3) rfl dX6_resting_2 ?_
  refine v_istore_n (ls' := [(3, _), (2, _), (0, _), (1, _)]) (pc' := 4) rfl dX6_resting_3 rfl rfl rfl ?_
  refine v_ls [2, 3, 1, 0] rfl ?_
  refine v_loop2 4 (fun (many : Int) (x : Int) => ∃ k : Nat, x = k + 1 ∧ k ≤ n ∧ many = (restN f k : Nat)) (fun (many : Int) (x : Int) => (8 - x).toNat) (fun (many : Int) (x : Int) => [(0, aI (p)), (1, aI (n0)), (2, aI (many)), (3, aI (x))]) (fun (many : Int) (x : Int) => []) (fun (many : Int) (x : Int) => w) (fun many x hI0 ih0 => ?_) (0) (1) (⟨0, rfl, by omega, rfl⟩)
  obtain ⟨k, hk, hkn, hmany⟩ := hI0
  refine v_iload_n 3 (pc' := 5) rfl dX6_resting_4 rfl rfl ?_
  refine v_iload_n 1 (pc' := 6) rfl dX6_resting_5 rfl rfl ?_
  refine v_icmp_gt (pc' := 9) (tgt := 27) rfl dX6_resting_6 (by decide) (by omega) (by omega) (fun c0 => ?_) (fun c0 => ?_)
  ·
    refine v_iload_n 2 (pc' := 28) rfl dX6_resting_27 rfl rfl ?_
    refine v_iret dX6_resting_28 (by decide) (rfl) ?_
    have e : k = n := by omega
    subst e
    exact ⟨hmany, rfl⟩
  ·
    have hb := hf (k + 1) (by omega) (by omega)
    refine v_iload_n 0 (pc' := 10) rfl dX6_resting_9 rfl rfl ?_
    refine v_iload_n 3 (pc' := 11) rfl dX6_resting_10 rfl rfl ?_
    refine v_cSP (pc' := 14) rfl dX6_resting_11 lk_RX6_21 rfl (c_at l G hp hf.B (x := k + 1) (by omega) (by omega) (by omega) w) rfl rfl rfl ?_
    refine v_nm (fun at1 hat1 => ?_)
    refine v_iload_n 3 (pc' := 15) rfl dX6_resting_14 rfl rfl ?_
    refine v_icmp_ne (pc' := 18) (tgt := 21) rfl dX6_resting_15 (by decide) (by omega) (by omega) (fun c1 => ?_) (fun c1 => ?_)
    ·
      refine v_iinc (ls' := [(3, _), (0, _), (1, _), (2, _)]) 3 (pc' := 24) rfl dX6_resting_21 rfl rfl rfl ?_
      refine v_nl (fun x' hx' => ?_)
      refine v_goto (tgt := 4) dX6_resting_24 (by decide) ?_
      refine v_ls [1, 2, 3, 0] rfl ?_
      exact ih0 (many) (x') (⟨k + 1, by omega, by omega, by simp only [restN]; split <;> omega⟩) (by omega)
    ·
      refine v_iinc (ls' := [(2, _), (0, _), (1, _), (3, _)]) 2 (pc' := 21) rfl dX6_resting_18 rfl rfl rfl ?_
      refine v_nl (fun many' hmany' => ?_)
      refine v_iinc (ls' := [(3, _), (2, _), (0, _), (1, _)]) 3 (pc' := 24) rfl dX6_resting_21 rfl rfl rfl ?_
      refine v_nl (fun x' hx' => ?_)
      refine v_goto (tgt := 4) dX6_resting_24 (by decide) ?_
      refine v_ls [2, 3, 1, 0] rfl ?_
      exact ih0 (many') (x') (⟨k + 1, by omega, by omega, by simp only [restN]; split <;> omega⟩) (by omega)
set_option maxHeartbeats 4000000 in
set_option maxRecDepth 100000 in
theorem c_multiple (l : Launch) (G : Gx) {t0 s0 : Int} {t size : Nat} (ht : t0 = t) (ht2 : t ≤ 100000000) (hs : s0 = size) (hs1 : 1 ≤ size) (hs7 : size ≤ 7) (w : Wd) : SpP l G 0 mX6_multiple [aI (t0), aI (s0)] w (((multN t size : Nat) : Int)) := by
  refine Sp_of RX6 rfl (by decide +kernel) rfl (Nat.le_of_ble_eq_true rfl) ?_
  refine v_iload_n 0 (pc' := 1) rfl dX6_multiple_0 rfl rfl ?_
  refine v_istore_n (ls' := [(2, _), (0, _), (1, _)]) (pc' := 2) rfl dX6_multiple_1 rfl rfl rfl ?_
  refine v_iconst (pc' := 3) rfl dX6_multiple_2 ?_
  refine v_istore_n (ls' := [(3, _), (2, _), (0, _), (1, _)]) (pc' := 4) rfl dX6_multiple_3 rfl rfl rfl ?_
  refine v_ls [2, 3, 1, 0] rfl ?_
  refine v_loop2 4 (fun (sum : Int) (i : Int) => ∃ k sN : Nat, (i + k = size ∧ 0 ≤ i) ∧ sum = sN ∧ sN + k * t ≤ t * 8 ∧ multL t size k sN = multN t size) (fun (sum : Int) (i : Int) => (7 - i).toNat) (fun (sum : Int) (i : Int) => [(0, aI (t0)), (1, aI (s0)), (2, aI (sum)), (3, aI (i))]) (fun (sum : Int) (i : Int) => []) (fun (sum : Int) (i : Int) => w) (fun sum i hI0 ih0 => ?_) (t0) (0) (⟨size, t, by omega, ht, by have : size * t ≤ 7 * t := Nat.mul_le_mul_right t hs7; omega, rfl⟩)
  obtain ⟨k, sN, hik, hsum, hb, hR⟩ := hI0
  refine v_iload_n 3 (pc' := 5) rfl dX6_multiple_4 rfl rfl ?_
  refine v_iload_n 1 (pc' := 6) rfl dX6_multiple_5 rfl rfl ?_
  refine v_icmp_ge (pc' := 9) (tgt := 25) rfl dX6_multiple_6 (by decide) (by omega) (by omega) (fun c0 => ?_) (fun c0 => ?_)
  ·
    have hret : multN t size = sN := by rw [← hR, show k = 0 by omega]; rfl
    refine v_iload_n 2 (pc' := 26) rfl dX6_multiple_25 rfl rfl ?_
    refine v_iret dX6_multiple_26 (by decide) (rfl) ?_
    exact ⟨by rw [hsum, hret], rfl⟩
  ·
    obtain ⟨k, rfl⟩ : ∃ j, k = j + 1 := ⟨k - 1, by omega⟩
    have hsb : sN ≤ t * 8 := Nat.le_trans (Nat.le_add_right _ _) hb
    refine v_iload_n 2 (pc' := 10) rfl dX6_multiple_9 rfl rfl ?_
    refine v_iload_n 1 (pc' := 11) rfl dX6_multiple_10 rfl rfl ?_
    refine v_irem (z := (((sN % size : Nat) : Int))) (pc' := 12) rfl dX6_multiple_11 (iz_ne (by omega) (by omega)) (by rw [iz_remN (by omega) (by omega) (by omega) (by omega), hsum, hs]; rfl) ?_
    refine v_if_eq (pc' := 15) (tgt := 25) rfl dX6_multiple_12 (by decide) (by have := Nat.mod_lt sN (show size > 0 by omega); omega) (fun c1 => ?_) (fun c1 => ?_)
    ·
      have hret : multN t size = sN := by rw [← hR]; simp only [multL]; rw [if_pos (by omega)]
      refine v_iload_n 2 (pc' := 26) rfl dX6_multiple_25 rfl rfl ?_
      refine v_iret dX6_multiple_26 (by decide) (rfl) ?_
      exact ⟨by rw [hsum, hret], rfl⟩
    ·
      refine v_iload_n 2 (pc' := 16) rfl dX6_multiple_15 rfl rfl ?_
      refine v_iload_n 0 (pc' := 17) rfl dX6_multiple_16 rfl rfl ?_
      refine v_iadd (pc' := 18) rfl dX6_multiple_17 ?_
      refine v_nm (fun sum' hsum' => ?_)
      refine v_istore_n (ls' := [(2, _), (0, _), (1, _), (3, _)]) (pc' := 19) rfl dX6_multiple_18 rfl rfl rfl ?_
      refine v_iinc (ls' := [(3, _), (2, _), (0, _), (1, _)]) 3 (pc' := 22) rfl dX6_multiple_19 rfl rfl rfl ?_
      refine v_nl (fun i' hi' => ?_)
      refine v_goto (tgt := 4) dX6_multiple_22 (by decide) ?_
      refine v_ls [2, 3, 1, 0] rfl ?_
      exact ih0 (sum') (i') (⟨k, sN + t, by omega, by omega, by rw [Nat.succ_mul] at hb; omega, by rw [← hR]; simp only [multL]; rw [if_neg (by omega)]⟩) (by omega)
set_option maxHeartbeats 4000000 in
set_option maxRecDepth 100000 in
theorem c_order (l : Launch) (G : Gx) {p n0 : Int} {f : Nat → Nat} {n : Nat} (hp : p = (hx f : Nat)) (hf : P7 f) (hn : n0 = n) (hn7 : n ≤ 7) (w : Wd) : SpP l G 2 mX6_order [aI (p), aI (n0)] w (((orderN f n : Nat) : Int)) := by
  refine Sp_of RX6 rfl (by decide +kernel) rfl (Nat.le_of_ble_eq_true rfl) ?_
  refine v_iconst (pc' := 1) rfl dX6_order_0 ?_
  refine v_istore_n (ls' := [(2, _), (0, _), (1, _)]) (pc' := 2) rfl dX6_order_1 rfl rfl rfl ?_
  refine v_iload_n 2 (pc' := 3) rfl dX6_order_2 rfl rfl ?_
  refine v_cSP (pc' := 6) rfl dX6_order_3 lk_RX6_37 rfl (c_darts l G hn hn7 w) rfl rfl rfl ?_
  refine v_nm (fun darts1 hdarts1 => ?_)
  refine v_istore_n (ls' := [(3, _), (2, _), (0, _), (1, _)]) (pc' := 7) rfl dX6_order_6 rfl rfl rfl ?_
  refine v_iconst (pc' := 8) rfl dX6_order_7 ?_
  refine v_istore (ls' := [(4, _), (3, _), (2, _), (0, _), (1, _)]) (pc' := 10) rfl dX6_order_8 rfl rfl ?_
  refine v_ls [3, 4, 2, 1, 0] rfl ?_
  refine v_loop3 10 (fun (t : Int) (left : Int) (i : Int) => ∃ k lN tN : Nat, (i + k = 7 ∧ 0 ≤ i) ∧ left = lN ∧ t = tN ∧ lN < 128 ∧ tN * 8 ^ k ≤ 8 ^ 7 ∧ orderL f k lN tN = orderN f n) (fun (t : Int) (left : Int) (i : Int) => (7 - i).toNat) (fun (t : Int) (left : Int) (i : Int) => [(0, aI (p)), (1, aI (n0)), (2, aI (t)), (3, aI (left)), (4, aI (i))]) (fun (t : Int) (left : Int) (i : Int) => []) (fun (t : Int) (left : Int) (i : Int) => w) (fun t left i hI0 ih0 => ?_) (1) (darts1) (0) (⟨7, full n, 1, by omega, hdarts1, rfl, full_lt hn7, by decide, rfl⟩)
  obtain ⟨k, lN, tN, hik, hleft, ht, hl, hb, hR⟩ := hI0
  refine v_iload 4 (pc' := 12) rfl dX6_order_10 rfl ?_
  refine v_bipush (pc' := 14) rfl dX6_order_12 rfl ?_
  refine v_icmp_ge (pc' := 17) (tgt := 54) rfl dX6_order_14 (by decide) (by omega) (by omega) (fun c0 => ?_) (fun c0 => ?_)
  ·
    have hret : orderN f n = tN := by rw [← hR, show k = 0 by omega]; rfl
    refine v_iload_n 2 (pc' := 55) rfl dX6_order_54 rfl rfl ?_
    refine v_iret dX6_order_55 (by decide) (rfl) ?_
    exact ⟨by rw [ht, hret], rfl⟩
  ·
    refine v_iload_n 3 (pc' := 18) rfl dX6_order_17 rfl rfl ?_
    refine v_if_eq (pc' := 21) (tgt := 54) rfl dX6_order_18 (by decide) (by omega) (fun c1 => ?_) (fun c1 => ?_)
    ·
      have hret : orderN f n = tN := by rw [← hR, show lN = 0 by omega]; exact orderL_0 f tN k
      refine v_iload_n 2 (pc' := 55) rfl dX6_order_54 rfl rfl ?_
      refine v_iret dX6_order_55 (by decide) (rfl) ?_
      exact ⟨by rw [ht, hret], rfl⟩
    ·
      obtain ⟨k, rfl⟩ : ∃ j, k = j + 1 := ⟨k - 1, by omega⟩
      have hlow := low_in lN hl (by omega)
      have hpop : 1 ≤ popc (ringN f (lowN lN)) ∧ popc (ringN f (lowN lN)) ≤ 7 := ⟨popc_pos _ (ringN_lt hf hlow.1 hlow.2) (ringN_nz hlow.1 hlow.2), popc_le _ (ringN_lt hf hlow.1 hlow.2)⟩
      have htb : tN ≤ 100000000 := ob1 hb
      refine v_iload_n 0 (pc' := 22) rfl dX6_order_21 rfl rfl ?_
      refine v_iload_n 3 (pc' := 23) rfl dX6_order_22 rfl rfl ?_
      refine v_cSP (pc' := 26) rfl dX6_order_23 lk_RX6_47 rfl (c_lowest l G hleft hl (by omega) w) rfl rfl rfl ?_
      refine v_nm (fun lowest1 hlowest1 => ?_)
      refine v_cSP (pc' := 29) rfl dX6_order_26 lk_RX6_44 rfl (c_ring l G hp hf hlowest1 hlow.1 hlow.2 w) rfl rfl rfl ?_
      refine v_nm (fun ring1 hring1 => ?_)
      refine v_istore (ls' := [(5, _), (0, _), (1, _), (2, _), (3, _), (4, _)]) (pc' := 31) rfl dX6_order_29 rfl rfl ?_
      refine v_iload_n 4 (pc' := 32) rfl dX6_order_31 rfl rfl ?_
      refine v_iload 0 (pc' := 34) rfl dX6_order_32 rfl ?_
      refine v_iconst (pc' := 35) rfl dX6_order_34 ?_
      refine v_ixor (pc' := 36) rfl dX6_order_35 (bxor_iz ring1 (-1)) ?_
      refine v_iand (z := ((andn lN (ringN f (lowN lN)) : Nat) : Int)) (pc' := 37) rfl dX6_order_36 (by rw [hleft, hring1]; exact andn_bits _ hl _ (ringN_lt hf hlow.1 hlow.2)) ?_
      refine v_nm (fun left' hleft' => ?_)
      refine v_istore_n (ls' := [(3, _), (5, _), (0, _), (1, _), (2, _), (4, _)]) (pc' := 38) rfl dX6_order_37 rfl rfl rfl ?_
      refine v_iload_n 4 (pc' := 39) rfl dX6_order_38 rfl rfl ?_
      refine v_iload 1 (pc' := 41) rfl dX6_order_39 rfl ?_
      refine v_cSP (pc' := 44) rfl dX6_order_41 lk_RX6_9 rfl (c_bitCount l G hring1 (by have := ringN_lt hf hlow.1 hlow.2; omega) w) rfl rfl rfl ?_
      refine v_nm (fun bitCount1 hbitCount1 => ?_)
      refine v_cSP (pc' := 47) rfl dX6_order_44 lk_RX6_54 rfl (c_multiple l G ht htb hbitCount1 hpop.1 hpop.2 w) rfl rfl rfl ?_
      refine v_nm (fun multiple1 hmultiple1 => ?_)
      refine v_istore_n (ls' := [(2, _), (3, _), (5, _), (0, _), (1, _), (4, _)]) (pc' := 48) rfl dX6_order_47 rfl rfl rfl ?_
      refine v_iinc (ls' := [(4, _), (2, _), (3, _), (5, _), (0, _), (1, _)]) 5 (pc' := 51) rfl dX6_order_48 rfl rfl rfl ?_
      refine v_nl (fun i' hi' => ?_)
      refine v_goto (tgt := 10) dX6_order_51 (by decide) ?_
      refine v_ls [4, 5, 1, 2, 0] rfl ?_
      exact ih0 (multiple1) (left') (i') (⟨k, andn lN (ringN f (lowN lN)), multN tN (popc (ringN f (lowN lN))), by omega, hleft', hmultiple1, andn_lt7 hl, ob2 hpop.2 hb, by rw [← hR]; simp only [orderL]; rw [if_neg (by omega)]⟩) (by omega)
set_option maxHeartbeats 4000000 in
set_option maxRecDepth 100000 in
theorem c_step (l : Launch) (G : Gx) {p x0 k0 : Int} {f : Nat → Nat} {x K : Nat} (hp : p = (hx f : Nat)) (hf : P7 f) (hx0 : x0 = x) (h1 : 1 ≤ x) (h2 : x ≤ 7) (hk : k0 = K) (hk2 : K ≤ 2147483647) (w : Wd) : SpP l G 1 mX6_step [aI (p), aI (x0), aI (k0)] w (((pstep f K x : Nat) : Int)) := by
  refine Sp_of RX6 rfl (by decide +kernel) rfl (Nat.le_of_ble_eq_true rfl) ?_
  refine v_iload_n 1 (pc' := 1) rfl dX6_step_0 rfl rfl ?_
  refine v_istore_n (ls' := [(3, _), (0, _), (1, _), (2, _)]) (pc' := 2) rfl dX6_step_1 rfl rfl rfl ?_
  refine v_iconst (pc' := 3) rfl dX6_step_2 ?_
  refine v_istore (ls' := [(4, _), (3, _), (0, _), (1, _), (2, _)]) (pc' := 5) rfl dX6_step_3 rfl rfl ?_
  refine v_ls [2, 3, 4, 1, 0] rfl ?_
  refine v_loop2 5 (fun (y : Int) (i : Int) => ∃ k yN : Nat, (i + k = K ∧ 0 ≤ i) ∧ y = yN ∧ 1 ≤ yN ∧ yN ≤ 7 ∧ pstep f k yN = pstep f K x) (fun (y : Int) (i : Int) => (k0 - i).toNat) (fun (y : Int) (i : Int) => [(0, aI (p)), (1, aI (x0)), (2, aI (k0)), (3, aI (y)), (4, aI (i))]) (fun (y : Int) (i : Int) => []) (fun (y : Int) (i : Int) => w) (fun y i hI0 ih0 => ?_) (x0) (0) (⟨K, x, by omega, hx0, h1, h2, rfl⟩)
  obtain ⟨k, yN, hik, hy, hy1, hy2, hR⟩ := hI0
  refine v_iload 4 (pc' := 7) rfl dX6_step_5 rfl ?_
  refine v_iload_n 2 (pc' := 8) rfl dX6_step_7 rfl rfl ?_
  refine v_icmp_ge (pc' := 11) (tgt := 23) rfl dX6_step_8 (by decide) (by omega) (by omega) (fun c0 => ?_) (fun c0 => ?_)
  ·
    have hret : pstep f K x = yN := by rw [← hR, show k = 0 by omega]; rfl
    refine v_iload_n 3 (pc' := 24) rfl dX6_step_23 rfl rfl ?_
    refine v_iret dX6_step_24 (by decide) (rfl) ?_
    exact ⟨by rw [hy, hret], rfl⟩
  ·
    obtain ⟨k, rfl⟩ : ∃ j, k = j + 1 := ⟨k - 1, by omega⟩
    refine v_iload_n 0 (pc' := 12) rfl dX6_step_11 rfl rfl ?_
    refine v_iload_n 3 (pc' := 13) rfl dX6_step_12 rfl rfl ?_
    refine v_cSP (pc' := 16) rfl dX6_step_13 lk_RX6_21 rfl (c_at l G hp hf.B (x := yN) (by omega) (by omega) (by omega) w) rfl rfl rfl ?_
    refine v_nm (fun at1 hat1 => ?_)
    refine v_istore_n (ls' := [(3, _), (0, _), (1, _), (2, _), (4, _)]) (pc' := 17) rfl dX6_step_16 rfl rfl rfl ?_
    refine v_iinc (ls' := [(4, _), (3, _), (0, _), (1, _), (2, _)]) 4 (pc' := 20) rfl dX6_step_17 rfl rfl rfl ?_
    refine v_nl (fun i' hi' => ?_)
    refine v_goto (tgt := 5) dX6_step_20 (by decide) ?_
    refine v_ls [2, 3, 4, 1, 0] rfl ?_
    exact ih0 (at1) (i') (⟨k, f yN, by omega, hat1, (hf yN hy1 hy2).1, (hf yN hy1 hy2).2, hR⟩) (by omega)
def ptimes (f : Nat → Nat) (K : Nat) : Nat → Nat := fun x => pstep f (K % popc (ringN f x)) x
set_option maxHeartbeats 4000000 in
set_option maxRecDepth 100000 in
theorem c_times (l : Launch) (G : Gx) {p k0 : Int} {f : Nat → Nat} {K : Nat} (hp : p = (hx f : Nat)) (hf : P7 f) (hk0 : k0 = K) (hk2 : K ≤ 2147483647) (w : Wd) : SpP l G 2 mX6_times [aI (p), aI (k0)] w (((hx (ptimes f K) : Nat) : Int)) := by
  refine Sp_of RX6 rfl (by decide +kernel) rfl (Nat.le_of_ble_eq_true rfl) ?_
  refine v_iconst (pc' := 1) rfl dX6_times_0 ?_
  refine v_istore_n (ls' := [(2, _), (0, _), (1, _)]) (pc' := 2) rfl dX6_times_1 rfl rfl rfl ?_
  refine v_iconst (pc' := 3) rfl dX6_times_2 ?_
  refine v_istore_n (ls' := [(3, _), (2, _), (0, _), (1, _)]) (pc' := 4) rfl dX6_times_3 rfl rfl rfl ?_
  refine v_ls [2, 3, 1, 0] rfl ?_
  refine v_loop2 4 (fun (q : Int) (x : Int) => ∃ k : Nat, x = k + 1 ∧ k ≤ 7 ∧ q = (hxk (ptimes f K) k : Nat)) (fun (q : Int) (x : Int) => (8 - x).toNat) (fun (q : Int) (x : Int) => [(0, aI (p)), (1, aI (k0)), (2, aI (q)), (3, aI (x))]) (fun (q : Int) (x : Int) => []) (fun (q : Int) (x : Int) => w) (fun q x hI0 ih0 => ?_) (0) (1) (⟨0, rfl, by omega, rfl⟩)
  obtain ⟨k, hk, hk7, hr⟩ := hI0
  refine v_iload_n 3 (pc' := 5) rfl dX6_times_4 rfl rfl ?_
  refine v_bipush (pc' := 7) rfl dX6_times_5 rfl ?_
  refine v_icmp_gt (pc' := 10) (tgt := 50) rfl dX6_times_7 (by decide) (by omega) (by omega) (fun c0 => ?_) (fun c0 => ?_)
  ·
    refine v_iload_n 2 (pc' := 51) rfl dX6_times_50 rfl rfl ?_
    refine v_iret dX6_times_51 (by decide) (rfl) ?_
    have e7 : k = 7 := by omega
    subst e7
    exact ⟨hr, rfl⟩
  ·
    have hpop : 1 ≤ popc (ringN f (k + 1)) ∧ popc (ringN f (k + 1)) ≤ 7 := ⟨popc_pos _ (ringN_lt hf (by omega) (by omega)) (ringN_nz (by omega) (by omega)), popc_le _ (ringN_lt hf (by omega) (by omega))⟩
    refine v_iload_n 0 (pc' := 11) rfl dX6_times_10 rfl rfl ?_
    refine v_iload_n 3 (pc' := 12) rfl dX6_times_11 rfl rfl ?_
    refine v_cSP (pc' := 15) rfl dX6_times_12 lk_RX6_44 rfl (c_ring l G hp hf (x := k + 1) (by omega) (by omega) (by omega) w) rfl rfl rfl ?_
    refine v_nm (fun ring1 hring1 => ?_)
    refine v_cSP (pc' := 18) rfl dX6_times_15 lk_RX6_9 rfl (c_bitCount l G hring1 (by have := ringN_lt hf (x := k + 1) (by omega) (by omega); omega) w) rfl rfl rfl ?_
    refine v_nm (fun bitCount1 hbitCount1 => ?_)
    refine v_istore (ls' := [(4, _), (0, _), (1, _), (2, _), (3, _)]) (pc' := 20) rfl dX6_times_18 rfl rfl ?_
    refine v_iload_n 3 (pc' := 21) rfl dX6_times_20 rfl rfl ?_
    refine v_iconst (pc' := 22) rfl dX6_times_21 ?_
    refine v_ishl (z := ((hxk (ptimes f K) k * 16 : Nat) : Int)) (pc' := 23) rfl dX6_times_22 (iz_shlE (k := 4) hr rfl (by decide)) ?_
    refine v_iload_n 1 (pc' := 24) rfl dX6_times_23 rfl rfl ?_
    refine v_iload_n 4 (pc' := 25) rfl dX6_times_24 rfl rfl ?_
    refine v_iload 0 (pc' := 27) rfl dX6_times_25 rfl ?_
    refine v_iconst (pc' := 28) rfl dX6_times_27 ?_
    refine v_icmp_ge (pc' := 31) (tgt := 35) rfl dX6_times_28 (by decide) (by omega) (by omega) (fun c1 => ?_) (fun c1 => absurd c1 (by omega))
    refine v_iload_n 2 (pc' := 36) rfl dX6_times_35 rfl rfl ?_
    refine v_iload 0 (pc' := 38) rfl dX6_times_36 rfl ?_
    refine v_irem (z := ((K % popc (ringN f (k + 1)) : Nat) : Int)) (pc' := 39) rfl dX6_times_38 (iz_ne (by omega) (by omega)) (by rw [iz_remN (by omega) (by omega) (by omega) (by omega), hk0, hbitCount1]; rfl) ?_
    refine v_cSP (pc' := 42) rfl dX6_times_39 lk_RX6_57 rfl (c_step l G hp hf (x := k + 1) (K := K % popc (ringN f (k + 1))) (by omega) (by omega) (by omega) rfl (by have := Nat.mod_lt K (show popc (ringN f (k + 1)) > 0 by omega); omega) w) rfl rfl rfl ?_
    refine v_nm (fun step1 hstep1 => ?_)
    refine v_ior (z := ((hxk (ptimes f K) (k + 1) : Nat) : Int)) (pc' := 43) rfl dX6_times_42 (by rw [hstep1]; exact iz_hxs (f := ptimes f K) (fun x a b => (pstep_7 hf _ x a b).2) (by omega)) ?_
    refine v_nm (fun q' hq' => ?_)
    refine v_istore_n (ls' := [(2, _), (4, _), (0, _), (1, _), (3, _)]) (pc' := 44) rfl dX6_times_43 rfl rfl rfl ?_
    refine v_iinc (ls' := [(3, _), (2, _), (4, _), (0, _), (1, _)]) 4 (pc' := 47) rfl dX6_times_44 rfl rfl rfl ?_
    refine v_nl (fun x' hx' => ?_)
    refine v_goto (tgt := 4) dX6_times_47 (by decide) ?_
    refine v_ls [3, 4, 1, 0] rfl ?_
    exact ih0 (q') (x') (⟨k + 1, by omega, by omega, hq'⟩) (by omega)
set_option maxHeartbeats 4000000 in
set_option maxRecDepth 100000 in
theorem c_isRoot (l : Launch) (G : Gx) {q k0 p : Int} {g f : Nat → Nat} {K : Nat} (hq : q = (hx g : Nat)) (hg : P7 g) (hp : p = (hx f : Nat)) (hf : P7 f) (hk0 : k0 = K) (hk2 : K ≤ 2147483647) (w : Wd) : SpP l G 2 mX6_isRoot [aI (q), aI (k0), aI (p)] w ((if rootB g K f 7 then 1 else 0 : Int)) := by
  refine Sp_of RX6 rfl (by decide +kernel) rfl (Nat.le_of_ble_eq_true rfl) ?_
  refine v_iconst (pc' := 1) rfl dX6_isRoot_0 ?_
  refine v_istore_n (ls' := [(3, _), (0, _), (1, _), (2, _)]) (pc' := 2) rfl dX6_isRoot_1 rfl rfl rfl ?_
  refine v_ls [1, 2, 3, 0] rfl ?_
  refine v_loop1 2 (fun (x : Int) => ∃ k : Nat, x = k + 1 ∧ k ≤ 7 ∧ rootB g K f k = true) (fun (x : Int) => (8 - x).toNat) (fun (x : Int) => [(0, aI (q)), (1, aI (k0)), (2, aI (p)), (3, aI (x))]) (fun (x : Int) => []) (fun (x : Int) => w) (fun x hI0 ih0 => ?_) (1) (⟨0, rfl, by omega, rfl⟩)
  obtain ⟨k, hk, hk7, hr⟩ := hI0
  refine v_iload_n 3 (pc' := 3) rfl dX6_isRoot_2 rfl rfl ?_
  refine v_bipush (pc' := 5) rfl dX6_isRoot_3 rfl ?_
  refine v_icmp_gt (pc' := 8) (tgt := 30) rfl dX6_isRoot_5 (by decide) (by omega) (by omega) (fun c0 => ?_) (fun c0 => ?_)
  ·
    refine v_iconst (pc' := 31) rfl dX6_isRoot_30 ?_
    refine v_iret dX6_isRoot_31 (by decide) (rfl) ?_
    have e7 : k = 7 := by omega
    subst e7
    exact ⟨by rw [hr]; rfl, rfl⟩
  ·
    have hb := hf (k + 1) (by omega) (by omega)
    have hc := pstep_7 hg K (k + 1) (by omega) (by omega)
    refine v_iload_n 0 (pc' := 9) rfl dX6_isRoot_8 rfl rfl ?_
    refine v_iload_n 3 (pc' := 10) rfl dX6_isRoot_9 rfl rfl ?_
    refine v_iload_n 1 (pc' := 11) rfl dX6_isRoot_10 rfl rfl ?_
    refine v_cSP (pc' := 14) rfl dX6_isRoot_11 lk_RX6_57 rfl (c_step l G hq hg (x := k + 1) (K := K) (by omega) (by omega) (by omega) hk0 hk2 w) rfl rfl rfl ?_
    refine v_nm (fun step1 hstep1 => ?_)
    refine v_iload_n 2 (pc' := 15) rfl dX6_isRoot_14 rfl rfl ?_
    refine v_iload_n 3 (pc' := 16) rfl dX6_isRoot_15 rfl rfl ?_
    refine v_cSP (pc' := 19) rfl dX6_isRoot_16 lk_RX6_21 rfl (c_at l G hp hf.B (x := k + 1) (by omega) (by omega) (by omega) w) rfl rfl rfl ?_
    refine v_nm (fun at1 hat1 => ?_)
    refine v_icmp_eq (pc' := 22) (tgt := 24) rfl dX6_isRoot_19 (by decide) (by omega) (by omega) (fun c1 => ?_) (fun c1 => ?_)
    ·
      refine v_iinc (ls' := [(3, _), (0, _), (1, _), (2, _)]) 3 (pc' := 27) rfl dX6_isRoot_24 rfl rfl rfl ?_
      refine v_nl (fun x' hx' => ?_)
      refine v_goto (tgt := 2) dX6_isRoot_27 (by decide) ?_
      refine v_ls [1, 2, 3, 0] rfl ?_
      have e : pstep g K (k + 1) = f (k + 1) := by omega
      exact ih0 (x') (⟨k + 1, by omega, by omega, by simp only [rootB, hr, e, Bool.true_and, beq_self_eq_true]⟩) (by omega)
    ·
      have hno : rootB g K f 7 = false := rootB_no (x := k + 1) (by omega) (by omega) (by omega)
      refine v_iconst (pc' := 23) rfl dX6_isRoot_22 ?_
      refine v_iret dX6_isRoot_23 (by decide) (rfl) ?_
      exact ⟨by rw [hno]; rfl, rfl⟩
set_option maxHeartbeats 4000000 in
set_option maxRecDepth 100000 in
theorem c_black (l : Launch) (G : Gx) {o s a : Int} {f g : Nat → Nat} {k : Nat} (ho : o = k) (hk : k ≤ 3) (hs : s = (hx f : Nat)) (ha : a = (hx g : Nat)) (hf : Pm 7 f) (hg : Pm 7 g) (w : Wd) : SpP l G 3 mX6_black [aI (o), aI (s), aI (a)] w (((hx (pblack k f g) : Nat) : Int)) := by
  refine Sp_of RX6 rfl (by decide +kernel) rfl (Nat.le_of_ble_eq_true rfl) ?_
  refine v_iload_n 0 (pc' := 1) rfl dX6_black_0 rfl rfl ?_
  rcases (show o = 1 ∨ o = 3 ∨ (o ≠ 1 ∧ o ≠ 3) by omega) with sw0 | sw0 | sw0
  ·
    refine v_lsw (off := 27) (tgt := 28) dX6_black_1 (by decide) (by omega) (by rw [sw0]; decide) (by decide) ?_
    refine v_iload_n 1 (pc' := 29) rfl dX6_black_28 rfl rfl ?_
    refine v_cSP (pc' := 32) rfl dX6_black_29 lk_RX6_28 rfl (c_back l G hs hf w) rfl rfl rfl ?_
    refine v_nm (fun back1 hback1 => ?_)
    refine v_iret dX6_black_32 (by decide) (rfl) ?_
    have e : k = 1 := by omega
    subst e
    exact ⟨hback1, rfl⟩
  ·
    refine v_lsw (off := 32) (tgt := 33) dX6_black_1 (by decide) (by omega) (by rw [sw0]; decide) (by decide) ?_
    refine v_iload_n 1 (pc' := 34) rfl dX6_black_33 rfl rfl ?_
    refine v_iload_n 2 (pc' := 35) rfl dX6_black_34 rfl rfl ?_
    refine v_cSP (pc' := 38) rfl dX6_black_35 lk_RX6_60 rfl (c_faces l G hs ha hf hg w) rfl rfl rfl ?_
    refine v_nm (fun faces1 hfaces1 => ?_)
    refine v_iret dX6_black_38 (by decide) (rfl) ?_
    have e : k = 3 := by omega
    subst e
    exact ⟨hfaces1, rfl⟩
  ·
    refine v_lsw (off := 38) (tgt := 39) dX6_black_1 (by decide) (by omega) (by simp only [Op.lookupswitch.offset]; rw [if_neg (by omega), if_neg (by omega)]) (by decide) ?_
    refine v_iload_n 2 (pc' := 40) rfl dX6_black_39 rfl rfl ?_
    refine v_iret dX6_black_40 (by decide) (rfl) ?_
    exact ⟨by rw [ha]; unfold pblack; rw [if_neg (by omega), if_neg (by omega)], rfl⟩
set_option maxHeartbeats 4000000 in
set_option maxRecDepth 100000 in
theorem c_white (l : Launch) (G : Gx) {o s a : Int} {f g : Nat → Nat} {k : Nat} (ho : o = k) (hk : k ≤ 3) (hs : s = (hx f : Nat)) (ha : a = (hx g : Nat)) (hf : Pm 7 f) (hg : Pm 7 g) (w : Wd) : SpP l G 3 mX6_white [aI (o), aI (s), aI (a)] w (((hx (pwhite k f g) : Nat) : Int)) := by
  refine Sp_of RX6 rfl (by decide +kernel) rfl (Nat.le_of_ble_eq_true rfl) ?_
  refine v_iload_n 0 (pc' := 1) rfl dX6_white_0 rfl rfl ?_
  rcases (show o = 0 ∨ o = 1 ∨ o = 2 ∨ (o < 0 ∨ 2 < o) by omega) with sw0 | sw0 | sw0 | sw0
  ·
    refine v_tin (tgt := 28) 0 dX6_white_1 sw0 (by decide) (by decide) (by decide) rfl (by decide) ?_
    refine v_iload_n 1 (pc' := 29) rfl dX6_white_28 rfl rfl ?_
    refine v_iret dX6_white_29 (by decide) (rfl) ?_
    have e : k = 0 := by omega
    subst e
    exact ⟨hs, rfl⟩
  ·
    refine v_tin (tgt := 30) 1 dX6_white_1 sw0 (by decide) (by decide) (by decide) rfl (by decide) ?_
    refine v_iload_n 2 (pc' := 31) rfl dX6_white_30 rfl rfl ?_
    refine v_cSP (pc' := 34) rfl dX6_white_31 lk_RX6_28 rfl (c_back l G ha hg w) rfl rfl rfl ?_
    refine v_nm (fun back1 hback1 => ?_)
    refine v_iret dX6_white_34 (by decide) (rfl) ?_
    have e : k = 1 := by omega
    subst e
    exact ⟨hback1, rfl⟩
  ·
    refine v_tin (tgt := 35) 2 dX6_white_1 sw0 (by decide) (by decide) (by decide) rfl (by decide) ?_
    refine v_iload_n 1 (pc' := 36) rfl dX6_white_35 rfl rfl ?_
    refine v_iload_n 2 (pc' := 37) rfl dX6_white_36 rfl rfl ?_
    refine v_cSP (pc' := 40) rfl dX6_white_37 lk_RX6_60 rfl (c_faces l G hs ha hf hg w) rfl rfl rfl ?_
    refine v_nm (fun faces1 hfaces1 => ?_)
    refine v_iret dX6_white_40 (by decide) (rfl) ?_
    have e : k = 2 := by omega
    subst e
    exact ⟨hfaces1, rfl⟩
  ·
    refine v_tout (tgt := 41) dX6_white_1 (by omega) sw0 (by decide) ?_
    refine v_iload_n 2 (pc' := 42) rfl dX6_white_41 rfl rfl ?_
    refine v_iret dX6_white_42 (by decide) (rfl) ?_
    exact ⟨by rw [ha]; unfold pwhite; rw [if_neg (by omega), if_neg (by omega), if_neg (by omega)], rfl⟩

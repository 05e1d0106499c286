/-! ===== the reference: systems of blocks ===== -/
theorem bit7b : ∀ u : Nat, u < 128 → ∀ x : Nat, x < 7 → (u / 2 ^ x % 2 = 1 ↔ u &&& bt (x + 1) ≠ 0) := by decide +kernel
theorem mvL_n {p : Nat → Nat} {n S : Nat} (hS : S < 2 ^ n) : ∀ k, mvL p S (n + k) = mvL p S n
  | 0 => rfl
  | k + 1 => by
    show (if S &&& bt (n + k + 1) = 0 then mvL p S (n + k) else _) = _
    have h0 : S &&& bt (n + k + 1) = 0 := by
      apply Nat.eq_of_testBit_eq
      intro i
      rw [Nat.testBit_and, Nat.zero_testBit]
      unfold bt
      rw [show n + k + 1 - 1 = n + k by omega, Nat.testBit_two_pow]
      by_cases q : n + k = i
      · have : S.testBit i = false := Nat.testBit_lt_two_pow (Nat.lt_of_lt_of_le hS (Nat.pow_le_pow_right (by decide) (by omega)))
        rw [this]; rfl
      · simp [q]
    rw [if_pos h0]; exact mvL_n hS k
theorem mvd_n {p : Nat → Nat} {n S : Nat} (h7 : n ≤ 7) (hS : S < 2 ^ n) : mvd p S = mvL p S n := by
  have := mvL_n (p := p) hS (7 - n)
  rw [show n + (7 - n) = 7 by omega] at this; exact this
theorem bt_ltn {y n : Nat} (h1 : 1 ≤ y) (h2 : y ≤ n) : bt y < 2 ^ n := by unfold bt; exact Nat.pow_lt_pow_right (by decide) (by omega)
theorem mvL_ltn {p : Nat → Nat} {n : Nat} (hp : Pm n p) (S : Nat) : ∀ k, k ≤ n → mvL p S k < 2 ^ n
  | 0, _ => Nat.two_pow_pos n
  | k + 1, h => by
    have a := mvL_ltn hp S k (by omega)
    have b := hp.1 (k + 1) (by omega) h
    simp only [mvL]
    split
    · exact a
    · exact Nat.or_lt_two_pow a (bt_ltn b.1 b.2)
theorem popc_dis : ∀ u : Nat, u < 128 → ∀ v : Nat, v < 128 → u &&& v = 0 → popc (u ||| v) = popc u + popc v ∧ u ||| v < 128 := by decide +kernel
theorem and_or0 {x y s : Nat} (h1 : x &&& s = 0) (h2 : y &&& s = 0) : (x ||| y) &&& s = 0 := by rw [Nat.and_comm, Nat.and_or_distrib_left, Nat.and_comm s x, Nat.and_comm s y, h1, h2]; rfl
def orL : List Nat → Nat
  | [] => 0
  | x :: xs => x ||| orL xs
theorem orL_and {s : Nat} : ∀ {L : List Nat}, (∀ x, x ∈ L → x &&& s = 0) → orL L &&& s = 0
  | [], _ => Nat.zero_and s
  | x :: xs, h => and_or0 (h x List.mem_cons_self) (orL_and (fun y hy => h y (List.mem_cons_of_mem _ hy)))
theorem orL_pop : ∀ {L : List Nat}, (∀ x, x ∈ L → x < 128 ∧ x ≠ 0) → L.Pairwise (fun x y => x &&& y = 0) → orL L < 128 ∧ L.length ≤ popc (orL L)
  | [], _, _ => by decide
  | x :: xs, h, hp => by
    rw [List.pairwise_cons] at hp
    have ih := orL_pop (fun y hy => h y (List.mem_cons_of_mem _ hy)) hp.2
    have hx := h x List.mem_cons_self
    have hd : x &&& orL xs = 0 := by rw [Nat.and_comm]; exact orL_and (fun y hy => by rw [Nat.and_comm]; exact hp.1 y hy)
    have k := popc_dis x hx.1 (orL xs) ih.1 hd
    have c := popc_pos x hx.1 hx.2
    exact ⟨k.2, by show xs.length + 1 ≤ popc (x ||| orL xs); omega⟩
theorem BO.le7 {L : List Nat} (h : BO L) : L.length ≤ 7 := by
  have := orL_pop h.1 h.2
  have := popc_le (orL L) this.1
  omega
theorem BO.le6 {L : List Nat} {s : Nat} (h : BO L) (hs : s < 128) (h0 : s ≠ 0) (hd : ∀ x, x ∈ L → x &&& s = 0) : L.length ≤ 6 := by
  have a := orL_pop h.1 h.2
  have b := popc_dis s hs (orL L) a.1 (by rw [Nat.and_comm]; exact orL_and hd)
  have c := popc_pos s hs h0
  have d := popc_le _ b.2
  omega
def SMW (w : Wd) (L : List Nat) : Prop := w 63 33 = (L.length : Nat) ∧ ∀ j, j < L.length → w 81 j = (L.getD j 0 : Nat)
theorem SMW.push {w w' : Wd} {L : List Nat} {S m : Nat} (h : SMW w L) (hm : m = L.length) (e : w' = up (up w 81 m (S : Nat)) 63 33 ((m : Int) + 1)) : SMW w' (L ++ [S]) := by
  subst e
  refine ⟨by rw [up_eq, List.length_append]; simp; omega, fun j hj => ?_⟩
  rw [List.length_append] at hj
  have hj' : j < L.length + 1 := hj
  rw [up_ne _ _ (by omega), up_at, List.getD_eq_getElem?_getD]
  by_cases q : j = m
  · rw [if_pos ⟨rfl, q⟩, List.getElem?_append_right (by omega), show j - L.length = 0 by omega]; rfl
  · rw [if_neg (fun e => q e.2), List.getElem?_append_left (by omega), ← List.getD_eq_getElem?_getD]; exact h.2 j (by omega)
theorem adm_yes {L : List Nat} {s k : Nat} (hk : k < L.length) (h : ∀ j, j < k → L.getD j 0 ≠ s ∧ L.getD j 0 &&& s = 0) (e : L.getD k 0 = s) : admL L s = some L := by
  unfold admL; rw [if_pos ((admG_hit hk h).1 e)]
theorem adm_no {L : List Nat} {s k : Nat} (hk : k < L.length) (h : ∀ j, j < k → L.getD j 0 ≠ s ∧ L.getD j 0 &&& s = 0) (e : L.getD k 0 ≠ s) (f : L.getD k 0 &&& s ≠ 0) : admL L s = none := by
  have := (admG_hit hk h).2 e f
  unfold admL; rw [if_neg (by omega), if_pos this]
theorem adm_new {L : List Nat} {s : Nat} (h : ∀ j, j < L.length → L.getD j 0 ≠ s ∧ L.getD j 0 &&& s = 0) (hl : L.length ≤ 6) : admL L s = some (L ++ [s]) := by
  have := admG_drop (set := s) L.length (Nat.le_refl _) h
  rw [List.drop_length] at this
  unfold admL; rw [this]
  show (if (0 : Nat) = 1 then _ else if (0 : Nat) = 2 then _ else if 7 ≤ L.length then _ else _) = _
  rw [if_neg (by decide), if_neg (by decide), if_neg (by omega)]
set_option maxHeartbeats 4000000 in
set_option maxRecDepth 100000 in
theorem c_image_76 (l : Launch) (G : Gx) {S0 : Int} {S n : Nat} {p : Nat → Nat} (hS : S0 = (S : Nat)) (hS2 : S < 2 ^ n) (hp : Pm n p) (hn7 : n ≤ 7) (w : Wd) (r0 : w 63 0 = n) (hD : ∀ x, 1 ≤ x → x ≤ n → w 76 x = (p x : Nat)) : SpP l G 0 mX11_image [aR 63, aI (S0), aR 76] w (((mvd p S : Nat) : Int)) := by
  have hS7 : S < 128 := Nat.lt_of_lt_of_le hS2 (Nat.pow_le_pow_right (show 2 > 0 by decide) hn7)
  refine Sp_of RX11 rfl (by decide +kernel) rfl (Nat.le_of_ble_eq_true rfl) ?_
  refine v_iconst (pc' := 1) rfl dX11_image_0 ?_
  refine v_istore_n (ls' := [(3, _), (0, _), (1, _), (2, _)]) (pc' := 2) rfl dX11_image_1 rfl rfl rfl ?_
  refine v_iconst (pc' := 3) rfl dX11_image_2 ?_
  refine v_istore (ls' := [(4, _), (3, _), (0, _), (1, _), (2, _)]) (pc' := 5) rfl dX11_image_3 rfl rfl ?_
  refine v_ls [2, 3, 4, 1, 0] rfl ?_
  refine v_loop2 5 (fun (is : Int) (d : Int) => ∃ k : Nat, d = (k : Int) + 1 ∧ k ≤ n ∧ is = (mvL p S k : Nat)) (fun (is : Int) (d : Int) => (8 - d).toNat) (fun (is : Int) (d : Int) => [(0, aR 63), (1, aI (S0)), (2, aR 76), (3, aI (is)), (4, aI (d))]) (fun (is : Int) (d : Int) => []) (fun (is : Int) (d : Int) => w) (fun is d hI0 ih0 => ?_) (0) (1) (⟨0, rfl, by omega, rfl⟩)
  obtain ⟨k, hd, hk, his⟩ := hI0
  refine v_iload 4 (pc' := 7) rfl dX11_image_5 rfl ?_
  refine v_aload_n 0 (pc' := 8) rfl dX11_image_7 rfl rfl ?_
  refine v_get (z := (n : Int)) (pc' := 11) rfl dX11_image_8 fk_RX11_125 ly_63 rfl (r0) ?_
  refine v_icmp_gt (pc' := 14) (tgt := 47) rfl dX11_image_11 (by decide) (by omega) (by omega) (fun c0 => ?_) (fun c0 => ?_)
  ·
    have hke : k = n := by omega
    refine v_iload_n 3 (pc' := 48) rfl dX11_image_47 rfl rfl ?_
    refine v_iret dX11_image_48 (by decide) (rfl) ?_
    exact ⟨by rw [his, hke, mvd_n hn7 hS2], rfl⟩
  ·
    have hb7 := bit7b S hS7 k (by omega)
    have hpk := hp.1 (k + 1) (by omega) (by omega)
    have J40 : ∀ (bv : Int) (hJ : bv = ((mvL p S (k + 1) : Nat) : Int)), V (mX l G 0 5 (some .int) (fun z w9 => z = ((mvd p S : Nat) : Int) ∧ w9 = w)) RX11 cX11_image 40 [(0, aR 63), (1, aI (S0)), (2, aR 76), (3, aI (is)), (4, aI (d))] [aI (bv)] w := by
      intro bv hJ
      refine v_istore_n (ls' := [(3, _), (0, _), (1, _), (2, _), (4, _)]) (pc' := 41) rfl dX11_image_40 rfl rfl rfl ?_
      refine v_iinc (ls' := [(4, _), (3, _), (0, _), (1, _), (2, _)]) 4 (pc' := 44) rfl dX11_image_41 rfl rfl rfl ?_
      refine v_nl (fun d' hd' => ?_)
      refine v_goto (tgt := 5) dX11_image_44 (by decide) ?_
      refine v_ls [2, 3, 4, 1, 0] rfl ?_
      exact ih0 (bv) (d') (⟨k + 1, by omega, by omega, by first | exact his' | exact hJ⟩) (by omega)
    refine v_iload_n 1 (pc' := 15) rfl dX11_image_14 rfl rfl ?_
    refine v_iload 4 (pc' := 17) rfl dX11_image_15 rfl ?_
    refine v_iconst (pc' := 18) rfl dX11_image_17 ?_
    refine v_isub (pc' := 19) rfl dX11_image_18 ?_
    refine v_ishr (z := ((S / 2 ^ k : Nat) : Int)) (pc' := 20) rfl dX11_image_19 (iz_shrE hS (by omega) (by omega) (by omega)) ?_
    refine v_iconst (pc' := 21) rfl dX11_image_20 ?_
    refine v_iand (z := ((S / 2 ^ k % 2 : Nat) : Int)) (pc' := 22) rfl dX11_image_21 (iz_and1 rfl) ?_
    refine v_iconst (pc' := 23) rfl dX11_image_22 ?_
    refine v_icmp_ne (pc' := 26) (tgt := 39) rfl dX11_image_23 (by decide) (by omega) (by omega) (fun c1 => ?_) (fun c1 => ?_)
    ·
      have hb : S &&& bt (k + 1) = 0 := Decidable.byContradiction (fun q => by have := hb7.mpr q; omega)
      refine v_iload_n 3 (pc' := 40) rfl dX11_image_39 rfl rfl ?_
      exact J40 (is) (by simp only [mvL]; rw [if_pos hb]; exact his)
    ·
      have hb : ¬ S &&& bt (k + 1) = 0 := hb7.mp (by omega)
      refine v_iload_n 3 (pc' := 27) rfl dX11_image_26 rfl rfl ?_
      refine v_iconst (pc' := 28) rfl dX11_image_27 ?_
      refine v_aload_n 2 (pc' := 29) rfl dX11_image_28 rfl rfl ?_
      refine v_iload 4 (pc' := 31) rfl dX11_image_29 rfl ?_
      refine v_iald (z := ((p (k + 1) : Nat) : Int)) (pc' := 32) rfl dX11_image_31 ly_76 (by omega) (by omega) rfl (by rw [show d.toNat = k + 1 by omega]; exact hD (k + 1) (by omega) (by omega)) ?_
      refine v_iconst (pc' := 33) rfl dX11_image_32 ?_
      refine v_isub (pc' := 34) rfl dX11_image_33 ?_
      refine v_ishl (z := ((bt (p (k + 1)) : Nat) : Int)) (pc' := 35) rfl dX11_image_34 (by rw [iz_one_shl (k := p (k + 1) - 1) (by omega) (by omega)]; rfl) ?_
      refine v_ior (z := ((mvL p S k ||| bt (p (k + 1)) : Nat) : Int)) (pc' := 36) rfl dX11_image_35 (iz_orE his rfl) ?_
      refine v_goto (tgt := 40) dX11_image_36 (by decide) ?_
      exact J40 ((((mvL p S k ||| bt (p (k + 1)) : Nat) : Int))) (by simp only [mvL]; rw [if_neg hb])
set_option maxHeartbeats 4000000 in
set_option maxRecDepth 100000 in
theorem c_image_77 (l : Launch) (G : Gx) {S0 : Int} {S n : Nat} {p : Nat → Nat} (hS : S0 = (S : Nat)) (hS2 : S < 2 ^ n) (hp : Pm n p) (hn7 : n ≤ 7) (w : Wd) (r0 : w 63 0 = n) (hD : ∀ x, 1 ≤ x → x ≤ n → w 77 x = (p x : Nat)) : SpP l G 0 mX11_image [aR 63, aI (S0), aR 77] w (((mvd p S : Nat) : Int)) := by
  have hS7 : S < 128 := Nat.lt_of_lt_of_le hS2 (Nat.pow_le_pow_right (show 2 > 0 by decide) hn7)
  refine Sp_of RX11 rfl (by decide +kernel) rfl (Nat.le_of_ble_eq_true rfl) ?_
  refine v_iconst (pc' := 1) rfl dX11_image_0 ?_
  refine v_istore_n (ls' := [(3, _), (0, _), (1, _), (2, _)]) (pc' := 2) rfl dX11_image_1 rfl rfl rfl ?_
  refine v_iconst (pc' := 3) rfl dX11_image_2 ?_
  refine v_istore (ls' := [(4, _), (3, _), (0, _), (1, _), (2, _)]) (pc' := 5) rfl dX11_image_3 rfl rfl ?_
  refine v_ls [2, 3, 4, 1, 0] rfl ?_
  refine v_loop2 5 (fun (is : Int) (d : Int) => ∃ k : Nat, d = (k : Int) + 1 ∧ k ≤ n ∧ is = (mvL p S k : Nat)) (fun (is : Int) (d : Int) => (8 - d).toNat) (fun (is : Int) (d : Int) => [(0, aR 63), (1, aI (S0)), (2, aR 77), (3, aI (is)), (4, aI (d))]) (fun (is : Int) (d : Int) => []) (fun (is : Int) (d : Int) => w) (fun is d hI0 ih0 => ?_) (0) (1) (⟨0, rfl, by omega, rfl⟩)
  obtain ⟨k, hd, hk, his⟩ := hI0
  refine v_iload 4 (pc' := 7) rfl dX11_image_5 rfl ?_
  refine v_aload_n 0 (pc' := 8) rfl dX11_image_7 rfl rfl ?_
  refine v_get (z := (n : Int)) (pc' := 11) rfl dX11_image_8 fk_RX11_125 ly_63 rfl (r0) ?_
  refine v_icmp_gt (pc' := 14) (tgt := 47) rfl dX11_image_11 (by decide) (by omega) (by omega) (fun c0 => ?_) (fun c0 => ?_)
  ·
    have hke : k = n := by omega
    refine v_iload_n 3 (pc' := 48) rfl dX11_image_47 rfl rfl ?_
    refine v_iret dX11_image_48 (by decide) (rfl) ?_
    exact ⟨by rw [his, hke, mvd_n hn7 hS2], rfl⟩
  ·
    have hb7 := bit7b S hS7 k (by omega)
    have hpk := hp.1 (k + 1) (by omega) (by omega)
    have J40 : ∀ (bv : Int) (hJ : bv = ((mvL p S (k + 1) : Nat) : Int)), V (mX l G 0 5 (some .int) (fun z w9 => z = ((mvd p S : Nat) : Int) ∧ w9 = w)) RX11 cX11_image 40 [(0, aR 63), (1, aI (S0)), (2, aR 77), (3, aI (is)), (4, aI (d))] [aI (bv)] w := by
      intro bv hJ
      refine v_istore_n (ls' := [(3, _), (0, _), (1, _), (2, _), (4, _)]) (pc' := 41) rfl dX11_image_40 rfl rfl rfl ?_
      refine v_iinc (ls' := [(4, _), (3, _), (0, _), (1, _), (2, _)]) 4 (pc' := 44) rfl dX11_image_41 rfl rfl rfl ?_
      refine v_nl (fun d' hd' => ?_)
      refine v_goto (tgt := 5) dX11_image_44 (by decide) ?_
      refine v_ls [2, 3, 4, 1, 0] rfl ?_
      exact ih0 (bv) (d') (⟨k + 1, by omega, by omega, by first | exact his' | exact hJ⟩) (by omega)
    refine v_iload_n 1 (pc' := 15) rfl dX11_image_14 rfl rfl ?_
    refine v_iload 4 (pc' := 17) rfl dX11_image_15 rfl ?_
    refine v_iconst (pc' := 18) rfl dX11_image_17 ?_
    refine v_isub (pc' := 19) rfl dX11_image_18 ?_
    refine v_ishr (z := ((S / 2 ^ k : Nat) : Int)) (pc' := 20) rfl dX11_image_19 (iz_shrE hS (by omega) (by omega) (by omega)) ?_
    refine v_iconst (pc' := 21) rfl dX11_image_20 ?_
    refine v_iand (z := ((S / 2 ^ k % 2 : Nat) : Int)) (pc' := 22) rfl dX11_image_21 (iz_and1 rfl) ?_
    refine v_iconst (pc' := 23) rfl dX11_image_22 ?_
    refine v_icmp_ne (pc' := 26) (tgt := 39) rfl dX11_image_23 (by decide) (by omega) (by omega) (fun c1 => ?_) (fun c1 => ?_)
    ·
      have hb : S &&& bt (k + 1) = 0 := Decidable.byContradiction (fun q => by have := hb7.mpr q; omega)
      refine v_iload_n 3 (pc' := 40) rfl dX11_image_39 rfl rfl ?_
      exact J40 (is) (by simp only [mvL]; rw [if_pos hb]; exact his)
    ·
      have hb : ¬ S &&& bt (k + 1) = 0 := hb7.mp (by omega)
      refine v_iload_n 3 (pc' := 27) rfl dX11_image_26 rfl rfl ?_
      refine v_iconst (pc' := 28) rfl dX11_image_27 ?_
      refine v_aload_n 2 (pc' := 29) rfl dX11_image_28 rfl rfl ?_
      refine v_iload 4 (pc' := 31) rfl dX11_image_29 rfl ?_
      refine v_iald (z := ((p (k + 1) : Nat) : Int)) (pc' := 32) rfl dX11_image_31 ly_77 (by omega) (by omega) rfl (by rw [show d.toNat = k + 1 by omega]; exact hD (k + 1) (by omega) (by omega)) ?_
      refine v_iconst (pc' := 33) rfl dX11_image_32 ?_
      refine v_isub (pc' := 34) rfl dX11_image_33 ?_
      refine v_ishl (z := ((bt (p (k + 1)) : Nat) : Int)) (pc' := 35) rfl dX11_image_34 (by rw [iz_one_shl (k := p (k + 1) - 1) (by omega) (by omega)]; rfl) ?_
      refine v_ior (z := ((mvL p S k ||| bt (p (k + 1)) : Nat) : Int)) (pc' := 36) rfl dX11_image_35 (iz_orE his rfl) ?_
      refine v_goto (tgt := 40) dX11_image_36 (by decide) ?_
      exact J40 ((((mvL p S k ||| bt (p (k + 1)) : Nat) : Int))) (by simp only [mvL]; rw [if_neg hb])
set_option maxHeartbeats 4000000 in
set_option maxRecDepth 100000 in
theorem c_fits (l : Launch) (G : Gx) {S0 : Int} {S : Nat} {L : List Nat} (hS : S0 = (S : Nat)) (hS2 : S < 128) (h0 : S ≠ 0) (hB : BO L) (w : Wd) (hW : SMW w L) : Sp l G 0 mX11_fits [aR 63, aI (S0)] w (fun z w' => (z = if (admL L S).isSome = true then 1 else 0) ∧ (∀ K, admL L S = some K → SMW w' K) ∧ (∀ q, q ≠ 33 → w' 63 q = w 63 q) ∧ Fr [63, 81] w w') := by
  have m33 := hW.1
  have hl7 := hB.le7
  refine Sp_of RX11 rfl (by decide +kernel) rfl (Nat.le_of_ble_eq_true rfl) ?_
  refine v_iconst (pc' := 1) rfl dX11_fits_0 ?_
  refine v_istore_n (ls' := [(2, _), (0, _), (1, _)]) (pc' := 2) rfl dX11_fits_1 rfl rfl rfl ?_
  refine v_ls [1, 2, 0] rfl ?_
  refine v_loop1 2 (fun (i : Int) => ∃ k : Nat, i = k ∧ k ≤ L.length ∧ ∀ j, j < k → L.getD j 0 ≠ S ∧ L.getD j 0 &&& S = 0) (fun (i : Int) => (8 - i).toNat) (fun (i : Int) => [(0, aR 63), (1, aI (S0)), (2, aI (i))]) (fun (i : Int) => []) (fun (i : Int) => w) (fun i hI0 ih0 => ?_) (0) (⟨0, rfl, by omega, fun j hj => absurd hj (Nat.not_lt_zero _)⟩)
  obtain ⟨k, hi, hk, hno⟩ := hI0
  refine v_iload_n 2 (pc' := 3) rfl dX11_fits_2 rfl rfl ?_
  refine v_aload_n 0 (pc' := 4) rfl dX11_fits_3 rfl rfl ?_
  refine v_get (z := ((L.length : Nat) : Int)) (pc' := 7) rfl dX11_fits_4 fk_RX11_301 ly_63 rfl (m33) ?_
  refine v_icmp_ge (pc' := 10) (tgt := 41) rfl dX11_fits_7 (by decide) (by omega) (by omega) (fun c0 => ?_) (fun c0 => ?_)
  ·
    have hke : k = L.length := by omega
    rw [hke] at hno
    have hl6 := hB.le6 hS2 h0 (fun x hx => by obtain ⟨j, hj, e⟩ := mem_getD (d := 0) hx; rw [← e]; exact (hno j hj).2)
    have ha := adm_new hno hl6
    refine v_aload_n 0 (pc' := 42) rfl dX11_fits_41 rfl rfl ?_
    refine v_getR (pc' := 45) rfl dX11_fits_42 fk_RX11_62 ly_63 rfl ?_
    refine v_aload_n 0 (pc' := 46) rfl dX11_fits_45 rfl rfl ?_
    refine v_get (z := ((L.length : Nat) : Int)) (pc' := 49) rfl dX11_fits_46 fk_RX11_301 ly_63 rfl (m33) ?_
    refine v_iload_n 1 (pc' := 50) rfl dX11_fits_49 rfl rfl ?_
    refine v_iast (pc' := 51) rfl dX11_fits_50 ly_81 (by omega) (by omega) rfl ?_
    refine v_nmw (fun w1 hw1 => ?_)
    have m33 : w1 63 33 = ((L.length : Nat) : Int) := by rw [hw1, up_ne _ _ (by omega)]; exact m33
    refine v_aload_n 0 (pc' := 52) rfl dX11_fits_51 rfl rfl ?_
    refine v_aload_n 0 (pc' := 53) rfl dX11_fits_52 rfl rfl ?_
    refine v_get (z := ((L.length : Nat) : Int)) (pc' := 56) rfl dX11_fits_53 fk_RX11_301 ly_63 rfl (m33) ?_
    refine v_iconst (pc' := 57) rfl dX11_fits_56 ?_
    refine v_iadd (pc' := 58) rfl dX11_fits_57 ?_
    refine v_put (pc' := 61) rfl dX11_fits_58 fi_RX11_301 ly_63 rfl ?_
    refine v_nmw (fun w2 hw2 => ?_)
    refine v_iconst (pc' := 62) rfl dX11_fits_61 ?_
    refine v_iret dX11_fits_62 (by decide) (rfl) ?_
    exact ⟨by simp [ha], fun K hK => by rw [ha] at hK; cases hK; exact hW.push (m := L.length) rfl (by rw [hw2, hw1, hS]; rfl), fun q hq => by rw [hw2, up_ne _ _ (by omega), hw1, up_ne _ _ (by omega)], by rw [hw2, hw1]; exact ((Fr.rf _ _).up rfl).up rfl⟩
  ·
    have hkl : k < L.length := by omega
    have hkb := (hB.1 _ (getD_mem (d := 0) hkl)).1
    refine v_aload_n 0 (pc' := 11) rfl dX11_fits_10 rfl rfl ?_
    refine v_getR (pc' := 14) rfl dX11_fits_11 fk_RX11_62 ly_63 rfl ?_
    refine v_iload_n 2 (pc' := 15) rfl dX11_fits_14 rfl rfl ?_
    refine v_iald (z := ((L.getD k 0 : Nat) : Int)) (pc' := 16) rfl dX11_fits_15 ly_81 (by omega) (by omega) rfl (by rw [show i.toNat = k by omega]; exact hW.2 k hkl) ?_
    refine v_iload_n 1 (pc' := 17) rfl dX11_fits_16 rfl rfl ?_
    refine v_icmp_ne (pc' := 20) (tgt := 22) rfl dX11_fits_17 (by decide) (by omega) (by omega) (fun c1 => ?_) (fun c1 => ?_)
    ·
      refine v_aload_n 0 (pc' := 23) rfl dX11_fits_22 rfl rfl ?_
      refine v_getR (pc' := 26) rfl dX11_fits_23 fk_RX11_62 ly_63 rfl ?_
      refine v_iload_n 2 (pc' := 27) rfl dX11_fits_26 rfl rfl ?_
      refine v_iald (z := ((L.getD k 0 : Nat) : Int)) (pc' := 28) rfl dX11_fits_27 ly_81 (by omega) (by omega) rfl (by rw [show i.toNat = k by omega]; exact hW.2 k hkl) ?_
      refine v_iload_n 1 (pc' := 29) rfl dX11_fits_28 rfl rfl ?_
      refine v_iand (z := ((L.getD k 0 &&& S : Nat) : Int)) (pc' := 30) rfl dX11_fits_29 (by rw [hS]; exact iz_and _ _) ?_
      refine v_if_eq (pc' := 33) (tgt := 35) rfl dX11_fits_30 (by decide) (by have : L.getD k 0 &&& S ≤ L.getD k 0 := Nat.and_le_left; omega) (fun c2 => ?_) (fun c2 => ?_)
      ·
        refine v_iinc (ls' := [(2, _), (0, _), (1, _)]) 2 (pc' := 38) rfl dX11_fits_35 rfl rfl rfl ?_
        refine v_nl (fun i' hi' => ?_)
        refine v_goto (tgt := 2) dX11_fits_38 (by decide) ?_
        refine v_ls [1, 2, 0] rfl ?_
        exact ih0 (i') (⟨k + 1, by omega, by omega, fun j hj => by
            by_cases q : j = k
            · rw [q]; exact ⟨fun e => c1 (by omega), by omega⟩
            · exact hno j (by omega)⟩) (by omega)
      ·
        have ha := adm_no hkl hno (fun e => c1 (by omega)) (by omega)
        refine v_iconst (pc' := 34) rfl dX11_fits_33 ?_
        refine v_iret dX11_fits_34 (by decide) (rfl) ?_
        exact ⟨by simp [ha], fun K hK => (by rw [ha] at hK; cases hK), fun _ _ => rfl, Fr.rf _ _⟩
    ·
      have ha := adm_yes hkl hno (by omega)
      refine v_iconst (pc' := 21) rfl dX11_fits_20 ?_
      refine v_iret dX11_fits_21 (by decide) (rfl) ?_
      exact ⟨by simp [ha], fun K hK => by rw [ha] at hK; cases hK; exact hW, fun _ _ => rfl, Fr.rf _ _⟩
theorem adm_all {P : Nat → Prop} {L M : List Nat} {S : Nat} (h : ∀ x, x ∈ L → P x) (hS : P S) (e : admL L S = some M) : ∀ x, x ∈ M → P x := by
  unfold admL at e
  split at e
  · cases e; exact h
  · split at e
    · cases e
    · split at e
      · cases e
      · cases e
        intro x hx
        rw [List.mem_append, List.mem_singleton] at hx
        rcases hx with q | q
        · exact h x q
        · rw [q]; exact hS
theorem some_of {α : Type} {o : Option α} {z : Int} (h : z = if o.isSome = true then 1 else 0) (hz : z ≠ 0) : ∃ K, o = some K := by
  cases o with
  | none => exact absurd h hz
  | some K => exact ⟨K, rfl⟩
theorem none_of {α : Type} {o : Option α} {z : Int} (h : z = if o.isSome = true then 1 else 0) (hz : z = 0) : o = none := by
  cases o with
  | none => rfl
  | some K => rw [hz] at h; exact absurd (show (0 : Int) = 1 from h) (by decide)
theorem os_r {α : Type} {o : Option α} {z : Int} (h : z = if o.isSome = true then 1 else 0) : rg z := by rw [h]; split <;> decide
def D2 (w : Wd) (n : Nat) (s a : Nat → Nat) : Prop := (∀ x, 1 ≤ x → x ≤ n → w 76 x = (s x : Nat)) ∧ (∀ x, 1 ≤ x → x ≤ n → w 77 x = (a x : Nat))
def Ks (w w' : Wd) : Prop := (∀ q, q ≠ 33 → w' 63 q = w 63 q) ∧ Fr [63, 76, 77, 81] w w'
theorem Ks.tr {w w1 w2 : Wd} (h : Ks w w1) (h2 : Ks w1 w2) : Ks w w2 := ⟨fun q hq => (h2.1 q hq).trans (h.1 q hq), h.2.trs h2.2⟩
theorem Ks.fit {w w' : Wd} (h1 : ∀ q, q ≠ 33 → w' 63 q = w 63 q) (h2 : Fr [63, 81] w w') : Ks w w' := ⟨h1, h2.mono rfl⟩
theorem D2.fit {w w' : Wd} {n : Nat} {s a : Nat → Nat} (h : D2 w n s a) (h2 : Fr [63, 81] w w') : D2 w' n s a := ⟨fun x a b => (h2 76 x rfl).trans (h.1 x a b), fun x a b => (h2 77 x rfl).trans (h.2 x a b)⟩
theorem layF_none1 {s a : Nat → Nat} {k m : Nat} {L : List Nat} (hk : k < L.length) (e : admL L (mvd s (L.getD k 0)) = none) : layF s a (m + 1) k L = none := by
  simp only [layF]; rw [if_pos hk, e]
theorem layF_none2 {s a : Nat → Nat} {k m : Nat} {L M : List Nat} (hk : k < L.length) (e : admL L (mvd s (L.getD k 0)) = some M) (e2 : admL M (mvd a (M.getD k 0)) = none) : layF s a (m + 1) k L = none := by
  simp only [layF]; rw [if_pos hk, e]; simp only []; rw [e2]
theorem layF_some {s a : Nat → Nat} {k m : Nat} {L M K : List Nat} (hk : k < L.length) (e : admL L (mvd s (L.getD k 0)) = some M) (e2 : admL M (mvd a (M.getD k 0)) = some K) : layF s a (m + 1) k L = layF s a m (k + 1) K := by
  conv => lhs; simp only [layF]
  rw [if_pos hk, e]; simp only []; rw [e2]
set_option maxHeartbeats 4000000 in
set_option maxRecDepth 100000 in
theorem c_isSystem (l : Launch) (G : Gx) {v0 : Int} {v : Nat} (hv : v0 = (v : Nat)) (hv0 : v ≠ 0) {n : Nat} {s a : Nat → Nat} (hV : MapV n s a) (hv2 : v < 2 ^ n) (w : Wd) (hM : RMW w n s a) : Sp l G 1 mX11_isSystem [aR 63, aI (v0)] w (fun z w' => (z = if (layN s a v).isSome = true then 1 else 0) ∧ (∀ K, layN s a v = some K → SMW w' K) ∧ D2 w' n s a ∧ Ks w w') := by
  obtain ⟨⟨hn1, hn7⟩, hs, ha⟩ := id hV
  obtain ⟨r0, r1, r2⟩ := id hM
  have s7 := hs.b7 hn7
  have a7 := ha.b7 hn7
  have h2n : 2 ^ n ≤ 128 := Nat.pow_le_pow_right (show 2 > 0 by decide) hn7
  refine Sp_of RX11 rfl (by decide +kernel) rfl (Nat.le_of_ble_eq_true rfl) ?_
  refine v_aload_n 0 (pc' := 1) rfl dX11_isSystem_0 rfl rfl ?_
  refine v_aload_n 0 (pc' := 2) rfl dX11_isSystem_1 rfl rfl ?_
  refine v_get (z := ((cdk s n : Nat) : Int)) (pc' := 5) rfl dX11_isSystem_2 fk_RX11_149 ly_63 rfl (r1) ?_
  refine v_aload_n 0 (pc' := 6) rfl dX11_isSystem_5 rfl rfl ?_
  refine v_getR (pc' := 9) rfl dX11_isSystem_6 fk_RX11_47 ly_63 rfl ?_
  refine v_cVv (pc' := 12) rfl dX11_isSystem_9 lk_RX11_133 ly_63 rfl (c_reads_76 l G (f := s) rfl hs hn1 hn7 w r0) rfl rfl rfl (fun reads1 w1 hq1 => ?_)
  obtain ⟨x1, f1⟩ := hq1
  have r0 : w1 63 0 = (n : Int) := (f1 63 0 (by decide)).trans r0
  have r1 : w1 63 1 = ((cdk s n : Nat) : Int) := (f1 63 1 (by decide)).trans r1
  have r2 : w1 63 2 = ((cdk a n : Nat) : Int) := (f1 63 2 (by decide)).trans r2
  refine v_aload_n 0 (pc' := 13) rfl dX11_isSystem_12 rfl rfl ?_
  refine v_aload_n 0 (pc' := 14) rfl dX11_isSystem_13 rfl rfl ?_
  refine v_get (z := ((cdk a n : Nat) : Int)) (pc' := 17) rfl dX11_isSystem_14 fk_RX11_152 ly_63 rfl (r2) ?_
  refine v_aload_n 0 (pc' := 18) rfl dX11_isSystem_17 rfl rfl ?_
  refine v_getR (pc' := 21) rfl dX11_isSystem_18 fk_RX11_50 ly_63 rfl ?_
  refine v_cVv (pc' := 24) rfl dX11_isSystem_21 lk_RX11_133 ly_63 rfl (c_reads_77 l G (f := a) rfl ha hn1 hn7 w1 r0) rfl rfl rfl (fun reads2 w2 hq2 => ?_)
  obtain ⟨x2, f2⟩ := hq2
  have r0 : w2 63 0 = (n : Int) := (f2 63 0 (by decide)).trans r0
  have r1 : w2 63 1 = ((cdk s n : Nat) : Int) := (f2 63 1 (by decide)).trans r1
  have r2 : w2 63 2 = ((cdk a n : Nat) : Int) := (f2 63 2 (by decide)).trans r2
  refine v_aload_n 0 (pc' := 25) rfl dX11_isSystem_24 rfl rfl ?_
  refine v_iconst (pc' := 26) rfl dX11_isSystem_25 ?_
  refine v_put (pc' := 29) rfl dX11_isSystem_26 fi_RX11_301 ly_63 rfl ?_
  refine v_nmw (fun w3 hw3 => ?_)
  have r0 : w3 63 0 = (n : Int) := by rw [hw3, up_ne _ _ (by omega)]; exact r0
  have r1 : w3 63 1 = ((cdk s n : Nat) : Int) := by rw [hw3, up_ne _ _ (by omega)]; exact r1
  have r2 : w3 63 2 = ((cdk a n : Nat) : Int) := by rw [hw3, up_ne _ _ (by omega)]; exact r2
  refine v_aload_n 0 (pc' := 30) rfl dX11_isSystem_29 rfl rfl ?_
  refine v_getR (pc' := 33) rfl dX11_isSystem_30 fk_RX11_62 ly_63 rfl ?_
  refine v_iconst (pc' := 34) rfl dX11_isSystem_33 ?_
  refine v_iload_n 1 (pc' := 35) rfl dX11_isSystem_34 rfl rfl ?_
  refine v_iast (pc' := 36) rfl dX11_isSystem_35 ly_81 (by omega) (by omega) rfl ?_
  refine v_nmw (fun w4 hw4 => ?_)
  have r0 : w4 63 0 = (n : Int) := by rw [hw4, up_ne _ _ (by omega)]; exact r0
  have r1 : w4 63 1 = ((cdk s n : Nat) : Int) := by rw [hw4, up_ne _ _ (by omega)]; exact r1
  have r2 : w4 63 2 = ((cdk a n : Nat) : Int) := by rw [hw4, up_ne _ _ (by omega)]; exact r2
  have hS4 : SMW w4 [v] := ⟨by rw [hw4, up_ne _ _ (by omega), hw3, up_eq]; rfl, fun j hj => by
      have hj1 : j < 1 := hj
      have : j = 0 := by omega
      subst this
      rw [hw4]; exact (up_eq _ _ _ _).trans hv⟩
  have hD4 : D2 w4 n s a := ⟨fun x p q => by rw [hw4, up_ne _ _ (by omega), hw3, up_ne _ _ (by omega), f2 76 x rfl]; exact x1 x p q, fun x p q => by rw [hw4, up_ne _ _ (by omega), hw3, up_ne _ _ (by omega)]; exact x2 x p q⟩
  have hK4 : Ks w w4 := ⟨fun q hq => by rw [hw4, up_ne _ _ (by omega), hw3, up_ne _ _ (by omega), f2 63 q rfl, f1 63 q rfl], by rw [hw4, hw3]; exact (((f1.mono rfl).trs (f2.mono rfl)).up rfl).up rfl⟩
  refine v_iconst (pc' := 37) rfl dX11_isSystem_36 ?_
  refine v_istore_n (ls' := [(2, _), (0, _), (1, _)]) (pc' := 38) rfl dX11_isSystem_37 rfl rfl rfl ?_
  refine v_ls [1, 2, 0] rfl ?_
  refine v_loop2 38 (fun (i : Int) (wl : Wd) => ∃ (k : Nat) (L : List Nat), i = k ∧ k ≤ 7 ∧ BO L ∧ (∀ x, x ∈ L → x < 2 ^ n) ∧ SMW wl L ∧ layF s a (7 - k) k L = layN s a v ∧ D2 wl n s a ∧ Ks w wl) (fun (i : Int) (wl : Wd) => (7 - i).toNat) (fun (i : Int) (wl : Wd) => [(0, aR 63), (1, aI (v0)), (2, aI (i))]) (fun (i : Int) (wl : Wd) => []) (fun (i : Int) (wl : Wd) => wl) (fun i wl hI0 ih0 => ?_) (0) w4 (⟨0, [v], rfl, by omega, ⟨fun x hx => by rw [List.mem_singleton.mp hx]; exact ⟨by omega, hv0⟩, List.pairwise_singleton _ _⟩, fun x hx => by rw [List.mem_singleton.mp hx]; exact hv2, hS4, rfl, hD4, hK4⟩)
  obtain ⟨k, L, hi, hk7, hB, hLn, hW, hlay, hD, hK⟩ := hI0
  have g0 := (hK.1 0 (by decide)).trans hM.1
  have m33 := hW.1
  have hl7 := hB.le7
  refine v_iload_n 2 (pc' := 39) rfl dX11_isSystem_38 rfl rfl ?_
  refine v_aload_n 0 (pc' := 40) rfl dX11_isSystem_39 rfl rfl ?_
  refine v_get (z := ((L.length : Nat) : Int)) (pc' := 43) rfl dX11_isSystem_40 fk_RX11_301 ly_63 rfl (m33) ?_
  refine v_icmp_ge (pc' := 46) (tgt := 96) rfl dX11_isSystem_43 (by decide) (by omega) (by omega) (fun c0 => ?_) (fun c0 => ?_)
  ·
    have hlay2 : layN s a v = some L := by rw [← hlay]; exact layF_stop (by omega) _
    refine v_iconst (pc' := 97) rfl dX11_isSystem_96 ?_
    refine v_iret dX11_isSystem_97 (by decide) (rfl) ?_
    first
    | exact ⟨by rw [hlay2]; rfl, fun K hK => (by rw [hlay2] at hK; cases hK; exact hW), hD, hK⟩
    | exact ⟨by simp [hlay2], fun K hK => (by rw [hlay2] at hK; cases hK), hD.fit f6, hK.tr (Ks.fit k6 f6)⟩
    | exact ⟨by simp [hlay2], fun K hK => (by rw [hlay2] at hK; cases hK), (hD.fit f6).fit f8, (hK.tr (Ks.fit k6 f6)).tr (Ks.fit k8 f8)⟩
  ·
    have hkl : k < L.length := by omega
    have hXm := getD_mem (d := 0) hkl
    have hXn := hLn _ hXm
    have hX := mvd_nz s7 (hB.1 _ hXm).1 (hB.1 _ hXm).2
    have hXn2 : mvd s (L.getD k 0) < 2 ^ n := by rw [mvd_n hn7 hXn]; exact mvL_ltn hs _ n (Nat.le_refl n)
    refine v_aload_n 0 (pc' := 47) rfl dX11_isSystem_46 rfl rfl ?_
    refine v_aload_n 0 (pc' := 48) rfl dX11_isSystem_47 rfl rfl ?_
    refine v_aload_n 0 (pc' := 49) rfl dX11_isSystem_48 rfl rfl ?_
    refine v_getR (pc' := 52) rfl dX11_isSystem_49 fk_RX11_62 ly_63 rfl ?_
    refine v_iload_n 2 (pc' := 53) rfl dX11_isSystem_52 rfl rfl ?_
    refine v_iald (z := ((L.getD k 0 : Nat) : Int)) (pc' := 54) rfl dX11_isSystem_53 ly_81 (by omega) (by omega) rfl (by rw [show i.toNat = k by omega]; exact hW.2 k hkl) ?_
    refine v_aload_n 0 (pc' := 55) rfl dX11_isSystem_54 rfl rfl ?_
    refine v_getR (pc' := 58) rfl dX11_isSystem_55 fk_RX11_47 ly_63 rfl ?_
    refine v_cVP (pc' := 61) rfl dX11_isSystem_58 lk_RX11_304 ly_63 rfl (c_image_76 l G (S := L.getD k 0) rfl hXn hs hn7 wl g0 hD.1) rfl rfl rfl ?_
    refine v_nm (fun image1 himage1 => ?_)
    refine v_cVi (pc' := 64) rfl dX11_isSystem_61 lk_RX11_308 ly_63 rfl (c_fits l G himage1 hX.1 hX.2 hB wl hW) rfl rfl rfl (fun fits1 w6 hq6 => ?_)
    obtain ⟨z6, hw6, k6, f6⟩ := hq6
    refine v_if_eq (pc' := 67) (tgt := 88) rfl dX11_isSystem_64 (by decide) (os_r z6) (fun c1 => ?_) (fun c1 => ?_)
    ·
      have hlay2 : layN s a v = none := by rw [← hlay, show 7 - k = (7 - (k + 1)) + 1 by omega]; exact layF_none1 hkl (none_of z6 (by omega))
      refine v_iconst (pc' := 89) rfl dX11_isSystem_88 ?_
      refine v_iret dX11_isSystem_89 (by decide) (rfl) ?_
      first
      | exact ⟨by rw [hlay2]; rfl, fun K hK => (by rw [hlay2] at hK; cases hK; exact hW), hD, hK⟩
      | exact ⟨by simp [hlay2], fun K hK => (by rw [hlay2] at hK; cases hK), hD.fit f6, hK.tr (Ks.fit k6 f6)⟩
      | exact ⟨by simp [hlay2], fun K hK => (by rw [hlay2] at hK; cases hK), (hD.fit f6).fit f8, (hK.tr (Ks.fit k6 f6)).tr (Ks.fit k8 f8)⟩
    ·
      obtain ⟨M, hA1⟩ := some_of z6 (by omega)
      have hBM := hB.adm hX.1 hX.2 hA1
      have hBVa := BV.adm ⟨hl7, fun x hx => (hB.1 x hx).1⟩ hX.1 hA1
      have hMl := hBVa.2.1
      have hMn := adm_all hLn hXn2 hA1
      have hkM : k < M.length := Nat.lt_of_lt_of_le hkl hMl
      have hYm := getD_mem (d := 0) hkM
      have hYn := hMn _ hYm
      have hY := mvd_nz a7 (hBM.1 _ hYm).1 (hBM.1 _ hYm).2
      have hYn2 : mvd a (M.getD k 0) < 2 ^ n := by rw [mvd_n hn7 hYn]; exact mvL_ltn ha _ n (Nat.le_refl n)
      have hD6 := hD.fit f6
      have g0 := (k6 0 (by decide)).trans ((hK.1 0 (by decide)).trans hM.1)
      refine v_aload_n 0 (pc' := 68) rfl dX11_isSystem_67 rfl rfl ?_
      refine v_aload_n 0 (pc' := 69) rfl dX11_isSystem_68 rfl rfl ?_
      refine v_aload_n 0 (pc' := 70) rfl dX11_isSystem_69 rfl rfl ?_
      refine v_getR (pc' := 73) rfl dX11_isSystem_70 fk_RX11_62 ly_63 rfl ?_
      refine v_iload_n 2 (pc' := 74) rfl dX11_isSystem_73 rfl rfl ?_
      refine v_iald (z := ((M.getD k 0 : Nat) : Int)) (pc' := 75) rfl dX11_isSystem_74 ly_81 (by omega) (by omega) rfl (by rw [show i.toNat = k by omega]; exact (hw6 M hA1).2 k (Nat.lt_of_lt_of_le hkl hMl)) ?_
      refine v_aload_n 0 (pc' := 76) rfl dX11_isSystem_75 rfl rfl ?_
      refine v_getR (pc' := 79) rfl dX11_isSystem_76 fk_RX11_50 ly_63 rfl ?_
      refine v_cVP (pc' := 82) rfl dX11_isSystem_79 lk_RX11_304 ly_63 rfl (c_image_77 l G (S := M.getD k 0) rfl hYn ha hn7 w6 g0 hD6.2) rfl rfl rfl ?_
      refine v_nm (fun image2 himage2 => ?_)
      refine v_cVi (pc' := 85) rfl dX11_isSystem_82 lk_RX11_308 ly_63 rfl (c_fits l G himage2 hY.1 hY.2 hBM w6 (hw6 M hA1)) rfl rfl rfl (fun fits2 w8 hq8 => ?_)
      obtain ⟨z8, hw8, k8, f8⟩ := hq8
      refine v_if_ne (pc' := 88) (tgt := 90) rfl dX11_isSystem_85 (by decide) (os_r z8) (fun c2 => ?_) (fun c2 => ?_)
      ·
        obtain ⟨K, hA2⟩ := some_of z8 (by omega)
        refine v_iinc (ls' := [(2, _), (0, _), (1, _)]) 2 (pc' := 93) rfl dX11_isSystem_90 rfl rfl rfl ?_
        refine v_nl (fun i' hi' => ?_)
        refine v_goto (tgt := 38) dX11_isSystem_93 (by decide) ?_
        refine v_ls [1, 2, 0] rfl ?_
        exact ih0 (i') w8 (⟨k + 1, K, by omega, by omega, hBM.adm hY.1 hY.2 hA2, adm_all hMn hYn2 hA2, hw8 K hA2, by rw [← hlay, show 7 - k = (7 - (k + 1)) + 1 by omega]; exact (layF_some hkl hA1 hA2).symm, (hD.fit f6).fit f8, (hK.tr (Ks.fit k6 f6)).tr (Ks.fit k8 f8)⟩) (by omega)
      ·
        have hlay2 : layN s a v = none := by rw [← hlay, show 7 - k = (7 - (k + 1)) + 1 by omega]; exact layF_none2 hkl hA1 (none_of z8 (by omega))
        refine v_iconst (pc' := 89) rfl dX11_isSystem_88 ?_
        refine v_iret dX11_isSystem_89 (by decide) (rfl) ?_
        first
        | exact ⟨by rw [hlay2]; rfl, fun K hK => (by rw [hlay2] at hK; cases hK; exact hW), hD, hK⟩
        | exact ⟨by simp [hlay2], fun K hK => (by rw [hlay2] at hK; cases hK), hD.fit f6, hK.tr (Ks.fit k6 f6)⟩
        | exact ⟨by simp [hlay2], fun K hK => (by rw [hlay2] at hK; cases hK), (hD.fit f6).fit f8, (hK.tr (Ks.fit k6 f6)).tr (Ks.fit k8 f8)⟩

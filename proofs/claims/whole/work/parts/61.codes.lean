/-! ===== the reference: permutations by their codes ===== -/
def RMW (w : Wd) (n : Nat) (s a : Nat → Nat) : Prop := w 63 0 = n ∧ w 63 1 = (cdk s n : Nat) ∧ w 63 2 = (cdk a n : Nat)
theorem cdk_s (f : Nat → Nat) (k : Nat) : cdk f (k + 1) = 10 * cdk f k + f (k + 1) := rfl
theorem cdk_lt {f : Nat → Nat} : ∀ k, (∀ x, 1 ≤ x → x ≤ k → f x ≤ 9) → cdk f k < 10 ^ k
  | 0, _ => Nat.one_pos
  | k + 1, h => by
    have ih := cdk_lt k (fun x a b => h x a (by omega))
    have := h (k + 1) (by omega) (Nat.le_refl _)
    rw [cdk_s, Nat.pow_succ]; omega
theorem pow10_le {n : Nat} (hn : n ≤ 7) : 10 ^ n ≤ 10000000 := Nat.pow_le_pow_right (by decide) hn
theorem cd_le {n k : Nat} {f : Nat → Nat} (hf : Pm n f) (hn : n ≤ 7) (hk : k ≤ n) : cdk f k < 10000000 := by
  have h := cdk_lt (f := f) k (fun x a b => by have := hf.1 x a (by omega); omega)
  have := pow10_le (show k ≤ 7 by omega)
  omega
theorem cd_pos {n : Nat} {f : Nat → Nat} (hf : Pm n f) (hn1 : 1 ≤ n) : 1 ≤ cdk f n := by
  obtain ⟨k, rfl⟩ : ∃ k, n = k + 1 := ⟨n - 1, by omega⟩
  have := hf.1 (k + 1) (by omega) (Nat.le_refl _)
  rw [cdk_s]; omega
theorem rem10 {c : Int} {f : Nat → Nat} {m : Nat} (hc : c = (cdk f (m + 1) : Nat)) (h : cdk f (m + 1) < 10000000) (h9 : f (m + 1) ≤ 9) : iz c - iz c / iz 10 * iz 10 = iz ((f (m + 1) : Nat) : Int) := by
  rw [cdk_s] at hc h
  rw [iz_remN (by omega) (by omega) (by decide) (by decide)]
  congr 1
  omega
theorem div10 {c : Int} {f : Nat → Nat} {m : Nat} (hc : c = (cdk f (m + 1) : Nat)) (h : cdk f (m + 1) < 10000000) (h9 : f (m + 1) ≤ 9) : iz c / iz 10 = iz ((cdk f m : Nat) : Int) := by
  rw [cdk_s] at hc h
  rw [iz_divN (by omega) (by omega) (by decide) (by decide)]
  congr 1
  omega
set_option maxHeartbeats 4000000 in
set_option maxRecDepth 100000 in
theorem c_in (l : Launch) (G : Gx) {v lo hi : Int} (hv : rg v) (hlo : rg lo) (hhi : rg hi) (w : Wd)  : SpP l G 0 mX11_in [aI (v), aI (lo), aI (hi)] w ((if lo ≤ v ∧ v ≤ hi then 1 else 0 : Int)) := by
  refine Sp_of RX11 rfl (by decide +kernel) rfl (Nat.le_of_ble_eq_true rfl) ?_
  refine v_iload_n 0 (pc' := 1) rfl dX11_in_0 rfl rfl ?_
  refine v_iload_n 1 (pc' := 2) rfl dX11_in_1 rfl rfl ?_
  refine v_icmp_lt (pc' := 5) (tgt := 14) rfl dX11_in_2 (by decide) (by omega) (by omega) (fun c0 => ?_) (fun c0 => ?_)
  ·
    refine v_iconst (pc' := 15) rfl dX11_in_14 ?_
    refine v_iret dX11_in_15 (by decide) (rfl) ?_
    first | exact ⟨by rw [if_pos (by omega)], rfl⟩ | exact ⟨by rw [if_neg (by omega)], rfl⟩
  ·
    refine v_iload_n 0 (pc' := 6) rfl dX11_in_5 rfl rfl ?_
    refine v_iload_n 2 (pc' := 7) rfl dX11_in_6 rfl rfl ?_
    refine v_icmp_gt (pc' := 10) (tgt := 14) rfl dX11_in_7 (by decide) (by omega) (by omega) (fun c1 => ?_) (fun c1 => ?_)
    ·
      refine v_iconst (pc' := 15) rfl dX11_in_14 ?_
      refine v_iret dX11_in_15 (by decide) (rfl) ?_
      first | exact ⟨by rw [if_pos (by omega)], rfl⟩ | exact ⟨by rw [if_neg (by omega)], rfl⟩
    ·
      refine v_iconst (pc' := 11) rfl dX11_in_10 ?_
      refine v_goto (tgt := 15) dX11_in_11 (by decide) ?_
      refine v_iret dX11_in_15 (by decide) (rfl) ?_
      first | exact ⟨by rw [if_pos (by omega)], rfl⟩ | exact ⟨by rw [if_neg (by omega)], rfl⟩
set_option maxHeartbeats 4000000 in
set_option maxRecDepth 100000 in
theorem c_isThree (l : Launch) (G : Gx) {v : Int} (hv : rg v) (w : Wd)  : SpP l G 1 mX11_isThree [aI (v)] w ((if 0 ≤ v ∧ v ≤ 2 then 1 else 0 : Int)) := by
  refine Sp_of RX11 rfl (by decide +kernel) rfl (Nat.le_of_ble_eq_true rfl) ?_
  refine v_iload_n 0 (pc' := 1) rfl dX11_isThree_0 rfl rfl ?_
  refine v_iconst (pc' := 2) rfl dX11_isThree_1 ?_
  refine v_iconst (pc' := 3) rfl dX11_isThree_2 ?_
  refine v_cSP (pc' := 6) rfl dX11_isThree_3 lk_RX11_121 rfl (c_in l G hv (by decide) (by decide) w) rfl rfl rfl ?_
  refine v_nm (fun in1 hin1 => ?_)
  refine v_iret dX11_isThree_6 (by decide) (by rw [hin1]; split <;> rfl) ?_
  exact ⟨hin1, rfl⟩
set_option maxHeartbeats 4000000 in
set_option maxRecDepth 100000 in
theorem c_isDart (l : Launch) (G : Gx) {v : Int} {n : Nat} (hv : rg v) (hn7 : n ≤ 7) (w : Wd) (r0 : w 63 0 = n) : SpP l G 1 mX11_isDart [aR 63, aI (v)] w ((if 1 ≤ v ∧ v ≤ (n : Int) then 1 else 0 : Int)) := by
  refine Sp_of RX11 rfl (by decide +kernel) rfl (Nat.le_of_ble_eq_true rfl) ?_
  refine v_iload_n 1 (pc' := 1) rfl dX11_isDart_0 rfl rfl ?_
  refine v_iconst (pc' := 2) rfl dX11_isDart_1 ?_
  refine v_aload_n 0 (pc' := 3) rfl dX11_isDart_2 rfl rfl ?_
  refine v_get (z := (n : Int)) (pc' := 6) rfl dX11_isDart_3 fk_RX11_125 ly_63 rfl (r0) ?_
  refine v_cSP (pc' := 9) rfl dX11_isDart_6 lk_RX11_121 rfl (c_in l G hv (by decide) (by omega) w) rfl rfl rfl ?_
  refine v_nm (fun in1 hin1 => ?_)
  refine v_iret dX11_isDart_9 (by decide) (by rw [hin1]; split <;> rfl) ?_
  exact ⟨hin1, rfl⟩
set_option maxHeartbeats 4000000 in
set_option maxRecDepth 100000 in
theorem c_reads_69 (l : Launch) (G : Gx) {c0 : Int} {n : Nat} {f : Nat → Nat} (hc0 : c0 = (cdk f n : Nat)) (hf : Pm n f) (hn1 : 1 ≤ n) (hn7 : n ≤ 7) (w : Wd) (r0 : w 63 0 = n) : Sp l G 0 mX11_reads [aR 63, aI (c0), aR 69] w (fun _ w' => (∀ x, 1 ≤ x → x ≤ n → w' 69 x = (f x : Nat)) ∧ Fr [69] w w') := by
  refine Sp_of RX11 rfl (by decide +kernel) rfl (Nat.le_of_ble_eq_true rfl) ?_
  refine v_iload_n 1 (pc' := 1) rfl dX11_reads_0 rfl rfl ?_
  refine v_istore_n (ls' := [(3, _), (0, _), (1, _), (2, _)]) (pc' := 2) rfl dX11_reads_1 rfl rfl rfl ?_
  refine v_aload_n 1 (pc' := 3) rfl dX11_reads_2 rfl rfl ?_
  refine v_get (z := (n : Int)) (pc' := 6) rfl dX11_reads_3 fk_RX11_125 ly_63 rfl (r0) ?_
  refine v_nm (fun x' hx' => ?_)
  refine v_istore (ls' := [(4, _), (3, _), (0, _), (1, _), (2, _)]) (pc' := 8) rfl dX11_reads_6 rfl rfl ?_
  refine v_ls [2, 3, 4, 1, 0] rfl ?_
  refine v_loop3 8 (fun (c : Int) (x : Int) (wl : Wd) => ∃ k : Nat, x = k ∧ k ≤ n ∧ c = (cdk f k : Nat) ∧ (∀ z, k < z → z ≤ n → wl 69 z = (f z : Nat)) ∧ Fr [69] w wl) (fun (c : Int) (x : Int) (wl : Wd) => x.toNat) (fun (c : Int) (x : Int) (wl : Wd) => [(0, aR 63), (1, aI (c0)), (2, aR 69), (3, aI (c)), (4, aI (x))]) (fun (c : Int) (x : Int) (wl : Wd) => []) (fun (c : Int) (x : Int) (wl : Wd) => wl) (fun c x wl hI0 ih0 => ?_) (c0) (x') w (⟨n, hx', by omega, hc0, fun z a b => by omega, Fr.rf _ _⟩)
  obtain ⟨k, hx, hk, hc, hA, hfl⟩ := hI0
  refine v_iload 4 (pc' := 10) rfl dX11_reads_8 rfl ?_
  refine v_if_le (pc' := 13) (tgt := 32) rfl dX11_reads_10 (by decide) (by omega) (fun c0 => ?_) (fun c0 => ?_)
  ·
    have hk0 : k = 0 := by omega
    subst hk0
    refine v_vret dX11_reads_32 ?_
    exact ⟨fun z a b => hA z (by omega) b, hfl⟩
  ·
    obtain ⟨m, rfl⟩ : ∃ m, k = m + 1 := ⟨k - 1, by omega⟩
    have hcl := cd_le hf hn7 hk
    have hfm := hf.1 (m + 1) (by omega) hk
    refine v_aload_n 2 (pc' := 14) rfl dX11_reads_13 rfl rfl ?_
    refine v_iload 4 (pc' := 16) rfl dX11_reads_14 rfl ?_
    refine v_iload_n 3 (pc' := 17) rfl dX11_reads_16 rfl rfl ?_
    refine v_bipush (pc' := 19) rfl dX11_reads_17 rfl ?_
    refine v_irem (z := ((f (m + 1) : Nat) : Int)) (pc' := 20) rfl dX11_reads_19 (iz_ne (by decide) (by decide)) (rem10 hc hcl (by omega)) ?_
    refine v_iast (pc' := 21) rfl dX11_reads_20 ly_69 (by omega) (by omega) rfl ?_
    refine v_nmw (fun w1 hw1 => ?_)
    refine v_iload_n 3 (pc' := 22) rfl dX11_reads_21 rfl rfl ?_
    refine v_bipush (pc' := 24) rfl dX11_reads_22 rfl ?_
    refine v_idiv (z := ((cdk f m : Nat) : Int)) (pc' := 25) rfl dX11_reads_24 (iz_ne (by decide) (by decide)) (div10 hc hcl (by omega)) ?_
    refine v_nm (fun c' hc' => ?_)
    refine v_istore_n (ls' := [(3, _), (0, _), (1, _), (2, _), (4, _)]) (pc' := 26) rfl dX11_reads_25 rfl rfl rfl ?_
    refine v_iinc (ls' := [(4, _), (3, _), (0, _), (1, _), (2, _)]) 4 (pc' := 29) rfl dX11_reads_26 rfl rfl rfl ?_
    refine v_nl (fun x' hx' => ?_)
    refine v_goto (tgt := 8) dX11_reads_29 (by decide) ?_
    refine v_ls [2, 3, 4, 1, 0] rfl ?_
    exact ih0 (c') (x') w1 (⟨m, by omega, by omega, hc', fun z a b => by
        rw [hw1, up_at, show x.toNat = m + 1 by omega]
        by_cases q : z = m + 1
        · rw [if_pos ⟨rfl, q⟩, q]
        · rw [if_neg (fun e => q e.2)]; exact hA z (by omega) b, by rw [hw1]; exact hfl.up rfl⟩) (by omega)
set_option maxHeartbeats 4000000 in
set_option maxRecDepth 100000 in
theorem c_reads_70 (l : Launch) (G : Gx) {c0 : Int} {n : Nat} {f : Nat → Nat} (hc0 : c0 = (cdk f n : Nat)) (hf : Pm n f) (hn1 : 1 ≤ n) (hn7 : n ≤ 7) (w : Wd) (r0 : w 63 0 = n) : Sp l G 0 mX11_reads [aR 63, aI (c0), aR 70] w (fun _ w' => (∀ x, 1 ≤ x → x ≤ n → w' 70 x = (f x : Nat)) ∧ Fr [70] w w') := by
  refine Sp_of RX11 rfl (by decide +kernel) rfl (Nat.le_of_ble_eq_true rfl) ?_
  refine v_iload_n 1 (pc' := 1) rfl dX11_reads_0 rfl rfl ?_
  refine v_istore_n (ls' := [(3, _), (0, _), (1, _), (2, _)]) (pc' := 2) rfl dX11_reads_1 rfl rfl rfl ?_
  refine v_aload_n 1 (pc' := 3) rfl dX11_reads_2 rfl rfl ?_
  refine v_get (z := (n : Int)) (pc' := 6) rfl dX11_reads_3 fk_RX11_125 ly_63 rfl (r0) ?_
  refine v_nm (fun x' hx' => ?_)
  refine v_istore (ls' := [(4, _), (3, _), (0, _), (1, _), (2, _)]) (pc' := 8) rfl dX11_reads_6 rfl rfl ?_
  refine v_ls [2, 3, 4, 1, 0] rfl ?_
  refine v_loop3 8 (fun (c : Int) (x : Int) (wl : Wd) => ∃ k : Nat, x = k ∧ k ≤ n ∧ c = (cdk f k : Nat) ∧ (∀ z, k < z → z ≤ n → wl 70 z = (f z : Nat)) ∧ Fr [70] w wl) (fun (c : Int) (x : Int) (wl : Wd) => x.toNat) (fun (c : Int) (x : Int) (wl : Wd) => [(0, aR 63), (1, aI (c0)), (2, aR 70), (3, aI (c)), (4, aI (x))]) (fun (c : Int) (x : Int) (wl : Wd) => []) (fun (c : Int) (x : Int) (wl : Wd) => wl) (fun c x wl hI0 ih0 => ?_) (c0) (x') w (⟨n, hx', by omega, hc0, fun z a b => by omega, Fr.rf _ _⟩)
  obtain ⟨k, hx, hk, hc, hA, hfl⟩ := hI0
  refine v_iload 4 (pc' := 10) rfl dX11_reads_8 rfl ?_
  refine v_if_le (pc' := 13) (tgt := 32) rfl dX11_reads_10 (by decide) (by omega) (fun c0 => ?_) (fun c0 => ?_)
  ·
    have hk0 : k = 0 := by omega
    subst hk0
    refine v_vret dX11_reads_32 ?_
    exact ⟨fun z a b => hA z (by omega) b, hfl⟩
  ·
    obtain ⟨m, rfl⟩ : ∃ m, k = m + 1 := ⟨k - 1, by omega⟩
    have hcl := cd_le hf hn7 hk
    have hfm := hf.1 (m + 1) (by omega) hk
    refine v_aload_n 2 (pc' := 14) rfl dX11_reads_13 rfl rfl ?_
    refine v_iload 4 (pc' := 16) rfl dX11_reads_14 rfl ?_
    refine v_iload_n 3 (pc' := 17) rfl dX11_reads_16 rfl rfl ?_
    refine v_bipush (pc' := 19) rfl dX11_reads_17 rfl ?_
    refine v_irem (z := ((f (m + 1) : Nat) : Int)) (pc' := 20) rfl dX11_reads_19 (iz_ne (by decide) (by decide)) (rem10 hc hcl (by omega)) ?_
    refine v_iast (pc' := 21) rfl dX11_reads_20 ly_70 (by omega) (by omega) rfl ?_
    refine v_nmw (fun w1 hw1 => ?_)
    refine v_iload_n 3 (pc' := 22) rfl dX11_reads_21 rfl rfl ?_
    refine v_bipush (pc' := 24) rfl dX11_reads_22 rfl ?_
    refine v_idiv (z := ((cdk f m : Nat) : Int)) (pc' := 25) rfl dX11_reads_24 (iz_ne (by decide) (by decide)) (div10 hc hcl (by omega)) ?_
    refine v_nm (fun c' hc' => ?_)
    refine v_istore_n (ls' := [(3, _), (0, _), (1, _), (2, _), (4, _)]) (pc' := 26) rfl dX11_reads_25 rfl rfl rfl ?_
    refine v_iinc (ls' := [(4, _), (3, _), (0, _), (1, _), (2, _)]) 4 (pc' := 29) rfl dX11_reads_26 rfl rfl rfl ?_
    refine v_nl (fun x' hx' => ?_)
    refine v_goto (tgt := 8) dX11_reads_29 (by decide) ?_
    refine v_ls [2, 3, 4, 1, 0] rfl ?_
    exact ih0 (c') (x') w1 (⟨m, by omega, by omega, hc', fun z a b => by
        rw [hw1, up_at, show x.toNat = m + 1 by omega]
        by_cases q : z = m + 1
        · rw [if_pos ⟨rfl, q⟩, q]
        · rw [if_neg (fun e => q e.2)]; exact hA z (by omega) b, by rw [hw1]; exact hfl.up rfl⟩) (by omega)
set_option maxHeartbeats 4000000 in
set_option maxRecDepth 100000 in
theorem c_reads_76 (l : Launch) (G : Gx) {c0 : Int} {n : Nat} {f : Nat → Nat} (hc0 : c0 = (cdk f n : Nat)) (hf : Pm n f) (hn1 : 1 ≤ n) (hn7 : n ≤ 7) (w : Wd) (r0 : w 63 0 = n) : Sp l G 0 mX11_reads [aR 63, aI (c0), aR 76] w (fun _ w' => (∀ x, 1 ≤ x → x ≤ n → w' 76 x = (f x : Nat)) ∧ Fr [76] w w') := by
  refine Sp_of RX11 rfl (by decide +kernel) rfl (Nat.le_of_ble_eq_true rfl) ?_
  refine v_iload_n 1 (pc' := 1) rfl dX11_reads_0 rfl rfl ?_
  refine v_istore_n (ls' := [(3, _), (0, _), (1, _), (2, _)]) (pc' := 2) rfl dX11_reads_1 rfl rfl rfl ?_
  refine v_aload_n 1 (pc' := 3) rfl dX11_reads_2 rfl rfl ?_
  refine v_get (z := (n : Int)) (pc' := 6) rfl dX11_reads_3 fk_RX11_125 ly_63 rfl (r0) ?_
  refine v_nm (fun x' hx' => ?_)
  refine v_istore (ls' := [(4, _), (3, _), (0, _), (1, _), (2, _)]) (pc' := 8) rfl dX11_reads_6 rfl rfl ?_
  refine v_ls [2, 3, 4, 1, 0] rfl ?_
  refine v_loop3 8 (fun (c : Int) (x : Int) (wl : Wd) => ∃ k : Nat, x = k ∧ k ≤ n ∧ c = (cdk f k : Nat) ∧ (∀ z, k < z → z ≤ n → wl 76 z = (f z : Nat)) ∧ Fr [76] w wl) (fun (c : Int) (x : Int) (wl : Wd) => x.toNat) (fun (c : Int) (x : Int) (wl : Wd) => [(0, aR 63), (1, aI (c0)), (2, aR 76), (3, aI (c)), (4, aI (x))]) (fun (c : Int) (x : Int) (wl : Wd) => []) (fun (c : Int) (x : Int) (wl : Wd) => wl) (fun c x wl hI0 ih0 => ?_) (c0) (x') w (⟨n, hx', by omega, hc0, fun z a b => by omega, Fr.rf _ _⟩)
  obtain ⟨k, hx, hk, hc, hA, hfl⟩ := hI0
  refine v_iload 4 (pc' := 10) rfl dX11_reads_8 rfl ?_
  refine v_if_le (pc' := 13) (tgt := 32) rfl dX11_reads_10 (by decide) (by omega) (fun c0 => ?_) (fun c0 => ?_)
  ·
    have hk0 : k = 0 := by omega
    subst hk0
    refine v_vret dX11_reads_32 ?_
    exact ⟨fun z a b => hA z (by omega) b, hfl⟩
  ·
    obtain ⟨m, rfl⟩ : ∃ m, k = m + 1 := ⟨k - 1, by omega⟩
    have hcl := cd_le hf hn7 hk
    have hfm := hf.1 (m + 1) (by omega) hk
    refine v_aload_n 2 (pc' := 14) rfl dX11_reads_13 rfl rfl ?_
    refine v_iload 4 (pc' := 16) rfl dX11_reads_14 rfl ?_
    refine v_iload_n 3 (pc' := 17) rfl dX11_reads_16 rfl rfl ?_
    refine v_bipush (pc' := 19) rfl dX11_reads_17 rfl ?_
    refine v_irem (z := ((f (m + 1) : Nat) : Int)) (pc' := 20) rfl dX11_reads_19 (iz_ne (by decide) (by decide)) (rem10 hc hcl (by omega)) ?_
    refine v_iast (pc' := 21) rfl dX11_reads_20 ly_76 (by omega) (by omega) rfl ?_
    refine v_nmw (fun w1 hw1 => ?_)
    refine v_iload_n 3 (pc' := 22) rfl dX11_reads_21 rfl rfl ?_
    refine v_bipush (pc' := 24) rfl dX11_reads_22 rfl ?_
    refine v_idiv (z := ((cdk f m : Nat) : Int)) (pc' := 25) rfl dX11_reads_24 (iz_ne (by decide) (by decide)) (div10 hc hcl (by omega)) ?_
    refine v_nm (fun c' hc' => ?_)
    refine v_istore_n (ls' := [(3, _), (0, _), (1, _), (2, _), (4, _)]) (pc' := 26) rfl dX11_reads_25 rfl rfl rfl ?_
    refine v_iinc (ls' := [(4, _), (3, _), (0, _), (1, _), (2, _)]) 4 (pc' := 29) rfl dX11_reads_26 rfl rfl rfl ?_
    refine v_nl (fun x' hx' => ?_)
    refine v_goto (tgt := 8) dX11_reads_29 (by decide) ?_
    refine v_ls [2, 3, 4, 1, 0] rfl ?_
    exact ih0 (c') (x') w1 (⟨m, by omega, by omega, hc', fun z a b => by
        rw [hw1, up_at, show x.toNat = m + 1 by omega]
        by_cases q : z = m + 1
        · rw [if_pos ⟨rfl, q⟩, q]
        · rw [if_neg (fun e => q e.2)]; exact hA z (by omega) b, by rw [hw1]; exact hfl.up rfl⟩) (by omega)
set_option maxHeartbeats 4000000 in
set_option maxRecDepth 100000 in
theorem c_reads_77 (l : Launch) (G : Gx) {c0 : Int} {n : Nat} {f : Nat → Nat} (hc0 : c0 = (cdk f n : Nat)) (hf : Pm n f) (hn1 : 1 ≤ n) (hn7 : n ≤ 7) (w : Wd) (r0 : w 63 0 = n) : Sp l G 0 mX11_reads [aR 63, aI (c0), aR 77] w (fun _ w' => (∀ x, 1 ≤ x → x ≤ n → w' 77 x = (f x : Nat)) ∧ Fr [77] w w') := by
  refine Sp_of RX11 rfl (by decide +kernel) rfl (Nat.le_of_ble_eq_true rfl) ?_
  refine v_iload_n 1 (pc' := 1) rfl dX11_reads_0 rfl rfl ?_
  refine v_istore_n (ls' := [(3, _), (0, _), (1, _), (2, _)]) (pc' := 2) rfl dX11_reads_1 rfl rfl rfl ?_
  refine v_aload_n 1 (pc' := 3) rfl dX11_reads_2 rfl rfl ?_
  refine v_get (z := (n : Int)) (pc' := 6) rfl dX11_reads_3 fk_RX11_125 ly_63 rfl (r0) ?_
  refine v_nm (fun x' hx' => ?_)
  refine v_istore (ls' := [(4, _), (3, _), (0, _), (1, _), (2, _)]) (pc' := 8) rfl dX11_reads_6 rfl rfl ?_
  refine v_ls [2, 3, 4, 1, 0] rfl ?_
  refine v_loop3 8 (fun (c : Int) (x : Int) (wl : Wd) => ∃ k : Nat, x = k ∧ k ≤ n ∧ c = (cdk f k : Nat) ∧ (∀ z, k < z → z ≤ n → wl 77 z = (f z : Nat)) ∧ Fr [77] w wl) (fun (c : Int) (x : Int) (wl : Wd) => x.toNat) (fun (c : Int) (x : Int) (wl : Wd) => [(0, aR 63), (1, aI (c0)), (2, aR 77), (3, aI (c)), (4, aI (x))]) (fun (c : Int) (x : Int) (wl : Wd) => []) (fun (c : Int) (x : Int) (wl : Wd) => wl) (fun c x wl hI0 ih0 => ?_) (c0) (x') w (⟨n, hx', by omega, hc0, fun z a b => by omega, Fr.rf _ _⟩)
  obtain ⟨k, hx, hk, hc, hA, hfl⟩ := hI0
  refine v_iload 4 (pc' := 10) rfl dX11_reads_8 rfl ?_
  refine v_if_le (pc' := 13) (tgt := 32) rfl dX11_reads_10 (by decide) (by omega) (fun c0 => ?_) (fun c0 => ?_)
  ·
    have hk0 : k = 0 := by omega
    subst hk0
    refine v_vret dX11_reads_32 ?_
    exact ⟨fun z a b => hA z (by omega) b, hfl⟩
  ·
    obtain ⟨m, rfl⟩ : ∃ m, k = m + 1 := ⟨k - 1, by omega⟩
    have hcl := cd_le hf hn7 hk
    have hfm := hf.1 (m + 1) (by omega) hk
    refine v_aload_n 2 (pc' := 14) rfl dX11_reads_13 rfl rfl ?_
    refine v_iload 4 (pc' := 16) rfl dX11_reads_14 rfl ?_
    refine v_iload_n 3 (pc' := 17) rfl dX11_reads_16 rfl rfl ?_
    refine v_bipush (pc' := 19) rfl dX11_reads_17 rfl ?_
    refine v_irem (z := ((f (m + 1) : Nat) : Int)) (pc' := 20) rfl dX11_reads_19 (iz_ne (by decide) (by decide)) (rem10 hc hcl (by omega)) ?_
    refine v_iast (pc' := 21) rfl dX11_reads_20 ly_77 (by omega) (by omega) rfl ?_
    refine v_nmw (fun w1 hw1 => ?_)
    refine v_iload_n 3 (pc' := 22) rfl dX11_reads_21 rfl rfl ?_
    refine v_bipush (pc' := 24) rfl dX11_reads_22 rfl ?_
    refine v_idiv (z := ((cdk f m : Nat) : Int)) (pc' := 25) rfl dX11_reads_24 (iz_ne (by decide) (by decide)) (div10 hc hcl (by omega)) ?_
    refine v_nm (fun c' hc' => ?_)
    refine v_istore_n (ls' := [(3, _), (0, _), (1, _), (2, _), (4, _)]) (pc' := 26) rfl dX11_reads_25 rfl rfl rfl ?_
    refine v_iinc (ls' := [(4, _), (3, _), (0, _), (1, _), (2, _)]) 4 (pc' := 29) rfl dX11_reads_26 rfl rfl rfl ?_
    refine v_nl (fun x' hx' => ?_)
    refine v_goto (tgt := 8) dX11_reads_29 (by decide) ?_
    refine v_ls [2, 3, 4, 1, 0] rfl ?_
    exact ih0 (c') (x') w1 (⟨m, by omega, by omega, hc', fun z a b => by
        rw [hw1, up_at, show x.toNat = m + 1 by omega]
        by_cases q : z = m + 1
        · rw [if_pos ⟨rfl, q⟩, q]
        · rw [if_neg (fun e => q e.2)]; exact hA z (by omega) b, by rw [hw1]; exact hfl.up rfl⟩) (by omega)
set_option maxHeartbeats 4000000 in
set_option maxRecDepth 100000 in
theorem c_told_70 (l : Launch) (G : Gx) {n : Nat} {g : Nat → Nat} (hn7 : n ≤ 7) (w : Wd) (r0 : w 63 0 = n) (hD : ∀ x, 1 ≤ x → x ≤ n → w 70 x = (g x : Nat)) : SpP l G 0 mX11_told [aR 63, aR 70] w (((cdk g n : Nat) : Int)) := by
  refine Sp_of RX11 rfl (by decide +kernel) rfl (Nat.le_of_ble_eq_true rfl) ?_
  refine v_iconst (pc' := 1) rfl dX11_told_0 ?_
  refine v_istore_n (ls' := [(2, _), (0, _), (1, _)]) (pc' := 2) rfl dX11_told_1 rfl rfl rfl ?_
  refine v_iconst (pc' := 3) rfl dX11_told_2 ?_
  refine v_istore_n (ls' := [(3, _), (2, _), (0, _), (1, _)]) (pc' := 4) rfl dX11_told_3 rfl rfl rfl ?_
  refine v_ls [2, 3, 1, 0] rfl ?_
  refine v_loop2 4 (fun (c : Int) (x : Int) => ∃ k : Nat, x = ((k + 1 : Nat) : Int) ∧ k ≤ n ∧ c = (cdk g k : Nat)) (fun (c : Int) (x : Int) => (8 - x).toNat) (fun (c : Int) (x : Int) => [(0, aR 63), (1, aR 70), (2, aI (c)), (3, aI (x))]) (fun (c : Int) (x : Int) => []) (fun (c : Int) (x : Int) => w) (fun c x hI0 ih0 => ?_) (0) (1) (⟨0, rfl, by omega, rfl⟩)
  obtain ⟨k, hx, hk, hc⟩ := hI0
  refine v_iload_n 3 (pc' := 5) rfl dX11_told_4 rfl rfl ?_
  refine v_aload_n 0 (pc' := 6) rfl dX11_told_5 rfl rfl ?_
  refine v_get (z := (n : Int)) (pc' := 9) rfl dX11_told_6 fk_RX11_125 ly_63 rfl (r0) ?_
  refine v_icmp_gt (pc' := 12) (tgt := 27) rfl dX11_told_9 (by decide) (by omega) (by omega) (fun c0 => ?_) (fun c0 => ?_)
  ·
    have hke : k = n := by omega
    refine v_iload_n 2 (pc' := 28) rfl dX11_told_27 rfl rfl ?_
    refine v_iret dX11_told_28 (by decide) (rfl) ?_
    exact ⟨by rw [hc, hke], rfl⟩
  ·
    refine v_bipush (pc' := 14) rfl dX11_told_12 rfl ?_
    refine v_iload_n 2 (pc' := 15) rfl dX11_told_14 rfl rfl ?_
    refine v_imul (pc' := 16) rfl dX11_told_15 ?_
    refine v_aload_n 1 (pc' := 17) rfl dX11_told_16 rfl rfl ?_
    refine v_iload_n 3 (pc' := 18) rfl dX11_told_17 rfl rfl ?_
    refine v_iald (z := ((g (k + 1) : Nat) : Int)) (pc' := 19) rfl dX11_told_18 ly_70 (by omega) (by omega) rfl (by rw [show x.toNat = k + 1 by omega]; exact hD (k + 1) (by omega) (by omega)) ?_
    refine v_iadd (pc' := 20) rfl dX11_told_19 ?_
    refine v_nm (fun c' hc' => ?_)
    refine v_istore_n (ls' := [(2, _), (0, _), (1, _), (3, _)]) (pc' := 21) rfl dX11_told_20 rfl rfl rfl ?_
    refine v_iinc (ls' := [(3, _), (2, _), (0, _), (1, _)]) 3 (pc' := 24) rfl dX11_told_21 rfl rfl rfl ?_
    refine v_nl (fun x' hx' => ?_)
    refine v_goto (tgt := 4) dX11_told_24 (by decide) ?_
    refine v_ls [2, 3, 1, 0] rfl ?_
    exact ih0 (c') (x') (⟨k + 1, by omega, by omega, by rw [cdk_s]; omega⟩) (by omega)
set_option maxHeartbeats 4000000 in
set_option maxRecDepth 100000 in
theorem c_told_71 (l : Launch) (G : Gx) {n : Nat} {g : Nat → Nat} (hn7 : n ≤ 7) (w : Wd) (r0 : w 63 0 = n) (hD : ∀ x, 1 ≤ x → x ≤ n → w 71 x = (g x : Nat)) : SpP l G 0 mX11_told [aR 63, aR 71] w (((cdk g n : Nat) : Int)) := by
  refine Sp_of RX11 rfl (by decide +kernel) rfl (Nat.le_of_ble_eq_true rfl) ?_
  refine v_iconst (pc' := 1) rfl dX11_told_0 ?_
  refine v_istore_n (ls' := [(2, _), (0, _), (1, _)]) (pc' := 2) rfl dX11_told_1 rfl rfl rfl ?_
  refine v_iconst (pc' := 3) rfl dX11_told_2 ?_
  refine v_istore_n (ls' := [(3, _), (2, _), (0, _), (1, _)]) (pc' := 4) rfl dX11_told_3 rfl rfl rfl ?_
  refine v_ls [2, 3, 1, 0] rfl ?_
  refine v_loop2 4 (fun (c : Int) (x : Int) => ∃ k : Nat, x = ((k + 1 : Nat) : Int) ∧ k ≤ n ∧ c = (cdk g k : Nat)) (fun (c : Int) (x : Int) => (8 - x).toNat) (fun (c : Int) (x : Int) => [(0, aR 63), (1, aR 71), (2, aI (c)), (3, aI (x))]) (fun (c : Int) (x : Int) => []) (fun (c : Int) (x : Int) => w) (fun c x hI0 ih0 => ?_) (0) (1) (⟨0, rfl, by omega, rfl⟩)
  obtain ⟨k, hx, hk, hc⟩ := hI0
  refine v_iload_n 3 (pc' := 5) rfl dX11_told_4 rfl rfl ?_
  refine v_aload_n 0 (pc' := 6) rfl dX11_told_5 rfl rfl ?_
  refine v_get (z := (n : Int)) (pc' := 9) rfl dX11_told_6 fk_RX11_125 ly_63 rfl (r0) ?_
  refine v_icmp_gt (pc' := 12) (tgt := 27) rfl dX11_told_9 (by decide) (by omega) (by omega) (fun c0 => ?_) (fun c0 => ?_)
  ·
    have hke : k = n := by omega
    refine v_iload_n 2 (pc' := 28) rfl dX11_told_27 rfl rfl ?_
    refine v_iret dX11_told_28 (by decide) (rfl) ?_
    exact ⟨by rw [hc, hke], rfl⟩
  ·
    refine v_bipush (pc' := 14) rfl dX11_told_12 rfl ?_
    refine v_iload_n 2 (pc' := 15) rfl dX11_told_14 rfl rfl ?_
    refine v_imul (pc' := 16) rfl dX11_told_15 ?_
    refine v_aload_n 1 (pc' := 17) rfl dX11_told_16 rfl rfl ?_
    refine v_iload_n 3 (pc' := 18) rfl dX11_told_17 rfl rfl ?_
    refine v_iald (z := ((g (k + 1) : Nat) : Int)) (pc' := 19) rfl dX11_told_18 ly_71 (by omega) (by omega) rfl (by rw [show x.toNat = k + 1 by omega]; exact hD (k + 1) (by omega) (by omega)) ?_
    refine v_iadd (pc' := 20) rfl dX11_told_19 ?_
    refine v_nm (fun c' hc' => ?_)
    refine v_istore_n (ls' := [(2, _), (0, _), (1, _), (3, _)]) (pc' := 21) rfl dX11_told_20 rfl rfl rfl ?_
    refine v_iinc (ls' := [(3, _), (2, _), (0, _), (1, _)]) 3 (pc' := 24) rfl dX11_told_21 rfl rfl rfl ?_
    refine v_nl (fun x' hx' => ?_)
    refine v_goto (tgt := 4) dX11_told_24 (by decide) ?_
    refine v_ls [2, 3, 1, 0] rfl ?_
    exact ih0 (c') (x') (⟨k + 1, by omega, by omega, by rw [cdk_s]; omega⟩) (by omega)
set_option maxHeartbeats 4000000 in
set_option maxRecDepth 100000 in
theorem c_told_73 (l : Launch) (G : Gx) {n : Nat} {g : Nat → Nat} (hn7 : n ≤ 7) (w : Wd) (r0 : w 63 0 = n) (hD : ∀ x, 1 ≤ x → x ≤ n → w 73 x = (g x : Nat)) : SpP l G 0 mX11_told [aR 63, aR 73] w (((cdk g n : Nat) : Int)) := by
  refine Sp_of RX11 rfl (by decide +kernel) rfl (Nat.le_of_ble_eq_true rfl) ?_
  refine v_iconst (pc' := 1) rfl dX11_told_0 ?_
  refine v_istore_n (ls' := [(2, _), (0, _), (1, _)]) (pc' := 2) rfl dX11_told_1 rfl rfl rfl ?_
  refine v_iconst (pc' := 3) rfl dX11_told_2 ?_
  refine v_istore_n (ls' := [(3, _), (2, _), (0, _), (1, _)]) (pc' := 4) rfl dX11_told_3 rfl rfl rfl ?_
  refine v_ls [2, 3, 1, 0] rfl ?_
  refine v_loop2 4 (fun (c : Int) (x : Int) => ∃ k : Nat, x = ((k + 1 : Nat) : Int) ∧ k ≤ n ∧ c = (cdk g k : Nat)) (fun (c : Int) (x : Int) => (8 - x).toNat) (fun (c : Int) (x : Int) => [(0, aR 63), (1, aR 73), (2, aI (c)), (3, aI (x))]) (fun (c : Int) (x : Int) => []) (fun (c : Int) (x : Int) => w) (fun c x hI0 ih0 => ?_) (0) (1) (⟨0, rfl, by omega, rfl⟩)
  obtain ⟨k, hx, hk, hc⟩ := hI0
  refine v_iload_n 3 (pc' := 5) rfl dX11_told_4 rfl rfl ?_
  refine v_aload_n 0 (pc' := 6) rfl dX11_told_5 rfl rfl ?_
  refine v_get (z := (n : Int)) (pc' := 9) rfl dX11_told_6 fk_RX11_125 ly_63 rfl (r0) ?_
  refine v_icmp_gt (pc' := 12) (tgt := 27) rfl dX11_told_9 (by decide) (by omega) (by omega) (fun c0 => ?_) (fun c0 => ?_)
  ·
    have hke : k = n := by omega
    refine v_iload_n 2 (pc' := 28) rfl dX11_told_27 rfl rfl ?_
    refine v_iret dX11_told_28 (by decide) (rfl) ?_
    exact ⟨by rw [hc, hke], rfl⟩
  ·
    refine v_bipush (pc' := 14) rfl dX11_told_12 rfl ?_
    refine v_iload_n 2 (pc' := 15) rfl dX11_told_14 rfl rfl ?_
    refine v_imul (pc' := 16) rfl dX11_told_15 ?_
    refine v_aload_n 1 (pc' := 17) rfl dX11_told_16 rfl rfl ?_
    refine v_iload_n 3 (pc' := 18) rfl dX11_told_17 rfl rfl ?_
    refine v_iald (z := ((g (k + 1) : Nat) : Int)) (pc' := 19) rfl dX11_told_18 ly_73 (by omega) (by omega) rfl (by rw [show x.toNat = k + 1 by omega]; exact hD (k + 1) (by omega) (by omega)) ?_
    refine v_iadd (pc' := 20) rfl dX11_told_19 ?_
    refine v_nm (fun c' hc' => ?_)
    refine v_istore_n (ls' := [(2, _), (0, _), (1, _), (3, _)]) (pc' := 21) rfl dX11_told_20 rfl rfl rfl ?_
    refine v_iinc (ls' := [(3, _), (2, _), (0, _), (1, _)]) 3 (pc' := 24) rfl dX11_told_21 rfl rfl rfl ?_
    refine v_nl (fun x' hx' => ?_)
    refine v_goto (tgt := 4) dX11_told_24 (by decide) ?_
    refine v_ls [2, 3, 1, 0] rfl ?_
    exact ih0 (c') (x') (⟨k + 1, by omega, by omega, by rw [cdk_s]; omega⟩) (by omega)
set_option maxHeartbeats 4000000 in
set_option maxRecDepth 100000 in
theorem c_told_75 (l : Launch) (G : Gx) {n : Nat} {g : Nat → Nat} (hn7 : n ≤ 7) (w : Wd) (r0 : w 63 0 = n) (hD : ∀ x, 1 ≤ x → x ≤ n → w 75 x = (g x : Nat)) : SpP l G 0 mX11_told [aR 63, aR 75] w (((cdk g n : Nat) : Int)) := by
  refine Sp_of RX11 rfl (by decide +kernel) rfl (Nat.le_of_ble_eq_true rfl) ?_
  refine v_iconst (pc' := 1) rfl dX11_told_0 ?_
  refine v_istore_n (ls' := [(2, _), (0, _), (1, _)]) (pc' := 2) rfl dX11_told_1 rfl rfl rfl ?_
  refine v_iconst (pc' := 3) rfl dX11_told_2 ?_
  refine v_istore_n (ls' := [(3, _), (2, _), (0, _), (1, _)]) (pc' := 4) rfl dX11_told_3 rfl rfl rfl ?_
  refine v_ls [2, 3, 1, 0] rfl ?_
  refine v_loop2 4 (fun (c : Int) (x : Int) => ∃ k : Nat, x = ((k + 1 : Nat) : Int) ∧ k ≤ n ∧ c = (cdk g k : Nat)) (fun (c : Int) (x : Int) => (8 - x).toNat) (fun (c : Int) (x : Int) => [(0, aR 63), (1, aR 75), (2, aI (c)), (3, aI (x))]) (fun (c : Int) (x : Int) => []) (fun (c : Int) (x : Int) => w) (fun c x hI0 ih0 => ?_) (0) (1) (⟨0, rfl, by omega, rfl⟩)
  obtain ⟨k, hx, hk, hc⟩ := hI0
  refine v_iload_n 3 (pc' := 5) rfl dX11_told_4 rfl rfl ?_
  refine v_aload_n 0 (pc' := 6) rfl dX11_told_5 rfl rfl ?_
  refine v_get (z := (n : Int)) (pc' := 9) rfl dX11_told_6 fk_RX11_125 ly_63 rfl (r0) ?_
  refine v_icmp_gt (pc' := 12) (tgt := 27) rfl dX11_told_9 (by decide) (by omega) (by omega) (fun c0 => ?_) (fun c0 => ?_)
  ·
    have hke : k = n := by omega
    refine v_iload_n 2 (pc' := 28) rfl dX11_told_27 rfl rfl ?_
    refine v_iret dX11_told_28 (by decide) (rfl) ?_
    exact ⟨by rw [hc, hke], rfl⟩
  ·
    refine v_bipush (pc' := 14) rfl dX11_told_12 rfl ?_
    refine v_iload_n 2 (pc' := 15) rfl dX11_told_14 rfl rfl ?_
    refine v_imul (pc' := 16) rfl dX11_told_15 ?_
    refine v_aload_n 1 (pc' := 17) rfl dX11_told_16 rfl rfl ?_
    refine v_iload_n 3 (pc' := 18) rfl dX11_told_17 rfl rfl ?_
    refine v_iald (z := ((g (k + 1) : Nat) : Int)) (pc' := 19) rfl dX11_told_18 ly_75 (by omega) (by omega) rfl (by rw [show x.toNat = k + 1 by omega]; exact hD (k + 1) (by omega) (by omega)) ?_
    refine v_iadd (pc' := 20) rfl dX11_told_19 ?_
    refine v_nm (fun c' hc' => ?_)
    refine v_istore_n (ls' := [(2, _), (0, _), (1, _), (3, _)]) (pc' := 21) rfl dX11_told_20 rfl rfl rfl ?_
    refine v_iinc (ls' := [(3, _), (2, _), (0, _), (1, _)]) 3 (pc' := 24) rfl dX11_told_21 rfl rfl rfl ?_
    refine v_nl (fun x' hx' => ?_)
    refine v_goto (tgt := 4) dX11_told_24 (by decide) ?_
    refine v_ls [2, 3, 1, 0] rfl ?_
    exact ih0 (c') (x') (⟨k + 1, by omega, by omega, by rw [cdk_s]; omega⟩) (by omega)
set_option maxHeartbeats 4000000 in
set_option maxRecDepth 100000 in
theorem c_stays (l : Launch) (G : Gx) {n : Nat} (hn7 : n ≤ 7) (w : Wd) (r0 : w 63 0 = n) : SpP l G 0 mX11_stays [aR 63] w (((cdk pid n : Nat) : Int)) := by
  refine Sp_of RX11 rfl (by decide +kernel) rfl (Nat.le_of_ble_eq_true rfl) ?_
  refine v_iconst (pc' := 1) rfl dX11_stays_0 ?_
  refine v_istore_n (ls' := [(1, _), (0, _)]) (pc' := 2) rfl dX11_stays_1 rfl rfl rfl ?_
  refine v_iconst (pc' := 3) rfl dX11_stays_2 ?_
  refine v_istore_n (ls' := [(2, _), (1, _), (0, _)]) (pc' := 4) rfl dX11_stays_3 rfl rfl rfl ?_
  refine v_ls [2, 1, 0] rfl ?_
  refine v_loop2 4 (fun (c : Int) (x : Int) => ∃ k : Nat, x = ((k + 1 : Nat) : Int) ∧ k ≤ n ∧ c = (cdk pid k : Nat)) (fun (c : Int) (x : Int) => (8 - x).toNat) (fun (c : Int) (x : Int) => [(0, aR 63), (1, aI (c)), (2, aI (x))]) (fun (c : Int) (x : Int) => []) (fun (c : Int) (x : Int) => w) (fun c x hI0 ih0 => ?_) (0) (1) (⟨0, rfl, by omega, rfl⟩)
  obtain ⟨k, hx, hk, hc⟩ := hI0
  refine v_iload_n 2 (pc' := 5) rfl dX11_stays_4 rfl rfl ?_
  refine v_aload_n 0 (pc' := 6) rfl dX11_stays_5 rfl rfl ?_
  refine v_get (z := (n : Int)) (pc' := 9) rfl dX11_stays_6 fk_RX11_125 ly_63 rfl (r0) ?_
  refine v_icmp_gt (pc' := 12) (tgt := 25) rfl dX11_stays_9 (by decide) (by omega) (by omega) (fun c0 => ?_) (fun c0 => ?_)
  ·
    have hke : k = n := by omega
    refine v_iload_n 1 (pc' := 26) rfl dX11_stays_25 rfl rfl ?_
    refine v_iret dX11_stays_26 (by decide) (rfl) ?_
    exact ⟨by rw [hc, hke], rfl⟩
  ·
    refine v_bipush (pc' := 14) rfl dX11_stays_12 rfl ?_
    refine v_iload_n 1 (pc' := 15) rfl dX11_stays_14 rfl rfl ?_
    refine v_imul (pc' := 16) rfl dX11_stays_15 ?_
    refine v_iload_n 2 (pc' := 17) rfl dX11_stays_16 rfl rfl ?_
    refine v_iadd (pc' := 18) rfl dX11_stays_17 ?_
    refine v_nm (fun c' hc' => ?_)
    refine v_istore_n (ls' := [(1, _), (0, _), (2, _)]) (pc' := 19) rfl dX11_stays_18 rfl rfl rfl ?_
    refine v_iinc (ls' := [(2, _), (1, _), (0, _)]) 2 (pc' := 22) rfl dX11_stays_19 rfl rfl rfl ?_
    refine v_nl (fun x' hx' => ?_)
    refine v_goto (tgt := 4) dX11_stays_22 (by decide) ?_
    refine v_ls [2, 1, 0] rfl ?_
    exact ih0 (c') (x') (⟨k + 1, by omega, by omega, by rw [cdk_s]; show _ = ((10 * cdk pid k + (k + 1) : Nat) : Int); omega⟩) (by omega)
set_option maxHeartbeats 4000000 in
set_option maxRecDepth 100000 in
theorem c_thenM (l : Launch) (G : Gx) {p q : Int} {n : Nat} {f g : Nat → Nat} (hp : p = (cdk f n : Nat)) (hq : q = (cdk g n : Nat)) (hf : Pm n f) (hg : Pm n g) (hn1 : 1 ≤ n) (hn7 : n ≤ 7) (w : Wd) (r0 : w 63 0 = n) : Sp l G 1 mX11_then [aR 63, aI (p), aI (q)] w (fun z w' => Fr [69, 70] w w' ∧ z = (cdk (pcomp f g) n : Nat)) := by
  refine Sp_of RX11 rfl (by decide +kernel) rfl (Nat.le_of_ble_eq_true rfl) ?_
  refine v_aload_n 0 (pc' := 1) rfl dX11_then_0 rfl rfl ?_
  refine v_iload_n 1 (pc' := 2) rfl dX11_then_1 rfl rfl ?_
  refine v_aload_n 0 (pc' := 3) rfl dX11_then_2 rfl rfl ?_
  refine v_getR (pc' := 6) rfl dX11_then_3 fk_RX11_25 ly_63 rfl ?_
  refine v_cVv (pc' := 9) rfl dX11_then_6 lk_RX11_133 ly_63 rfl (c_reads_69 l G (f := f) hp hf hn1 hn7 w r0) rfl rfl rfl (fun reads1 w1 hq1 => ?_)
  obtain ⟨x1, f1⟩ := hq1
  have r0 : w1 63 0 = (n : Int) := (f1 63 0 (by decide)).trans r0
  refine v_aload_n 0 (pc' := 10) rfl dX11_then_9 rfl rfl ?_
  refine v_iload_n 2 (pc' := 11) rfl dX11_then_10 rfl rfl ?_
  refine v_aload_n 0 (pc' := 12) rfl dX11_then_11 rfl rfl ?_
  refine v_getR (pc' := 15) rfl dX11_then_12 fk_RX11_28 ly_63 rfl ?_
  refine v_cVv (pc' := 18) rfl dX11_then_15 lk_RX11_133 ly_63 rfl (c_reads_70 l G (f := g) hq hg hn1 hn7 w1 r0) rfl rfl rfl (fun reads2 w2 hq2 => ?_)
  obtain ⟨x2, f2⟩ := hq2
  have y1 : ∀ x, 1 ≤ x → x ≤ n → w2 69 x = (f x : Nat) := fun x a b => (f2 69 x rfl).trans (x1 x a b)
  have f12 : Fr [69, 70] w w2 := (f1.mono rfl).trs (f2.mono rfl)
  have r0 : w2 63 0 = (n : Int) := (f2 63 0 (by decide)).trans r0
  refine v_iconst (pc' := 19) rfl dX11_then_18 ?_
  refine v_istore_n (ls' := [(3, _), (0, _), (1, _), (2, _)]) (pc' := 20) rfl dX11_then_19 rfl rfl rfl ?_
  refine v_iconst (pc' := 21) rfl dX11_then_20 ?_
  refine v_istore (ls' := [(4, _), (3, _), (0, _), (1, _), (2, _)]) (pc' := 23) rfl dX11_then_21 rfl rfl ?_
  refine v_ls [2, 3, 4, 1, 0] rfl ?_
  refine v_loop2 23 (fun (c : Int) (x : Int) => ∃ k : Nat, x = ((k + 1 : Nat) : Int) ∧ k ≤ n ∧ c = (cdk (pcomp f g) k : Nat)) (fun (c : Int) (x : Int) => (8 - x).toNat) (fun (c : Int) (x : Int) => [(0, aR 63), (1, aI (p)), (2, aI (q)), (3, aI (c)), (4, aI (x))]) (fun (c : Int) (x : Int) => []) (fun (c : Int) (x : Int) => w2) (fun c x hI0 ih0 => ?_) (0) (1) (⟨0, rfl, by omega, rfl⟩)
  obtain ⟨k, hx, hk, hc⟩ := hI0
  refine v_iload 4 (pc' := 25) rfl dX11_then_23 rfl ?_
  refine v_aload_n 0 (pc' := 26) rfl dX11_then_25 rfl rfl ?_
  refine v_get (z := (n : Int)) (pc' := 29) rfl dX11_then_26 fk_RX11_125 ly_63 rfl (r0) ?_
  refine v_icmp_gt (pc' := 32) (tgt := 56) rfl dX11_then_29 (by decide) (by omega) (by omega) (fun c0 => ?_) (fun c0 => ?_)
  ·
    have hke : k = n := by omega
    refine v_iload_n 3 (pc' := 57) rfl dX11_then_56 rfl rfl ?_
    refine v_iret dX11_then_57 (by decide) (rfl) ?_
    exact ⟨f12, by rw [hc, hke]⟩
  ·
    have hfk := hf.1 (k + 1) (by omega) (by omega)
    refine v_bipush (pc' := 34) rfl dX11_then_32 rfl ?_
    refine v_iload_n 3 (pc' := 35) rfl dX11_then_34 rfl rfl ?_
    refine v_imul (pc' := 36) rfl dX11_then_35 ?_
    refine v_aload_n 0 (pc' := 37) rfl dX11_then_36 rfl rfl ?_
    refine v_getR (pc' := 40) rfl dX11_then_37 fk_RX11_28 ly_63 rfl ?_
    refine v_aload_n 0 (pc' := 41) rfl dX11_then_40 rfl rfl ?_
    refine v_getR (pc' := 44) rfl dX11_then_41 fk_RX11_25 ly_63 rfl ?_
    refine v_iload 4 (pc' := 46) rfl dX11_then_44 rfl ?_
    refine v_iald (z := ((f (k + 1) : Nat) : Int)) (pc' := 47) rfl dX11_then_46 ly_69 (by omega) (by omega) rfl (by rw [show x.toNat = k + 1 by omega]; exact y1 (k + 1) (by omega) (by omega)) ?_
    refine v_iald (z := ((g (f (k + 1)) : Nat) : Int)) (pc' := 48) rfl dX11_then_47 ly_70 (by omega) (by omega) rfl (x2 _ hfk.1 hfk.2) ?_
    refine v_iadd (pc' := 49) rfl dX11_then_48 ?_
    refine v_nm (fun c' hc' => ?_)
    refine v_istore_n (ls' := [(3, _), (0, _), (1, _), (2, _), (4, _)]) (pc' := 50) rfl dX11_then_49 rfl rfl rfl ?_
    refine v_iinc (ls' := [(4, _), (3, _), (0, _), (1, _), (2, _)]) 4 (pc' := 53) rfl dX11_then_50 rfl rfl rfl ?_
    refine v_nl (fun x' hx' => ?_)
    refine v_goto (tgt := 23) dX11_then_53 (by decide) ?_
    refine v_ls [2, 3, 4, 1, 0] rfl ?_
    exact ih0 (c') (x') (⟨k + 1, by omega, by omega, by rw [cdk_s]; show _ = ((10 * cdk (pcomp f g) k + g (f (k + 1)) : Nat) : Int); omega⟩) (by omega)
theorem Pm.inv_in {n : Nat} {f : Nat → Nat} (hf : Pm n f) (hn : n ≤ 7) {y : Nat} (h1 : 1 ≤ y) (h2 : y ≤ n) : 1 ≤ pinv f y ∧ pinv f y ≤ n := (hf.inv hn).1 y h1 h2
set_option maxHeartbeats 4000000 in
set_option maxRecDepth 100000 in
theorem c_backM (l : Launch) (G : Gx) {p : Int} {n : Nat} {f : Nat → Nat} (hp : p = (cdk f n : Nat)) (hf : Pm n f) (hn1 : 1 ≤ n) (hn7 : n ≤ 7) (w : Wd) (r0 : w 63 0 = n) : Sp l G 1 mX11_back [aR 63, aI (p)] w (fun z w' => Fr [69, 70] w w' ∧ z = (cdk (pinv f) n : Nat)) := by
  refine Sp_of RX11 rfl (by decide +kernel) rfl (Nat.le_of_ble_eq_true rfl) ?_
  refine v_aload_n 0 (pc' := 1) rfl dX11_back_0 rfl rfl ?_
  refine v_iload_n 1 (pc' := 2) rfl dX11_back_1 rfl rfl ?_
  refine v_aload_n 0 (pc' := 3) rfl dX11_back_2 rfl rfl ?_
  refine v_getR (pc' := 6) rfl dX11_back_3 fk_RX11_25 ly_63 rfl ?_
  refine v_cVv (pc' := 9) rfl dX11_back_6 lk_RX11_133 ly_63 rfl (c_reads_69 l G (f := f) hp hf hn1 hn7 w r0) rfl rfl rfl (fun reads1 w1 hq1 => ?_)
  obtain ⟨x1, f1⟩ := hq1
  have r0 : w1 63 0 = (n : Int) := (f1 63 0 (by decide)).trans r0
  refine v_iconst (pc' := 10) rfl dX11_back_9 ?_
  refine v_istore_n (ls' := [(2, _), (0, _), (1, _)]) (pc' := 11) rfl dX11_back_10 rfl rfl rfl ?_
  refine v_ls [1, 2, 0] rfl ?_
  refine v_loop2 11 (fun (x : Int) (wl : Wd) => ∃ k : Nat, x = ((k + 1 : Nat) : Int) ∧ k ≤ n ∧ (∀ z, 1 ≤ z → z ≤ k → wl 70 (f z) = (z : Nat)) ∧ Fr [70] w1 wl) (fun (x : Int) (wl : Wd) => (8 - x).toNat) (fun (x : Int) (wl : Wd) => [(0, aR 63), (1, aI (p)), (2, aI (x))]) (fun (x : Int) (wl : Wd) => []) (fun (x : Int) (wl : Wd) => wl) (fun x wl hI0 ih0 => ?_) (1) w1 (⟨0, rfl, by omega, fun z a b => by omega, Fr.rf _ _⟩)
  obtain ⟨k, hx, hk, hA, hfl⟩ := hI0
  have g0 := (hfl 63 0 rfl).trans r0
  refine v_iload_n 2 (pc' := 12) rfl dX11_back_11 rfl rfl ?_
  refine v_aload_n 0 (pc' := 13) rfl dX11_back_12 rfl rfl ?_
  refine v_get (z := (n : Int)) (pc' := 16) rfl dX11_back_13 fk_RX11_125 ly_63 rfl (g0) ?_
  refine v_icmp_gt (pc' := 19) (tgt := 37) rfl dX11_back_16 (by decide) (by omega) (by omega) (fun c0 => ?_) (fun c0 => ?_)
  ·
    have hke : k = n := by omega
    have hD : ∀ y, 1 ≤ y → y ≤ n → wl 70 y = (pinv f y : Nat) := fun y a b => by
      have i := hf.inv_in hn7 a b
      have := hA (pinv f y) i.1 (by omega)
      rw [hf.f_inv hn7] at this; exact this
    refine v_aload_n 0 (pc' := 38) rfl dX11_back_37 rfl rfl ?_
    refine v_aload_n 0 (pc' := 39) rfl dX11_back_38 rfl rfl ?_
    refine v_getR (pc' := 42) rfl dX11_back_39 fk_RX11_28 ly_63 rfl ?_
    refine v_cVP (pc' := 45) rfl dX11_back_42 lk_RX11_137 ly_63 rfl (c_told_70 l G (g := pinv f) hn7 wl g0 hD) rfl rfl rfl ?_
    refine v_nm (fun told1 htold1 => ?_)
    refine v_iret dX11_back_45 (by decide) (rfl) ?_
    exact ⟨(f1.mono rfl).trs (hfl.mono rfl), htold1⟩
  ·
    have hfk := hf.1 (k + 1) (by omega) (by omega)
    refine v_aload_n 0 (pc' := 20) rfl dX11_back_19 rfl rfl ?_
    refine v_getR (pc' := 23) rfl dX11_back_20 fk_RX11_28 ly_63 rfl ?_
    refine v_aload_n 0 (pc' := 24) rfl dX11_back_23 rfl rfl ?_
    refine v_getR (pc' := 27) rfl dX11_back_24 fk_RX11_25 ly_63 rfl ?_
    refine v_iload_n 2 (pc' := 28) rfl dX11_back_27 rfl rfl ?_
    refine v_iald (z := ((f (k + 1) : Nat) : Int)) (pc' := 29) rfl dX11_back_28 ly_69 (by omega) (by omega) rfl (by rw [show x.toNat = k + 1 by omega, hfl 69 (k + 1) rfl]; exact x1 (k + 1) (by omega) (by omega)) ?_
    refine v_iload_n 2 (pc' := 30) rfl dX11_back_29 rfl rfl ?_
    refine v_iast (pc' := 31) rfl dX11_back_30 ly_70 (by omega) (by omega) rfl ?_
    refine v_nmw (fun w2 hw2 => ?_)
    have g0 : w2 63 0 = (n : Int) := by rw [hw2, up_ne _ _ (by omega)]; exact g0
    refine v_iinc (ls' := [(2, _), (0, _), (1, _)]) 2 (pc' := 34) rfl dX11_back_31 rfl rfl rfl ?_
    refine v_nl (fun x' hx' => ?_)
    refine v_goto (tgt := 11) dX11_back_34 (by decide) ?_
    refine v_ls [1, 2, 0] rfl ?_
    exact ih0 (x') w2 (⟨k + 1, by omega, by omega, fun z a b => by
        rw [hw2, up_at, show (((f (k + 1) : Nat) : Int)).toNat = f (k + 1) by omega]
        by_cases q : z = k + 1
        · rw [if_pos ⟨rfl, by rw [q]⟩]; omega
        · rw [if_neg (fun e => q (hf.inj e.2))]; exact hA z a (by omega), by rw [hw2]; exact hfl.up rfl⟩) (by omega)
set_option maxHeartbeats 4000000 in
set_option maxRecDepth 100000 in
theorem c_relabelledM (l : Launch) (G : Gx) {p q : Int} {n : Nat} {f g : Nat → Nat} (hp : p = (cdk f n : Nat)) (hq : q = (cdk g n : Nat)) (hf : Pm n f) (hg : Pm n g) (hn1 : 1 ≤ n) (hn7 : n ≤ 7) (w : Wd) (r0 : w 63 0 = n) : Sp l G 1 mX11_relabelled [aR 63, aI (p), aI (q)] w (fun z w' => Fr [69, 70, 71] w w' ∧ z = (cdk (pconj f g) n : Nat)) := by
  refine Sp_of RX11 rfl (by decide +kernel) rfl (Nat.le_of_ble_eq_true rfl) ?_
  refine v_aload_n 0 (pc' := 1) rfl dX11_relabelled_0 rfl rfl ?_
  refine v_iload_n 1 (pc' := 2) rfl dX11_relabelled_1 rfl rfl ?_
  refine v_aload_n 0 (pc' := 3) rfl dX11_relabelled_2 rfl rfl ?_
  refine v_getR (pc' := 6) rfl dX11_relabelled_3 fk_RX11_25 ly_63 rfl ?_
  refine v_cVv (pc' := 9) rfl dX11_relabelled_6 lk_RX11_133 ly_63 rfl (c_reads_69 l G (f := f) hp hf hn1 hn7 w r0) rfl rfl rfl (fun reads1 w1 hq1 => ?_)
  obtain ⟨x1, f1⟩ := hq1
  have r0 : w1 63 0 = (n : Int) := (f1 63 0 (by decide)).trans r0
  refine v_aload_n 0 (pc' := 10) rfl dX11_relabelled_9 rfl rfl ?_
  refine v_iload_n 2 (pc' := 11) rfl dX11_relabelled_10 rfl rfl ?_
  refine v_aload_n 0 (pc' := 12) rfl dX11_relabelled_11 rfl rfl ?_
  refine v_getR (pc' := 15) rfl dX11_relabelled_12 fk_RX11_28 ly_63 rfl ?_
  refine v_cVv (pc' := 18) rfl dX11_relabelled_15 lk_RX11_133 ly_63 rfl (c_reads_70 l G (f := g) hq hg hn1 hn7 w1 r0) rfl rfl rfl (fun reads2 w2 hq2 => ?_)
  obtain ⟨x2, f2⟩ := hq2
  have y1 : ∀ x, 1 ≤ x → x ≤ n → w2 69 x = (f x : Nat) := fun x a b => (f2 69 x rfl).trans (x1 x a b)
  have f12 : Fr [69, 70] w w2 := (f1.mono rfl).trs (f2.mono rfl)
  have r0 : w2 63 0 = (n : Int) := (f2 63 0 (by decide)).trans r0
  refine v_iconst (pc' := 19) rfl dX11_relabelled_18 ?_
  refine v_istore_n (ls' := [(3, _), (0, _), (1, _), (2, _)]) (pc' := 20) rfl dX11_relabelled_19 rfl rfl rfl ?_
  refine v_ls [1, 2, 3, 0] rfl ?_
  refine v_loop2 20 (fun (x : Int) (wl : Wd) => ∃ k : Nat, x = ((k + 1 : Nat) : Int) ∧ k ≤ n ∧ (∀ z, 1 ≤ z → z ≤ k → wl 71 (g z) = (g (f z) : Nat)) ∧ Fr [71] w2 wl) (fun (x : Int) (wl : Wd) => (8 - x).toNat) (fun (x : Int) (wl : Wd) => [(0, aR 63), (1, aI (p)), (2, aI (q)), (3, aI (x))]) (fun (x : Int) (wl : Wd) => []) (fun (x : Int) (wl : Wd) => wl) (fun x wl hI0 ih0 => ?_) (1) w2 (⟨0, rfl, by omega, fun z a b => by omega, Fr.rf _ _⟩)
  obtain ⟨k, hx, hk, hA, hfl⟩ := hI0
  have g0 := (hfl 63 0 rfl).trans r0
  refine v_iload_n 3 (pc' := 21) rfl dX11_relabelled_20 rfl rfl ?_
  refine v_aload_n 0 (pc' := 22) rfl dX11_relabelled_21 rfl rfl ?_
  refine v_get (z := (n : Int)) (pc' := 25) rfl dX11_relabelled_22 fk_RX11_125 ly_63 rfl (g0) ?_
  refine v_icmp_gt (pc' := 28) (tgt := 56) rfl dX11_relabelled_25 (by decide) (by omega) (by omega) (fun c0 => ?_) (fun c0 => ?_)
  ·
    have hke : k = n := by omega
    have hD : ∀ y, 1 ≤ y → y ≤ n → wl 71 y = (pconj f g y : Nat) := fun y a b => by
      have i := hg.inv_in hn7 a b
      have := hA (pinv g y) i.1 (by omega)
      rw [hg.f_inv hn7] at this; exact this
    refine v_aload_n 0 (pc' := 57) rfl dX11_relabelled_56 rfl rfl ?_
    refine v_aload_n 0 (pc' := 58) rfl dX11_relabelled_57 rfl rfl ?_
    refine v_getR (pc' := 61) rfl dX11_relabelled_58 fk_RX11_31 ly_63 rfl ?_
    refine v_cVP (pc' := 64) rfl dX11_relabelled_61 lk_RX11_137 ly_63 rfl (c_told_71 l G (g := pconj f g) hn7 wl g0 hD) rfl rfl rfl ?_
    refine v_nm (fun told1 htold1 => ?_)
    refine v_iret dX11_relabelled_64 (by decide) (rfl) ?_
    exact ⟨(f12.mono rfl).trs (hfl.mono rfl), htold1⟩
  ·
    have hfk := hf.1 (k + 1) (by omega) (by omega)
    have hgk := hg.1 (k + 1) (by omega) (by omega)
    refine v_aload_n 0 (pc' := 29) rfl dX11_relabelled_28 rfl rfl ?_
    refine v_getR (pc' := 32) rfl dX11_relabelled_29 fk_RX11_31 ly_63 rfl ?_
    refine v_aload_n 0 (pc' := 33) rfl dX11_relabelled_32 rfl rfl ?_
    refine v_getR (pc' := 36) rfl dX11_relabelled_33 fk_RX11_28 ly_63 rfl ?_
    refine v_iload_n 3 (pc' := 37) rfl dX11_relabelled_36 rfl rfl ?_
    refine v_iald (z := ((g (k + 1) : Nat) : Int)) (pc' := 38) rfl dX11_relabelled_37 ly_70 (by omega) (by omega) rfl (by rw [show x.toNat = k + 1 by omega, hfl 70 (k + 1) rfl]; exact x2 (k + 1) (by omega) (by omega)) ?_
    refine v_aload_n 0 (pc' := 39) rfl dX11_relabelled_38 rfl rfl ?_
    refine v_getR (pc' := 42) rfl dX11_relabelled_39 fk_RX11_28 ly_63 rfl ?_
    refine v_aload_n 0 (pc' := 43) rfl dX11_relabelled_42 rfl rfl ?_
    refine v_getR (pc' := 46) rfl dX11_relabelled_43 fk_RX11_25 ly_63 rfl ?_
    refine v_iload_n 3 (pc' := 47) rfl dX11_relabelled_46 rfl rfl ?_
    refine v_iald (z := ((f (k + 1) : Nat) : Int)) (pc' := 48) rfl dX11_relabelled_47 ly_69 (by omega) (by omega) rfl (by rw [show x.toNat = k + 1 by omega, hfl 69 (k + 1) rfl]; exact y1 (k + 1) (by omega) (by omega)) ?_
    refine v_iald (z := ((g (f (k + 1)) : Nat) : Int)) (pc' := 49) rfl dX11_relabelled_48 ly_70 (by omega) (by omega) rfl ((hfl 70 _ rfl).trans (x2 _ hfk.1 hfk.2)) ?_
    refine v_iast (pc' := 50) rfl dX11_relabelled_49 ly_71 (by omega) (by omega) rfl ?_
    refine v_nmw (fun w3 hw3 => ?_)
    have g0 : w3 63 0 = (n : Int) := by rw [hw3, up_ne _ _ (by omega)]; exact g0
    refine v_iinc (ls' := [(3, _), (0, _), (1, _), (2, _)]) 3 (pc' := 53) rfl dX11_relabelled_50 rfl rfl rfl ?_
    refine v_nl (fun x' hx' => ?_)
    refine v_goto (tgt := 20) dX11_relabelled_53 (by decide) ?_
    refine v_ls [1, 2, 3, 0] rfl ?_
    exact ih0 (x') w3 (⟨k + 1, by omega, by omega, fun z a b => by
        rw [hw3, up_at, show (((g (k + 1) : Nat) : Int)).toNat = g (k + 1) by omega]
        by_cases q : z = k + 1
        · rw [if_pos ⟨rfl, by rw [q]⟩, q]
        · rw [if_neg (fun e => q (hg.inj e.2))]; exact hA z a (by omega), by rw [hw3]; exact hfl.up rfl⟩) (by omega)
set_option maxHeartbeats 4000000 in
set_option maxRecDepth 100000 in
theorem c_facesOfM (l : Launch) (G : Gx) {p q : Int} {n : Nat} {f g : Nat → Nat} (hp : p = (cdk f n : Nat)) (hq : q = (cdk g n : Nat)) (hf : Pm n f) (hg : Pm n g) (hn1 : 1 ≤ n) (hn7 : n ≤ 7) (w : Wd) (r0 : w 63 0 = n) : Sp l G 2 mX11_facesOf [aR 63, aI (p), aI (q)] w (fun z w' => Fr [69, 70] w w' ∧ z = (cdk (pface f g) n : Nat)) := by
  refine Sp_of RX11 rfl (by decide +kernel) rfl (Nat.le_of_ble_eq_true rfl) ?_
  refine v_aload_n 0 (pc' := 1) rfl dX11_facesOf_0 rfl rfl ?_
  refine v_aload_n 0 (pc' := 2) rfl dX11_facesOf_1 rfl rfl ?_
  refine v_iload_n 1 (pc' := 3) rfl dX11_facesOf_2 rfl rfl ?_
  refine v_iload_n 2 (pc' := 4) rfl dX11_facesOf_3 rfl rfl ?_
  refine v_cVi (pc' := 7) rfl dX11_facesOf_4 lk_RX11_141 ly_63 rfl (c_thenM l G hp hq hf hg hn1 hn7 w r0) rfl rfl rfl (fun then1 w1 hq1 => ?_)
  obtain ⟨f1, z1⟩ := hq1
  have r0 : w1 63 0 = (n : Int) := (f1 63 0 (by decide)).trans r0
  refine v_cVi (pc' := 10) rfl dX11_facesOf_7 lk_RX11_145 ly_63 rfl (c_backM l G z1 (hf.comp hg) hn1 hn7 w1 r0) rfl rfl rfl (fun back1 w2 hq2 => ?_)
  refine v_iret dX11_facesOf_10 (by decide) (rfl) ?_
  exact ⟨f1.trs hq2.1, hq2.2⟩
set_option maxHeartbeats 4000000 in
set_option maxRecDepth 100000 in
theorem c_codeOf (l : Launch) (G : Gx) {wh : Int} (hwh : rg wh) {n : Nat} {s a : Nat → Nat} (hV : MapV n s a) (w : Wd) (hM : RMW w n s a) : Sp l G 3 mX11_codeOf [aR 63, aI (wh)] w (fun z w' => Fr [69, 70] w w' ∧ z = (cdk (trF s a wh) n : Nat)) := by
  obtain ⟨⟨hn1, hn7⟩, hs, ha⟩ := id hV
  obtain ⟨r0, r1, r2⟩ := id hM
  refine Sp_of RX11 rfl (by decide +kernel) rfl (Nat.le_of_ble_eq_true rfl) ?_
  refine v_iload_n 1 (pc' := 1) rfl dX11_codeOf_0 rfl rfl ?_
  refine v_if_ne (pc' := 4) (tgt := 11) rfl dX11_codeOf_1 (by decide) (by omega) (fun c0 => ?_) (fun c0 => ?_)
  ·
    refine v_iload_n 1 (pc' := 12) rfl dX11_codeOf_11 rfl rfl ?_
    refine v_iconst (pc' := 13) rfl dX11_codeOf_12 ?_
    refine v_icmp_ne (pc' := 16) (tgt := 23) rfl dX11_codeOf_13 (by decide) (by omega) (by omega) (fun c1 => ?_) (fun c1 => ?_)
    ·
      refine v_aload_n 0 (pc' := 24) rfl dX11_codeOf_23 rfl rfl ?_
      refine v_aload_n 0 (pc' := 25) rfl dX11_codeOf_24 rfl rfl ?_
      refine v_get (z := ((cdk s n : Nat) : Int)) (pc' := 28) rfl dX11_codeOf_25 fk_RX11_149 ly_63 rfl (r1) ?_
      refine v_aload_n 0 (pc' := 29) rfl dX11_codeOf_28 rfl rfl ?_
      refine v_get (z := ((cdk a n : Nat) : Int)) (pc' := 32) rfl dX11_codeOf_29 fk_RX11_152 ly_63 rfl (r2) ?_
      refine v_cVi (pc' := 35) rfl dX11_codeOf_32 lk_RX11_155 ly_63 rfl (c_facesOfM l G rfl rfl hs ha hn1 hn7 w r0) rfl rfl rfl (fun facesOf1 w1 hq1 => ?_)
      refine v_iret dX11_codeOf_35 (by decide) (rfl) ?_
      first | exact ⟨Fr.rf _ _, by unfold trF; rw [if_pos (by omega)]⟩ | exact ⟨Fr.rf _ _, by unfold trF; rw [if_neg (by omega), if_pos (by omega)]⟩ | exact ⟨hq1.1, by unfold trF; rw [if_neg (by omega), if_neg (by omega)]; exact hq1.2⟩
    ·
      refine v_aload_n 0 (pc' := 17) rfl dX11_codeOf_16 rfl rfl ?_
      refine v_get (z := ((cdk a n : Nat) : Int)) (pc' := 20) rfl dX11_codeOf_17 fk_RX11_152 ly_63 rfl (r2) ?_
      refine v_goto (tgt := 35) dX11_codeOf_20 (by decide) ?_
      refine v_iret dX11_codeOf_35 (by decide) (rfl) ?_
      first | exact ⟨Fr.rf _ _, by unfold trF; rw [if_pos (by omega)]⟩ | exact ⟨Fr.rf _ _, by unfold trF; rw [if_neg (by omega), if_pos (by omega)]⟩ | exact ⟨hq1.1, by unfold trF; rw [if_neg (by omega), if_neg (by omega)]; exact hq1.2⟩
  ·
    refine v_aload_n 0 (pc' := 5) rfl dX11_codeOf_4 rfl rfl ?_
    refine v_get (z := ((cdk s n : Nat) : Int)) (pc' := 8) rfl dX11_codeOf_5 fk_RX11_149 ly_63 rfl (r1) ?_
    refine v_goto (tgt := 35) dX11_codeOf_8 (by decide) ?_
    refine v_iret dX11_codeOf_35 (by decide) (rfl) ?_
    first | exact ⟨Fr.rf _ _, by unfold trF; rw [if_pos (by omega)]⟩ | exact ⟨Fr.rf _ _, by unfold trF; rw [if_neg (by omega), if_pos (by omega)]⟩ | exact ⟨hq1.1, by unfold trF; rw [if_neg (by omega), if_neg (by omega)]; exact hq1.2⟩
set_option maxHeartbeats 4000000 in
set_option maxRecDepth 100000 in
theorem c_bringsTo (l : Launch) (G : Gx) {d : Int} {x : Nat} {p : Int} {n : Nat} {f : Nat → Nat} (hp : p = (cdk f n : Nat)) (hf : Pm n f) (hn1 : 1 ≤ n) (hn7 : n ≤ 7) (hd : d = (x : Nat)) (h1 : 1 ≤ x) (h2 : x ≤ n) (w : Wd) (r0 : w 63 0 = n) : Sp l G 1 mX11_bringsTo [aR 63, aI (p), aI (d)] w (fun z w' => Fr [69] w w' ∧ z = (f x : Nat)) := by
  refine Sp_of RX11 rfl (by decide +kernel) rfl (Nat.le_of_ble_eq_true rfl) ?_
  refine v_aload_n 0 (pc' := 1) rfl dX11_bringsTo_0 rfl rfl ?_
  refine v_iload_n 1 (pc' := 2) rfl dX11_bringsTo_1 rfl rfl ?_
  refine v_aload_n 0 (pc' := 3) rfl dX11_bringsTo_2 rfl rfl ?_
  refine v_getR (pc' := 6) rfl dX11_bringsTo_3 fk_RX11_25 ly_63 rfl ?_
  refine v_cVv (pc' := 9) rfl dX11_bringsTo_6 lk_RX11_133 ly_63 rfl (c_reads_69 l G (f := f) hp hf hn1 hn7 w r0) rfl rfl rfl (fun reads1 w1 hq1 => ?_)
  obtain ⟨x1, f1⟩ := hq1
  have r0 : w1 63 0 = (n : Int) := (f1 63 0 (by decide)).trans r0
  refine v_aload_n 0 (pc' := 10) rfl dX11_bringsTo_9 rfl rfl ?_
  refine v_getR (pc' := 13) rfl dX11_bringsTo_10 fk_RX11_25 ly_63 rfl ?_
  refine v_iload_n 2 (pc' := 14) rfl dX11_bringsTo_13 rfl rfl ?_
  refine v_iald (z := ((f x : Nat) : Int)) (pc' := 15) rfl dX11_bringsTo_14 ly_69 (by omega) (by omega) rfl (by rw [show d.toNat = x by omega]; exact x1 x h1 h2) ?_
  refine v_iret dX11_bringsTo_15 (by decide) (rfl) ?_
  exact ⟨f1, rfl⟩
theorem pstep_in {n : Nat} {f : Nat → Nat} (hf : Pm n f) {x : Nat} (h1 : 1 ≤ x) (h2 : x ≤ n) : ∀ k, 1 ≤ pstep f k x ∧ pstep f k x ≤ n
  | 0 => ⟨h1, h2⟩
  | k + 1 => by rw [pstep_s]; have := pstep_in hf h1 h2 k; exact hf.1 _ this.1 this.2
theorem mask_low7 : ∀ u : Nat, u < 128 → ∀ x : Nat, x < 7 → ((u &&& (bt (x + 1) - 1)) == 0) = ([1, 2, 3, 4, 5, 6, 7].all (fun y => (u &&& bt y == 0) || Nat.ble (x + 1) y)) := by decide +kernel
theorem leastB_iff {n : Nat} {f : Nat → Nat} (hf : Pm n f) (hn7 : n ≤ 7) {x : Nat} (h1 : 1 ≤ x) (h2 : x ≤ n) : leastB f x = true ↔ ∀ i, x ≤ pstep f i x := by
  have hf7 := hf.mono hn7
  have hx7 : x ≤ 7 := by omega
  have hl := ringN_lt (f := f) (x := x) (hf.b7 hn7) h1 hx7
  have e := mask_low7 (ringN f x) hl (x - 1) (by omega)
  rw [show x - 1 + 1 = x by omega] at e
  unfold leastB
  rw [e, List.all_eq_true]
  constructor
  · intro h i
    have hi := pstep_in hf h1 h2 i
    have q := h (pstep f i x) (by simp; omega)
    simp only [Bool.or_eq_true, beq_iff_eq, Nat.ble_eq] at q
    exact q.resolve_left (ring_step hf7 h1 hx7 i)
  · intro h y hy
    simp only [Bool.or_eq_true, beq_iff_eq, Nat.ble_eq]
    by_cases q : ringN f x &&& bt y = 0
    · exact Or.inl q
    · right
      have hy7 : 1 ≤ y ∧ y ≤ 7 := by simp at hy; omega
      obtain ⟨i, -, hi⟩ := (ring_has hf7 h1 hx7 hy7.1 hy7.2).mp q
      rw [← hi]; exact h i
set_option maxHeartbeats 4000000 in
set_option maxRecDepth 100000 in
theorem c_cycleLong (l : Launch) (G : Gx) {d : Int} {x : Nat} {p : Int} {n : Nat} {f : Nat → Nat} (hp : p = (cdk f n : Nat)) (hf : Pm n f) (hn1 : 1 ≤ n) (hn7 : n ≤ 7) (hd : d = (x : Nat)) (h1 : 1 ≤ x) (h2 : x ≤ n) (w : Wd) (r0 : w 63 0 = n) : Sp l G 1 mX11_cycleLong [aR 63, aI (p), aI (d)] w (fun z w' => Fr [69] w w' ∧ z = (popc (ringN f x) : Nat)) := by
  have hcy := ring_cyc (hf.mono hn7) h1 (show x ≤ 7 by omega)
  obtain ⟨hL1, hL7, -, hLx, hLd, -⟩ := hcy
  refine Sp_of RX11 rfl (by decide +kernel) rfl (Nat.le_of_ble_eq_true rfl) ?_
  refine v_aload_n 0 (pc' := 1) rfl dX11_cycleLong_0 rfl rfl ?_
  refine v_iload_n 1 (pc' := 2) rfl dX11_cycleLong_1 rfl rfl ?_
  refine v_aload_n 0 (pc' := 3) rfl dX11_cycleLong_2 rfl rfl ?_
  refine v_getR (pc' := 6) rfl dX11_cycleLong_3 fk_RX11_25 ly_63 rfl ?_
  refine v_cVv (pc' := 9) rfl dX11_cycleLong_6 lk_RX11_133 ly_63 rfl (c_reads_69 l G (f := f) hp hf hn1 hn7 w r0) rfl rfl rfl (fun reads1 w1 hq1 => ?_)
  obtain ⟨x1, f1⟩ := hq1
  have r0 : w1 63 0 = (n : Int) := (f1 63 0 (by decide)).trans r0
  refine v_iconst (pc' := 10) rfl dX11_cycleLong_9 ?_
  refine v_istore_n (ls' := [(3, _), (0, _), (1, _), (2, _)]) (pc' := 11) rfl dX11_cycleLong_10 rfl rfl rfl ?_
  refine v_aload_n 1 (pc' := 12) rfl dX11_cycleLong_11 rfl rfl ?_
  refine v_getR (pc' := 15) rfl dX11_cycleLong_12 fk_RX11_25 ly_63 rfl ?_
  refine v_iload_n 3 (pc' := 16) rfl dX11_cycleLong_15 rfl rfl ?_
  refine v_iald (z := ((f x : Nat) : Int)) (pc' := 17) rfl dX11_cycleLong_16 ly_69 (by omega) (by omega) rfl (by rw [show d.toNat = x by omega]; exact x1 x h1 h2) ?_
  refine v_nm (fun y' hy' => ?_)
  refine v_istore (ls' := [(4, _), (3, _), (0, _), (1, _), (2, _)]) (pc' := 19) rfl dX11_cycleLong_17 rfl rfl ?_
  refine v_ls [2, 3, 4, 1, 0] rfl ?_
  refine v_loop2 19 (fun (k : Int) (y : Int) => ∃ j : Nat, k = ((j + 1 : Nat) : Int) ∧ j + 1 ≤ popc (ringN f x) ∧ y = (pstep f (j + 1) x : Nat)) (fun (k : Int) (y : Int) => (8 - k).toNat) (fun (k : Int) (y : Int) => [(0, aR 63), (1, aI (p)), (2, aI (d)), (3, aI (k)), (4, aI (y))]) (fun (k : Int) (y : Int) => []) (fun (k : Int) (y : Int) => w1) (fun k y hI0 ih0 => ?_) (1) (y') (⟨0, rfl, by omega, hy'⟩)
  obtain ⟨j, hk, hj, hy⟩ := hI0
  have hjn := pstep_in hf h1 h2 (j + 1)
  refine v_iload 4 (pc' := 21) rfl dX11_cycleLong_19 rfl ?_
  refine v_iload_n 2 (pc' := 22) rfl dX11_cycleLong_21 rfl rfl ?_
  refine v_icmp_eq (pc' := 25) (tgt := 41) rfl dX11_cycleLong_22 (by decide) (by omega) (by omega) (fun c0 => ?_) (fun c0 => ?_)
  ·
    have hje : j + 1 = popc (ringN f x) := by
      rcases Nat.lt_or_ge (j + 1) (popc (ringN f x)) with q | q
      · exact absurd (show pstep f 0 x = pstep f (j + 1) x by show x = _; omega) (hLd 0 (j + 1) (by omega) q)
      · omega
    refine v_iload_n 3 (pc' := 42) rfl dX11_cycleLong_41 rfl rfl ?_
    refine v_iret dX11_cycleLong_42 (by decide) (rfl) ?_
    exact ⟨f1, by rw [hk, hje]⟩
  ·
    have hjl : j + 2 ≤ popc (ringN f x) := by
      rcases Nat.lt_or_ge (j + 1) (popc (ringN f x)) with q | q
      · omega
      · exact absurd (show pstep f (j + 1) x = x by rw [show j + 1 = popc (ringN f x) by omega]; exact hLx) (by omega)
    refine v_iload_n 3 (pc' := 26) rfl dX11_cycleLong_25 rfl rfl ?_
    refine v_iconst (pc' := 27) rfl dX11_cycleLong_26 ?_
    refine v_iadd (pc' := 28) rfl dX11_cycleLong_27 ?_
    refine v_nm (fun k' hk' => ?_)
    refine v_istore_n (ls' := [(3, _), (0, _), (1, _), (2, _), (4, _)]) (pc' := 29) rfl dX11_cycleLong_28 rfl rfl rfl ?_
    refine v_aload_n 1 (pc' := 30) rfl dX11_cycleLong_29 rfl rfl ?_
    refine v_getR (pc' := 33) rfl dX11_cycleLong_30 fk_RX11_25 ly_63 rfl ?_
    refine v_iload 4 (pc' := 35) rfl dX11_cycleLong_33 rfl ?_
    refine v_iald (z := ((pstep f (j + 1 + 1) x : Nat) : Int)) (pc' := 36) rfl dX11_cycleLong_35 ly_69 (by omega) (by omega) rfl (by rw [show y.toNat = pstep f (j + 1) x by omega, pstep_s f (j + 1) x]; exact x1 _ hjn.1 hjn.2) ?_
    refine v_nm (fun y' hy' => ?_)
    refine v_istore (ls' := [(4, _), (3, _), (0, _), (1, _), (2, _)]) (pc' := 38) rfl dX11_cycleLong_36 rfl rfl ?_
    refine v_goto (tgt := 19) dX11_cycleLong_38 (by decide) ?_
    refine v_ls [2, 3, 4, 1, 0] rfl ?_
    exact ih0 (k') (y') (⟨j + 1, by omega, by omega, hy'⟩) (by omega)
set_option maxHeartbeats 4000000 in
set_option maxRecDepth 100000 in
theorem c_isLeast (l : Launch) (G : Gx) {d : Int} {x : Nat} {p : Int} {n : Nat} {f : Nat → Nat} (hp : p = (cdk f n : Nat)) (hf : Pm n f) (hn1 : 1 ≤ n) (hn7 : n ≤ 7) (hd : d = (x : Nat)) (h1 : 1 ≤ x) (h2 : x ≤ n) (w : Wd) (r0 : w 63 0 = n) : Sp l G 1 mX11_isLeast [aR 63, aI (p), aI (d)] w (fun z w' => Fr [69] w w' ∧ z = if leastB f x then 1 else 0) := by
  have hcy := ring_cyc (hf.mono hn7) h1 (show x ≤ 7 by omega)
  obtain ⟨hL1, hL7, -, hLx, hLd, -⟩ := hcy
  refine Sp_of RX11 rfl (by decide +kernel) rfl (Nat.le_of_ble_eq_true rfl) ?_
  refine v_aload_n 0 (pc' := 1) rfl dX11_isLeast_0 rfl rfl ?_
  refine v_iload_n 1 (pc' := 2) rfl dX11_isLeast_1 rfl rfl ?_
  refine v_aload_n 0 (pc' := 3) rfl dX11_isLeast_2 rfl rfl ?_
  refine v_getR (pc' := 6) rfl dX11_isLeast_3 fk_RX11_25 ly_63 rfl ?_
  refine v_cVv (pc' := 9) rfl dX11_isLeast_6 lk_RX11_133 ly_63 rfl (c_reads_69 l G (f := f) hp hf hn1 hn7 w r0) rfl rfl rfl (fun reads1 w1 hq1 => ?_)
  obtain ⟨x1, f1⟩ := hq1
  have r0 : w1 63 0 = (n : Int) := (f1 63 0 (by decide)).trans r0
  refine v_aload_n 0 (pc' := 10) rfl dX11_isLeast_9 rfl rfl ?_
  refine v_getR (pc' := 13) rfl dX11_isLeast_10 fk_RX11_25 ly_63 rfl ?_
  refine v_iload_n 2 (pc' := 14) rfl dX11_isLeast_13 rfl rfl ?_
  refine v_iald (z := ((f x : Nat) : Int)) (pc' := 15) rfl dX11_isLeast_14 ly_69 (by omega) (by omega) rfl (by rw [show d.toNat = x by omega]; exact x1 x h1 h2) ?_
  refine v_nm (fun y' hy' => ?_)
  refine v_istore_n (ls' := [(3, _), (0, _), (1, _), (2, _)]) (pc' := 16) rfl dX11_isLeast_15 rfl rfl rfl ?_
  refine v_ls [1, 2, 3, 0] rfl ?_
  refine v_loop2 16 (fun (y : Int) (gk : Int) => ∃ j : Nat, gk = ((j + 1 : Nat) : Int) ∧ j + 1 ≤ popc (ringN f x) ∧ y = (pstep f (j + 1) x : Nat) ∧ ∀ i, i ≤ j → x ≤ pstep f i x) (fun (y : Int) (gk : Int) => (8 - gk).toNat) (fun (y : Int) (gk : Int) => [(0, aR 63), (1, aI (p)), (2, aI (d)), (3, aI (y))]) (fun (y : Int) (gk : Int) => []) (fun (y : Int) (gk : Int) => w1) (fun y gk hI0 ih0 => ?_) (y') (1) (⟨0, rfl, by omega, hy', fun i hi => by rw [show i = 0 by omega]; exact Nat.le_refl x⟩)
  obtain ⟨j, hgk, hj, hy, hA⟩ := hI0
  have hjn := pstep_in hf h1 h2 (j + 1)
  refine v_iload_n 3 (pc' := 17) rfl dX11_isLeast_16 rfl rfl ?_
  refine v_iload_n 2 (pc' := 18) rfl dX11_isLeast_17 rfl rfl ?_
  refine v_icmp_eq (pc' := 21) (tgt := 38) rfl dX11_isLeast_18 (by decide) (by omega) (by omega) (fun c0 => ?_) (fun c0 => ?_)
  ·
    refine v_iconst (pc' := 39) rfl dX11_isLeast_38 ?_
    refine v_iret dX11_isLeast_39 (by decide) (rfl) ?_
    have hje : j + 1 = popc (ringN f x) := by
      rcases Nat.lt_or_ge (j + 1) (popc (ringN f x)) with q | q
      · exact absurd (show pstep f 0 x = pstep f (j + 1) x by show x = _; omega) (hLd 0 (j + 1) (by omega) q)
      · omega
    have hyes : leastB f x = true := (leastB_iff hf hn7 h1 h2).mpr (fun i => by rw [pstep_mod hLx hL1 i]; exact hA _ (by have := Nat.mod_lt i (show 0 < popc (ringN f x) by omega); omega))
    exact ⟨f1, by rw [if_pos hyes]⟩
  ·
    have hjl : j + 2 ≤ popc (ringN f x) := by
      rcases Nat.lt_or_ge (j + 1) (popc (ringN f x)) with q | q
      · omega
      · exact absurd (show pstep f (j + 1) x = x by rw [show j + 1 = popc (ringN f x) by omega]; exact hLx) (by omega)
    refine v_iload_n 3 (pc' := 22) rfl dX11_isLeast_21 rfl rfl ?_
    refine v_iload_n 2 (pc' := 23) rfl dX11_isLeast_22 rfl rfl ?_
    refine v_icmp_ge (pc' := 26) (tgt := 28) rfl dX11_isLeast_23 (by decide) (by omega) (by omega) (fun c1 => ?_) (fun c1 => ?_)
    ·
      refine v_aload_n 0 (pc' := 29) rfl dX11_isLeast_28 rfl rfl ?_
      refine v_getR (pc' := 32) rfl dX11_isLeast_29 fk_RX11_25 ly_63 rfl ?_
      refine v_iload_n 3 (pc' := 33) rfl dX11_isLeast_32 rfl rfl ?_
      refine v_iald (z := ((pstep f (j + 1 + 1) x : Nat) : Int)) (pc' := 34) rfl dX11_isLeast_33 ly_69 (by omega) (by omega) rfl (by rw [show y.toNat = pstep f (j + 1) x by omega, pstep_s f (j + 1) x]; exact x1 _ hjn.1 hjn.2) ?_
      refine v_nm (fun y' hy' => ?_)
      refine v_istore_n (ls' := [(3, _), (0, _), (1, _), (2, _)]) (pc' := 35) rfl dX11_isLeast_34 rfl rfl rfl ?_
      refine v_goto (tgt := 16) dX11_isLeast_35 (by decide) ?_
      refine v_ls [1, 2, 3, 0] rfl ?_
      exact ih0 (y') (gk + 1) (⟨j + 1, by omega, by omega, hy', fun i hi => by
          by_cases q : i = j + 1
          · rw [q]; omega
          · exact hA i (by omega)⟩) (by omega)
    ·
      refine v_iconst (pc' := 27) rfl dX11_isLeast_26 ?_
      refine v_iret dX11_isLeast_27 (by decide) (rfl) ?_
      have hno : ¬ leastB f x = true := fun q => by have := (leastB_iff hf hn7 h1 h2).mp q (j + 1); omega
      exact ⟨f1, by rw [if_neg hno]⟩

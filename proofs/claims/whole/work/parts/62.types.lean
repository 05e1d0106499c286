/-! ===== the reference: types, orders, powers ===== -/
theorem sumN_le1 {h : Nat → Nat} (H : ∀ x, h x ≤ 1) : ∀ k, sumN h k ≤ k
  | 0 => Nat.le_refl _
  | k + 1 => by have := sumN_le1 H k; have := H (k + 1); simp only [sumN]; omega
theorem lst_le (f : Nat → Nat) (k : Nat) : lstN f k ≤ k := sumN_le1 (fun x => by split <;> omega) k
theorem lstC_le (f : Nat → Nat) (k j : Nat) : lstC f k j ≤ k := sumN_le1 (fun x => by split; (split <;> omega); omega) k
theorem lst_s (f : Nat → Nat) (k : Nat) : lstN f (k + 1) = lstN f k + (if leastB f (k + 1) then 1 else 0) := rfl
theorem lstC_s (f : Nat → Nat) (k j : Nat) : lstC f (k + 1) j = lstC f k j + (if leastB f (k + 1) then (if popc (ringN f (k + 1)) = j then 1 else 0) else 0) := rfl
set_option maxHeartbeats 4000000 in
set_option maxRecDepth 100000 in
theorem c_cyclesOf (l : Launch) (G : Gx) {p : Int} {n : Nat} {f : Nat → Nat} (hp : p = (cdk f n : Nat)) (hf : Pm n f) (hn1 : 1 ≤ n) (hn7 : n ≤ 7) (w : Wd) (r0 : w 63 0 = n) : Sp l G 2 mX11_cyclesOf [aR 63, aI (p)] w (fun z w' => Fr [69] w w' ∧ z = (lstN f n : Nat)) := by
  refine Sp_of RX11 rfl (by decide +kernel) rfl (Nat.le_of_ble_eq_true rfl) ?_
  refine v_iconst (pc' := 1) rfl dX11_cyclesOf_0 ?_
  refine v_istore_n (ls' := [(2, _), (0, _), (1, _)]) (pc' := 2) rfl dX11_cyclesOf_1 rfl rfl rfl ?_
  refine v_iconst (pc' := 3) rfl dX11_cyclesOf_2 ?_
  refine v_istore_n (ls' := [(3, _), (2, _), (0, _), (1, _)]) (pc' := 4) rfl dX11_cyclesOf_3 rfl rfl rfl ?_
  refine v_ls [2, 3, 1, 0] rfl ?_
  refine v_loop3 4 (fun (c : Int) (x : Int) (wl : Wd) => ∃ k : Nat, x = ((k + 1 : Nat) : Int) ∧ k ≤ n ∧ c = (lstN f k : Nat) ∧ Fr [69] w wl) (fun (c : Int) (x : Int) (wl : Wd) => (8 - x).toNat) (fun (c : Int) (x : Int) (wl : Wd) => [(0, aR 63), (1, aI (p)), (2, aI (c)), (3, aI (x))]) (fun (c : Int) (x : Int) (wl : Wd) => []) (fun (c : Int) (x : Int) (wl : Wd) => wl) (fun c x wl hI0 ih0 => ?_) (0) (1) w (⟨0, rfl, by omega, rfl, Fr.rf _ _⟩)
  obtain ⟨k, hx, hk, hc, hfl⟩ := hI0
  have g0 := (hfl 63 0 rfl).trans r0
  refine v_iload_n 3 (pc' := 5) rfl dX11_cyclesOf_4 rfl rfl ?_
  refine v_aload_n 0 (pc' := 6) rfl dX11_cyclesOf_5 rfl rfl ?_
  refine v_get (z := (n : Int)) (pc' := 9) rfl dX11_cyclesOf_6 fk_RX11_125 ly_63 rfl (g0) ?_
  refine v_icmp_gt (pc' := 12) (tgt := 35) rfl dX11_cyclesOf_9 (by decide) (by omega) (by omega) (fun c0 => ?_) (fun c0 => ?_)
  ·
    have hke : k = n := by omega
    refine v_iload_n 2 (pc' := 36) rfl dX11_cyclesOf_35 rfl rfl ?_
    refine v_iret dX11_cyclesOf_36 (by decide) (rfl) ?_
    exact ⟨hfl, by rw [hc, hke]⟩
  ·
    refine v_iload_n 2 (pc' := 13) rfl dX11_cyclesOf_12 rfl rfl ?_
    refine v_aload_n 0 (pc' := 14) rfl dX11_cyclesOf_13 rfl rfl ?_
    refine v_iload_n 1 (pc' := 15) rfl dX11_cyclesOf_14 rfl rfl ?_
    refine v_iload_n 3 (pc' := 16) rfl dX11_cyclesOf_15 rfl rfl ?_
    refine v_cVi (pc' := 19) rfl dX11_cyclesOf_16 lk_RX11_158 ly_63 rfl (c_isLeast l G hp hf hn1 hn7 (x := k + 1) hx (by omega) (by omega) wl g0) rfl rfl rfl (fun isLeast1 w1 hq1 => ?_)
    obtain ⟨fl, zl⟩ := hq1
    have g0 : w1 63 0 = (n : Int) := (fl 63 0 (by decide)).trans g0
    refine v_if_eq (pc' := 22) (tgt := 26) rfl dX11_cyclesOf_19 (by decide) (jn_r zl) (fun c1 => ?_) (fun c1 => ?_)
    ·
      have hL := jn_0 zl (by omega)
      refine v_iconst (pc' := 27) rfl dX11_cyclesOf_26 ?_
      refine v_iadd (pc' := 28) rfl dX11_cyclesOf_27 ?_
      refine v_nm (fun c' hc' => ?_)
      refine v_istore_n (ls' := [(2, _), (0, _), (1, _), (3, _)]) (pc' := 29) rfl dX11_cyclesOf_28 rfl rfl rfl ?_
      refine v_iinc (ls' := [(3, _), (2, _), (0, _), (1, _)]) 3 (pc' := 32) rfl dX11_cyclesOf_29 rfl rfl rfl ?_
      refine v_nl (fun x' hx' => ?_)
      refine v_goto (tgt := 4) dX11_cyclesOf_32 (by decide) ?_
      refine v_ls [2, 3, 1, 0] rfl ?_
      exact ih0 (c') (x') w1 (⟨k + 1, by omega, by omega, by rw [lst_s, hL]; simp; omega, hfl.trs fl⟩) (by omega)
    ·
      have hL := jn_1 zl (by omega)
      refine v_iconst (pc' := 23) rfl dX11_cyclesOf_22 ?_
      refine v_goto (tgt := 27) dX11_cyclesOf_23 (by decide) ?_
      refine v_iadd (pc' := 28) rfl dX11_cyclesOf_27 ?_
      refine v_nm (fun c' hc' => ?_)
      refine v_istore_n (ls' := [(2, _), (0, _), (1, _), (3, _)]) (pc' := 29) rfl dX11_cyclesOf_28 rfl rfl rfl ?_
      refine v_iinc (ls' := [(3, _), (2, _), (0, _), (1, _)]) 3 (pc' := 32) rfl dX11_cyclesOf_29 rfl rfl rfl ?_
      refine v_nl (fun x' hx' => ?_)
      refine v_goto (tgt := 4) dX11_cyclesOf_32 (by decide) ?_
      refine v_ls [2, 3, 1, 0] rfl ?_
      exact ih0 (c') (x') w1 (⟨k + 1, by omega, by omega, by rw [lst_s, hL]; simp; omega, hfl.trs fl⟩) (by omega)
set_option maxHeartbeats 4000000 in
set_option maxRecDepth 100000 in
theorem c_typeOf (l : Launch) (G : Gx) {p : Int} {n : Nat} {f : Nat → Nat} (hp : p = (cdk f n : Nat)) (hf : Pm n f) (hn1 : 1 ≤ n) (hn7 : n ≤ 7) (w : Wd) (r0 : w 63 0 = n) : Sp l G 2 mX11_typeOf [aR 63, aI (p)] w (fun z w' => Fr [69, 72] w w' ∧ z = (kindN f n : Nat)) := by
  refine Sp_of RX11 rfl (by decide +kernel) rfl (Nat.le_of_ble_eq_true rfl) ?_
  refine v_iconst (pc' := 1) rfl dX11_typeOf_0 ?_
  refine v_istore_n (ls' := [(2, _), (0, _), (1, _)]) (pc' := 2) rfl dX11_typeOf_1 rfl rfl rfl ?_
  refine v_ls [1, 2, 0] rfl ?_
  refine v_loop2 2 (fun (u : Int) (wl : Wd) => ∃ k : Nat, u = k ∧ k ≤ 8 ∧ (∀ j, j < k → wl 72 j = 0) ∧ Fr [69, 72] w wl) (fun (u : Int) (wl : Wd) => (8 - u).toNat) (fun (u : Int) (wl : Wd) => [(0, aR 63), (1, aI (p)), (2, aI (u))]) (fun (u : Int) (wl : Wd) => []) (fun (u : Int) (wl : Wd) => wl) (fun u wl hI0 ih0 => ?_) (0) w (⟨0, rfl, by omega, fun j h => by omega, Fr.rf _ _⟩)
  obtain ⟨k, hu, hk, hA, hfl⟩ := hI0
  refine v_iload_n 2 (pc' := 3) rfl dX11_typeOf_2 rfl rfl ?_
  refine v_bipush (pc' := 5) rfl dX11_typeOf_3 rfl ?_
  refine v_icmp_gt (pc' := 8) (tgt := 21) rfl dX11_typeOf_5 (by decide) (by omega) (by omega) (fun c0 => ?_) (fun c0 => ?_)
  ·
    refine v_iconst (pc' := 22) rfl dX11_typeOf_21 ?_
    refine v_istore_n (ls' := [(2, _), (0, _), (1, _)]) (pc' := 23) rfl dX11_typeOf_22 rfl rfl rfl ?_
    refine v_ls [1, 2, 0] rfl ?_
    refine v_loop2 23 (fun (x : Int) (wm : Wd) => ∃ k : Nat, x = ((k + 1 : Nat) : Int) ∧ k ≤ n ∧ (∀ j, j ≤ 7 → wm 72 j = (lstC f k j : Nat)) ∧ Fr [69, 72] w wm) (fun (x : Int) (wm : Wd) => (8 - x).toNat) (fun (x : Int) (wm : Wd) => [(0, aR 63), (1, aI (p)), (2, aI (x))]) (fun (x : Int) (wm : Wd) => []) (fun (x : Int) (wm : Wd) => wm) (fun x wm hI1 ih1 => ?_) (1) wl (⟨0, rfl, by omega, fun j h => hA j (by omega), hfl⟩)
    clear hA hfl hu hk
    obtain ⟨k, hx, hk, hA, hfl⟩ := hI1
    have g0 := (hfl 63 0 rfl).trans r0
    refine v_iload_n 2 (pc' := 24) rfl dX11_typeOf_23 rfl rfl ?_
    refine v_aload_n 0 (pc' := 25) rfl dX11_typeOf_24 rfl rfl ?_
    refine v_get (z := (n : Int)) (pc' := 28) rfl dX11_typeOf_25 fk_RX11_125 ly_63 rfl (g0) ?_
    refine v_icmp_gt (pc' := 31) (tgt := 70) rfl dX11_typeOf_28 (by decide) (by omega) (by omega) (fun c1 => ?_) (fun c1 => ?_)
    ·
      have hke : k = n := by omega
      have hA2 : ∀ j, j ≤ 7 → wm 72 j = (lstC f n j : Nat) := fun j hj => by rw [← hke]; exact hA j hj
      refine v_iconst (pc' := 71) rfl dX11_typeOf_70 ?_
      refine v_istore_n (ls' := [(2, _), (0, _), (1, _)]) (pc' := 72) rfl dX11_typeOf_71 rfl rfl rfl ?_
      refine v_aload_n 1 (pc' := 73) rfl dX11_typeOf_72 rfl rfl ?_
      refine v_get (z := (n : Int)) (pc' := 76) rfl dX11_typeOf_73 fk_RX11_125 ly_63 rfl (g0) ?_
      refine v_nm (fun kk' hkk' => ?_)
      refine v_istore_n (ls' := [(3, _), (2, _), (0, _), (1, _)]) (pc' := 77) rfl dX11_typeOf_76 rfl rfl rfl ?_
      refine v_ls [2, 3, 1, 0] rfl ?_
      refine v_loop2 77 (fun (ty : Int) (kk : Int) => ∃ m T : Nat, kk = m ∧ m ≤ n ∧ ty = T ∧ typL (lstC f n) m T = kindN f n) (fun (ty : Int) (kk : Int) => kk.toNat) (fun (ty : Int) (kk : Int) => [(0, aR 63), (1, aI (p)), (2, aI (ty)), (3, aI (kk))]) (fun (ty : Int) (kk : Int) => []) (fun (ty : Int) (kk : Int) => wm) (fun ty kk hI2 ih2 => ?_) (0) (kk') (⟨n, 0, hkk', by omega, rfl, (kf_lst hn1 hn7 hf).symm⟩)
      obtain ⟨m, T, hkk, hm, hty, hR⟩ := hI2
      refine v_iload_n 3 (pc' := 78) rfl dX11_typeOf_77 rfl rfl ?_
      refine v_if_le (pc' := 81) (tgt := 114) rfl dX11_typeOf_78 (by decide) (by omega) (fun c3 => ?_) (fun c3 => ?_)
      ·
        have hm0 : m = 0 := by omega
        subst hm0
        refine v_iload_n 2 (pc' := 115) rfl dX11_typeOf_114 rfl rfl ?_
        refine v_iret dX11_typeOf_115 (by decide) (rfl) ?_
        exact ⟨hfl, by rw [hty, ← hR]; rfl⟩
      ·
        obtain ⟨m0, rfl⟩ : ∃ q, m = q + 1 := ⟨m - 1, by omega⟩
        have hcl := lstC_le f n (m0 + 1)
        refine v_iconst (pc' := 82) rfl dX11_typeOf_81 ?_
        refine v_istore (ls' := [(4, _), (0, _), (1, _), (2, _), (3, _)]) (pc' := 84) rfl dX11_typeOf_82 rfl rfl ?_
        refine v_ls [1, 2, 3, 4, 0] rfl ?_
        refine v_loop2 84 (fun (ty : Int) (i : Int) => ∃ j T2 : Nat, i = j ∧ j ≤ lstC f n (m0 + 1) ∧ ty = T2 ∧ repD T2 (m0 + 1) (lstC f n (m0 + 1) - j) = repD T (m0 + 1) (lstC f n (m0 + 1))) (fun (ty : Int) (i : Int) => ((lstC f n (m0 + 1) : Int) - i).toNat) (fun (ty : Int) (i : Int) => [(0, aR 63), (1, aI (p)), (2, aI (ty)), (3, aI (kk)), (4, aI (i))]) (fun (ty : Int) (i : Int) => []) (fun (ty : Int) (i : Int) => wm) (fun ty i hI3 ih3 => ?_) (ty) (0) (⟨0, T, rfl, by omega, hty, rfl⟩)
        obtain ⟨j, T2, hi, hj, hty2, hjT⟩ := hI3
        refine v_iload 4 (pc' := 86) rfl dX11_typeOf_84 rfl ?_
        refine v_aload_n 0 (pc' := 87) rfl dX11_typeOf_86 rfl rfl ?_
        refine v_getR (pc' := 90) rfl dX11_typeOf_87 fk_RX11_34 ly_63 rfl ?_
        refine v_iload_n 3 (pc' := 91) rfl dX11_typeOf_90 rfl rfl ?_
        refine v_iald (z := ((lstC f n (m0 + 1) : Nat) : Int)) (pc' := 92) rfl dX11_typeOf_91 ly_72 (by omega) (by omega) rfl (by rw [show kk.toNat = m0 + 1 by omega]; exact hA2 (m0 + 1) (by omega)) ?_
        refine v_icmp_ge (pc' := 95) (tgt := 108) rfl dX11_typeOf_92 (by decide) (by omega) (by omega) (fun c4 => ?_) (fun c4 => ?_)
        ·
          have hje : lstC f n (m0 + 1) - j = 0 := by omega
          refine v_iinc (ls' := [(3, _), (0, _), (1, _), (2, _), (4, _)]) 3 (pc' := 111) rfl dX11_typeOf_108 rfl rfl rfl ?_
          refine v_nl (fun kk' hkk' => ?_)
          refine v_goto (tgt := 77) dX11_typeOf_111 (by decide) ?_
          refine v_ls [1, 2, 3, 0] rfl ?_
          exact ih2 (ty) (kk') (⟨m0, T2, by omega, by omega, hty2, by rw [← hR]; simp only [typL]; rw [← hjT, hje]; rfl⟩) (by omega)
        ·
          refine v_bipush (pc' := 97) rfl dX11_typeOf_95 rfl ?_
          refine v_iload_n 2 (pc' := 98) rfl dX11_typeOf_97 rfl rfl ?_
          refine v_imul (pc' := 99) rfl dX11_typeOf_98 ?_
          refine v_iload_n 3 (pc' := 100) rfl dX11_typeOf_99 rfl rfl ?_
          refine v_iadd (pc' := 101) rfl dX11_typeOf_100 ?_
          refine v_nm (fun ty' hty' => ?_)
          refine v_istore_n (ls' := [(2, _), (0, _), (1, _), (3, _), (4, _)]) (pc' := 102) rfl dX11_typeOf_101 rfl rfl rfl ?_
          refine v_iinc (ls' := [(4, _), (2, _), (0, _), (1, _), (3, _)]) 4 (pc' := 105) rfl dX11_typeOf_102 rfl rfl rfl ?_
          refine v_nl (fun i' hi' => ?_)
          refine v_goto (tgt := 84) dX11_typeOf_105 (by decide) ?_
          refine v_ls [2, 3, 1, 4, 0] rfl ?_
          exact ih3 (ty') (i') (⟨j + 1, 10 * T2 + (m0 + 1), by omega, by omega, by omega, by rw [← hjT, show lstC f n (m0 + 1) - j = (lstC f n (m0 + 1) - (j + 1)) + 1 by omega]; rfl⟩) (by omega)
    ·
      refine v_aload_n 0 (pc' := 32) rfl dX11_typeOf_31 rfl rfl ?_
      refine v_iload_n 1 (pc' := 33) rfl dX11_typeOf_32 rfl rfl ?_
      refine v_iload_n 2 (pc' := 34) rfl dX11_typeOf_33 rfl rfl ?_
      refine v_cVi (pc' := 37) rfl dX11_typeOf_34 lk_RX11_158 ly_63 rfl (c_isLeast l G hp hf hn1 hn7 (x := k + 1) hx (by omega) (by omega) wm g0) rfl rfl rfl (fun isLeast1 w2 hq2 => ?_)
      obtain ⟨fl, zl⟩ := hq2
      have g0 : w2 63 0 = (n : Int) := (fl 63 0 (by decide)).trans g0
      refine v_if_eq (pc' := 40) (tgt := 64) rfl dX11_typeOf_37 (by decide) (jn_r zl) (fun c2 => ?_) (fun c2 => ?_)
      ·
        have hL := jn_0 zl (by omega)
        refine v_iinc (ls' := [(2, _), (0, _), (1, _)]) 2 (pc' := 67) rfl dX11_typeOf_64 rfl rfl rfl ?_
        refine v_nl (fun x' hx' => ?_)
        refine v_goto (tgt := 23) dX11_typeOf_67 (by decide) ?_
        refine v_ls [1, 2, 0] rfl ?_
        exact ih1 (x') w2 (⟨k + 1, by omega, by omega, fun j h => by rw [lstC_s, hL]; simp; rw [fl 72 j rfl]; exact hA j h, hfl.trs (fl.mono rfl)⟩) (by omega)
      ·
        have hL := jn_1 zl (by omega)
        refine v_aload_n 0 (pc' := 41) rfl dX11_typeOf_40 rfl rfl ?_
        refine v_getR (pc' := 44) rfl dX11_typeOf_41 fk_RX11_34 ly_63 rfl ?_
        refine v_aload_n 0 (pc' := 45) rfl dX11_typeOf_44 rfl rfl ?_
        refine v_iload_n 1 (pc' := 46) rfl dX11_typeOf_45 rfl rfl ?_
        refine v_iload_n 2 (pc' := 47) rfl dX11_typeOf_46 rfl rfl ?_
        refine v_cVi (pc' := 50) rfl dX11_typeOf_47 lk_RX11_162 ly_63 rfl (c_cycleLong l G hp hf hn1 hn7 (x := k + 1) hx (by omega) (by omega) w2 g0) rfl rfl rfl (fun cycleLong1 w3 hq3 => ?_)
        obtain ⟨fc3, zc3⟩ := hq3
        have hrl := popc_le14 (ringN f (k + 1))
        have hr7 := popc_le _ (ringN_lt (f := f) (x := k + 1) (hf.b7 hn7) (by omega) (by omega))
        have g0 : w3 63 0 = (n : Int) := (fc3 63 0 (by decide)).trans g0
        refine v_aload_n 0 (pc' := 51) rfl dX11_typeOf_50 rfl rfl ?_
        refine v_getR (pc' := 54) rfl dX11_typeOf_51 fk_RX11_34 ly_63 rfl ?_
        refine v_aload_n 0 (pc' := 55) rfl dX11_typeOf_54 rfl rfl ?_
        refine v_iload_n 1 (pc' := 56) rfl dX11_typeOf_55 rfl rfl ?_
        refine v_iload_n 2 (pc' := 57) rfl dX11_typeOf_56 rfl rfl ?_
        refine v_cVi (pc' := 60) rfl dX11_typeOf_57 lk_RX11_162 ly_63 rfl (c_cycleLong l G hp hf hn1 hn7 (x := k + 1) hx (by omega) (by omega) w3 g0) rfl rfl rfl (fun cycleLong2 w4 hq4 => ?_)
        obtain ⟨fc4, zc4⟩ := hq4
        have g0 : w4 63 0 = (n : Int) := (fc4 63 0 (by decide)).trans g0
        refine v_iald (z := (w4 72 (popc (ringN f (k + 1))))) (pc' := 61) rfl dX11_typeOf_60 ly_72 (by omega) (by omega) rfl (by rw [show cycleLong2.toNat = popc (ringN f (k + 1)) by omega]) ?_
        refine v_iconst (pc' := 62) rfl dX11_typeOf_61 ?_
        refine v_iadd (pc' := 63) rfl dX11_typeOf_62 ?_
        refine v_iast (pc' := 64) rfl dX11_typeOf_63 ly_72 (by omega) (by omega) rfl ?_
        refine v_nmw (fun w5 hw5 => ?_)
        have g0 : w5 63 0 = (n : Int) := by rw [hw5, up_ne _ _ (by omega)]; exact g0
        refine v_iinc (ls' := [(2, _), (0, _), (1, _)]) 2 (pc' := 67) rfl dX11_typeOf_64 rfl rfl rfl ?_
        refine v_nl (fun x' hx' => ?_)
        refine v_goto (tgt := 23) dX11_typeOf_67 (by decide) ?_
        refine v_ls [1, 2, 0] rfl ?_
        exact ih1 (x') w5 (⟨k + 1, by omega, by omega, fun j h => by
            rw [lstC_s, if_pos hL, hw5, up_at, show cycleLong1.toNat = popc (ringN f (k + 1)) by omega, fc4 72 j rfl, fc3 72 j rfl, fl 72 j rfl]
            have := hA j h
            by_cases q : j = popc (ringN f (k + 1))
            · rw [if_pos ⟨rfl, q⟩, if_pos q.symm, fc4 72 _ rfl, fc3 72 _ rfl, fl 72 _ rfl, ← q]; omega
            · rw [if_neg (fun e => q e.2), if_neg (fun e => q e.symm)]; omega, by rw [hw5]; exact (((hfl.trs (fl.mono rfl)).trs (fc3.mono rfl)).trs (fc4.mono rfl)).up rfl⟩) (by omega)
  ·
    refine v_aload_n 0 (pc' := 9) rfl dX11_typeOf_8 rfl rfl ?_
    refine v_getR (pc' := 12) rfl dX11_typeOf_9 fk_RX11_34 ly_63 rfl ?_
    refine v_iload_n 2 (pc' := 13) rfl dX11_typeOf_12 rfl rfl ?_
    refine v_iconst (pc' := 14) rfl dX11_typeOf_13 ?_
    refine v_iast (pc' := 15) rfl dX11_typeOf_14 ly_72 (by omega) (by omega) rfl ?_
    refine v_nmw (fun w1 hw1 => ?_)
    refine v_iinc (ls' := [(2, _), (0, _), (1, _)]) 2 (pc' := 18) rfl dX11_typeOf_15 rfl rfl rfl ?_
    refine v_nl (fun u' hu' => ?_)
    refine v_goto (tgt := 2) dX11_typeOf_18 (by decide) ?_
    refine v_ls [1, 2, 0] rfl ?_
    exact ih0 (u') w1 (⟨k + 1, by omega, by omega, fun j h => by
        rw [hw1, up_at, show u.toNat = k by omega]
        split
        · rfl
        · exact hA j (by omega), by rw [hw1]; exact hfl.up rfl⟩) (by omega)
def ppow (f : Nat → Nat) (k : Nat) : Nat → Nat := fun x => pstep f k x
theorem ppow_s (f : Nat → Nat) (k : Nat) : ppow f (k + 1) = pcomp (ppow f k) f := by funext x; exact pstep_s f k x
theorem ppow_pm {n : Nat} {f : Nat → Nat} (hf : Pm n f) : ∀ k, Pm n (ppow f k)
  | 0 => pm_id n
  | k + 1 => by rw [ppow_s]; exact (ppow_pm hf k).comp hf
theorem ppow_1 (f : Nat → Nat) : ppow f 1 = f := rfl
theorem ppow_id {n : Nat} {f : Nat → Nat} (hn1 : 1 ≤ n) (hn7 : n ≤ 7) (hf : Pm n f) : ppow f (orderN f n) = pid := (ppow_pm hf _).ext7 (pm_id n) hn7 hn7 (fun x h1 h2 => (kf_ord hn1 hn7 hf).2.1 x h1 h2)
theorem ppow_ne {n j : Nat} {f : Nat → Nat} (hn1 : 1 ≤ n) (hn7 : n ≤ 7) (hf : Pm n f) (h1 : 1 ≤ j) (h2 : j < orderN f n) : ppow f j ≠ pid := fun e => by
  obtain ⟨x, -, -, h⟩ := (kf_ord hn1 hn7 hf).2.2 j h1 h2
  exact h (congrFun e x)
theorem cd_pid {n : Nat} {f : Nat → Nat} (hn7 : n ≤ 7) (hf : Pm n f) : cdk f n = cdk pid n ↔ f = pid := cd_inj hf (pm_id n) hn7
theorem ppow_add (f : Nat → Nat) (i j : Nat) : ppow f (i + j) = pcomp (ppow f i) (ppow f j) := by
  induction j with
  | zero => rfl
  | succ j ih => rw [← Nat.add_assoc, ppow_s, ih, ppow_s]; rfl
theorem ppow_mod {n : Nat} {f : Nat → Nat} (hn1 : 1 ≤ n) (hn7 : n ≤ 7) (hf : Pm n f) (k : Nat) : ppow f (k % orderN f n) = ppow f k := by
  have h1 := (kf_ord hn1 hn7 hf).1.1
  funext x
  by_cases hx : 1 ≤ x ∧ x ≤ 7
  · exact (pstep_mod (L := orderN f n) ((kf_ord hn1 hn7 hf).2.1 x hx.1 hx.2) h1 k).symm
  · have off : ∀ j, Pm n (ppow f j) := ppow_pm hf
    rw [(off _).2.2 x (by omega), (off _).2.2 x (by omega)]
theorem ptimes_pow {n : Nat} {f : Nat → Nat} (hn7 : n ≤ 7) (hf : Pm n f) (k : Nat) : cdk (ptimes f k) n = cdk (ppow f k) n := cdk_congr n (fun x h1 h2 => by
  have hcy := ring_cyc (hf.mono hn7) h1 (show x ≤ 7 by omega)
  exact (pstep_mod hcy.2.2.2.1 hcy.1 k).symm)
set_option maxHeartbeats 4000000 in
set_option maxRecDepth 100000 in
theorem c_orderOf (l : Launch) (G : Gx) {p : Int} {n : Nat} {f : Nat → Nat} (hp : p = (cdk f n : Nat)) (hf : Pm n f) (hn1 : 1 ≤ n) (hn7 : n ≤ 7) (w : Wd) (r0 : w 63 0 = n) : Sp l G 2 mX11_orderOf [aR 63, aI (p)] w (fun z w' => Fr [69, 70] w w' ∧ z = (orderN f n : Nat)) := by
  have hor := (kf_ord hn1 hn7 hf).1
  have hpl := cd_le (pm_id n) hn7 (Nat.le_refl n)
  refine Sp_of RX11 rfl (by decide +kernel) rfl (Nat.le_of_ble_eq_true rfl) ?_
  refine v_aload_n 0 (pc' := 1) rfl dX11_orderOf_0 rfl rfl ?_
  refine v_cVP (pc' := 4) rfl dX11_orderOf_1 lk_RX11_187 ly_63 rfl (c_stays l G hn7 w r0) rfl rfl rfl ?_
  refine v_nm (fun stays1 hstays1 => ?_)
  refine v_istore_n (ls' := [(2, _), (0, _), (1, _)]) (pc' := 5) rfl dX11_orderOf_4 rfl rfl rfl ?_
  refine v_iconst (pc' := 6) rfl dX11_orderOf_5 ?_
  refine v_istore_n (ls' := [(3, _), (2, _), (0, _), (1, _)]) (pc' := 7) rfl dX11_orderOf_6 rfl rfl rfl ?_
  refine v_iload_n 3 (pc' := 8) rfl dX11_orderOf_7 rfl rfl ?_
  refine v_istore (ls' := [(4, _), (3, _), (2, _), (0, _), (1, _)]) (pc' := 10) rfl dX11_orderOf_8 rfl rfl ?_
  refine v_ls [3, 4, 2, 1, 0] rfl ?_
  refine v_loop3 10 (fun (k : Int) (q : Int) (wl : Wd) => ∃ j : Nat, k = ((j + 1 : Nat) : Int) ∧ j + 1 ≤ orderN f n ∧ q = (cdk (ppow f (j + 1)) n : Nat) ∧ Fr [69, 70] w wl) (fun (k : Int) (q : Int) (wl : Wd) => (13 - k).toNat) (fun (k : Int) (q : Int) (wl : Wd) => [(0, aR 63), (1, aI (p)), (2, aI (stays1)), (3, aI (k)), (4, aI (q))]) (fun (k : Int) (q : Int) (wl : Wd) => []) (fun (k : Int) (q : Int) (wl : Wd) => wl) (fun k q wl hI0 ih0 => ?_) (1) (p) w (⟨0, rfl, by omega, hp, Fr.rf _ _⟩)
  obtain ⟨j, hk, hj, hq, hfl⟩ := hI0
  have g0 := (hfl 63 0 rfl).trans r0
  have hql := cd_le (ppow_pm hf (j + 1)) hn7 (Nat.le_refl n)
  refine v_iload 4 (pc' := 12) rfl dX11_orderOf_10 rfl ?_
  refine v_iload_n 2 (pc' := 13) rfl dX11_orderOf_12 rfl rfl ?_
  refine v_icmp_eq (pc' := 16) (tgt := 32) rfl dX11_orderOf_13 (by decide) (by omega) (by omega) (fun c0 => ?_) (fun c0 => ?_)
  ·
    have hje : j + 1 = orderN f n := by
      rcases Nat.lt_or_ge (j + 1) (orderN f n) with u | u
      · exact absurd ((cd_pid hn7 (ppow_pm hf (j + 1))).mp (by omega)) (ppow_ne hn1 hn7 hf (by omega) u)
      · omega
    refine v_iload_n 3 (pc' := 33) rfl dX11_orderOf_32 rfl rfl ?_
    refine v_iret dX11_orderOf_33 (by decide) (rfl) ?_
    exact ⟨hfl, by rw [hk, hje]⟩
  ·
    have hjl : j + 2 ≤ orderN f n := by
      rcases Nat.lt_or_ge (j + 1) (orderN f n) with u | u
      · omega
      · exfalso
        have e := ppow_id hn1 hn7 hf
        rw [show orderN f n = j + 1 by omega] at e
        have := (cd_pid hn7 (ppow_pm hf (j + 1))).mpr e
        omega
    refine v_iload_n 3 (pc' := 17) rfl dX11_orderOf_16 rfl rfl ?_
    refine v_iconst (pc' := 18) rfl dX11_orderOf_17 ?_
    refine v_iadd (pc' := 19) rfl dX11_orderOf_18 ?_
    refine v_nm (fun k' hk' => ?_)
    refine v_istore_n (ls' := [(3, _), (0, _), (1, _), (2, _), (4, _)]) (pc' := 20) rfl dX11_orderOf_19 rfl rfl rfl ?_
    refine v_aload_n 1 (pc' := 21) rfl dX11_orderOf_20 rfl rfl ?_
    refine v_iload 4 (pc' := 23) rfl dX11_orderOf_21 rfl ?_
    refine v_iload_n 2 (pc' := 24) rfl dX11_orderOf_23 rfl rfl ?_
    refine v_cVi (pc' := 27) rfl dX11_orderOf_24 lk_RX11_141 ly_63 rfl (c_thenM l G hq hp (ppow_pm hf (j + 1)) hf hn1 hn7 wl g0) rfl rfl rfl (fun then1 w2 hq2 => ?_)
    obtain ⟨f2, z2⟩ := hq2
    refine v_istore (ls' := [(4, _), (3, _), (0, _), (1, _), (2, _)]) (pc' := 29) rfl dX11_orderOf_27 rfl rfl ?_
    refine v_goto (tgt := 10) dX11_orderOf_29 (by decide) ?_
    refine v_ls [2, 3, 4, 1, 0] rfl ?_
    exact ih0 (k') (then1) w2 (⟨j + 1, by omega, by omega, by rw [z2, ppow_s f (j + 1)], hfl.trs f2⟩) (by omega)
set_option maxHeartbeats 4000000 in
set_option maxRecDepth 100000 in
theorem c_powerOf (l : Launch) (G : Gx) {p k0 : Int} {n : Nat} {f : Nat → Nat} (hp : p = (cdk f n : Nat)) (hf : Pm n f) (hn1 : 1 ≤ n) (hn7 : n ≤ 7) {K : Nat} (hk0 : k0 = (K : Nat)) (hK : K ≤ 2147483647) (w : Wd) (r0 : w 63 0 = n) : Sp l G 2 mX11_powerOf [aR 63, aI (p), aI (k0)] w (fun z w' => Fr [69, 70] w w' ∧ z = (cdk (ppow f K) n : Nat)) := by
  refine Sp_of RX11 rfl (by decide +kernel) rfl (Nat.le_of_ble_eq_true rfl) ?_
  refine v_aload_n 0 (pc' := 1) rfl dX11_powerOf_0 rfl rfl ?_
  refine v_cVP (pc' := 4) rfl dX11_powerOf_1 lk_RX11_187 ly_63 rfl (c_stays l G hn7 w r0) rfl rfl rfl ?_
  refine v_nm (fun stays1 hstays1 => ?_)
  refine v_istore_n (ls' := [(3, _), (0, _), (1, _), (2, _)]) (pc' := 5) rfl dX11_powerOf_4 rfl rfl rfl ?_
  refine v_iconst (pc' := 6) rfl dX11_powerOf_5 ?_
  refine v_istore (ls' := [(4, _), (3, _), (0, _), (1, _), (2, _)]) (pc' := 8) rfl dX11_powerOf_6 rfl rfl ?_
  refine v_ls [2, 3, 4, 1, 0] rfl ?_
  refine v_loop3 8 (fun (q : Int) (i : Int) (wl : Wd) => ∃ j : Nat, i = j ∧ j ≤ K ∧ q = (cdk (ppow f j) n : Nat) ∧ Fr [69, 70] w wl) (fun (q : Int) (i : Int) (wl : Wd) => (k0 - i).toNat) (fun (q : Int) (i : Int) (wl : Wd) => [(0, aR 63), (1, aI (p)), (2, aI (k0)), (3, aI (q)), (4, aI (i))]) (fun (q : Int) (i : Int) (wl : Wd) => []) (fun (q : Int) (i : Int) (wl : Wd) => wl) (fun q i wl hI0 ih0 => ?_) (stays1) (0) w (⟨0, rfl, by omega, hstays1, Fr.rf _ _⟩)
  obtain ⟨j, hi, hj, hq, hfl⟩ := hI0
  have g0 := (hfl 63 0 rfl).trans r0
  refine v_iload 4 (pc' := 10) rfl dX11_powerOf_8 rfl ?_
  refine v_iload_n 2 (pc' := 11) rfl dX11_powerOf_10 rfl rfl ?_
  refine v_icmp_ge (pc' := 14) (tgt := 27) rfl dX11_powerOf_11 (by decide) (by omega) (by omega) (fun c0 => ?_) (fun c0 => ?_)
  ·
    have hje : j = K := by omega
    refine v_iload_n 3 (pc' := 28) rfl dX11_powerOf_27 rfl rfl ?_
    refine v_iret dX11_powerOf_28 (by decide) (rfl) ?_
    exact ⟨hfl, by rw [hq, hje]⟩
  ·
    refine v_aload_n 0 (pc' := 15) rfl dX11_powerOf_14 rfl rfl ?_
    refine v_iload_n 3 (pc' := 16) rfl dX11_powerOf_15 rfl rfl ?_
    refine v_iload_n 1 (pc' := 17) rfl dX11_powerOf_16 rfl rfl ?_
    refine v_cVi (pc' := 20) rfl dX11_powerOf_17 lk_RX11_141 ly_63 rfl (c_thenM l G hq hp (ppow_pm hf j) hf hn1 hn7 wl g0) rfl rfl rfl (fun then1 w2 hq2 => ?_)
    obtain ⟨f2, z2⟩ := hq2
    refine v_istore_n (ls' := [(3, _), (0, _), (1, _), (2, _), (4, _)]) (pc' := 21) rfl dX11_powerOf_20 rfl rfl rfl ?_
    refine v_iinc (ls' := [(4, _), (3, _), (0, _), (1, _), (2, _)]) 4 (pc' := 24) rfl dX11_powerOf_21 rfl rfl rfl ?_
    refine v_nl (fun i' hi' => ?_)
    refine v_goto (tgt := 8) dX11_powerOf_24 (by decide) ?_
    refine v_ls [2, 3, 4, 1, 0] rfl ?_
    exact ih0 (then1) (i') w2 (⟨j + 1, by omega, by omega, by rw [z2, ppow_s f j], hfl.trs f2⟩) (by omega)
def szN (n k : Nat) : Nat := cntI (fun i => kindN (pn n i) n == kT n k) (facN n)
/-- the tables of n as laysAll lays them -/
def RTab (w : Wd) (n : Nat) : Prop := w 63 3 = (facN n : Nat) ∧ w 63 4 = (kmany n : Nat) ∧
  (∀ i, i < facN n → w 64 i = (cdk (pn n i) n : Nat) ∧ ∃ k, k < kmany n ∧ kT n k = kindN (pn n i) n ∧ w 65 i = (k : Nat)) ∧
  (∀ k, k < kmany n → w 66 k = (kT n k : Nat) ∧ w 67 k = (szN n k : Nat) ∧ w 68 k = (cdk (leastF (kT n k) n) n : Nat))
theorem RTab.fr {w w' : Wd} {n : Nat} (h : RTab w n) (h3 : w' 63 3 = w 63 3) (h4 : w' 63 4 = w 63 4) (hf : ∀ o, 64 ≤ o → o ≤ 68 → ∀ j, w' o j = w o j) : RTab w' n := by
  unfold RTab at *
  rw [h3, h4]
  simp only [hf 64 (by omega) (by omega), hf 65 (by omega) (by omega), hf 66 (by omega) (by omega), hf 67 (by omega) (by omega), hf 68 (by omega) (by omega)]
  exact h
theorem RTab.frs {w w' : Wd} {n : Nat} (h : RTab w n) {cs : List Nat} (hf : Fr cs w w') (hc : [63, 64, 65, 66, 67, 68].all (fun o => !cs.contains o) = true) : RTab w' n := by
  have k : ∀ o, 63 ≤ o → o ≤ 68 → ∀ j, w' o j = w o j := fun o h1 h2 j => hf o j (by
    have := List.all_eq_true.mp hc o (by simp; omega)
    simpa using this)
  exact h.fr (k 63 (by omega) (by omega) 3) (k 63 (by omega) (by omega) 4) (fun o h1 h2 => k o (by omega) h2)
set_option maxHeartbeats 4000000 in
set_option maxRecDepth 100000 in
theorem c_kindOf (l : Launch) (G : Gx) {t : Int} {n : Nat} (ht : rg t) (hn1 : 1 ≤ n) (hn7 : n ≤ 7) (w : Wd) (hm : w 63 4 = (kmany n : Nat)) (hK : ∀ k, k < kmany n → w 66 k = (kT n k : Nat)) : SpR l G 0 mX11_kindOf [aR 63, aI (t)] w (KX n t) := by
  have hk15 := kmany_le n hn7
  refine Sp_of RX11 rfl (by decide +kernel) rfl (Nat.le_of_ble_eq_true rfl) ?_
  refine v_iconst (pc' := 1) rfl dX11_kindOf_0 ?_
  refine v_istore_n (ls' := [(2, _), (0, _), (1, _)]) (pc' := 2) rfl dX11_kindOf_1 rfl rfl rfl ?_
  refine v_ls [1, 2, 0] rfl ?_
  refine v_loop1 2 (fun (k : Int) => ∃ j : Nat, k = j ∧ j ≤ kmany n ∧ ∀ x, x < j → (kT n x : Int) ≠ t) (fun (k : Int) => (15 - k).toNat) (fun (k : Int) => [(0, aR 63), (1, aI (t)), (2, aI (k))]) (fun (k : Int) => []) (fun (k : Int) => w) (fun k hI0 ih0 => ?_) (0) (⟨0, rfl, by omega, fun x h => by omega⟩)
  obtain ⟨j, hk, hj, hno⟩ := hI0
  refine v_iload_n 2 (pc' := 3) rfl dX11_kindOf_2 rfl rfl ?_
  refine v_aload_n 0 (pc' := 4) rfl dX11_kindOf_3 rfl rfl ?_
  refine v_get (z := ((kmany n : Nat) : Int)) (pc' := 7) rfl dX11_kindOf_4 fk_RX11_168 ly_63 rfl (hm) ?_
  refine v_icmp_ge (pc' := 10) (tgt := 28) rfl dX11_kindOf_7 (by decide) (by omega) (by omega) (fun c0 => ?_) (fun c0 => ?_)
  ·
    refine v_iconst (pc' := 29) rfl dX11_kindOf_28 ?_
    refine v_iret dX11_kindOf_29 (by decide) (rfl) ?_
    exact ⟨Or.inl ⟨rfl, fun x h => hno x (by omega)⟩, rfl⟩
  ·
    have hkl := kT_le hn7 (show j < kmany n by omega)
    refine v_aload_n 0 (pc' := 11) rfl dX11_kindOf_10 rfl rfl ?_
    refine v_getR (pc' := 14) rfl dX11_kindOf_11 fk_RX11_16 ly_63 rfl ?_
    refine v_iload_n 2 (pc' := 15) rfl dX11_kindOf_14 rfl rfl ?_
    refine v_iald (z := ((kT n j : Nat) : Int)) (pc' := 16) rfl dX11_kindOf_15 ly_66 (by omega) (by omega) rfl (by rw [show k.toNat = j by omega]; exact hK j (by omega)) ?_
    refine v_iload_n 1 (pc' := 17) rfl dX11_kindOf_16 rfl rfl ?_
    refine v_icmp_ne (pc' := 20) (tgt := 22) rfl dX11_kindOf_17 (by decide) (by omega) (by omega) (fun c1 => ?_) (fun c1 => ?_)
    ·
      refine v_iinc (ls' := [(2, _), (0, _), (1, _)]) 2 (pc' := 25) rfl dX11_kindOf_22 rfl rfl rfl ?_
      refine v_nl (fun k' hk' => ?_)
      refine v_goto (tgt := 2) dX11_kindOf_25 (by decide) ?_
      refine v_ls [1, 2, 0] rfl ?_
      exact ih0 (k') (⟨j + 1, by omega, by omega, fun x h => by
          by_cases q : x = j
          · rw [q]; exact c1
          · exact hno x (by omega)⟩) (by omega)
    ·
      refine v_iload_n 2 (pc' := 21) rfl dX11_kindOf_20 rfl rfl ?_
      refine v_iret dX11_kindOf_21 (by decide) (rfl) ?_
      exact ⟨Or.inr ⟨j, hk, by omega, by omega, hno⟩, rfl⟩
set_option maxHeartbeats 4000000 in
set_option maxRecDepth 100000 in
theorem c_placeOfM (l : Launch) (G : Gx) {c : Int} {n : Nat} {f : Nat → Nat} (hc : c = (cdk f n : Nat)) (hf : Pm n f) (hn1 : 1 ≤ n) (hn7 : n ≤ 7) (w : Wd) (h3 : w 63 3 = (facN n : Nat)) (hP : ∀ i, i < facN n → w 64 i = (cdk (pn n i) n : Nat)) : SpP l G 0 mX11_placeOf [aR 63, aI (c)] w (((rankN f n : Nat) : Int)) := by
  have hfl := fac_le hn1 hn7
  have hrk := pn_rank hn1 hn7 hf
  refine Sp_of RX11 rfl (by decide +kernel) rfl (Nat.le_of_ble_eq_true rfl) ?_
  refine v_iconst (pc' := 1) rfl dX11_placeOf_0 ?_
  refine v_istore_n (ls' := [(2, _), (0, _), (1, _)]) (pc' := 2) rfl dX11_placeOf_1 rfl rfl rfl ?_
  refine v_aload_n 1 (pc' := 3) rfl dX11_placeOf_2 rfl rfl ?_
  refine v_get (z := ((facN n : Nat) : Int)) (pc' := 6) rfl dX11_placeOf_3 fk_RX11_165 ly_63 rfl (h3) ?_
  refine v_iconst (pc' := 7) rfl dX11_placeOf_6 ?_
  refine v_isub (pc' := 8) rfl dX11_placeOf_7 ?_
  refine v_nm (fun hi' hhi' => ?_)
  refine v_istore_n (ls' := [(3, _), (2, _), (0, _), (1, _)]) (pc' := 9) rfl dX11_placeOf_8 rfl rfl rfl ?_
  refine v_ls [2, 3, 1, 0] rfl ?_
  refine v_loop2 9 (fun (lo : Int) (hi : Int) => ∃ L H : Nat, lo = L ∧ hi = H ∧ L ≤ rankN f n ∧ rankN f n ≤ H ∧ H < facN n) (fun (lo : Int) (hi : Int) => (hi - lo).toNat) (fun (lo : Int) (hi : Int) => [(0, aR 63), (1, aI (c)), (2, aI (lo)), (3, aI (hi))]) (fun (lo : Int) (hi : Int) => []) (fun (lo : Int) (hi : Int) => w) (fun lo hi hI0 ih0 => ?_) (0) (hi') (⟨0, facN n - 1, rfl, by omega, by omega, by omega, by omega⟩)
  obtain ⟨L, H, hlo, hhi, hL, hH, hHF⟩ := hI0
  refine v_iload_n 2 (pc' := 10) rfl dX11_placeOf_9 rfl rfl ?_
  refine v_iload_n 3 (pc' := 11) rfl dX11_placeOf_10 rfl rfl ?_
  refine v_icmp_ge (pc' := 14) (tgt := 46) rfl dX11_placeOf_11 (by decide) (by omega) (by omega) (fun c0 => ?_) (fun c0 => ?_)
  ·
    have hLH : L = rankN f n := by omega
    refine v_iload_n 2 (pc' := 47) rfl dX11_placeOf_46 rfl rfl ?_
    refine v_iret dX11_placeOf_47 (by decide) (rfl) ?_
    exact ⟨by rw [hlo, hLH], rfl⟩
  ·
    have hmF : (L + H) / 2 < facN n := by omega
    have hpm := pn_at hn1 hn7 hmF
    have hml := cd_le hpm.1 hn7 (Nat.le_refl n)
    have hfl2 := cd_le hf hn7 (Nat.le_refl n)
    have hcmp := cd_hx hpm.1 hf hn7
    refine v_iload_n 2 (pc' := 15) rfl dX11_placeOf_14 rfl rfl ?_
    refine v_iload_n 3 (pc' := 16) rfl dX11_placeOf_15 rfl rfl ?_
    refine v_iadd (pc' := 17) rfl dX11_placeOf_16 ?_
    refine v_iconst (pc' := 18) rfl dX11_placeOf_17 ?_
    refine v_idiv (z := (((L + H) / 2 : Nat) : Int)) (pc' := 19) rfl dX11_placeOf_18 (iz_ne (by decide) (by decide)) (by rw [show lo + hi = ((L + H : Nat) : Int) by omega]; exact iz_divN (by omega) (by omega) (by decide) (by decide)) ?_
    refine v_nm (fun mid' hmid' => ?_)
    refine v_istore (ls' := [(4, _), (0, _), (1, _), (2, _), (3, _)]) (pc' := 21) rfl dX11_placeOf_19 rfl rfl ?_
    refine v_aload_n 1 (pc' := 22) rfl dX11_placeOf_21 rfl rfl ?_
    refine v_getR (pc' := 25) rfl dX11_placeOf_22 fk_RX11_7 ly_63 rfl ?_
    refine v_iload 0 (pc' := 27) rfl dX11_placeOf_25 rfl ?_
    refine v_iald (z := ((cdk (pn n ((L + H) / 2)) n : Nat) : Int)) (pc' := 28) rfl dX11_placeOf_27 ly_64 (by omega) (by omega) rfl (by rw [show mid'.toNat = (L + H) / 2 by omega]; exact hP _ (by omega)) ?_
    refine v_iload_n 2 (pc' := 29) rfl dX11_placeOf_28 rfl rfl ?_
    refine v_icmp_ge (pc' := 32) (tgt := 40) rfl dX11_placeOf_29 (by decide) (by omega) (by omega) (fun c1 => ?_) (fun c1 => ?_)
    ·
      have hge : rankN f n ≤ (L + H) / 2 := by
        rcases Nat.lt_or_ge ((L + H) / 2) (rankN f n) with q | q
        · have := pn_lt hn1 hn7 hrk.1 q
          rw [hrk.2] at this
          have := hcmp.1.mpr this
          omega
        · exact q
      refine v_iload 0 (pc' := 42) rfl dX11_placeOf_40 rfl ?_
      refine v_istore_n (ls' := [(3, _), (4, _), (0, _), (1, _), (2, _)]) (pc' := 43) rfl dX11_placeOf_42 rfl rfl rfl ?_
      refine v_goto (tgt := 9) dX11_placeOf_43 (by decide) ?_
      refine v_ls [2, 3, 4, 0] rfl ?_
      exact ih0 (lo) (mid') (⟨L, (L + H) / 2, by omega, by omega, by omega, by omega, by omega⟩) (by omega)
    ·
      have hlt : (L + H) / 2 < rankN f n := by
        rcases Nat.lt_or_ge ((L + H) / 2) (rankN f n) with q | q
        · exact q
        · rcases Nat.lt_or_ge (rankN f n) ((L + H) / 2) with u | u
          · have := pn_lt hn1 hn7 hmF u
            rw [hrk.2] at this
            have := hcmp.1.mp (by omega)
            omega
          · have e : pn n ((L + H) / 2) = f := by rw [show (L + H) / 2 = rankN f n by omega]; exact hrk.2
            rw [e] at c1; omega
      refine v_iload 0 (pc' := 34) rfl dX11_placeOf_32 rfl ?_
      refine v_iconst (pc' := 35) rfl dX11_placeOf_34 ?_
      refine v_iadd (pc' := 36) rfl dX11_placeOf_35 ?_
      refine v_nm (fun lo' hlo' => ?_)
      refine v_istore_n (ls' := [(2, _), (4, _), (0, _), (1, _), (3, _)]) (pc' := 37) rfl dX11_placeOf_36 rfl rfl rfl ?_
      refine v_goto (tgt := 43) dX11_placeOf_37 (by decide) ?_
      refine v_goto (tgt := 9) dX11_placeOf_43 (by decide) ?_
      refine v_ls [2, 3, 0, 4] rfl ?_
      exact ih0 (lo') (hi) (⟨(L + H) / 2 + 1, H, by omega, by omega, by omega, by omega, by omega⟩) (by omega)

/-! ===== State and Reader ===== -/
def Cpy (w w' : Wd) (o p : Nat) : Prop := (w' o 0 = w p 0 ∧ w' o 1 = w p 1 ∧ w' o 2 = w p 2 ∧ w' o 3 = w p 3) ∧ (∀ i, i < 12 → w' (o + 1) i = w (p + 1) i ∧ w' (o + 2) i = w (p + 2) i ∧ w' (o + 3) i = w (p + 3) i) ∧ Fr [o, o + 1, o + 2, o + 3] w w'
set_option maxHeartbeats 4000000 in
set_option maxRecDepth 100000 in
theorem c_become_31_2 (l : Launch) (G : Gx)  (w : Wd)  : Sp l G 0 mX9_become [aR 31, aR 2] w (fun _ w' => Cpy w w' 31 2) := by
  refine Sp_of RX9 rfl (by decide +kernel) rfl (Nat.le_of_ble_eq_true rfl) ?_
  refine v_aload_n 0 (pc' := 1) rfl dX9_become_0 rfl rfl ?_
  refine v_aload_n 1 (pc' := 2) rfl dX9_become_1 rfl rfl ?_
  refine v_get (pc' := 5) rfl dX9_become_2 fk_RX9_9 ly_2 rfl rfl ?_
  refine v_put (pc' := 8) rfl dX9_become_5 fi_RX9_9 ly_31 rfl ?_
  refine v_nmw (fun w1 hw1 => ?_)
  refine v_aload_n 0 (pc' := 9) rfl dX9_become_8 rfl rfl ?_
  refine v_aload_n 1 (pc' := 10) rfl dX9_become_9 rfl rfl ?_
  refine v_get (pc' := 13) rfl dX9_become_10 fk_RX9_18 ly_2 rfl rfl ?_
  refine v_put (pc' := 16) rfl dX9_become_13 fi_RX9_18 ly_31 rfl ?_
  refine v_nmw (fun w2 hw2 => ?_)
  refine v_aload_n 0 (pc' := 17) rfl dX9_become_16 rfl rfl ?_
  refine v_aload_n 1 (pc' := 18) rfl dX9_become_17 rfl rfl ?_
  refine v_get (pc' := 21) rfl dX9_become_18 fk_RX9_21 ly_2 rfl rfl ?_
  refine v_put (pc' := 24) rfl dX9_become_21 fi_RX9_21 ly_31 rfl ?_
  refine v_nmw (fun w3 hw3 => ?_)
  refine v_aload_n 0 (pc' := 25) rfl dX9_become_24 rfl rfl ?_
  refine v_aload_n 1 (pc' := 26) rfl dX9_become_25 rfl rfl ?_
  refine v_get (pc' := 29) rfl dX9_become_26 fk_RX9_34 ly_2 rfl rfl ?_
  refine v_put (pc' := 32) rfl dX9_become_29 fi_RX9_34 ly_31 rfl ?_
  refine v_nmw (fun w4 hw4 => ?_)
  refine v_iconst (pc' := 33) rfl dX9_become_32 ?_
  refine v_istore_n (ls' := [(2, _), (0, _), (1, _)]) (pc' := 34) rfl dX9_become_33 rfl rfl rfl ?_
  refine v_ls [1, 2, 0] rfl ?_
  refine v_loop2 34 (fun (i : Int) (wl : Wd) => ∃ k : Nat, i = k ∧ k ≤ 12 ∧ (wl 31 0 = w 2 0 ∧ wl 31 1 = w 2 1 ∧ wl 31 2 = w 2 2 ∧ wl 31 3 = w 2 3) ∧ (∀ j, j < k → wl 32 j = w 3 j ∧ wl 33 j = w 4 j ∧ wl 34 j = w 5 j) ∧ Fr [31, 32, 33, 34] w wl) (fun (i : Int) (wl : Wd) => (12 - i).toNat) (fun (i : Int) (wl : Wd) => [(0, aR 31), (1, aR 2), (2, aI (i))]) (fun (i : Int) (wl : Wd) => []) (fun (i : Int) (wl : Wd) => wl) (fun i wl hI0 ih0 => ?_) (0) w4 (⟨0, rfl, by omega, by simp [hw1, hw2, hw3, hw4, up_at], fun j h => by omega, by rw [hw4, hw3, hw2, hw1]; exact ((((Fr.rf _ _).up rfl).up rfl).up rfl).up rfl⟩)
  obtain ⟨k, hi, hk, hF, hA, hfr⟩ := hI0
  refine v_iload_n 2 (pc' := 35) rfl dX9_become_34 rfl rfl ?_
  refine v_bipush (pc' := 37) rfl dX9_become_35 rfl ?_
  refine v_icmp_ge (pc' := 40) (tgt := 82) rfl dX9_become_37 (by decide) (by omega) (by omega) (fun c0 => ?_) (fun c0 => ?_)
  ·
    refine v_vret dX9_become_82 ?_
    have e12 : k = 12 := by omega
    subst e12
    exact ⟨hF, hA, hfr⟩
  ·
    refine v_aload_n 0 (pc' := 41) rfl dX9_become_40 rfl rfl ?_
    refine v_getR (pc' := 44) rfl dX9_become_41 fk_RX9_24 ly_31 rfl ?_
    refine v_iload_n 2 (pc' := 45) rfl dX9_become_44 rfl rfl ?_
    refine v_aload_n 1 (pc' := 46) rfl dX9_become_45 rfl rfl ?_
    refine v_getR (pc' := 49) rfl dX9_become_46 fk_RX9_24 ly_2 rfl ?_
    refine v_iload_n 2 (pc' := 50) rfl dX9_become_49 rfl rfl ?_
    refine v_iald (pc' := 51) rfl dX9_become_50 ly_3 (by omega) (by omega) rfl (rfl) ?_
    refine v_iast (pc' := 52) rfl dX9_become_51 ly_32 (by omega) (by omega) rfl ?_
    refine v_nmw (fun w5 hw5 => ?_)
    refine v_aload_n 0 (pc' := 53) rfl dX9_become_52 rfl rfl ?_
    refine v_getR (pc' := 56) rfl dX9_become_53 fk_RX9_28 ly_31 rfl ?_
    refine v_iload_n 2 (pc' := 57) rfl dX9_become_56 rfl rfl ?_
    refine v_aload_n 1 (pc' := 58) rfl dX9_become_57 rfl rfl ?_
    refine v_getR (pc' := 61) rfl dX9_become_58 fk_RX9_28 ly_2 rfl ?_
    refine v_iload_n 2 (pc' := 62) rfl dX9_become_61 rfl rfl ?_
    refine v_iald (pc' := 63) rfl dX9_become_62 ly_4 (by omega) (by omega) rfl (rfl) ?_
    refine v_iast (pc' := 64) rfl dX9_become_63 ly_33 (by omega) (by omega) rfl ?_
    refine v_nmw (fun w6 hw6 => ?_)
    refine v_aload_n 0 (pc' := 65) rfl dX9_become_64 rfl rfl ?_
    refine v_getR (pc' := 68) rfl dX9_become_65 fk_RX9_31 ly_31 rfl ?_
    refine v_iload_n 2 (pc' := 69) rfl dX9_become_68 rfl rfl ?_
    refine v_aload_n 1 (pc' := 70) rfl dX9_become_69 rfl rfl ?_
    refine v_getR (pc' := 73) rfl dX9_become_70 fk_RX9_31 ly_2 rfl ?_
    refine v_iload_n 2 (pc' := 74) rfl dX9_become_73 rfl rfl ?_
    refine v_iald (pc' := 75) rfl dX9_become_74 ly_5 (by omega) (by omega) rfl (rfl) ?_
    refine v_iast (pc' := 76) rfl dX9_become_75 ly_34 (by omega) (by omega) rfl ?_
    refine v_nmw (fun w7 hw7 => ?_)
    refine v_iinc (ls' := [(2, _), (0, _), (1, _)]) 2 (pc' := 79) rfl dX9_become_76 rfl rfl rfl ?_
    refine v_nl (fun i' hi' => ?_)
    refine v_goto (tgt := 34) dX9_become_79 (by decide) ?_
    refine v_ls [1, 2, 0] rfl ?_
    have e1 : wl 3 i.toNat = w 3 k := by rw [hi]; exact hfr 3 k rfl
    have e2 : w5 4 i.toNat = w 4 k := by rw [hi, hw5, up_ne _ _ (by omega)]; exact hfr 4 k rfl
    have e3 : w6 5 i.toNat = w 5 k := by rw [hi, hw6, up_ne _ _ (by omega), hw5, up_ne _ _ (by omega)]; exact hfr 5 k rfl
    exact ih0 (i') w7 (⟨k + 1, by omega, by omega, by simp [hw5, hw6, hw7, up_at, hF], fun j h => by
        rw [e1] at hw5; rw [e2] at hw6; rw [e3] at hw7
        have hik : i.toNat = k := by omega
        simp only [hw5, hw6, hw7, up_at, hik]
        by_cases q : j = k
        · subst q; simp
        · have := hA j (by omega); simp [q, this], by rw [hw7, hw6, hw5]; exact ((hfr.up rfl).up rfl).up rfl⟩) (by omega)
set_option maxHeartbeats 4000000 in
set_option maxRecDepth 100000 in
theorem c_become_2_31 (l : Launch) (G : Gx)  (w : Wd)  : Sp l G 0 mX9_become [aR 2, aR 31] w (fun _ w' => Cpy w w' 2 31) := by
  refine Sp_of RX9 rfl (by decide +kernel) rfl (Nat.le_of_ble_eq_true rfl) ?_
  refine v_aload_n 0 (pc' := 1) rfl dX9_become_0 rfl rfl ?_
  refine v_aload_n 1 (pc' := 2) rfl dX9_become_1 rfl rfl ?_
  refine v_get (pc' := 5) rfl dX9_become_2 fk_RX9_9 ly_31 rfl rfl ?_
  refine v_put (pc' := 8) rfl dX9_become_5 fi_RX9_9 ly_2 rfl ?_
  refine v_nmw (fun w1 hw1 => ?_)
  refine v_aload_n 0 (pc' := 9) rfl dX9_become_8 rfl rfl ?_
  refine v_aload_n 1 (pc' := 10) rfl dX9_become_9 rfl rfl ?_
  refine v_get (pc' := 13) rfl dX9_become_10 fk_RX9_18 ly_31 rfl rfl ?_
  refine v_put (pc' := 16) rfl dX9_become_13 fi_RX9_18 ly_2 rfl ?_
  refine v_nmw (fun w2 hw2 => ?_)
  refine v_aload_n 0 (pc' := 17) rfl dX9_become_16 rfl rfl ?_
  refine v_aload_n 1 (pc' := 18) rfl dX9_become_17 rfl rfl ?_
  refine v_get (pc' := 21) rfl dX9_become_18 fk_RX9_21 ly_31 rfl rfl ?_
  refine v_put (pc' := 24) rfl dX9_become_21 fi_RX9_21 ly_2 rfl ?_
  refine v_nmw (fun w3 hw3 => ?_)
  refine v_aload_n 0 (pc' := 25) rfl dX9_become_24 rfl rfl ?_
  refine v_aload_n 1 (pc' := 26) rfl dX9_become_25 rfl rfl ?_
  refine v_get (pc' := 29) rfl dX9_become_26 fk_RX9_34 ly_31 rfl rfl ?_
  refine v_put (pc' := 32) rfl dX9_become_29 fi_RX9_34 ly_2 rfl ?_
  refine v_nmw (fun w4 hw4 => ?_)
  refine v_iconst (pc' := 33) rfl dX9_become_32 ?_
  refine v_istore_n (ls' := [(2, _), (0, _), (1, _)]) (pc' := 34) rfl dX9_become_33 rfl rfl rfl ?_
  refine v_ls [1, 2, 0] rfl ?_
  refine v_loop2 34 (fun (i : Int) (wl : Wd) => ∃ k : Nat, i = k ∧ k ≤ 12 ∧ (wl 2 0 = w 31 0 ∧ wl 2 1 = w 31 1 ∧ wl 2 2 = w 31 2 ∧ wl 2 3 = w 31 3) ∧ (∀ j, j < k → wl 3 j = w 32 j ∧ wl 4 j = w 33 j ∧ wl 5 j = w 34 j) ∧ Fr [2, 3, 4, 5] w wl) (fun (i : Int) (wl : Wd) => (12 - i).toNat) (fun (i : Int) (wl : Wd) => [(0, aR 2), (1, aR 31), (2, aI (i))]) (fun (i : Int) (wl : Wd) => []) (fun (i : Int) (wl : Wd) => wl) (fun i wl hI0 ih0 => ?_) (0) w4 (⟨0, rfl, by omega, by simp [hw1, hw2, hw3, hw4, up_at], fun j h => by omega, by rw [hw4, hw3, hw2, hw1]; exact ((((Fr.rf _ _).up rfl).up rfl).up rfl).up rfl⟩)
  obtain ⟨k, hi, hk, hF, hA, hfr⟩ := hI0
  refine v_iload_n 2 (pc' := 35) rfl dX9_become_34 rfl rfl ?_
  refine v_bipush (pc' := 37) rfl dX9_become_35 rfl ?_
  refine v_icmp_ge (pc' := 40) (tgt := 82) rfl dX9_become_37 (by decide) (by omega) (by omega) (fun c0 => ?_) (fun c0 => ?_)
  ·
    refine v_vret dX9_become_82 ?_
    have e12 : k = 12 := by omega
    subst e12
    exact ⟨hF, hA, hfr⟩
  ·
    refine v_aload_n 0 (pc' := 41) rfl dX9_become_40 rfl rfl ?_
    refine v_getR (pc' := 44) rfl dX9_become_41 fk_RX9_24 ly_2 rfl ?_
    refine v_iload_n 2 (pc' := 45) rfl dX9_become_44 rfl rfl ?_
    refine v_aload_n 1 (pc' := 46) rfl dX9_become_45 rfl rfl ?_
    refine v_getR (pc' := 49) rfl dX9_become_46 fk_RX9_24 ly_31 rfl ?_
    refine v_iload_n 2 (pc' := 50) rfl dX9_become_49 rfl rfl ?_
    refine v_iald (pc' := 51) rfl dX9_become_50 ly_32 (by omega) (by omega) rfl (rfl) ?_
    refine v_iast (pc' := 52) rfl dX9_become_51 ly_3 (by omega) (by omega) rfl ?_
    refine v_nmw (fun w5 hw5 => ?_)
    refine v_aload_n 0 (pc' := 53) rfl dX9_become_52 rfl rfl ?_
    refine v_getR (pc' := 56) rfl dX9_become_53 fk_RX9_28 ly_2 rfl ?_
    refine v_iload_n 2 (pc' := 57) rfl dX9_become_56 rfl rfl ?_
    refine v_aload_n 1 (pc' := 58) rfl dX9_become_57 rfl rfl ?_
    refine v_getR (pc' := 61) rfl dX9_become_58 fk_RX9_28 ly_31 rfl ?_
    refine v_iload_n 2 (pc' := 62) rfl dX9_become_61 rfl rfl ?_
    refine v_iald (pc' := 63) rfl dX9_become_62 ly_33 (by omega) (by omega) rfl (rfl) ?_
    refine v_iast (pc' := 64) rfl dX9_become_63 ly_4 (by omega) (by omega) rfl ?_
    refine v_nmw (fun w6 hw6 => ?_)
    refine v_aload_n 0 (pc' := 65) rfl dX9_become_64 rfl rfl ?_
    refine v_getR (pc' := 68) rfl dX9_become_65 fk_RX9_31 ly_2 rfl ?_
    refine v_iload_n 2 (pc' := 69) rfl dX9_become_68 rfl rfl ?_
    refine v_aload_n 1 (pc' := 70) rfl dX9_become_69 rfl rfl ?_
    refine v_getR (pc' := 73) rfl dX9_become_70 fk_RX9_31 ly_31 rfl ?_
    refine v_iload_n 2 (pc' := 74) rfl dX9_become_73 rfl rfl ?_
    refine v_iald (pc' := 75) rfl dX9_become_74 ly_34 (by omega) (by omega) rfl (rfl) ?_
    refine v_iast (pc' := 76) rfl dX9_become_75 ly_5 (by omega) (by omega) rfl ?_
    refine v_nmw (fun w7 hw7 => ?_)
    refine v_iinc (ls' := [(2, _), (0, _), (1, _)]) 2 (pc' := 79) rfl dX9_become_76 rfl rfl rfl ?_
    refine v_nl (fun i' hi' => ?_)
    refine v_goto (tgt := 34) dX9_become_79 (by decide) ?_
    refine v_ls [1, 2, 0] rfl ?_
    have e1 : wl 32 i.toNat = w 32 k := by rw [hi]; exact hfr 32 k rfl
    have e2 : w5 33 i.toNat = w 33 k := by rw [hi, hw5, up_ne _ _ (by omega)]; exact hfr 33 k rfl
    have e3 : w6 34 i.toNat = w 34 k := by rw [hi, hw6, up_ne _ _ (by omega), hw5, up_ne _ _ (by omega)]; exact hfr 34 k rfl
    exact ih0 (i') w7 (⟨k + 1, by omega, by omega, by simp [hw5, hw6, hw7, up_at, hF], fun j h => by
        rw [e1] at hw5; rw [e2] at hw6; rw [e3] at hw7
        have hik : i.toNat = k := by omega
        simp only [hw5, hw6, hw7, up_at, hik]
        by_cases q : j = k
        · subst q; simp
        · have := hA j (by omega); simp [q, this], by rw [hw7, hw6, hw5]; exact ((hfr.up rfl).up rfl).up rfl⟩) (by omega)
set_option maxHeartbeats 4000000 in
set_option maxRecDepth 100000 in
theorem c_become_35_2 (l : Launch) (G : Gx)  (w : Wd)  : Sp l G 0 mX9_become [aR 35, aR 2] w (fun _ w' => Cpy w w' 35 2) := by
  refine Sp_of RX9 rfl (by decide +kernel) rfl (Nat.le_of_ble_eq_true rfl) ?_
  refine v_aload_n 0 (pc' := 1) rfl dX9_become_0 rfl rfl ?_
  refine v_aload_n 1 (pc' := 2) rfl dX9_become_1 rfl rfl ?_
  refine v_get (pc' := 5) rfl dX9_become_2 fk_RX9_9 ly_2 rfl rfl ?_
  refine v_put (pc' := 8) rfl dX9_become_5 fi_RX9_9 ly_35 rfl ?_
  refine v_nmw (fun w1 hw1 => ?_)
  refine v_aload_n 0 (pc' := 9) rfl dX9_become_8 rfl rfl ?_
  refine v_aload_n 1 (pc' := 10) rfl dX9_become_9 rfl rfl ?_
  refine v_get (pc' := 13) rfl dX9_become_10 fk_RX9_18 ly_2 rfl rfl ?_
  refine v_put (pc' := 16) rfl dX9_become_13 fi_RX9_18 ly_35 rfl ?_
  refine v_nmw (fun w2 hw2 => ?_)
  refine v_aload_n 0 (pc' := 17) rfl dX9_become_16 rfl rfl ?_
  refine v_aload_n 1 (pc' := 18) rfl dX9_become_17 rfl rfl ?_
  refine v_get (pc' := 21) rfl dX9_become_18 fk_RX9_21 ly_2 rfl rfl ?_
  refine v_put (pc' := 24) rfl dX9_become_21 fi_RX9_21 ly_35 rfl ?_
  refine v_nmw (fun w3 hw3 => ?_)
  refine v_aload_n 0 (pc' := 25) rfl dX9_become_24 rfl rfl ?_
  refine v_aload_n 1 (pc' := 26) rfl dX9_become_25 rfl rfl ?_
  refine v_get (pc' := 29) rfl dX9_become_26 fk_RX9_34 ly_2 rfl rfl ?_
  refine v_put (pc' := 32) rfl dX9_become_29 fi_RX9_34 ly_35 rfl ?_
  refine v_nmw (fun w4 hw4 => ?_)
  refine v_iconst (pc' := 33) rfl dX9_become_32 ?_
  refine v_istore_n (ls' := [(2, _), (0, _), (1, _)]) (pc' := 34) rfl dX9_become_33 rfl rfl rfl ?_
  refine v_ls [1, 2, 0] rfl ?_
  refine v_loop2 34 (fun (i : Int) (wl : Wd) => ∃ k : Nat, i = k ∧ k ≤ 12 ∧ (wl 35 0 = w 2 0 ∧ wl 35 1 = w 2 1 ∧ wl 35 2 = w 2 2 ∧ wl 35 3 = w 2 3) ∧ (∀ j, j < k → wl 36 j = w 3 j ∧ wl 37 j = w 4 j ∧ wl 38 j = w 5 j) ∧ Fr [35, 36, 37, 38] w wl) (fun (i : Int) (wl : Wd) => (12 - i).toNat) (fun (i : Int) (wl : Wd) => [(0, aR 35), (1, aR 2), (2, aI (i))]) (fun (i : Int) (wl : Wd) => []) (fun (i : Int) (wl : Wd) => wl) (fun i wl hI0 ih0 => ?_) (0) w4 (⟨0, rfl, by omega, by simp [hw1, hw2, hw3, hw4, up_at], fun j h => by omega, by rw [hw4, hw3, hw2, hw1]; exact ((((Fr.rf _ _).up rfl).up rfl).up rfl).up rfl⟩)
  obtain ⟨k, hi, hk, hF, hA, hfr⟩ := hI0
  refine v_iload_n 2 (pc' := 35) rfl dX9_become_34 rfl rfl ?_
  refine v_bipush (pc' := 37) rfl dX9_become_35 rfl ?_
  refine v_icmp_ge (pc' := 40) (tgt := 82) rfl dX9_become_37 (by decide) (by omega) (by omega) (fun c0 => ?_) (fun c0 => ?_)
  ·
    refine v_vret dX9_become_82 ?_
    have e12 : k = 12 := by omega
    subst e12
    exact ⟨hF, hA, hfr⟩
  ·
    refine v_aload_n 0 (pc' := 41) rfl dX9_become_40 rfl rfl ?_
    refine v_getR (pc' := 44) rfl dX9_become_41 fk_RX9_24 ly_35 rfl ?_
    refine v_iload_n 2 (pc' := 45) rfl dX9_become_44 rfl rfl ?_
    refine v_aload_n 1 (pc' := 46) rfl dX9_become_45 rfl rfl ?_
    refine v_getR (pc' := 49) rfl dX9_become_46 fk_RX9_24 ly_2 rfl ?_
    refine v_iload_n 2 (pc' := 50) rfl dX9_become_49 rfl rfl ?_
    refine v_iald (pc' := 51) rfl dX9_become_50 ly_3 (by omega) (by omega) rfl (rfl) ?_
    refine v_iast (pc' := 52) rfl dX9_become_51 ly_36 (by omega) (by omega) rfl ?_
    refine v_nmw (fun w5 hw5 => ?_)
    refine v_aload_n 0 (pc' := 53) rfl dX9_become_52 rfl rfl ?_
    refine v_getR (pc' := 56) rfl dX9_become_53 fk_RX9_28 ly_35 rfl ?_
    refine v_iload_n 2 (pc' := 57) rfl dX9_become_56 rfl rfl ?_
    refine v_aload_n 1 (pc' := 58) rfl dX9_become_57 rfl rfl ?_
    refine v_getR (pc' := 61) rfl dX9_become_58 fk_RX9_28 ly_2 rfl ?_
    refine v_iload_n 2 (pc' := 62) rfl dX9_become_61 rfl rfl ?_
    refine v_iald (pc' := 63) rfl dX9_become_62 ly_4 (by omega) (by omega) rfl (rfl) ?_
    refine v_iast (pc' := 64) rfl dX9_become_63 ly_37 (by omega) (by omega) rfl ?_
    refine v_nmw (fun w6 hw6 => ?_)
    refine v_aload_n 0 (pc' := 65) rfl dX9_become_64 rfl rfl ?_
    refine v_getR (pc' := 68) rfl dX9_become_65 fk_RX9_31 ly_35 rfl ?_
    refine v_iload_n 2 (pc' := 69) rfl dX9_become_68 rfl rfl ?_
    refine v_aload_n 1 (pc' := 70) rfl dX9_become_69 rfl rfl ?_
    refine v_getR (pc' := 73) rfl dX9_become_70 fk_RX9_31 ly_2 rfl ?_
    refine v_iload_n 2 (pc' := 74) rfl dX9_become_73 rfl rfl ?_
    refine v_iald (pc' := 75) rfl dX9_become_74 ly_5 (by omega) (by omega) rfl (rfl) ?_
    refine v_iast (pc' := 76) rfl dX9_become_75 ly_38 (by omega) (by omega) rfl ?_
    refine v_nmw (fun w7 hw7 => ?_)
    refine v_iinc (ls' := [(2, _), (0, _), (1, _)]) 2 (pc' := 79) rfl dX9_become_76 rfl rfl rfl ?_
    refine v_nl (fun i' hi' => ?_)
    refine v_goto (tgt := 34) dX9_become_79 (by decide) ?_
    refine v_ls [1, 2, 0] rfl ?_
    have e1 : wl 3 i.toNat = w 3 k := by rw [hi]; exact hfr 3 k rfl
    have e2 : w5 4 i.toNat = w 4 k := by rw [hi, hw5, up_ne _ _ (by omega)]; exact hfr 4 k rfl
    have e3 : w6 5 i.toNat = w 5 k := by rw [hi, hw6, up_ne _ _ (by omega), hw5, up_ne _ _ (by omega)]; exact hfr 5 k rfl
    exact ih0 (i') w7 (⟨k + 1, by omega, by omega, by simp [hw5, hw6, hw7, up_at, hF], fun j h => by
        rw [e1] at hw5; rw [e2] at hw6; rw [e3] at hw7
        have hik : i.toNat = k := by omega
        simp only [hw5, hw6, hw7, up_at, hik]
        by_cases q : j = k
        · subst q; simp
        · have := hA j (by omega); simp [q, this], by rw [hw7, hw6, hw5]; exact ((hfr.up rfl).up rfl).up rfl⟩) (by omega)
set_option maxHeartbeats 4000000 in
set_option maxRecDepth 100000 in
theorem c_become_2_35 (l : Launch) (G : Gx)  (w : Wd)  : Sp l G 0 mX9_become [aR 2, aR 35] w (fun _ w' => Cpy w w' 2 35) := by
  refine Sp_of RX9 rfl (by decide +kernel) rfl (Nat.le_of_ble_eq_true rfl) ?_
  refine v_aload_n 0 (pc' := 1) rfl dX9_become_0 rfl rfl ?_
  refine v_aload_n 1 (pc' := 2) rfl dX9_become_1 rfl rfl ?_
  refine v_get (pc' := 5) rfl dX9_become_2 fk_RX9_9 ly_35 rfl rfl ?_
  refine v_put (pc' := 8) rfl dX9_become_5 fi_RX9_9 ly_2 rfl ?_
  refine v_nmw (fun w1 hw1 => ?_)
  refine v_aload_n 0 (pc' := 9) rfl dX9_become_8 rfl rfl ?_
  refine v_aload_n 1 (pc' := 10) rfl dX9_become_9 rfl rfl ?_
  refine v_get (pc' := 13) rfl dX9_become_10 fk_RX9_18 ly_35 rfl rfl ?_
  refine v_put (pc' := 16) rfl dX9_become_13 fi_RX9_18 ly_2 rfl ?_
  refine v_nmw (fun w2 hw2 => ?_)
  refine v_aload_n 0 (pc' := 17) rfl dX9_become_16 rfl rfl ?_
  refine v_aload_n 1 (pc' := 18) rfl dX9_become_17 rfl rfl ?_
  refine v_get (pc' := 21) rfl dX9_become_18 fk_RX9_21 ly_35 rfl rfl ?_
  refine v_put (pc' := 24) rfl dX9_become_21 fi_RX9_21 ly_2 rfl ?_
  refine v_nmw (fun w3 hw3 => ?_)
  refine v_aload_n 0 (pc' := 25) rfl dX9_become_24 rfl rfl ?_
  refine v_aload_n 1 (pc' := 26) rfl dX9_become_25 rfl rfl ?_
  refine v_get (pc' := 29) rfl dX9_become_26 fk_RX9_34 ly_35 rfl rfl ?_
  refine v_put (pc' := 32) rfl dX9_become_29 fi_RX9_34 ly_2 rfl ?_
  refine v_nmw (fun w4 hw4 => ?_)
  refine v_iconst (pc' := 33) rfl dX9_become_32 ?_
  refine v_istore_n (ls' := [(2, _), (0, _), (1, _)]) (pc' := 34) rfl dX9_become_33 rfl rfl rfl ?_
  refine v_ls [1, 2, 0] rfl ?_
  refine v_loop2 34 (fun (i : Int) (wl : Wd) => ∃ k : Nat, i = k ∧ k ≤ 12 ∧ (wl 2 0 = w 35 0 ∧ wl 2 1 = w 35 1 ∧ wl 2 2 = w 35 2 ∧ wl 2 3 = w 35 3) ∧ (∀ j, j < k → wl 3 j = w 36 j ∧ wl 4 j = w 37 j ∧ wl 5 j = w 38 j) ∧ Fr [2, 3, 4, 5] w wl) (fun (i : Int) (wl : Wd) => (12 - i).toNat) (fun (i : Int) (wl : Wd) => [(0, aR 2), (1, aR 35), (2, aI (i))]) (fun (i : Int) (wl : Wd) => []) (fun (i : Int) (wl : Wd) => wl) (fun i wl hI0 ih0 => ?_) (0) w4 (⟨0, rfl, by omega, by simp [hw1, hw2, hw3, hw4, up_at], fun j h => by omega, by rw [hw4, hw3, hw2, hw1]; exact ((((Fr.rf _ _).up rfl).up rfl).up rfl).up rfl⟩)
  obtain ⟨k, hi, hk, hF, hA, hfr⟩ := hI0
  refine v_iload_n 2 (pc' := 35) rfl dX9_become_34 rfl rfl ?_
  refine v_bipush (pc' := 37) rfl dX9_become_35 rfl ?_
  refine v_icmp_ge (pc' := 40) (tgt := 82) rfl dX9_become_37 (by decide) (by omega) (by omega) (fun c0 => ?_) (fun c0 => ?_)
  ·
    refine v_vret dX9_become_82 ?_
    have e12 : k = 12 := by omega
    subst e12
    exact ⟨hF, hA, hfr⟩
  ·
    refine v_aload_n 0 (pc' := 41) rfl dX9_become_40 rfl rfl ?_
    refine v_getR (pc' := 44) rfl dX9_become_41 fk_RX9_24 ly_2 rfl ?_
    refine v_iload_n 2 (pc' := 45) rfl dX9_become_44 rfl rfl ?_
    refine v_aload_n 1 (pc' := 46) rfl dX9_become_45 rfl rfl ?_
    refine v_getR (pc' := 49) rfl dX9_become_46 fk_RX9_24 ly_35 rfl ?_
    refine v_iload_n 2 (pc' := 50) rfl dX9_become_49 rfl rfl ?_
    refine v_iald (pc' := 51) rfl dX9_become_50 ly_36 (by omega) (by omega) rfl (rfl) ?_
    refine v_iast (pc' := 52) rfl dX9_become_51 ly_3 (by omega) (by omega) rfl ?_
    refine v_nmw (fun w5 hw5 => ?_)
    refine v_aload_n 0 (pc' := 53) rfl dX9_become_52 rfl rfl ?_
    refine v_getR (pc' := 56) rfl dX9_become_53 fk_RX9_28 ly_2 rfl ?_
    refine v_iload_n 2 (pc' := 57) rfl dX9_become_56 rfl rfl ?_
    refine v_aload_n 1 (pc' := 58) rfl dX9_become_57 rfl rfl ?_
    refine v_getR (pc' := 61) rfl dX9_become_58 fk_RX9_28 ly_35 rfl ?_
    refine v_iload_n 2 (pc' := 62) rfl dX9_become_61 rfl rfl ?_
    refine v_iald (pc' := 63) rfl dX9_become_62 ly_37 (by omega) (by omega) rfl (rfl) ?_
    refine v_iast (pc' := 64) rfl dX9_become_63 ly_4 (by omega) (by omega) rfl ?_
    refine v_nmw (fun w6 hw6 => ?_)
    refine v_aload_n 0 (pc' := 65) rfl dX9_become_64 rfl rfl ?_
    refine v_getR (pc' := 68) rfl dX9_become_65 fk_RX9_31 ly_2 rfl ?_
    refine v_iload_n 2 (pc' := 69) rfl dX9_become_68 rfl rfl ?_
    refine v_aload_n 1 (pc' := 70) rfl dX9_become_69 rfl rfl ?_
    refine v_getR (pc' := 73) rfl dX9_become_70 fk_RX9_31 ly_35 rfl ?_
    refine v_iload_n 2 (pc' := 74) rfl dX9_become_73 rfl rfl ?_
    refine v_iald (pc' := 75) rfl dX9_become_74 ly_38 (by omega) (by omega) rfl (rfl) ?_
    refine v_iast (pc' := 76) rfl dX9_become_75 ly_5 (by omega) (by omega) rfl ?_
    refine v_nmw (fun w7 hw7 => ?_)
    refine v_iinc (ls' := [(2, _), (0, _), (1, _)]) 2 (pc' := 79) rfl dX9_become_76 rfl rfl rfl ?_
    refine v_nl (fun i' hi' => ?_)
    refine v_goto (tgt := 34) dX9_become_79 (by decide) ?_
    refine v_ls [1, 2, 0] rfl ?_
    have e1 : wl 36 i.toNat = w 36 k := by rw [hi]; exact hfr 36 k rfl
    have e2 : w5 37 i.toNat = w 37 k := by rw [hi, hw5, up_ne _ _ (by omega)]; exact hfr 37 k rfl
    have e3 : w6 38 i.toNat = w 38 k := by rw [hi, hw6, up_ne _ _ (by omega), hw5, up_ne _ _ (by omega)]; exact hfr 38 k rfl
    exact ih0 (i') w7 (⟨k + 1, by omega, by omega, by simp [hw5, hw6, hw7, up_at, hF], fun j h => by
        rw [e1] at hw5; rw [e2] at hw6; rw [e3] at hw7
        have hik : i.toNat = k := by omega
        simp only [hw5, hw6, hw7, up_at, hik]
        by_cases q : j = k
        · subst q; simp
        · have := hA j (by omega); simp [q, this], by rw [hw7, hw6, hw5]; exact ((hfr.up rfl).up rfl).up rfl⟩) (by omega)
set_option maxHeartbeats 4000000 in
set_option maxRecDepth 100000 in
theorem c_become_39_2 (l : Launch) (G : Gx)  (w : Wd)  : Sp l G 0 mX9_become [aR 39, aR 2] w (fun _ w' => Cpy w w' 39 2) := by
  refine Sp_of RX9 rfl (by decide +kernel) rfl (Nat.le_of_ble_eq_true rfl) ?_
  refine v_aload_n 0 (pc' := 1) rfl dX9_become_0 rfl rfl ?_
  refine v_aload_n 1 (pc' := 2) rfl dX9_become_1 rfl rfl ?_
  refine v_get (pc' := 5) rfl dX9_become_2 fk_RX9_9 ly_2 rfl rfl ?_
  refine v_put (pc' := 8) rfl dX9_become_5 fi_RX9_9 ly_39 rfl ?_
  refine v_nmw (fun w1 hw1 => ?_)
  refine v_aload_n 0 (pc' := 9) rfl dX9_become_8 rfl rfl ?_
  refine v_aload_n 1 (pc' := 10) rfl dX9_become_9 rfl rfl ?_
  refine v_get (pc' := 13) rfl dX9_become_10 fk_RX9_18 ly_2 rfl rfl ?_
  refine v_put (pc' := 16) rfl dX9_become_13 fi_RX9_18 ly_39 rfl ?_
  refine v_nmw (fun w2 hw2 => ?_)
  refine v_aload_n 0 (pc' := 17) rfl dX9_become_16 rfl rfl ?_
  refine v_aload_n 1 (pc' := 18) rfl dX9_become_17 rfl rfl ?_
  refine v_get (pc' := 21) rfl dX9_become_18 fk_RX9_21 ly_2 rfl rfl ?_
  refine v_put (pc' := 24) rfl dX9_become_21 fi_RX9_21 ly_39 rfl ?_
  refine v_nmw (fun w3 hw3 => ?_)
  refine v_aload_n 0 (pc' := 25) rfl dX9_become_24 rfl rfl ?_
  refine v_aload_n 1 (pc' := 26) rfl dX9_become_25 rfl rfl ?_
  refine v_get (pc' := 29) rfl dX9_become_26 fk_RX9_34 ly_2 rfl rfl ?_
  refine v_put (pc' := 32) rfl dX9_become_29 fi_RX9_34 ly_39 rfl ?_
  refine v_nmw (fun w4 hw4 => ?_)
  refine v_iconst (pc' := 33) rfl dX9_become_32 ?_
  refine v_istore_n (ls' := [(2, _), (0, _), (1, _)]) (pc' := 34) rfl dX9_become_33 rfl rfl rfl ?_
  refine v_ls [1, 2, 0] rfl ?_
  refine v_loop2 34 (fun (i : Int) (wl : Wd) => ∃ k : Nat, i = k ∧ k ≤ 12 ∧ (wl 39 0 = w 2 0 ∧ wl 39 1 = w 2 1 ∧ wl 39 2 = w 2 2 ∧ wl 39 3 = w 2 3) ∧ (∀ j, j < k → wl 40 j = w 3 j ∧ wl 41 j = w 4 j ∧ wl 42 j = w 5 j) ∧ Fr [39, 40, 41, 42] w wl) (fun (i : Int) (wl : Wd) => (12 - i).toNat) (fun (i : Int) (wl : Wd) => [(0, aR 39), (1, aR 2), (2, aI (i))]) (fun (i : Int) (wl : Wd) => []) (fun (i : Int) (wl : Wd) => wl) (fun i wl hI0 ih0 => ?_) (0) w4 (⟨0, rfl, by omega, by simp [hw1, hw2, hw3, hw4, up_at], fun j h => by omega, by rw [hw4, hw3, hw2, hw1]; exact ((((Fr.rf _ _).up rfl).up rfl).up rfl).up rfl⟩)
  obtain ⟨k, hi, hk, hF, hA, hfr⟩ := hI0
  refine v_iload_n 2 (pc' := 35) rfl dX9_become_34 rfl rfl ?_
  refine v_bipush (pc' := 37) rfl dX9_become_35 rfl ?_
  refine v_icmp_ge (pc' := 40) (tgt := 82) rfl dX9_become_37 (by decide) (by omega) (by omega) (fun c0 => ?_) (fun c0 => ?_)
  ·
    refine v_vret dX9_become_82 ?_
    have e12 : k = 12 := by omega
    subst e12
    exact ⟨hF, hA, hfr⟩
  ·
    refine v_aload_n 0 (pc' := 41) rfl dX9_become_40 rfl rfl ?_
    refine v_getR (pc' := 44) rfl dX9_become_41 fk_RX9_24 ly_39 rfl ?_
    refine v_iload_n 2 (pc' := 45) rfl dX9_become_44 rfl rfl ?_
    refine v_aload_n 1 (pc' := 46) rfl dX9_become_45 rfl rfl ?_
    refine v_getR (pc' := 49) rfl dX9_become_46 fk_RX9_24 ly_2 rfl ?_
    refine v_iload_n 2 (pc' := 50) rfl dX9_become_49 rfl rfl ?_
    refine v_iald (pc' := 51) rfl dX9_become_50 ly_3 (by omega) (by omega) rfl (rfl) ?_
    refine v_iast (pc' := 52) rfl dX9_become_51 ly_40 (by omega) (by omega) rfl ?_
    refine v_nmw (fun w5 hw5 => ?_)
    refine v_aload_n 0 (pc' := 53) rfl dX9_become_52 rfl rfl ?_
    refine v_getR (pc' := 56) rfl dX9_become_53 fk_RX9_28 ly_39 rfl ?_
    refine v_iload_n 2 (pc' := 57) rfl dX9_become_56 rfl rfl ?_
    refine v_aload_n 1 (pc' := 58) rfl dX9_become_57 rfl rfl ?_
    refine v_getR (pc' := 61) rfl dX9_become_58 fk_RX9_28 ly_2 rfl ?_
    refine v_iload_n 2 (pc' := 62) rfl dX9_become_61 rfl rfl ?_
    refine v_iald (pc' := 63) rfl dX9_become_62 ly_4 (by omega) (by omega) rfl (rfl) ?_
    refine v_iast (pc' := 64) rfl dX9_become_63 ly_41 (by omega) (by omega) rfl ?_
    refine v_nmw (fun w6 hw6 => ?_)
    refine v_aload_n 0 (pc' := 65) rfl dX9_become_64 rfl rfl ?_
    refine v_getR (pc' := 68) rfl dX9_become_65 fk_RX9_31 ly_39 rfl ?_
    refine v_iload_n 2 (pc' := 69) rfl dX9_become_68 rfl rfl ?_
    refine v_aload_n 1 (pc' := 70) rfl dX9_become_69 rfl rfl ?_
    refine v_getR (pc' := 73) rfl dX9_become_70 fk_RX9_31 ly_2 rfl ?_
    refine v_iload_n 2 (pc' := 74) rfl dX9_become_73 rfl rfl ?_
    refine v_iald (pc' := 75) rfl dX9_become_74 ly_5 (by omega) (by omega) rfl (rfl) ?_
    refine v_iast (pc' := 76) rfl dX9_become_75 ly_42 (by omega) (by omega) rfl ?_
    refine v_nmw (fun w7 hw7 => ?_)
    refine v_iinc (ls' := [(2, _), (0, _), (1, _)]) 2 (pc' := 79) rfl dX9_become_76 rfl rfl rfl ?_
    refine v_nl (fun i' hi' => ?_)
    refine v_goto (tgt := 34) dX9_become_79 (by decide) ?_
    refine v_ls [1, 2, 0] rfl ?_
    have e1 : wl 3 i.toNat = w 3 k := by rw [hi]; exact hfr 3 k rfl
    have e2 : w5 4 i.toNat = w 4 k := by rw [hi, hw5, up_ne _ _ (by omega)]; exact hfr 4 k rfl
    have e3 : w6 5 i.toNat = w 5 k := by rw [hi, hw6, up_ne _ _ (by omega), hw5, up_ne _ _ (by omega)]; exact hfr 5 k rfl
    exact ih0 (i') w7 (⟨k + 1, by omega, by omega, by simp [hw5, hw6, hw7, up_at, hF], fun j h => by
        rw [e1] at hw5; rw [e2] at hw6; rw [e3] at hw7
        have hik : i.toNat = k := by omega
        simp only [hw5, hw6, hw7, up_at, hik]
        by_cases q : j = k
        · subst q; simp
        · have := hA j (by omega); simp [q, this], by rw [hw7, hw6, hw5]; exact ((hfr.up rfl).up rfl).up rfl⟩) (by omega)
set_option maxHeartbeats 4000000 in
set_option maxRecDepth 100000 in
theorem c_become_2_39 (l : Launch) (G : Gx)  (w : Wd)  : Sp l G 0 mX9_become [aR 2, aR 39] w (fun _ w' => Cpy w w' 2 39) := by
  refine Sp_of RX9 rfl (by decide +kernel) rfl (Nat.le_of_ble_eq_true rfl) ?_
  refine v_aload_n 0 (pc' := 1) rfl dX9_become_0 rfl rfl ?_
  refine v_aload_n 1 (pc' := 2) rfl dX9_become_1 rfl rfl ?_
  refine v_get (pc' := 5) rfl dX9_become_2 fk_RX9_9 ly_39 rfl rfl ?_
  refine v_put (pc' := 8) rfl dX9_become_5 fi_RX9_9 ly_2 rfl ?_
  refine v_nmw (fun w1 hw1 => ?_)
  refine v_aload_n 0 (pc' := 9) rfl dX9_become_8 rfl rfl ?_
  refine v_aload_n 1 (pc' := 10) rfl dX9_become_9 rfl rfl ?_
  refine v_get (pc' := 13) rfl dX9_become_10 fk_RX9_18 ly_39 rfl rfl ?_
  refine v_put (pc' := 16) rfl dX9_become_13 fi_RX9_18 ly_2 rfl ?_
  refine v_nmw (fun w2 hw2 => ?_)
  refine v_aload_n 0 (pc' := 17) rfl dX9_become_16 rfl rfl ?_
  refine v_aload_n 1 (pc' := 18) rfl dX9_become_17 rfl rfl ?_
  refine v_get (pc' := 21) rfl dX9_become_18 fk_RX9_21 ly_39 rfl rfl ?_
  refine v_put (pc' := 24) rfl dX9_become_21 fi_RX9_21 ly_2 rfl ?_
  refine v_nmw (fun w3 hw3 => ?_)
  refine v_aload_n 0 (pc' := 25) rfl dX9_become_24 rfl rfl ?_
  refine v_aload_n 1 (pc' := 26) rfl dX9_become_25 rfl rfl ?_
  refine v_get (pc' := 29) rfl dX9_become_26 fk_RX9_34 ly_39 rfl rfl ?_
  refine v_put (pc' := 32) rfl dX9_become_29 fi_RX9_34 ly_2 rfl ?_
  refine v_nmw (fun w4 hw4 => ?_)
  refine v_iconst (pc' := 33) rfl dX9_become_32 ?_
  refine v_istore_n (ls' := [(2, _), (0, _), (1, _)]) (pc' := 34) rfl dX9_become_33 rfl rfl rfl ?_
  refine v_ls [1, 2, 0] rfl ?_
  refine v_loop2 34 (fun (i : Int) (wl : Wd) => ∃ k : Nat, i = k ∧ k ≤ 12 ∧ (wl 2 0 = w 39 0 ∧ wl 2 1 = w 39 1 ∧ wl 2 2 = w 39 2 ∧ wl 2 3 = w 39 3) ∧ (∀ j, j < k → wl 3 j = w 40 j ∧ wl 4 j = w 41 j ∧ wl 5 j = w 42 j) ∧ Fr [2, 3, 4, 5] w wl) (fun (i : Int) (wl : Wd) => (12 - i).toNat) (fun (i : Int) (wl : Wd) => [(0, aR 2), (1, aR 39), (2, aI (i))]) (fun (i : Int) (wl : Wd) => []) (fun (i : Int) (wl : Wd) => wl) (fun i wl hI0 ih0 => ?_) (0) w4 (⟨0, rfl, by omega, by simp [hw1, hw2, hw3, hw4, up_at], fun j h => by omega, by rw [hw4, hw3, hw2, hw1]; exact ((((Fr.rf _ _).up rfl).up rfl).up rfl).up rfl⟩)
  obtain ⟨k, hi, hk, hF, hA, hfr⟩ := hI0
  refine v_iload_n 2 (pc' := 35) rfl dX9_become_34 rfl rfl ?_
  refine v_bipush (pc' := 37) rfl dX9_become_35 rfl ?_
  refine v_icmp_ge (pc' := 40) (tgt := 82) rfl dX9_become_37 (by decide) (by omega) (by omega) (fun c0 => ?_) (fun c0 => ?_)
  ·
    refine v_vret dX9_become_82 ?_
    have e12 : k = 12 := by omega
    subst e12
    exact ⟨hF, hA, hfr⟩
  ·
    refine v_aload_n 0 (pc' := 41) rfl dX9_become_40 rfl rfl ?_
    refine v_getR (pc' := 44) rfl dX9_become_41 fk_RX9_24 ly_2 rfl ?_
    refine v_iload_n 2 (pc' := 45) rfl dX9_become_44 rfl rfl ?_
    refine v_aload_n 1 (pc' := 46) rfl dX9_become_45 rfl rfl ?_
    refine v_getR (pc' := 49) rfl dX9_become_46 fk_RX9_24 ly_39 rfl ?_
    refine v_iload_n 2 (pc' := 50) rfl dX9_become_49 rfl rfl ?_
    refine v_iald (pc' := 51) rfl dX9_become_50 ly_40 (by omega) (by omega) rfl (rfl) ?_
    refine v_iast (pc' := 52) rfl dX9_become_51 ly_3 (by omega) (by omega) rfl ?_
    refine v_nmw (fun w5 hw5 => ?_)
    refine v_aload_n 0 (pc' := 53) rfl dX9_become_52 rfl rfl ?_
    refine v_getR (pc' := 56) rfl dX9_become_53 fk_RX9_28 ly_2 rfl ?_
    refine v_iload_n 2 (pc' := 57) rfl dX9_become_56 rfl rfl ?_
    refine v_aload_n 1 (pc' := 58) rfl dX9_become_57 rfl rfl ?_
    refine v_getR (pc' := 61) rfl dX9_become_58 fk_RX9_28 ly_39 rfl ?_
    refine v_iload_n 2 (pc' := 62) rfl dX9_become_61 rfl rfl ?_
    refine v_iald (pc' := 63) rfl dX9_become_62 ly_41 (by omega) (by omega) rfl (rfl) ?_
    refine v_iast (pc' := 64) rfl dX9_become_63 ly_4 (by omega) (by omega) rfl ?_
    refine v_nmw (fun w6 hw6 => ?_)
    refine v_aload_n 0 (pc' := 65) rfl dX9_become_64 rfl rfl ?_
    refine v_getR (pc' := 68) rfl dX9_become_65 fk_RX9_31 ly_2 rfl ?_
    refine v_iload_n 2 (pc' := 69) rfl dX9_become_68 rfl rfl ?_
    refine v_aload_n 1 (pc' := 70) rfl dX9_become_69 rfl rfl ?_
    refine v_getR (pc' := 73) rfl dX9_become_70 fk_RX9_31 ly_39 rfl ?_
    refine v_iload_n 2 (pc' := 74) rfl dX9_become_73 rfl rfl ?_
    refine v_iald (pc' := 75) rfl dX9_become_74 ly_42 (by omega) (by omega) rfl (rfl) ?_
    refine v_iast (pc' := 76) rfl dX9_become_75 ly_5 (by omega) (by omega) rfl ?_
    refine v_nmw (fun w7 hw7 => ?_)
    refine v_iinc (ls' := [(2, _), (0, _), (1, _)]) 2 (pc' := 79) rfl dX9_become_76 rfl rfl rfl ?_
    refine v_nl (fun i' hi' => ?_)
    refine v_goto (tgt := 34) dX9_become_79 (by decide) ?_
    refine v_ls [1, 2, 0] rfl ?_
    have e1 : wl 40 i.toNat = w 40 k := by rw [hi]; exact hfr 40 k rfl
    have e2 : w5 41 i.toNat = w 41 k := by rw [hi, hw5, up_ne _ _ (by omega)]; exact hfr 41 k rfl
    have e3 : w6 42 i.toNat = w 42 k := by rw [hi, hw6, up_ne _ _ (by omega), hw5, up_ne _ _ (by omega)]; exact hfr 42 k rfl
    exact ih0 (i') w7 (⟨k + 1, by omega, by omega, by simp [hw5, hw6, hw7, up_at, hF], fun j h => by
        rw [e1] at hw5; rw [e2] at hw6; rw [e3] at hw7
        have hik : i.toNat = k := by omega
        simp only [hw5, hw6, hw7, up_at, hik]
        by_cases q : j = k
        · subst q; simp
        · have := hA j (by omega); simp [q, this], by rw [hw7, hw6, hw5]; exact ((hfr.up rfl).up rfl).up rfl⟩) (by omega)
set_option maxHeartbeats 4000000 in
set_option maxRecDepth 100000 in
theorem c_become_43_2 (l : Launch) (G : Gx)  (w : Wd)  : Sp l G 0 mX9_become [aR 43, aR 2] w (fun _ w' => Cpy w w' 43 2) := by
  refine Sp_of RX9 rfl (by decide +kernel) rfl (Nat.le_of_ble_eq_true rfl) ?_
  refine v_aload_n 0 (pc' := 1) rfl dX9_become_0 rfl rfl ?_
  refine v_aload_n 1 (pc' := 2) rfl dX9_become_1 rfl rfl ?_
  refine v_get (pc' := 5) rfl dX9_become_2 fk_RX9_9 ly_2 rfl rfl ?_
  refine v_put (pc' := 8) rfl dX9_become_5 fi_RX9_9 ly_43 rfl ?_
  refine v_nmw (fun w1 hw1 => ?_)
  refine v_aload_n 0 (pc' := 9) rfl dX9_become_8 rfl rfl ?_
  refine v_aload_n 1 (pc' := 10) rfl dX9_become_9 rfl rfl ?_
  refine v_get (pc' := 13) rfl dX9_become_10 fk_RX9_18 ly_2 rfl rfl ?_
  refine v_put (pc' := 16) rfl dX9_become_13 fi_RX9_18 ly_43 rfl ?_
  refine v_nmw (fun w2 hw2 => ?_)
  refine v_aload_n 0 (pc' := 17) rfl dX9_become_16 rfl rfl ?_
  refine v_aload_n 1 (pc' := 18) rfl dX9_become_17 rfl rfl ?_
  refine v_get (pc' := 21) rfl dX9_become_18 fk_RX9_21 ly_2 rfl rfl ?_
  refine v_put (pc' := 24) rfl dX9_become_21 fi_RX9_21 ly_43 rfl ?_
  refine v_nmw (fun w3 hw3 => ?_)
  refine v_aload_n 0 (pc' := 25) rfl dX9_become_24 rfl rfl ?_
  refine v_aload_n 1 (pc' := 26) rfl dX9_become_25 rfl rfl ?_
  refine v_get (pc' := 29) rfl dX9_become_26 fk_RX9_34 ly_2 rfl rfl ?_
  refine v_put (pc' := 32) rfl dX9_become_29 fi_RX9_34 ly_43 rfl ?_
  refine v_nmw (fun w4 hw4 => ?_)
  refine v_iconst (pc' := 33) rfl dX9_become_32 ?_
  refine v_istore_n (ls' := [(2, _), (0, _), (1, _)]) (pc' := 34) rfl dX9_become_33 rfl rfl rfl ?_
  refine v_ls [1, 2, 0] rfl ?_
  refine v_loop2 34 (fun (i : Int) (wl : Wd) => ∃ k : Nat, i = k ∧ k ≤ 12 ∧ (wl 43 0 = w 2 0 ∧ wl 43 1 = w 2 1 ∧ wl 43 2 = w 2 2 ∧ wl 43 3 = w 2 3) ∧ (∀ j, j < k → wl 44 j = w 3 j ∧ wl 45 j = w 4 j ∧ wl 46 j = w 5 j) ∧ Fr [43, 44, 45, 46] w wl) (fun (i : Int) (wl : Wd) => (12 - i).toNat) (fun (i : Int) (wl : Wd) => [(0, aR 43), (1, aR 2), (2, aI (i))]) (fun (i : Int) (wl : Wd) => []) (fun (i : Int) (wl : Wd) => wl) (fun i wl hI0 ih0 => ?_) (0) w4 (⟨0, rfl, by omega, by simp [hw1, hw2, hw3, hw4, up_at], fun j h => by omega, by rw [hw4, hw3, hw2, hw1]; exact ((((Fr.rf _ _).up rfl).up rfl).up rfl).up rfl⟩)
  obtain ⟨k, hi, hk, hF, hA, hfr⟩ := hI0
  refine v_iload_n 2 (pc' := 35) rfl dX9_become_34 rfl rfl ?_
  refine v_bipush (pc' := 37) rfl dX9_become_35 rfl ?_
  refine v_icmp_ge (pc' := 40) (tgt := 82) rfl dX9_become_37 (by decide) (by omega) (by omega) (fun c0 => ?_) (fun c0 => ?_)
  ·
    refine v_vret dX9_become_82 ?_
    have e12 : k = 12 := by omega
    subst e12
    exact ⟨hF, hA, hfr⟩
  ·
    refine v_aload_n 0 (pc' := 41) rfl dX9_become_40 rfl rfl ?_
    refine v_getR (pc' := 44) rfl dX9_become_41 fk_RX9_24 ly_43 rfl ?_
    refine v_iload_n 2 (pc' := 45) rfl dX9_become_44 rfl rfl ?_
    refine v_aload_n 1 (pc' := 46) rfl dX9_become_45 rfl rfl ?_
    refine v_getR (pc' := 49) rfl dX9_become_46 fk_RX9_24 ly_2 rfl ?_
    refine v_iload_n 2 (pc' := 50) rfl dX9_become_49 rfl rfl ?_
    refine v_iald (pc' := 51) rfl dX9_become_50 ly_3 (by omega) (by omega) rfl (rfl) ?_
    refine v_iast (pc' := 52) rfl dX9_become_51 ly_44 (by omega) (by omega) rfl ?_
    refine v_nmw (fun w5 hw5 => ?_)
    refine v_aload_n 0 (pc' := 53) rfl dX9_become_52 rfl rfl ?_
    refine v_getR (pc' := 56) rfl dX9_become_53 fk_RX9_28 ly_43 rfl ?_
    refine v_iload_n 2 (pc' := 57) rfl dX9_become_56 rfl rfl ?_
    refine v_aload_n 1 (pc' := 58) rfl dX9_become_57 rfl rfl ?_
    refine v_getR (pc' := 61) rfl dX9_become_58 fk_RX9_28 ly_2 rfl ?_
    refine v_iload_n 2 (pc' := 62) rfl dX9_become_61 rfl rfl ?_
    refine v_iald (pc' := 63) rfl dX9_become_62 ly_4 (by omega) (by omega) rfl (rfl) ?_
    refine v_iast (pc' := 64) rfl dX9_become_63 ly_45 (by omega) (by omega) rfl ?_
    refine v_nmw (fun w6 hw6 => ?_)
    refine v_aload_n 0 (pc' := 65) rfl dX9_become_64 rfl rfl ?_
    refine v_getR (pc' := 68) rfl dX9_become_65 fk_RX9_31 ly_43 rfl ?_
    refine v_iload_n 2 (pc' := 69) rfl dX9_become_68 rfl rfl ?_
    refine v_aload_n 1 (pc' := 70) rfl dX9_become_69 rfl rfl ?_
    refine v_getR (pc' := 73) rfl dX9_become_70 fk_RX9_31 ly_2 rfl ?_
    refine v_iload_n 2 (pc' := 74) rfl dX9_become_73 rfl rfl ?_
    refine v_iald (pc' := 75) rfl dX9_become_74 ly_5 (by omega) (by omega) rfl (rfl) ?_
    refine v_iast (pc' := 76) rfl dX9_become_75 ly_46 (by omega) (by omega) rfl ?_
    refine v_nmw (fun w7 hw7 => ?_)
    refine v_iinc (ls' := [(2, _), (0, _), (1, _)]) 2 (pc' := 79) rfl dX9_become_76 rfl rfl rfl ?_
    refine v_nl (fun i' hi' => ?_)
    refine v_goto (tgt := 34) dX9_become_79 (by decide) ?_
    refine v_ls [1, 2, 0] rfl ?_
    have e1 : wl 3 i.toNat = w 3 k := by rw [hi]; exact hfr 3 k rfl
    have e2 : w5 4 i.toNat = w 4 k := by rw [hi, hw5, up_ne _ _ (by omega)]; exact hfr 4 k rfl
    have e3 : w6 5 i.toNat = w 5 k := by rw [hi, hw6, up_ne _ _ (by omega), hw5, up_ne _ _ (by omega)]; exact hfr 5 k rfl
    exact ih0 (i') w7 (⟨k + 1, by omega, by omega, by simp [hw5, hw6, hw7, up_at, hF], fun j h => by
        rw [e1] at hw5; rw [e2] at hw6; rw [e3] at hw7
        have hik : i.toNat = k := by omega
        simp only [hw5, hw6, hw7, up_at, hik]
        by_cases q : j = k
        · subst q; simp
        · have := hA j (by omega); simp [q, this], by rw [hw7, hw6, hw5]; exact ((hfr.up rfl).up rfl).up rfl⟩) (by omega)
set_option maxHeartbeats 4000000 in
set_option maxRecDepth 100000 in
theorem c_become_2_43 (l : Launch) (G : Gx)  (w : Wd)  : Sp l G 0 mX9_become [aR 2, aR 43] w (fun _ w' => Cpy w w' 2 43) := by
  refine Sp_of RX9 rfl (by decide +kernel) rfl (Nat.le_of_ble_eq_true rfl) ?_
  refine v_aload_n 0 (pc' := 1) rfl dX9_become_0 rfl rfl ?_
  refine v_aload_n 1 (pc' := 2) rfl dX9_become_1 rfl rfl ?_
  refine v_get (pc' := 5) rfl dX9_become_2 fk_RX9_9 ly_43 rfl rfl ?_
  refine v_put (pc' := 8) rfl dX9_become_5 fi_RX9_9 ly_2 rfl ?_
  refine v_nmw (fun w1 hw1 => ?_)
  refine v_aload_n 0 (pc' := 9) rfl dX9_become_8 rfl rfl ?_
  refine v_aload_n 1 (pc' := 10) rfl dX9_become_9 rfl rfl ?_
  refine v_get (pc' := 13) rfl dX9_become_10 fk_RX9_18 ly_43 rfl rfl ?_
  refine v_put (pc' := 16) rfl dX9_become_13 fi_RX9_18 ly_2 rfl ?_
  refine v_nmw (fun w2 hw2 => ?_)
  refine v_aload_n 0 (pc' := 17) rfl dX9_become_16 rfl rfl ?_
  refine v_aload_n 1 (pc' := 18) rfl dX9_become_17 rfl rfl ?_
  refine v_get (pc' := 21) rfl dX9_become_18 fk_RX9_21 ly_43 rfl rfl ?_
  refine v_put (pc' := 24) rfl dX9_become_21 fi_RX9_21 ly_2 rfl ?_
  refine v_nmw (fun w3 hw3 => ?_)
  refine v_aload_n 0 (pc' := 25) rfl dX9_become_24 rfl rfl ?_
  refine v_aload_n 1 (pc' := 26) rfl dX9_become_25 rfl rfl ?_
  refine v_get (pc' := 29) rfl dX9_become_26 fk_RX9_34 ly_43 rfl rfl ?_
  refine v_put (pc' := 32) rfl dX9_become_29 fi_RX9_34 ly_2 rfl ?_
  refine v_nmw (fun w4 hw4 => ?_)
  refine v_iconst (pc' := 33) rfl dX9_become_32 ?_
  refine v_istore_n (ls' := [(2, _), (0, _), (1, _)]) (pc' := 34) rfl dX9_become_33 rfl rfl rfl ?_
  refine v_ls [1, 2, 0] rfl ?_
  refine v_loop2 34 (fun (i : Int) (wl : Wd) => ∃ k : Nat, i = k ∧ k ≤ 12 ∧ (wl 2 0 = w 43 0 ∧ wl 2 1 = w 43 1 ∧ wl 2 2 = w 43 2 ∧ wl 2 3 = w 43 3) ∧ (∀ j, j < k → wl 3 j = w 44 j ∧ wl 4 j = w 45 j ∧ wl 5 j = w 46 j) ∧ Fr [2, 3, 4, 5] w wl) (fun (i : Int) (wl : Wd) => (12 - i).toNat) (fun (i : Int) (wl : Wd) => [(0, aR 2), (1, aR 43), (2, aI (i))]) (fun (i : Int) (wl : Wd) => []) (fun (i : Int) (wl : Wd) => wl) (fun i wl hI0 ih0 => ?_) (0) w4 (⟨0, rfl, by omega, by simp [hw1, hw2, hw3, hw4, up_at], fun j h => by omega, by rw [hw4, hw3, hw2, hw1]; exact ((((Fr.rf _ _).up rfl).up rfl).up rfl).up rfl⟩)
  obtain ⟨k, hi, hk, hF, hA, hfr⟩ := hI0
  refine v_iload_n 2 (pc' := 35) rfl dX9_become_34 rfl rfl ?_
  refine v_bipush (pc' := 37) rfl dX9_become_35 rfl ?_
  refine v_icmp_ge (pc' := 40) (tgt := 82) rfl dX9_become_37 (by decide) (by omega) (by omega) (fun c0 => ?_) (fun c0 => ?_)
  ·
    refine v_vret dX9_become_82 ?_
    have e12 : k = 12 := by omega
    subst e12
    exact ⟨hF, hA, hfr⟩
  ·
    refine v_aload_n 0 (pc' := 41) rfl dX9_become_40 rfl rfl ?_
    refine v_getR (pc' := 44) rfl dX9_become_41 fk_RX9_24 ly_2 rfl ?_
    refine v_iload_n 2 (pc' := 45) rfl dX9_become_44 rfl rfl ?_
    refine v_aload_n 1 (pc' := 46) rfl dX9_become_45 rfl rfl ?_
    refine v_getR (pc' := 49) rfl dX9_become_46 fk_RX9_24 ly_43 rfl ?_
    refine v_iload_n 2 (pc' := 50) rfl dX9_become_49 rfl rfl ?_
    refine v_iald (pc' := 51) rfl dX9_become_50 ly_44 (by omega) (by omega) rfl (rfl) ?_
    refine v_iast (pc' := 52) rfl dX9_become_51 ly_3 (by omega) (by omega) rfl ?_
    refine v_nmw (fun w5 hw5 => ?_)
    refine v_aload_n 0 (pc' := 53) rfl dX9_become_52 rfl rfl ?_
    refine v_getR (pc' := 56) rfl dX9_become_53 fk_RX9_28 ly_2 rfl ?_
    refine v_iload_n 2 (pc' := 57) rfl dX9_become_56 rfl rfl ?_
    refine v_aload_n 1 (pc' := 58) rfl dX9_become_57 rfl rfl ?_
    refine v_getR (pc' := 61) rfl dX9_become_58 fk_RX9_28 ly_43 rfl ?_
    refine v_iload_n 2 (pc' := 62) rfl dX9_become_61 rfl rfl ?_
    refine v_iald (pc' := 63) rfl dX9_become_62 ly_45 (by omega) (by omega) rfl (rfl) ?_
    refine v_iast (pc' := 64) rfl dX9_become_63 ly_4 (by omega) (by omega) rfl ?_
    refine v_nmw (fun w6 hw6 => ?_)
    refine v_aload_n 0 (pc' := 65) rfl dX9_become_64 rfl rfl ?_
    refine v_getR (pc' := 68) rfl dX9_become_65 fk_RX9_31 ly_2 rfl ?_
    refine v_iload_n 2 (pc' := 69) rfl dX9_become_68 rfl rfl ?_
    refine v_aload_n 1 (pc' := 70) rfl dX9_become_69 rfl rfl ?_
    refine v_getR (pc' := 73) rfl dX9_become_70 fk_RX9_31 ly_43 rfl ?_
    refine v_iload_n 2 (pc' := 74) rfl dX9_become_73 rfl rfl ?_
    refine v_iald (pc' := 75) rfl dX9_become_74 ly_46 (by omega) (by omega) rfl (rfl) ?_
    refine v_iast (pc' := 76) rfl dX9_become_75 ly_5 (by omega) (by omega) rfl ?_
    refine v_nmw (fun w7 hw7 => ?_)
    refine v_iinc (ls' := [(2, _), (0, _), (1, _)]) 2 (pc' := 79) rfl dX9_become_76 rfl rfl rfl ?_
    refine v_nl (fun i' hi' => ?_)
    refine v_goto (tgt := 34) dX9_become_79 (by decide) ?_
    refine v_ls [1, 2, 0] rfl ?_
    have e1 : wl 44 i.toNat = w 44 k := by rw [hi]; exact hfr 44 k rfl
    have e2 : w5 45 i.toNat = w 45 k := by rw [hi, hw5, up_ne _ _ (by omega)]; exact hfr 45 k rfl
    have e3 : w6 46 i.toNat = w 46 k := by rw [hi, hw6, up_ne _ _ (by omega), hw5, up_ne _ _ (by omega)]; exact hfr 46 k rfl
    exact ih0 (i') w7 (⟨k + 1, by omega, by omega, by simp [hw5, hw6, hw7, up_at, hF], fun j h => by
        rw [e1] at hw5; rw [e2] at hw6; rw [e3] at hw7
        have hik : i.toNat = k := by omega
        simp only [hw5, hw6, hw7, up_at, hik]
        by_cases q : j = k
        · subst q; simp
        · have := hA j (by omega); simp [q, this], by rw [hw7, hw6, hw5]; exact ((hfr.up rfl).up rfl).up rfl⟩) (by omega)
set_option maxHeartbeats 4000000 in
set_option maxRecDepth 100000 in
theorem c_become_47_2 (l : Launch) (G : Gx)  (w : Wd)  : Sp l G 0 mX9_become [aR 47, aR 2] w (fun _ w' => Cpy w w' 47 2) := by
  refine Sp_of RX9 rfl (by decide +kernel) rfl (Nat.le_of_ble_eq_true rfl) ?_
  refine v_aload_n 0 (pc' := 1) rfl dX9_become_0 rfl rfl ?_
  refine v_aload_n 1 (pc' := 2) rfl dX9_become_1 rfl rfl ?_
  refine v_get (pc' := 5) rfl dX9_become_2 fk_RX9_9 ly_2 rfl rfl ?_
  refine v_put (pc' := 8) rfl dX9_become_5 fi_RX9_9 ly_47 rfl ?_
  refine v_nmw (fun w1 hw1 => ?_)
  refine v_aload_n 0 (pc' := 9) rfl dX9_become_8 rfl rfl ?_
  refine v_aload_n 1 (pc' := 10) rfl dX9_become_9 rfl rfl ?_
  refine v_get (pc' := 13) rfl dX9_become_10 fk_RX9_18 ly_2 rfl rfl ?_
  refine v_put (pc' := 16) rfl dX9_become_13 fi_RX9_18 ly_47 rfl ?_
  refine v_nmw (fun w2 hw2 => ?_)
  refine v_aload_n 0 (pc' := 17) rfl dX9_become_16 rfl rfl ?_
  refine v_aload_n 1 (pc' := 18) rfl dX9_become_17 rfl rfl ?_
  refine v_get (pc' := 21) rfl dX9_become_18 fk_RX9_21 ly_2 rfl rfl ?_
  refine v_put (pc' := 24) rfl dX9_become_21 fi_RX9_21 ly_47 rfl ?_
  refine v_nmw (fun w3 hw3 => ?_)
  refine v_aload_n 0 (pc' := 25) rfl dX9_become_24 rfl rfl ?_
  refine v_aload_n 1 (pc' := 26) rfl dX9_become_25 rfl rfl ?_
  refine v_get (pc' := 29) rfl dX9_become_26 fk_RX9_34 ly_2 rfl rfl ?_
  refine v_put (pc' := 32) rfl dX9_become_29 fi_RX9_34 ly_47 rfl ?_
  refine v_nmw (fun w4 hw4 => ?_)
  refine v_iconst (pc' := 33) rfl dX9_become_32 ?_
  refine v_istore_n (ls' := [(2, _), (0, _), (1, _)]) (pc' := 34) rfl dX9_become_33 rfl rfl rfl ?_
  refine v_ls [1, 2, 0] rfl ?_
  refine v_loop2 34 (fun (i : Int) (wl : Wd) => ∃ k : Nat, i = k ∧ k ≤ 12 ∧ (wl 47 0 = w 2 0 ∧ wl 47 1 = w 2 1 ∧ wl 47 2 = w 2 2 ∧ wl 47 3 = w 2 3) ∧ (∀ j, j < k → wl 48 j = w 3 j ∧ wl 49 j = w 4 j ∧ wl 50 j = w 5 j) ∧ Fr [47, 48, 49, 50] w wl) (fun (i : Int) (wl : Wd) => (12 - i).toNat) (fun (i : Int) (wl : Wd) => [(0, aR 47), (1, aR 2), (2, aI (i))]) (fun (i : Int) (wl : Wd) => []) (fun (i : Int) (wl : Wd) => wl) (fun i wl hI0 ih0 => ?_) (0) w4 (⟨0, rfl, by omega, by simp [hw1, hw2, hw3, hw4, up_at], fun j h => by omega, by rw [hw4, hw3, hw2, hw1]; exact ((((Fr.rf _ _).up rfl).up rfl).up rfl).up rfl⟩)
  obtain ⟨k, hi, hk, hF, hA, hfr⟩ := hI0
  refine v_iload_n 2 (pc' := 35) rfl dX9_become_34 rfl rfl ?_
  refine v_bipush (pc' := 37) rfl dX9_become_35 rfl ?_
  refine v_icmp_ge (pc' := 40) (tgt := 82) rfl dX9_become_37 (by decide) (by omega) (by omega) (fun c0 => ?_) (fun c0 => ?_)
  ·
    refine v_vret dX9_become_82 ?_
    have e12 : k = 12 := by omega
    subst e12
    exact ⟨hF, hA, hfr⟩
  ·
    refine v_aload_n 0 (pc' := 41) rfl dX9_become_40 rfl rfl ?_
    refine v_getR (pc' := 44) rfl dX9_become_41 fk_RX9_24 ly_47 rfl ?_
    refine v_iload_n 2 (pc' := 45) rfl dX9_become_44 rfl rfl ?_
    refine v_aload_n 1 (pc' := 46) rfl dX9_become_45 rfl rfl ?_
    refine v_getR (pc' := 49) rfl dX9_become_46 fk_RX9_24 ly_2 rfl ?_
    refine v_iload_n 2 (pc' := 50) rfl dX9_become_49 rfl rfl ?_
    refine v_iald (pc' := 51) rfl dX9_become_50 ly_3 (by omega) (by omega) rfl (rfl) ?_
    refine v_iast (pc' := 52) rfl dX9_become_51 ly_48 (by omega) (by omega) rfl ?_
    refine v_nmw (fun w5 hw5 => ?_)
    refine v_aload_n 0 (pc' := 53) rfl dX9_become_52 rfl rfl ?_
    refine v_getR (pc' := 56) rfl dX9_become_53 fk_RX9_28 ly_47 rfl ?_
    refine v_iload_n 2 (pc' := 57) rfl dX9_become_56 rfl rfl ?_
    refine v_aload_n 1 (pc' := 58) rfl dX9_become_57 rfl rfl ?_
    refine v_getR (pc' := 61) rfl dX9_become_58 fk_RX9_28 ly_2 rfl ?_
    refine v_iload_n 2 (pc' := 62) rfl dX9_become_61 rfl rfl ?_
    refine v_iald (pc' := 63) rfl dX9_become_62 ly_4 (by omega) (by omega) rfl (rfl) ?_
    refine v_iast (pc' := 64) rfl dX9_become_63 ly_49 (by omega) (by omega) rfl ?_
    refine v_nmw (fun w6 hw6 => ?_)
    refine v_aload_n 0 (pc' := 65) rfl dX9_become_64 rfl rfl ?_
    refine v_getR (pc' := 68) rfl dX9_become_65 fk_RX9_31 ly_47 rfl ?_
    refine v_iload_n 2 (pc' := 69) rfl dX9_become_68 rfl rfl ?_
    refine v_aload_n 1 (pc' := 70) rfl dX9_become_69 rfl rfl ?_
    refine v_getR (pc' := 73) rfl dX9_become_70 fk_RX9_31 ly_2 rfl ?_
    refine v_iload_n 2 (pc' := 74) rfl dX9_become_73 rfl rfl ?_
    refine v_iald (pc' := 75) rfl dX9_become_74 ly_5 (by omega) (by omega) rfl (rfl) ?_
    refine v_iast (pc' := 76) rfl dX9_become_75 ly_50 (by omega) (by omega) rfl ?_
    refine v_nmw (fun w7 hw7 => ?_)
    refine v_iinc (ls' := [(2, _), (0, _), (1, _)]) 2 (pc' := 79) rfl dX9_become_76 rfl rfl rfl ?_
    refine v_nl (fun i' hi' => ?_)
    refine v_goto (tgt := 34) dX9_become_79 (by decide) ?_
    refine v_ls [1, 2, 0] rfl ?_
    have e1 : wl 3 i.toNat = w 3 k := by rw [hi]; exact hfr 3 k rfl
    have e2 : w5 4 i.toNat = w 4 k := by rw [hi, hw5, up_ne _ _ (by omega)]; exact hfr 4 k rfl
    have e3 : w6 5 i.toNat = w 5 k := by rw [hi, hw6, up_ne _ _ (by omega), hw5, up_ne _ _ (by omega)]; exact hfr 5 k rfl
    exact ih0 (i') w7 (⟨k + 1, by omega, by omega, by simp [hw5, hw6, hw7, up_at, hF], fun j h => by
        rw [e1] at hw5; rw [e2] at hw6; rw [e3] at hw7
        have hik : i.toNat = k := by omega
        simp only [hw5, hw6, hw7, up_at, hik]
        by_cases q : j = k
        · subst q; simp
        · have := hA j (by omega); simp [q, this], by rw [hw7, hw6, hw5]; exact ((hfr.up rfl).up rfl).up rfl⟩) (by omega)
set_option maxHeartbeats 4000000 in
set_option maxRecDepth 100000 in
theorem c_become_2_47 (l : Launch) (G : Gx)  (w : Wd)  : Sp l G 0 mX9_become [aR 2, aR 47] w (fun _ w' => Cpy w w' 2 47) := by
  refine Sp_of RX9 rfl (by decide +kernel) rfl (Nat.le_of_ble_eq_true rfl) ?_
  refine v_aload_n 0 (pc' := 1) rfl dX9_become_0 rfl rfl ?_
  refine v_aload_n 1 (pc' := 2) rfl dX9_become_1 rfl rfl ?_
  refine v_get (pc' := 5) rfl dX9_become_2 fk_RX9_9 ly_47 rfl rfl ?_
  refine v_put (pc' := 8) rfl dX9_become_5 fi_RX9_9 ly_2 rfl ?_
  refine v_nmw (fun w1 hw1 => ?_)
  refine v_aload_n 0 (pc' := 9) rfl dX9_become_8 rfl rfl ?_
  refine v_aload_n 1 (pc' := 10) rfl dX9_become_9 rfl rfl ?_
  refine v_get (pc' := 13) rfl dX9_become_10 fk_RX9_18 ly_47 rfl rfl ?_
  refine v_put (pc' := 16) rfl dX9_become_13 fi_RX9_18 ly_2 rfl ?_
  refine v_nmw (fun w2 hw2 => ?_)
  refine v_aload_n 0 (pc' := 17) rfl dX9_become_16 rfl rfl ?_
  refine v_aload_n 1 (pc' := 18) rfl dX9_become_17 rfl rfl ?_
  refine v_get (pc' := 21) rfl dX9_become_18 fk_RX9_21 ly_47 rfl rfl ?_
  refine v_put (pc' := 24) rfl dX9_become_21 fi_RX9_21 ly_2 rfl ?_
  refine v_nmw (fun w3 hw3 => ?_)
  refine v_aload_n 0 (pc' := 25) rfl dX9_become_24 rfl rfl ?_
  refine v_aload_n 1 (pc' := 26) rfl dX9_become_25 rfl rfl ?_
  refine v_get (pc' := 29) rfl dX9_become_26 fk_RX9_34 ly_47 rfl rfl ?_
  refine v_put (pc' := 32) rfl dX9_become_29 fi_RX9_34 ly_2 rfl ?_
  refine v_nmw (fun w4 hw4 => ?_)
  refine v_iconst (pc' := 33) rfl dX9_become_32 ?_
  refine v_istore_n (ls' := [(2, _), (0, _), (1, _)]) (pc' := 34) rfl dX9_become_33 rfl rfl rfl ?_
  refine v_ls [1, 2, 0] rfl ?_
  refine v_loop2 34 (fun (i : Int) (wl : Wd) => ∃ k : Nat, i = k ∧ k ≤ 12 ∧ (wl 2 0 = w 47 0 ∧ wl 2 1 = w 47 1 ∧ wl 2 2 = w 47 2 ∧ wl 2 3 = w 47 3) ∧ (∀ j, j < k → wl 3 j = w 48 j ∧ wl 4 j = w 49 j ∧ wl 5 j = w 50 j) ∧ Fr [2, 3, 4, 5] w wl) (fun (i : Int) (wl : Wd) => (12 - i).toNat) (fun (i : Int) (wl : Wd) => [(0, aR 2), (1, aR 47), (2, aI (i))]) (fun (i : Int) (wl : Wd) => []) (fun (i : Int) (wl : Wd) => wl) (fun i wl hI0 ih0 => ?_) (0) w4 (⟨0, rfl, by omega, by simp [hw1, hw2, hw3, hw4, up_at], fun j h => by omega, by rw [hw4, hw3, hw2, hw1]; exact ((((Fr.rf _ _).up rfl).up rfl).up rfl).up rfl⟩)
  obtain ⟨k, hi, hk, hF, hA, hfr⟩ := hI0
  refine v_iload_n 2 (pc' := 35) rfl dX9_become_34 rfl rfl ?_
  refine v_bipush (pc' := 37) rfl dX9_become_35 rfl ?_
  refine v_icmp_ge (pc' := 40) (tgt := 82) rfl dX9_become_37 (by decide) (by omega) (by omega) (fun c0 => ?_) (fun c0 => ?_)
  ·
    refine v_vret dX9_become_82 ?_
    have e12 : k = 12 := by omega
    subst e12
    exact ⟨hF, hA, hfr⟩
  ·
    refine v_aload_n 0 (pc' := 41) rfl dX9_become_40 rfl rfl ?_
    refine v_getR (pc' := 44) rfl dX9_become_41 fk_RX9_24 ly_2 rfl ?_
    refine v_iload_n 2 (pc' := 45) rfl dX9_become_44 rfl rfl ?_
    refine v_aload_n 1 (pc' := 46) rfl dX9_become_45 rfl rfl ?_
    refine v_getR (pc' := 49) rfl dX9_become_46 fk_RX9_24 ly_47 rfl ?_
    refine v_iload_n 2 (pc' := 50) rfl dX9_become_49 rfl rfl ?_
    refine v_iald (pc' := 51) rfl dX9_become_50 ly_48 (by omega) (by omega) rfl (rfl) ?_
    refine v_iast (pc' := 52) rfl dX9_become_51 ly_3 (by omega) (by omega) rfl ?_
    refine v_nmw (fun w5 hw5 => ?_)
    refine v_aload_n 0 (pc' := 53) rfl dX9_become_52 rfl rfl ?_
    refine v_getR (pc' := 56) rfl dX9_become_53 fk_RX9_28 ly_2 rfl ?_
    refine v_iload_n 2 (pc' := 57) rfl dX9_become_56 rfl rfl ?_
    refine v_aload_n 1 (pc' := 58) rfl dX9_become_57 rfl rfl ?_
    refine v_getR (pc' := 61) rfl dX9_become_58 fk_RX9_28 ly_47 rfl ?_
    refine v_iload_n 2 (pc' := 62) rfl dX9_become_61 rfl rfl ?_
    refine v_iald (pc' := 63) rfl dX9_become_62 ly_49 (by omega) (by omega) rfl (rfl) ?_
    refine v_iast (pc' := 64) rfl dX9_become_63 ly_4 (by omega) (by omega) rfl ?_
    refine v_nmw (fun w6 hw6 => ?_)
    refine v_aload_n 0 (pc' := 65) rfl dX9_become_64 rfl rfl ?_
    refine v_getR (pc' := 68) rfl dX9_become_65 fk_RX9_31 ly_2 rfl ?_
    refine v_iload_n 2 (pc' := 69) rfl dX9_become_68 rfl rfl ?_
    refine v_aload_n 1 (pc' := 70) rfl dX9_become_69 rfl rfl ?_
    refine v_getR (pc' := 73) rfl dX9_become_70 fk_RX9_31 ly_47 rfl ?_
    refine v_iload_n 2 (pc' := 74) rfl dX9_become_73 rfl rfl ?_
    refine v_iald (pc' := 75) rfl dX9_become_74 ly_50 (by omega) (by omega) rfl (rfl) ?_
    refine v_iast (pc' := 76) rfl dX9_become_75 ly_5 (by omega) (by omega) rfl ?_
    refine v_nmw (fun w7 hw7 => ?_)
    refine v_iinc (ls' := [(2, _), (0, _), (1, _)]) 2 (pc' := 79) rfl dX9_become_76 rfl rfl rfl ?_
    refine v_nl (fun i' hi' => ?_)
    refine v_goto (tgt := 34) dX9_become_79 (by decide) ?_
    refine v_ls [1, 2, 0] rfl ?_
    have e1 : wl 48 i.toNat = w 48 k := by rw [hi]; exact hfr 48 k rfl
    have e2 : w5 49 i.toNat = w 49 k := by rw [hi, hw5, up_ne _ _ (by omega)]; exact hfr 49 k rfl
    have e3 : w6 50 i.toNat = w 50 k := by rw [hi, hw6, up_ne _ _ (by omega), hw5, up_ne _ _ (by omega)]; exact hfr 50 k rfl
    exact ih0 (i') w7 (⟨k + 1, by omega, by omega, by simp [hw5, hw6, hw7, up_at, hF], fun j h => by
        rw [e1] at hw5; rw [e2] at hw6; rw [e3] at hw7
        have hik : i.toNat = k := by omega
        simp only [hw5, hw6, hw7, up_at, hik]
        by_cases q : j = k
        · subst q; simp
        · have := hA j (by omega); simp [q, this], by rw [hw7, hw6, hw5]; exact ((hfr.up rfl).up rfl).up rfl⟩) (by omega)
set_option maxHeartbeats 4000000 in
set_option maxRecDepth 100000 in
theorem c_become_51_2 (l : Launch) (G : Gx)  (w : Wd)  : Sp l G 0 mX9_become [aR 51, aR 2] w (fun _ w' => Cpy w w' 51 2) := by
  refine Sp_of RX9 rfl (by decide +kernel) rfl (Nat.le_of_ble_eq_true rfl) ?_
  refine v_aload_n 0 (pc' := 1) rfl dX9_become_0 rfl rfl ?_
  refine v_aload_n 1 (pc' := 2) rfl dX9_become_1 rfl rfl ?_
  refine v_get (pc' := 5) rfl dX9_become_2 fk_RX9_9 ly_2 rfl rfl ?_
  refine v_put (pc' := 8) rfl dX9_become_5 fi_RX9_9 ly_51 rfl ?_
  refine v_nmw (fun w1 hw1 => ?_)
  refine v_aload_n 0 (pc' := 9) rfl dX9_become_8 rfl rfl ?_
  refine v_aload_n 1 (pc' := 10) rfl dX9_become_9 rfl rfl ?_
  refine v_get (pc' := 13) rfl dX9_become_10 fk_RX9_18 ly_2 rfl rfl ?_
  refine v_put (pc' := 16) rfl dX9_become_13 fi_RX9_18 ly_51 rfl ?_
  refine v_nmw (fun w2 hw2 => ?_)
  refine v_aload_n 0 (pc' := 17) rfl dX9_become_16 rfl rfl ?_
  refine v_aload_n 1 (pc' := 18) rfl dX9_become_17 rfl rfl ?_
  refine v_get (pc' := 21) rfl dX9_become_18 fk_RX9_21 ly_2 rfl rfl ?_
  refine v_put (pc' := 24) rfl dX9_become_21 fi_RX9_21 ly_51 rfl ?_
  refine v_nmw (fun w3 hw3 => ?_)
  refine v_aload_n 0 (pc' := 25) rfl dX9_become_24 rfl rfl ?_
  refine v_aload_n 1 (pc' := 26) rfl dX9_become_25 rfl rfl ?_
  refine v_get (pc' := 29) rfl dX9_become_26 fk_RX9_34 ly_2 rfl rfl ?_
  refine v_put (pc' := 32) rfl dX9_become_29 fi_RX9_34 ly_51 rfl ?_
  refine v_nmw (fun w4 hw4 => ?_)
  refine v_iconst (pc' := 33) rfl dX9_become_32 ?_
  refine v_istore_n (ls' := [(2, _), (0, _), (1, _)]) (pc' := 34) rfl dX9_become_33 rfl rfl rfl ?_
  refine v_ls [1, 2, 0] rfl ?_
  refine v_loop2 34 (fun (i : Int) (wl : Wd) => ∃ k : Nat, i = k ∧ k ≤ 12 ∧ (wl 51 0 = w 2 0 ∧ wl 51 1 = w 2 1 ∧ wl 51 2 = w 2 2 ∧ wl 51 3 = w 2 3) ∧ (∀ j, j < k → wl 52 j = w 3 j ∧ wl 53 j = w 4 j ∧ wl 54 j = w 5 j) ∧ Fr [51, 52, 53, 54] w wl) (fun (i : Int) (wl : Wd) => (12 - i).toNat) (fun (i : Int) (wl : Wd) => [(0, aR 51), (1, aR 2), (2, aI (i))]) (fun (i : Int) (wl : Wd) => []) (fun (i : Int) (wl : Wd) => wl) (fun i wl hI0 ih0 => ?_) (0) w4 (⟨0, rfl, by omega, by simp [hw1, hw2, hw3, hw4, up_at], fun j h => by omega, by rw [hw4, hw3, hw2, hw1]; exact ((((Fr.rf _ _).up rfl).up rfl).up rfl).up rfl⟩)
  obtain ⟨k, hi, hk, hF, hA, hfr⟩ := hI0
  refine v_iload_n 2 (pc' := 35) rfl dX9_become_34 rfl rfl ?_
  refine v_bipush (pc' := 37) rfl dX9_become_35 rfl ?_
  refine v_icmp_ge (pc' := 40) (tgt := 82) rfl dX9_become_37 (by decide) (by omega) (by omega) (fun c0 => ?_) (fun c0 => ?_)
  ·
    refine v_vret dX9_become_82 ?_
    have e12 : k = 12 := by omega
    subst e12
    exact ⟨hF, hA, hfr⟩
  ·
    refine v_aload_n 0 (pc' := 41) rfl dX9_become_40 rfl rfl ?_
    refine v_getR (pc' := 44) rfl dX9_become_41 fk_RX9_24 ly_51 rfl ?_
    refine v_iload_n 2 (pc' := 45) rfl dX9_become_44 rfl rfl ?_
    refine v_aload_n 1 (pc' := 46) rfl dX9_become_45 rfl rfl ?_
    refine v_getR (pc' := 49) rfl dX9_become_46 fk_RX9_24 ly_2 rfl ?_
    refine v_iload_n 2 (pc' := 50) rfl dX9_become_49 rfl rfl ?_
    refine v_iald (pc' := 51) rfl dX9_become_50 ly_3 (by omega) (by omega) rfl (rfl) ?_
    refine v_iast (pc' := 52) rfl dX9_become_51 ly_52 (by omega) (by omega) rfl ?_
    refine v_nmw (fun w5 hw5 => ?_)
    refine v_aload_n 0 (pc' := 53) rfl dX9_become_52 rfl rfl ?_
    refine v_getR (pc' := 56) rfl dX9_become_53 fk_RX9_28 ly_51 rfl ?_
    refine v_iload_n 2 (pc' := 57) rfl dX9_become_56 rfl rfl ?_
    refine v_aload_n 1 (pc' := 58) rfl dX9_become_57 rfl rfl ?_
    refine v_getR (pc' := 61) rfl dX9_become_58 fk_RX9_28 ly_2 rfl ?_
    refine v_iload_n 2 (pc' := 62) rfl dX9_become_61 rfl rfl ?_
    refine v_iald (pc' := 63) rfl dX9_become_62 ly_4 (by omega) (by omega) rfl (rfl) ?_
    refine v_iast (pc' := 64) rfl dX9_become_63 ly_53 (by omega) (by omega) rfl ?_
    refine v_nmw (fun w6 hw6 => ?_)
    refine v_aload_n 0 (pc' := 65) rfl dX9_become_64 rfl rfl ?_
    refine v_getR (pc' := 68) rfl dX9_become_65 fk_RX9_31 ly_51 rfl ?_
    refine v_iload_n 2 (pc' := 69) rfl dX9_become_68 rfl rfl ?_
    refine v_aload_n 1 (pc' := 70) rfl dX9_become_69 rfl rfl ?_
    refine v_getR (pc' := 73) rfl dX9_become_70 fk_RX9_31 ly_2 rfl ?_
    refine v_iload_n 2 (pc' := 74) rfl dX9_become_73 rfl rfl ?_
    refine v_iald (pc' := 75) rfl dX9_become_74 ly_5 (by omega) (by omega) rfl (rfl) ?_
    refine v_iast (pc' := 76) rfl dX9_become_75 ly_54 (by omega) (by omega) rfl ?_
    refine v_nmw (fun w7 hw7 => ?_)
    refine v_iinc (ls' := [(2, _), (0, _), (1, _)]) 2 (pc' := 79) rfl dX9_become_76 rfl rfl rfl ?_
    refine v_nl (fun i' hi' => ?_)
    refine v_goto (tgt := 34) dX9_become_79 (by decide) ?_
    refine v_ls [1, 2, 0] rfl ?_
    have e1 : wl 3 i.toNat = w 3 k := by rw [hi]; exact hfr 3 k rfl
    have e2 : w5 4 i.toNat = w 4 k := by rw [hi, hw5, up_ne _ _ (by omega)]; exact hfr 4 k rfl
    have e3 : w6 5 i.toNat = w 5 k := by rw [hi, hw6, up_ne _ _ (by omega), hw5, up_ne _ _ (by omega)]; exact hfr 5 k rfl
    exact ih0 (i') w7 (⟨k + 1, by omega, by omega, by simp [hw5, hw6, hw7, up_at, hF], fun j h => by
        rw [e1] at hw5; rw [e2] at hw6; rw [e3] at hw7
        have hik : i.toNat = k := by omega
        simp only [hw5, hw6, hw7, up_at, hik]
        by_cases q : j = k
        · subst q; simp
        · have := hA j (by omega); simp [q, this], by rw [hw7, hw6, hw5]; exact ((hfr.up rfl).up rfl).up rfl⟩) (by omega)
set_option maxHeartbeats 4000000 in
set_option maxRecDepth 100000 in
theorem c_become_2_51 (l : Launch) (G : Gx)  (w : Wd)  : Sp l G 0 mX9_become [aR 2, aR 51] w (fun _ w' => Cpy w w' 2 51) := by
  refine Sp_of RX9 rfl (by decide +kernel) rfl (Nat.le_of_ble_eq_true rfl) ?_
  refine v_aload_n 0 (pc' := 1) rfl dX9_become_0 rfl rfl ?_
  refine v_aload_n 1 (pc' := 2) rfl dX9_become_1 rfl rfl ?_
  refine v_get (pc' := 5) rfl dX9_become_2 fk_RX9_9 ly_51 rfl rfl ?_
  refine v_put (pc' := 8) rfl dX9_become_5 fi_RX9_9 ly_2 rfl ?_
  refine v_nmw (fun w1 hw1 => ?_)
  refine v_aload_n 0 (pc' := 9) rfl dX9_become_8 rfl rfl ?_
  refine v_aload_n 1 (pc' := 10) rfl dX9_become_9 rfl rfl ?_
  refine v_get (pc' := 13) rfl dX9_become_10 fk_RX9_18 ly_51 rfl rfl ?_
  refine v_put (pc' := 16) rfl dX9_become_13 fi_RX9_18 ly_2 rfl ?_
  refine v_nmw (fun w2 hw2 => ?_)
  refine v_aload_n 0 (pc' := 17) rfl dX9_become_16 rfl rfl ?_
  refine v_aload_n 1 (pc' := 18) rfl dX9_become_17 rfl rfl ?_
  refine v_get (pc' := 21) rfl dX9_become_18 fk_RX9_21 ly_51 rfl rfl ?_
  refine v_put (pc' := 24) rfl dX9_become_21 fi_RX9_21 ly_2 rfl ?_
  refine v_nmw (fun w3 hw3 => ?_)
  refine v_aload_n 0 (pc' := 25) rfl dX9_become_24 rfl rfl ?_
  refine v_aload_n 1 (pc' := 26) rfl dX9_become_25 rfl rfl ?_
  refine v_get (pc' := 29) rfl dX9_become_26 fk_RX9_34 ly_51 rfl rfl ?_
  refine v_put (pc' := 32) rfl dX9_become_29 fi_RX9_34 ly_2 rfl ?_
  refine v_nmw (fun w4 hw4 => ?_)
  refine v_iconst (pc' := 33) rfl dX9_become_32 ?_
  refine v_istore_n (ls' := [(2, _), (0, _), (1, _)]) (pc' := 34) rfl dX9_become_33 rfl rfl rfl ?_
  refine v_ls [1, 2, 0] rfl ?_
  refine v_loop2 34 (fun (i : Int) (wl : Wd) => ∃ k : Nat, i = k ∧ k ≤ 12 ∧ (wl 2 0 = w 51 0 ∧ wl 2 1 = w 51 1 ∧ wl 2 2 = w 51 2 ∧ wl 2 3 = w 51 3) ∧ (∀ j, j < k → wl 3 j = w 52 j ∧ wl 4 j = w 53 j ∧ wl 5 j = w 54 j) ∧ Fr [2, 3, 4, 5] w wl) (fun (i : Int) (wl : Wd) => (12 - i).toNat) (fun (i : Int) (wl : Wd) => [(0, aR 2), (1, aR 51), (2, aI (i))]) (fun (i : Int) (wl : Wd) => []) (fun (i : Int) (wl : Wd) => wl) (fun i wl hI0 ih0 => ?_) (0) w4 (⟨0, rfl, by omega, by simp [hw1, hw2, hw3, hw4, up_at], fun j h => by omega, by rw [hw4, hw3, hw2, hw1]; exact ((((Fr.rf _ _).up rfl).up rfl).up rfl).up rfl⟩)
  obtain ⟨k, hi, hk, hF, hA, hfr⟩ := hI0
  refine v_iload_n 2 (pc' := 35) rfl dX9_become_34 rfl rfl ?_
  refine v_bipush (pc' := 37) rfl dX9_become_35 rfl ?_
  refine v_icmp_ge (pc' := 40) (tgt := 82) rfl dX9_become_37 (by decide) (by omega) (by omega) (fun c0 => ?_) (fun c0 => ?_)
  ·
    refine v_vret dX9_become_82 ?_
    have e12 : k = 12 := by omega
    subst e12
    exact ⟨hF, hA, hfr⟩
  ·
    refine v_aload_n 0 (pc' := 41) rfl dX9_become_40 rfl rfl ?_
    refine v_getR (pc' := 44) rfl dX9_become_41 fk_RX9_24 ly_2 rfl ?_
    refine v_iload_n 2 (pc' := 45) rfl dX9_become_44 rfl rfl ?_
    refine v_aload_n 1 (pc' := 46) rfl dX9_become_45 rfl rfl ?_
    refine v_getR (pc' := 49) rfl dX9_become_46 fk_RX9_24 ly_51 rfl ?_
    refine v_iload_n 2 (pc' := 50) rfl dX9_become_49 rfl rfl ?_
    refine v_iald (pc' := 51) rfl dX9_become_50 ly_52 (by omega) (by omega) rfl (rfl) ?_
    refine v_iast (pc' := 52) rfl dX9_become_51 ly_3 (by omega) (by omega) rfl ?_
    refine v_nmw (fun w5 hw5 => ?_)
    refine v_aload_n 0 (pc' := 53) rfl dX9_become_52 rfl rfl ?_
    refine v_getR (pc' := 56) rfl dX9_become_53 fk_RX9_28 ly_2 rfl ?_
    refine v_iload_n 2 (pc' := 57) rfl dX9_become_56 rfl rfl ?_
    refine v_aload_n 1 (pc' := 58) rfl dX9_become_57 rfl rfl ?_
    refine v_getR (pc' := 61) rfl dX9_become_58 fk_RX9_28 ly_51 rfl ?_
    refine v_iload_n 2 (pc' := 62) rfl dX9_become_61 rfl rfl ?_
    refine v_iald (pc' := 63) rfl dX9_become_62 ly_53 (by omega) (by omega) rfl (rfl) ?_
    refine v_iast (pc' := 64) rfl dX9_become_63 ly_4 (by omega) (by omega) rfl ?_
    refine v_nmw (fun w6 hw6 => ?_)
    refine v_aload_n 0 (pc' := 65) rfl dX9_become_64 rfl rfl ?_
    refine v_getR (pc' := 68) rfl dX9_become_65 fk_RX9_31 ly_2 rfl ?_
    refine v_iload_n 2 (pc' := 69) rfl dX9_become_68 rfl rfl ?_
    refine v_aload_n 1 (pc' := 70) rfl dX9_become_69 rfl rfl ?_
    refine v_getR (pc' := 73) rfl dX9_become_70 fk_RX9_31 ly_51 rfl ?_
    refine v_iload_n 2 (pc' := 74) rfl dX9_become_73 rfl rfl ?_
    refine v_iald (pc' := 75) rfl dX9_become_74 ly_54 (by omega) (by omega) rfl (rfl) ?_
    refine v_iast (pc' := 76) rfl dX9_become_75 ly_5 (by omega) (by omega) rfl ?_
    refine v_nmw (fun w7 hw7 => ?_)
    refine v_iinc (ls' := [(2, _), (0, _), (1, _)]) 2 (pc' := 79) rfl dX9_become_76 rfl rfl rfl ?_
    refine v_nl (fun i' hi' => ?_)
    refine v_goto (tgt := 34) dX9_become_79 (by decide) ?_
    refine v_ls [1, 2, 0] rfl ?_
    have e1 : wl 52 i.toNat = w 52 k := by rw [hi]; exact hfr 52 k rfl
    have e2 : w5 53 i.toNat = w 53 k := by rw [hi, hw5, up_ne _ _ (by omega)]; exact hfr 53 k rfl
    have e3 : w6 54 i.toNat = w 54 k := by rw [hi, hw6, up_ne _ _ (by omega), hw5, up_ne _ _ (by omega)]; exact hfr 54 k rfl
    exact ih0 (i') w7 (⟨k + 1, by omega, by omega, by simp [hw5, hw6, hw7, up_at, hF], fun j h => by
        rw [e1] at hw5; rw [e2] at hw6; rw [e3] at hw7
        have hik : i.toNat = k := by omega
        simp only [hw5, hw6, hw7, up_at, hik]
        by_cases q : j = k
        · subst q; simp
        · have := hA j (by omega); simp [q, this], by rw [hw7, hw6, hw5]; exact ((hfr.up rfl).up rfl).up rfl⟩) (by omega)
set_option maxHeartbeats 4000000 in
set_option maxRecDepth 100000 in
theorem c_become_55_2 (l : Launch) (G : Gx)  (w : Wd)  : Sp l G 0 mX9_become [aR 55, aR 2] w (fun _ w' => Cpy w w' 55 2) := by
  refine Sp_of RX9 rfl (by decide +kernel) rfl (Nat.le_of_ble_eq_true rfl) ?_
  refine v_aload_n 0 (pc' := 1) rfl dX9_become_0 rfl rfl ?_
  refine v_aload_n 1 (pc' := 2) rfl dX9_become_1 rfl rfl ?_
  refine v_get (pc' := 5) rfl dX9_become_2 fk_RX9_9 ly_2 rfl rfl ?_
  refine v_put (pc' := 8) rfl dX9_become_5 fi_RX9_9 ly_55 rfl ?_
  refine v_nmw (fun w1 hw1 => ?_)
  refine v_aload_n 0 (pc' := 9) rfl dX9_become_8 rfl rfl ?_
  refine v_aload_n 1 (pc' := 10) rfl dX9_become_9 rfl rfl ?_
  refine v_get (pc' := 13) rfl dX9_become_10 fk_RX9_18 ly_2 rfl rfl ?_
  refine v_put (pc' := 16) rfl dX9_become_13 fi_RX9_18 ly_55 rfl ?_
  refine v_nmw (fun w2 hw2 => ?_)
  refine v_aload_n 0 (pc' := 17) rfl dX9_become_16 rfl rfl ?_
  refine v_aload_n 1 (pc' := 18) rfl dX9_become_17 rfl rfl ?_
  refine v_get (pc' := 21) rfl dX9_become_18 fk_RX9_21 ly_2 rfl rfl ?_
  refine v_put (pc' := 24) rfl dX9_become_21 fi_RX9_21 ly_55 rfl ?_
  refine v_nmw (fun w3 hw3 => ?_)
  refine v_aload_n 0 (pc' := 25) rfl dX9_become_24 rfl rfl ?_
  refine v_aload_n 1 (pc' := 26) rfl dX9_become_25 rfl rfl ?_
  refine v_get (pc' := 29) rfl dX9_become_26 fk_RX9_34 ly_2 rfl rfl ?_
  refine v_put (pc' := 32) rfl dX9_become_29 fi_RX9_34 ly_55 rfl ?_
  refine v_nmw (fun w4 hw4 => ?_)
  refine v_iconst (pc' := 33) rfl dX9_become_32 ?_
  refine v_istore_n (ls' := [(2, _), (0, _), (1, _)]) (pc' := 34) rfl dX9_become_33 rfl rfl rfl ?_
  refine v_ls [1, 2, 0] rfl ?_
  refine v_loop2 34 (fun (i : Int) (wl : Wd) => ∃ k : Nat, i = k ∧ k ≤ 12 ∧ (wl 55 0 = w 2 0 ∧ wl 55 1 = w 2 1 ∧ wl 55 2 = w 2 2 ∧ wl 55 3 = w 2 3) ∧ (∀ j, j < k → wl 56 j = w 3 j ∧ wl 57 j = w 4 j ∧ wl 58 j = w 5 j) ∧ Fr [55, 56, 57, 58] w wl) (fun (i : Int) (wl : Wd) => (12 - i).toNat) (fun (i : Int) (wl : Wd) => [(0, aR 55), (1, aR 2), (2, aI (i))]) (fun (i : Int) (wl : Wd) => []) (fun (i : Int) (wl : Wd) => wl) (fun i wl hI0 ih0 => ?_) (0) w4 (⟨0, rfl, by omega, by simp [hw1, hw2, hw3, hw4, up_at], fun j h => by omega, by rw [hw4, hw3, hw2, hw1]; exact ((((Fr.rf _ _).up rfl).up rfl).up rfl).up rfl⟩)
  obtain ⟨k, hi, hk, hF, hA, hfr⟩ := hI0
  refine v_iload_n 2 (pc' := 35) rfl dX9_become_34 rfl rfl ?_
  refine v_bipush (pc' := 37) rfl dX9_become_35 rfl ?_
  refine v_icmp_ge (pc' := 40) (tgt := 82) rfl dX9_become_37 (by decide) (by omega) (by omega) (fun c0 => ?_) (fun c0 => ?_)
  ·
    refine v_vret dX9_become_82 ?_
    have e12 : k = 12 := by omega
    subst e12
    exact ⟨hF, hA, hfr⟩
  ·
    refine v_aload_n 0 (pc' := 41) rfl dX9_become_40 rfl rfl ?_
    refine v_getR (pc' := 44) rfl dX9_become_41 fk_RX9_24 ly_55 rfl ?_
    refine v_iload_n 2 (pc' := 45) rfl dX9_become_44 rfl rfl ?_
    refine v_aload_n 1 (pc' := 46) rfl dX9_become_45 rfl rfl ?_
    refine v_getR (pc' := 49) rfl dX9_become_46 fk_RX9_24 ly_2 rfl ?_
    refine v_iload_n 2 (pc' := 50) rfl dX9_become_49 rfl rfl ?_
    refine v_iald (pc' := 51) rfl dX9_become_50 ly_3 (by omega) (by omega) rfl (rfl) ?_
    refine v_iast (pc' := 52) rfl dX9_become_51 ly_56 (by omega) (by omega) rfl ?_
    refine v_nmw (fun w5 hw5 => ?_)
    refine v_aload_n 0 (pc' := 53) rfl dX9_become_52 rfl rfl ?_
    refine v_getR (pc' := 56) rfl dX9_become_53 fk_RX9_28 ly_55 rfl ?_
    refine v_iload_n 2 (pc' := 57) rfl dX9_become_56 rfl rfl ?_
    refine v_aload_n 1 (pc' := 58) rfl dX9_become_57 rfl rfl ?_
    refine v_getR (pc' := 61) rfl dX9_become_58 fk_RX9_28 ly_2 rfl ?_
    refine v_iload_n 2 (pc' := 62) rfl dX9_become_61 rfl rfl ?_
    refine v_iald (pc' := 63) rfl dX9_become_62 ly_4 (by omega) (by omega) rfl (rfl) ?_
    refine v_iast (pc' := 64) rfl dX9_become_63 ly_57 (by omega) (by omega) rfl ?_
    refine v_nmw (fun w6 hw6 => ?_)
    refine v_aload_n 0 (pc' := 65) rfl dX9_become_64 rfl rfl ?_
    refine v_getR (pc' := 68) rfl dX9_become_65 fk_RX9_31 ly_55 rfl ?_
    refine v_iload_n 2 (pc' := 69) rfl dX9_become_68 rfl rfl ?_
    refine v_aload_n 1 (pc' := 70) rfl dX9_become_69 rfl rfl ?_
    refine v_getR (pc' := 73) rfl dX9_become_70 fk_RX9_31 ly_2 rfl ?_
    refine v_iload_n 2 (pc' := 74) rfl dX9_become_73 rfl rfl ?_
    refine v_iald (pc' := 75) rfl dX9_become_74 ly_5 (by omega) (by omega) rfl (rfl) ?_
    refine v_iast (pc' := 76) rfl dX9_become_75 ly_58 (by omega) (by omega) rfl ?_
    refine v_nmw (fun w7 hw7 => ?_)
    refine v_iinc (ls' := [(2, _), (0, _), (1, _)]) 2 (pc' := 79) rfl dX9_become_76 rfl rfl rfl ?_
    refine v_nl (fun i' hi' => ?_)
    refine v_goto (tgt := 34) dX9_become_79 (by decide) ?_
    refine v_ls [1, 2, 0] rfl ?_
    have e1 : wl 3 i.toNat = w 3 k := by rw [hi]; exact hfr 3 k rfl
    have e2 : w5 4 i.toNat = w 4 k := by rw [hi, hw5, up_ne _ _ (by omega)]; exact hfr 4 k rfl
    have e3 : w6 5 i.toNat = w 5 k := by rw [hi, hw6, up_ne _ _ (by omega), hw5, up_ne _ _ (by omega)]; exact hfr 5 k rfl
    exact ih0 (i') w7 (⟨k + 1, by omega, by omega, by simp [hw5, hw6, hw7, up_at, hF], fun j h => by
        rw [e1] at hw5; rw [e2] at hw6; rw [e3] at hw7
        have hik : i.toNat = k := by omega
        simp only [hw5, hw6, hw7, up_at, hik]
        by_cases q : j = k
        · subst q; simp
        · have := hA j (by omega); simp [q, this], by rw [hw7, hw6, hw5]; exact ((hfr.up rfl).up rfl).up rfl⟩) (by omega)
set_option maxHeartbeats 4000000 in
set_option maxRecDepth 100000 in
theorem c_become_2_55 (l : Launch) (G : Gx)  (w : Wd)  : Sp l G 0 mX9_become [aR 2, aR 55] w (fun _ w' => Cpy w w' 2 55) := by
  refine Sp_of RX9 rfl (by decide +kernel) rfl (Nat.le_of_ble_eq_true rfl) ?_
  refine v_aload_n 0 (pc' := 1) rfl dX9_become_0 rfl rfl ?_
  refine v_aload_n 1 (pc' := 2) rfl dX9_become_1 rfl rfl ?_
  refine v_get (pc' := 5) rfl dX9_become_2 fk_RX9_9 ly_55 rfl rfl ?_
  refine v_put (pc' := 8) rfl dX9_become_5 fi_RX9_9 ly_2 rfl ?_
  refine v_nmw (fun w1 hw1 => ?_)
  refine v_aload_n 0 (pc' := 9) rfl dX9_become_8 rfl rfl ?_
  refine v_aload_n 1 (pc' := 10) rfl dX9_become_9 rfl rfl ?_
  refine v_get (pc' := 13) rfl dX9_become_10 fk_RX9_18 ly_55 rfl rfl ?_
  refine v_put (pc' := 16) rfl dX9_become_13 fi_RX9_18 ly_2 rfl ?_
  refine v_nmw (fun w2 hw2 => ?_)
  refine v_aload_n 0 (pc' := 17) rfl dX9_become_16 rfl rfl ?_
  refine v_aload_n 1 (pc' := 18) rfl dX9_become_17 rfl rfl ?_
  refine v_get (pc' := 21) rfl dX9_become_18 fk_RX9_21 ly_55 rfl rfl ?_
  refine v_put (pc' := 24) rfl dX9_become_21 fi_RX9_21 ly_2 rfl ?_
  refine v_nmw (fun w3 hw3 => ?_)
  refine v_aload_n 0 (pc' := 25) rfl dX9_become_24 rfl rfl ?_
  refine v_aload_n 1 (pc' := 26) rfl dX9_become_25 rfl rfl ?_
  refine v_get (pc' := 29) rfl dX9_become_26 fk_RX9_34 ly_55 rfl rfl ?_
  refine v_put (pc' := 32) rfl dX9_become_29 fi_RX9_34 ly_2 rfl ?_
  refine v_nmw (fun w4 hw4 => ?_)
  refine v_iconst (pc' := 33) rfl dX9_become_32 ?_
  refine v_istore_n (ls' := [(2, _), (0, _), (1, _)]) (pc' := 34) rfl dX9_become_33 rfl rfl rfl ?_
  refine v_ls [1, 2, 0] rfl ?_
  refine v_loop2 34 (fun (i : Int) (wl : Wd) => ∃ k : Nat, i = k ∧ k ≤ 12 ∧ (wl 2 0 = w 55 0 ∧ wl 2 1 = w 55 1 ∧ wl 2 2 = w 55 2 ∧ wl 2 3 = w 55 3) ∧ (∀ j, j < k → wl 3 j = w 56 j ∧ wl 4 j = w 57 j ∧ wl 5 j = w 58 j) ∧ Fr [2, 3, 4, 5] w wl) (fun (i : Int) (wl : Wd) => (12 - i).toNat) (fun (i : Int) (wl : Wd) => [(0, aR 2), (1, aR 55), (2, aI (i))]) (fun (i : Int) (wl : Wd) => []) (fun (i : Int) (wl : Wd) => wl) (fun i wl hI0 ih0 => ?_) (0) w4 (⟨0, rfl, by omega, by simp [hw1, hw2, hw3, hw4, up_at], fun j h => by omega, by rw [hw4, hw3, hw2, hw1]; exact ((((Fr.rf _ _).up rfl).up rfl).up rfl).up rfl⟩)
  obtain ⟨k, hi, hk, hF, hA, hfr⟩ := hI0
  refine v_iload_n 2 (pc' := 35) rfl dX9_become_34 rfl rfl ?_
  refine v_bipush (pc' := 37) rfl dX9_become_35 rfl ?_
  refine v_icmp_ge (pc' := 40) (tgt := 82) rfl dX9_become_37 (by decide) (by omega) (by omega) (fun c0 => ?_) (fun c0 => ?_)
  ·
    refine v_vret dX9_become_82 ?_
    have e12 : k = 12 := by omega
    subst e12
    exact ⟨hF, hA, hfr⟩
  ·
    refine v_aload_n 0 (pc' := 41) rfl dX9_become_40 rfl rfl ?_
    refine v_getR (pc' := 44) rfl dX9_become_41 fk_RX9_24 ly_2 rfl ?_
    refine v_iload_n 2 (pc' := 45) rfl dX9_become_44 rfl rfl ?_
    refine v_aload_n 1 (pc' := 46) rfl dX9_become_45 rfl rfl ?_
    refine v_getR (pc' := 49) rfl dX9_become_46 fk_RX9_24 ly_55 rfl ?_
    refine v_iload_n 2 (pc' := 50) rfl dX9_become_49 rfl rfl ?_
    refine v_iald (pc' := 51) rfl dX9_become_50 ly_56 (by omega) (by omega) rfl (rfl) ?_
    refine v_iast (pc' := 52) rfl dX9_become_51 ly_3 (by omega) (by omega) rfl ?_
    refine v_nmw (fun w5 hw5 => ?_)
    refine v_aload_n 0 (pc' := 53) rfl dX9_become_52 rfl rfl ?_
    refine v_getR (pc' := 56) rfl dX9_become_53 fk_RX9_28 ly_2 rfl ?_
    refine v_iload_n 2 (pc' := 57) rfl dX9_become_56 rfl rfl ?_
    refine v_aload_n 1 (pc' := 58) rfl dX9_become_57 rfl rfl ?_
    refine v_getR (pc' := 61) rfl dX9_become_58 fk_RX9_28 ly_55 rfl ?_
    refine v_iload_n 2 (pc' := 62) rfl dX9_become_61 rfl rfl ?_
    refine v_iald (pc' := 63) rfl dX9_become_62 ly_57 (by omega) (by omega) rfl (rfl) ?_
    refine v_iast (pc' := 64) rfl dX9_become_63 ly_4 (by omega) (by omega) rfl ?_
    refine v_nmw (fun w6 hw6 => ?_)
    refine v_aload_n 0 (pc' := 65) rfl dX9_become_64 rfl rfl ?_
    refine v_getR (pc' := 68) rfl dX9_become_65 fk_RX9_31 ly_2 rfl ?_
    refine v_iload_n 2 (pc' := 69) rfl dX9_become_68 rfl rfl ?_
    refine v_aload_n 1 (pc' := 70) rfl dX9_become_69 rfl rfl ?_
    refine v_getR (pc' := 73) rfl dX9_become_70 fk_RX9_31 ly_55 rfl ?_
    refine v_iload_n 2 (pc' := 74) rfl dX9_become_73 rfl rfl ?_
    refine v_iald (pc' := 75) rfl dX9_become_74 ly_58 (by omega) (by omega) rfl (rfl) ?_
    refine v_iast (pc' := 76) rfl dX9_become_75 ly_5 (by omega) (by omega) rfl ?_
    refine v_nmw (fun w7 hw7 => ?_)
    refine v_iinc (ls' := [(2, _), (0, _), (1, _)]) 2 (pc' := 79) rfl dX9_become_76 rfl rfl rfl ?_
    refine v_nl (fun i' hi' => ?_)
    refine v_goto (tgt := 34) dX9_become_79 (by decide) ?_
    refine v_ls [1, 2, 0] rfl ?_
    have e1 : wl 56 i.toNat = w 56 k := by rw [hi]; exact hfr 56 k rfl
    have e2 : w5 57 i.toNat = w 57 k := by rw [hi, hw5, up_ne _ _ (by omega)]; exact hfr 57 k rfl
    have e3 : w6 58 i.toNat = w 58 k := by rw [hi, hw6, up_ne _ _ (by omega), hw5, up_ne _ _ (by omega)]; exact hfr 58 k rfl
    exact ih0 (i') w7 (⟨k + 1, by omega, by omega, by simp [hw5, hw6, hw7, up_at, hF], fun j h => by
        rw [e1] at hw5; rw [e2] at hw6; rw [e3] at hw7
        have hik : i.toNat = k := by omega
        simp only [hw5, hw6, hw7, up_at, hik]
        by_cases q : j = k
        · subst q; simp
        · have := hA j (by omega); simp [q, this], by rw [hw7, hw6, hw5]; exact ((hfr.up rfl).up rfl).up rfl⟩) (by omega)
set_option maxHeartbeats 4000000 in
set_option maxRecDepth 100000 in
theorem c_become_59_2 (l : Launch) (G : Gx)  (w : Wd)  : Sp l G 0 mX9_become [aR 59, aR 2] w (fun _ w' => Cpy w w' 59 2) := by
  refine Sp_of RX9 rfl (by decide +kernel) rfl (Nat.le_of_ble_eq_true rfl) ?_
  refine v_aload_n 0 (pc' := 1) rfl dX9_become_0 rfl rfl ?_
  refine v_aload_n 1 (pc' := 2) rfl dX9_become_1 rfl rfl ?_
  refine v_get (pc' := 5) rfl dX9_become_2 fk_RX9_9 ly_2 rfl rfl ?_
  refine v_put (pc' := 8) rfl dX9_become_5 fi_RX9_9 ly_59 rfl ?_
  refine v_nmw (fun w1 hw1 => ?_)
  refine v_aload_n 0 (pc' := 9) rfl dX9_become_8 rfl rfl ?_
  refine v_aload_n 1 (pc' := 10) rfl dX9_become_9 rfl rfl ?_
  refine v_get (pc' := 13) rfl dX9_become_10 fk_RX9_18 ly_2 rfl rfl ?_
  refine v_put (pc' := 16) rfl dX9_become_13 fi_RX9_18 ly_59 rfl ?_
  refine v_nmw (fun w2 hw2 => ?_)
  refine v_aload_n 0 (pc' := 17) rfl dX9_become_16 rfl rfl ?_
  refine v_aload_n 1 (pc' := 18) rfl dX9_become_17 rfl rfl ?_
  refine v_get (pc' := 21) rfl dX9_become_18 fk_RX9_21 ly_2 rfl rfl ?_
  refine v_put (pc' := 24) rfl dX9_become_21 fi_RX9_21 ly_59 rfl ?_
  refine v_nmw (fun w3 hw3 => ?_)
  refine v_aload_n 0 (pc' := 25) rfl dX9_become_24 rfl rfl ?_
  refine v_aload_n 1 (pc' := 26) rfl dX9_become_25 rfl rfl ?_
  refine v_get (pc' := 29) rfl dX9_become_26 fk_RX9_34 ly_2 rfl rfl ?_
  refine v_put (pc' := 32) rfl dX9_become_29 fi_RX9_34 ly_59 rfl ?_
  refine v_nmw (fun w4 hw4 => ?_)
  refine v_iconst (pc' := 33) rfl dX9_become_32 ?_
  refine v_istore_n (ls' := [(2, _), (0, _), (1, _)]) (pc' := 34) rfl dX9_become_33 rfl rfl rfl ?_
  refine v_ls [1, 2, 0] rfl ?_
  refine v_loop2 34 (fun (i : Int) (wl : Wd) => ∃ k : Nat, i = k ∧ k ≤ 12 ∧ (wl 59 0 = w 2 0 ∧ wl 59 1 = w 2 1 ∧ wl 59 2 = w 2 2 ∧ wl 59 3 = w 2 3) ∧ (∀ j, j < k → wl 60 j = w 3 j ∧ wl 61 j = w 4 j ∧ wl 62 j = w 5 j) ∧ Fr [59, 60, 61, 62] w wl) (fun (i : Int) (wl : Wd) => (12 - i).toNat) (fun (i : Int) (wl : Wd) => [(0, aR 59), (1, aR 2), (2, aI (i))]) (fun (i : Int) (wl : Wd) => []) (fun (i : Int) (wl : Wd) => wl) (fun i wl hI0 ih0 => ?_) (0) w4 (⟨0, rfl, by omega, by simp [hw1, hw2, hw3, hw4, up_at], fun j h => by omega, by rw [hw4, hw3, hw2, hw1]; exact ((((Fr.rf _ _).up rfl).up rfl).up rfl).up rfl⟩)
  obtain ⟨k, hi, hk, hF, hA, hfr⟩ := hI0
  refine v_iload_n 2 (pc' := 35) rfl dX9_become_34 rfl rfl ?_
  refine v_bipush (pc' := 37) rfl dX9_become_35 rfl ?_
  refine v_icmp_ge (pc' := 40) (tgt := 82) rfl dX9_become_37 (by decide) (by omega) (by omega) (fun c0 => ?_) (fun c0 => ?_)
  ·
    refine v_vret dX9_become_82 ?_
    have e12 : k = 12 := by omega
    subst e12
    exact ⟨hF, hA, hfr⟩
  ·
    refine v_aload_n 0 (pc' := 41) rfl dX9_become_40 rfl rfl ?_
    refine v_getR (pc' := 44) rfl dX9_become_41 fk_RX9_24 ly_59 rfl ?_
    refine v_iload_n 2 (pc' := 45) rfl dX9_become_44 rfl rfl ?_
    refine v_aload_n 1 (pc' := 46) rfl dX9_become_45 rfl rfl ?_
    refine v_getR (pc' := 49) rfl dX9_become_46 fk_RX9_24 ly_2 rfl ?_
    refine v_iload_n 2 (pc' := 50) rfl dX9_become_49 rfl rfl ?_
    refine v_iald (pc' := 51) rfl dX9_become_50 ly_3 (by omega) (by omega) rfl (rfl) ?_
    refine v_iast (pc' := 52) rfl dX9_become_51 ly_60 (by omega) (by omega) rfl ?_
    refine v_nmw (fun w5 hw5 => ?_)
    refine v_aload_n 0 (pc' := 53) rfl dX9_become_52 rfl rfl ?_
    refine v_getR (pc' := 56) rfl dX9_become_53 fk_RX9_28 ly_59 rfl ?_
    refine v_iload_n 2 (pc' := 57) rfl dX9_become_56 rfl rfl ?_
    refine v_aload_n 1 (pc' := 58) rfl dX9_become_57 rfl rfl ?_
    refine v_getR (pc' := 61) rfl dX9_become_58 fk_RX9_28 ly_2 rfl ?_
    refine v_iload_n 2 (pc' := 62) rfl dX9_become_61 rfl rfl ?_
    refine v_iald (pc' := 63) rfl dX9_become_62 ly_4 (by omega) (by omega) rfl (rfl) ?_
    refine v_iast (pc' := 64) rfl dX9_become_63 ly_61 (by omega) (by omega) rfl ?_
    refine v_nmw (fun w6 hw6 => ?_)
    refine v_aload_n 0 (pc' := 65) rfl dX9_become_64 rfl rfl ?_
    refine v_getR (pc' := 68) rfl dX9_become_65 fk_RX9_31 ly_59 rfl ?_
    refine v_iload_n 2 (pc' := 69) rfl dX9_become_68 rfl rfl ?_
    refine v_aload_n 1 (pc' := 70) rfl dX9_become_69 rfl rfl ?_
    refine v_getR (pc' := 73) rfl dX9_become_70 fk_RX9_31 ly_2 rfl ?_
    refine v_iload_n 2 (pc' := 74) rfl dX9_become_73 rfl rfl ?_
    refine v_iald (pc' := 75) rfl dX9_become_74 ly_5 (by omega) (by omega) rfl (rfl) ?_
    refine v_iast (pc' := 76) rfl dX9_become_75 ly_62 (by omega) (by omega) rfl ?_
    refine v_nmw (fun w7 hw7 => ?_)
    refine v_iinc (ls' := [(2, _), (0, _), (1, _)]) 2 (pc' := 79) rfl dX9_become_76 rfl rfl rfl ?_
    refine v_nl (fun i' hi' => ?_)
    refine v_goto (tgt := 34) dX9_become_79 (by decide) ?_
    refine v_ls [1, 2, 0] rfl ?_
    have e1 : wl 3 i.toNat = w 3 k := by rw [hi]; exact hfr 3 k rfl
    have e2 : w5 4 i.toNat = w 4 k := by rw [hi, hw5, up_ne _ _ (by omega)]; exact hfr 4 k rfl
    have e3 : w6 5 i.toNat = w 5 k := by rw [hi, hw6, up_ne _ _ (by omega), hw5, up_ne _ _ (by omega)]; exact hfr 5 k rfl
    exact ih0 (i') w7 (⟨k + 1, by omega, by omega, by simp [hw5, hw6, hw7, up_at, hF], fun j h => by
        rw [e1] at hw5; rw [e2] at hw6; rw [e3] at hw7
        have hik : i.toNat = k := by omega
        simp only [hw5, hw6, hw7, up_at, hik]
        by_cases q : j = k
        · subst q; simp
        · have := hA j (by omega); simp [q, this], by rw [hw7, hw6, hw5]; exact ((hfr.up rfl).up rfl).up rfl⟩) (by omega)
set_option maxHeartbeats 4000000 in
set_option maxRecDepth 100000 in
theorem c_become_2_59 (l : Launch) (G : Gx)  (w : Wd)  : Sp l G 0 mX9_become [aR 2, aR 59] w (fun _ w' => Cpy w w' 2 59) := by
  refine Sp_of RX9 rfl (by decide +kernel) rfl (Nat.le_of_ble_eq_true rfl) ?_
  refine v_aload_n 0 (pc' := 1) rfl dX9_become_0 rfl rfl ?_
  refine v_aload_n 1 (pc' := 2) rfl dX9_become_1 rfl rfl ?_
  refine v_get (pc' := 5) rfl dX9_become_2 fk_RX9_9 ly_59 rfl rfl ?_
  refine v_put (pc' := 8) rfl dX9_become_5 fi_RX9_9 ly_2 rfl ?_
  refine v_nmw (fun w1 hw1 => ?_)
  refine v_aload_n 0 (pc' := 9) rfl dX9_become_8 rfl rfl ?_
  refine v_aload_n 1 (pc' := 10) rfl dX9_become_9 rfl rfl ?_
  refine v_get (pc' := 13) rfl dX9_become_10 fk_RX9_18 ly_59 rfl rfl ?_
  refine v_put (pc' := 16) rfl dX9_become_13 fi_RX9_18 ly_2 rfl ?_
  refine v_nmw (fun w2 hw2 => ?_)
  refine v_aload_n 0 (pc' := 17) rfl dX9_become_16 rfl rfl ?_
  refine v_aload_n 1 (pc' := 18) rfl dX9_become_17 rfl rfl ?_
  refine v_get (pc' := 21) rfl dX9_become_18 fk_RX9_21 ly_59 rfl rfl ?_
  refine v_put (pc' := 24) rfl dX9_become_21 fi_RX9_21 ly_2 rfl ?_
  refine v_nmw (fun w3 hw3 => ?_)
  refine v_aload_n 0 (pc' := 25) rfl dX9_become_24 rfl rfl ?_
  refine v_aload_n 1 (pc' := 26) rfl dX9_become_25 rfl rfl ?_
  refine v_get (pc' := 29) rfl dX9_become_26 fk_RX9_34 ly_59 rfl rfl ?_
  refine v_put (pc' := 32) rfl dX9_become_29 fi_RX9_34 ly_2 rfl ?_
  refine v_nmw (fun w4 hw4 => ?_)
  refine v_iconst (pc' := 33) rfl dX9_become_32 ?_
  refine v_istore_n (ls' := [(2, _), (0, _), (1, _)]) (pc' := 34) rfl dX9_become_33 rfl rfl rfl ?_
  refine v_ls [1, 2, 0] rfl ?_
  refine v_loop2 34 (fun (i : Int) (wl : Wd) => ∃ k : Nat, i = k ∧ k ≤ 12 ∧ (wl 2 0 = w 59 0 ∧ wl 2 1 = w 59 1 ∧ wl 2 2 = w 59 2 ∧ wl 2 3 = w 59 3) ∧ (∀ j, j < k → wl 3 j = w 60 j ∧ wl 4 j = w 61 j ∧ wl 5 j = w 62 j) ∧ Fr [2, 3, 4, 5] w wl) (fun (i : Int) (wl : Wd) => (12 - i).toNat) (fun (i : Int) (wl : Wd) => [(0, aR 2), (1, aR 59), (2, aI (i))]) (fun (i : Int) (wl : Wd) => []) (fun (i : Int) (wl : Wd) => wl) (fun i wl hI0 ih0 => ?_) (0) w4 (⟨0, rfl, by omega, by simp [hw1, hw2, hw3, hw4, up_at], fun j h => by omega, by rw [hw4, hw3, hw2, hw1]; exact ((((Fr.rf _ _).up rfl).up rfl).up rfl).up rfl⟩)
  obtain ⟨k, hi, hk, hF, hA, hfr⟩ := hI0
  refine v_iload_n 2 (pc' := 35) rfl dX9_become_34 rfl rfl ?_
  refine v_bipush (pc' := 37) rfl dX9_become_35 rfl ?_
  refine v_icmp_ge (pc' := 40) (tgt := 82) rfl dX9_become_37 (by decide) (by omega) (by omega) (fun c0 => ?_) (fun c0 => ?_)
  ·
    refine v_vret dX9_become_82 ?_
    have e12 : k = 12 := by omega
    subst e12
    exact ⟨hF, hA, hfr⟩
  ·
    refine v_aload_n 0 (pc' := 41) rfl dX9_become_40 rfl rfl ?_
    refine v_getR (pc' := 44) rfl dX9_become_41 fk_RX9_24 ly_2 rfl ?_
    refine v_iload_n 2 (pc' := 45) rfl dX9_become_44 rfl rfl ?_
    refine v_aload_n 1 (pc' := 46) rfl dX9_become_45 rfl rfl ?_
    refine v_getR (pc' := 49) rfl dX9_become_46 fk_RX9_24 ly_59 rfl ?_
    refine v_iload_n 2 (pc' := 50) rfl dX9_become_49 rfl rfl ?_
    refine v_iald (pc' := 51) rfl dX9_become_50 ly_60 (by omega) (by omega) rfl (rfl) ?_
    refine v_iast (pc' := 52) rfl dX9_become_51 ly_3 (by omega) (by omega) rfl ?_
    refine v_nmw (fun w5 hw5 => ?_)
    refine v_aload_n 0 (pc' := 53) rfl dX9_become_52 rfl rfl ?_
    refine v_getR (pc' := 56) rfl dX9_become_53 fk_RX9_28 ly_2 rfl ?_
    refine v_iload_n 2 (pc' := 57) rfl dX9_become_56 rfl rfl ?_
    refine v_aload_n 1 (pc' := 58) rfl dX9_become_57 rfl rfl ?_
    refine v_getR (pc' := 61) rfl dX9_become_58 fk_RX9_28 ly_59 rfl ?_
    refine v_iload_n 2 (pc' := 62) rfl dX9_become_61 rfl rfl ?_
    refine v_iald (pc' := 63) rfl dX9_become_62 ly_61 (by omega) (by omega) rfl (rfl) ?_
    refine v_iast (pc' := 64) rfl dX9_become_63 ly_4 (by omega) (by omega) rfl ?_
    refine v_nmw (fun w6 hw6 => ?_)
    refine v_aload_n 0 (pc' := 65) rfl dX9_become_64 rfl rfl ?_
    refine v_getR (pc' := 68) rfl dX9_become_65 fk_RX9_31 ly_2 rfl ?_
    refine v_iload_n 2 (pc' := 69) rfl dX9_become_68 rfl rfl ?_
    refine v_aload_n 1 (pc' := 70) rfl dX9_become_69 rfl rfl ?_
    refine v_getR (pc' := 73) rfl dX9_become_70 fk_RX9_31 ly_59 rfl ?_
    refine v_iload_n 2 (pc' := 74) rfl dX9_become_73 rfl rfl ?_
    refine v_iald (pc' := 75) rfl dX9_become_74 ly_62 (by omega) (by omega) rfl (rfl) ?_
    refine v_iast (pc' := 76) rfl dX9_become_75 ly_5 (by omega) (by omega) rfl ?_
    refine v_nmw (fun w7 hw7 => ?_)
    refine v_iinc (ls' := [(2, _), (0, _), (1, _)]) 2 (pc' := 79) rfl dX9_become_76 rfl rfl rfl ?_
    refine v_nl (fun i' hi' => ?_)
    refine v_goto (tgt := 34) dX9_become_79 (by decide) ?_
    refine v_ls [1, 2, 0] rfl ?_
    have e1 : wl 60 i.toNat = w 60 k := by rw [hi]; exact hfr 60 k rfl
    have e2 : w5 61 i.toNat = w 61 k := by rw [hi, hw5, up_ne _ _ (by omega)]; exact hfr 61 k rfl
    have e3 : w6 62 i.toNat = w 62 k := by rw [hi, hw6, up_ne _ _ (by omega), hw5, up_ne _ _ (by omega)]; exact hfr 62 k rfl
    exact ih0 (i') w7 (⟨k + 1, by omega, by omega, by simp [hw5, hw6, hw7, up_at, hF], fun j h => by
        rw [e1] at hw5; rw [e2] at hw6; rw [e3] at hw7
        have hik : i.toNat = k := by omega
        simp only [hw5, hw6, hw7, up_at, hik]
        by_cases q : j = k
        · subst q; simp
        · have := hA j (by omega); simp [q, this], by rw [hw7, hw6, hw5]; exact ((hfr.up rfl).up rfl).up rfl⟩) (by omega)
def PMt (w : Wd) (d b c : Int) (i : Nat) : Prop := w 3 i = d ∧ w 4 i = b ∧ w 5 i = c
set_option maxHeartbeats 4000000 in
set_option maxRecDepth 100000 in
theorem c_placeOf (l : Launch) (G : Gx) {d b c : Int} {P : Nat} (hd : rg d) (hb : rg b) (hc : rg c) (hP : P ≤ 12) (w : Wd) (hp : w 2 3 = P) (hr : ∀ i, i < P → rg (w 3 i) ∧ rg (w 4 i) ∧ rg (w 5 i)) : SpR l G 0 mX9_placeOf [aR 2, aI (d), aI (b), aI (c)] w (fun z => (z = -1 ∧ ∀ i, i < P → ¬ PMt w d b c i) ∨ ∃ i : Nat, z = i ∧ i < P ∧ PMt w d b c i ∧ ∀ j, j < i → ¬ PMt w d b c j) := by
  refine Sp_of RX9 rfl (by decide +kernel) rfl (Nat.le_of_ble_eq_true rfl) ?_
  refine v_iconst (pc' := 1) rfl dX9_placeOf_0 ?_
  refine v_istore (ls' := [(4, _), (0, _), (1, _), (2, _), (3, _)]) (pc' := 3) rfl dX9_placeOf_1 rfl rfl ?_
  refine v_ls [1, 2, 3, 4, 0] rfl ?_
  refine v_loop1 3 (fun (i : Int) => ∃ k : Nat, i = k ∧ k ≤ P ∧ ∀ j, j < k → ¬ PMt w d b c j) (fun (i : Int) => (12 - i).toNat) (fun (i : Int) => [(0, aR 2), (1, aI (d)), (2, aI (b)), (3, aI (c)), (4, aI (i))]) (fun (i : Int) => []) (fun (i : Int) => w) (fun i hI0 ih0 => ?_) (0) (⟨0, rfl, by omega, fun j h => by omega⟩)
  obtain ⟨k, hi, hk, hno⟩ := hI0
  have hik : i.toNat = k := by omega
  refine v_iload 4 (pc' := 5) rfl dX9_placeOf_3 rfl ?_
  refine v_aload_n 0 (pc' := 6) rfl dX9_placeOf_5 rfl rfl ?_
  refine v_get (z := (P : Int)) (pc' := 9) rfl dX9_placeOf_6 fk_RX9_34 ly_2 rfl (hp) ?_
  refine v_icmp_ge (pc' := 12) (tgt := 61) rfl dX9_placeOf_9 (by decide) (by omega) (by omega) (fun c0 => ?_) (fun c0 => ?_)
  ·
    refine v_iconst (pc' := 62) rfl dX9_placeOf_61 ?_
    refine v_iret dX9_placeOf_62 (by decide) (rfl) ?_
    exact ⟨Or.inl ⟨rfl, fun j h => hno j (by omega)⟩, rfl⟩
  ·
    refine v_iload 4 (pc' := 14) rfl dX9_placeOf_12 rfl ?_
    refine v_bipush (pc' := 16) rfl dX9_placeOf_14 rfl ?_
    refine v_icmp_ge (pc' := 19) (tgt := 61) rfl dX9_placeOf_16 (by decide) (by omega) (by omega) (fun c1 => ?_) (fun c1 => ?_)
    ·
      refine v_iconst (pc' := 62) rfl dX9_placeOf_61 ?_
      refine v_iret dX9_placeOf_62 (by decide) (rfl) ?_
      exact ⟨Or.inl ⟨rfl, fun j h => hno j (by omega)⟩, rfl⟩
    ·
      have hrk := hr k (by omega)
      refine v_aload_n 0 (pc' := 20) rfl dX9_placeOf_19 rfl rfl ?_
      refine v_getR (pc' := 23) rfl dX9_placeOf_20 fk_RX9_24 ly_2 rfl ?_
      refine v_iload 4 (pc' := 25) rfl dX9_placeOf_23 rfl ?_
      refine v_iald (z := (w 3 k)) (pc' := 26) rfl dX9_placeOf_25 ly_3 (by omega) (by omega) rfl (by rw [hik]) ?_
      refine v_iload_n 1 (pc' := 27) rfl dX9_placeOf_26 rfl rfl ?_
      refine v_icmp_ne (pc' := 30) (tgt := 55) rfl dX9_placeOf_27 (by decide) (hrk.1) (hd) (fun c2 => ?_) (fun c2 => ?_)
      ·
        have hN : ¬ PMt w d b c k := fun q => c2 q.1
        refine v_iinc (ls' := [(4, _), (0, _), (1, _), (2, _), (3, _)]) 4 (pc' := 58) rfl dX9_placeOf_55 rfl rfl rfl ?_
        refine v_nl (fun i' hi' => ?_)
        refine v_goto (tgt := 3) dX9_placeOf_58 (by decide) ?_
        refine v_ls [1, 2, 3, 4, 0] rfl ?_
        exact ih0 (i') (⟨k + 1, by omega, by omega, fun j h => by
            rcases Nat.lt_or_ge j k with q | q
            · exact hno j q
            · rw [show j = k by omega]; exact hN⟩) (by omega)
      ·
        refine v_aload_n 0 (pc' := 31) rfl dX9_placeOf_30 rfl rfl ?_
        refine v_getR (pc' := 34) rfl dX9_placeOf_31 fk_RX9_28 ly_2 rfl ?_
        refine v_iload 4 (pc' := 36) rfl dX9_placeOf_34 rfl ?_
        refine v_iald (z := (w 4 k)) (pc' := 37) rfl dX9_placeOf_36 ly_4 (by omega) (by omega) rfl (by rw [hik]) ?_
        refine v_iload_n 2 (pc' := 38) rfl dX9_placeOf_37 rfl rfl ?_
        refine v_icmp_ne (pc' := 41) (tgt := 55) rfl dX9_placeOf_38 (by decide) (hrk.2.1) (hb) (fun c3 => ?_) (fun c3 => ?_)
        ·
          have hN : ¬ PMt w d b c k := fun q => c3 q.2.1
          refine v_iinc (ls' := [(4, _), (0, _), (1, _), (2, _), (3, _)]) 4 (pc' := 58) rfl dX9_placeOf_55 rfl rfl rfl ?_
          refine v_nl (fun i' hi' => ?_)
          refine v_goto (tgt := 3) dX9_placeOf_58 (by decide) ?_
          refine v_ls [1, 2, 3, 4, 0] rfl ?_
          exact ih0 (i') (⟨k + 1, by omega, by omega, fun j h => by
              rcases Nat.lt_or_ge j k with q | q
              · exact hno j q
              · rw [show j = k by omega]; exact hN⟩) (by omega)
        ·
          refine v_aload_n 0 (pc' := 42) rfl dX9_placeOf_41 rfl rfl ?_
          refine v_getR (pc' := 45) rfl dX9_placeOf_42 fk_RX9_31 ly_2 rfl ?_
          refine v_iload 4 (pc' := 47) rfl dX9_placeOf_45 rfl ?_
          refine v_iald (z := (w 5 k)) (pc' := 48) rfl dX9_placeOf_47 ly_5 (by omega) (by omega) rfl (by rw [hik]) ?_
          refine v_iload_n 3 (pc' := 49) rfl dX9_placeOf_48 rfl rfl ?_
          refine v_icmp_ne (pc' := 52) (tgt := 55) rfl dX9_placeOf_49 (by decide) (hrk.2.2) (hc) (fun c4 => ?_) (fun c4 => ?_)
          ·
            have hN : ¬ PMt w d b c k := fun q => c4 q.2.2
            refine v_iinc (ls' := [(4, _), (0, _), (1, _), (2, _), (3, _)]) 4 (pc' := 58) rfl dX9_placeOf_55 rfl rfl rfl ?_
            refine v_nl (fun i' hi' => ?_)
            refine v_goto (tgt := 3) dX9_placeOf_58 (by decide) ?_
            refine v_ls [1, 2, 3, 4, 0] rfl ?_
            exact ih0 (i') (⟨k + 1, by omega, by omega, fun j h => by
                rcases Nat.lt_or_ge j k with q | q
                · exact hno j q
                · rw [show j = k by omega]; exact hN⟩) (by omega)
          ·
            refine v_iload 4 (pc' := 54) rfl dX9_placeOf_52 rfl ?_
            refine v_iret dX9_placeOf_54 (by decide) (rfl) ?_
            exact ⟨Or.inr ⟨k, hi, by omega, ⟨c2, c3, c4⟩, hno⟩, rfl⟩
set_option maxHeartbeats 4000000 in
set_option maxRecDepth 100000 in
theorem c_add9 (l : Launch) (G : Gx) {d b c : Int} {P : Nat} (hP : P ≤ 12) (w : Wd) (hp : w 2 3 = P) : Sp l G 0 mX9_add [aR 2, aI (d), aI (b), aI (c)] w (fun z w' => (P = 12 ∧ z = -3 ∧ w' = w) ∨ (P < 12 ∧ z = P ∧ w' = up (up (up (up w 3 P d) 4 P b) 5 P c) 2 3 (P + 1))) := by
  refine Sp_of RX9 rfl (by decide +kernel) rfl (Nat.le_of_ble_eq_true rfl) ?_
  refine v_aload_n 0 (pc' := 1) rfl dX9_add_0 rfl rfl ?_
  refine v_get (z := (P : Int)) (pc' := 4) rfl dX9_add_1 fk_RX9_34 ly_2 rfl (hp) ?_
  refine v_if_lt (pc' := 7) (tgt := 16) rfl dX9_add_4 (by decide) (by omega) (fun c0 => absurd c0 (by omega)) (fun c0 => ?_)
  refine v_aload_n 0 (pc' := 8) rfl dX9_add_7 rfl rfl ?_
  refine v_get (z := (P : Int)) (pc' := 11) rfl dX9_add_8 fk_RX9_34 ly_2 rfl (hp) ?_
  refine v_bipush (pc' := 13) rfl dX9_add_11 rfl ?_
  refine v_icmp_lt (pc' := 16) (tgt := 19) rfl dX9_add_13 (by decide) (by omega) (by omega) (fun c1 => ?_) (fun c1 => ?_)
  ·
    refine v_aload_n 0 (pc' := 20) rfl dX9_add_19 rfl rfl ?_
    refine v_getR (pc' := 23) rfl dX9_add_20 fk_RX9_24 ly_2 rfl ?_
    refine v_aload_n 0 (pc' := 24) rfl dX9_add_23 rfl rfl ?_
    refine v_get (z := (P : Int)) (pc' := 27) rfl dX9_add_24 fk_RX9_34 ly_2 rfl (hp) ?_
    refine v_iload_n 1 (pc' := 28) rfl dX9_add_27 rfl rfl ?_
    refine v_iast (pc' := 29) rfl dX9_add_28 ly_3 (by omega) (by omega) rfl ?_
    refine v_nmw (fun w1 hw1 => ?_)
    have hp : w1 2 3 = (P : Int) := by rw [hw1, up_ne _ _ (by omega)]; exact hp
    refine v_aload_n 0 (pc' := 30) rfl dX9_add_29 rfl rfl ?_
    refine v_getR (pc' := 33) rfl dX9_add_30 fk_RX9_28 ly_2 rfl ?_
    refine v_aload_n 0 (pc' := 34) rfl dX9_add_33 rfl rfl ?_
    refine v_get (z := (P : Int)) (pc' := 37) rfl dX9_add_34 fk_RX9_34 ly_2 rfl (hp) ?_
    refine v_iload_n 2 (pc' := 38) rfl dX9_add_37 rfl rfl ?_
    refine v_iast (pc' := 39) rfl dX9_add_38 ly_4 (by omega) (by omega) rfl ?_
    refine v_nmw (fun w2 hw2 => ?_)
    have hp : w2 2 3 = (P : Int) := by rw [hw2, up_ne _ _ (by omega)]; exact hp
    refine v_aload_n 0 (pc' := 40) rfl dX9_add_39 rfl rfl ?_
    refine v_getR (pc' := 43) rfl dX9_add_40 fk_RX9_31 ly_2 rfl ?_
    refine v_aload_n 0 (pc' := 44) rfl dX9_add_43 rfl rfl ?_
    refine v_get (z := (P : Int)) (pc' := 47) rfl dX9_add_44 fk_RX9_34 ly_2 rfl (hp) ?_
    refine v_iload_n 3 (pc' := 48) rfl dX9_add_47 rfl rfl ?_
    refine v_iast (pc' := 49) rfl dX9_add_48 ly_5 (by omega) (by omega) rfl ?_
    refine v_nmw (fun w3 hw3 => ?_)
    have hp : w3 2 3 = (P : Int) := by rw [hw3, up_ne _ _ (by omega)]; exact hp
    refine v_aload_n 0 (pc' := 50) rfl dX9_add_49 rfl rfl ?_
    refine v_dupR (pc' := 51) rfl dX9_add_50 ?_
    refine v_get (z := (P : Int)) (pc' := 54) rfl dX9_add_51 fk_RX9_34 ly_2 rfl (hp) ?_
    refine v_iconst (pc' := 55) rfl dX9_add_54 ?_
    refine v_iadd (pc' := 56) rfl dX9_add_55 ?_
    refine v_put (pc' := 59) rfl dX9_add_56 fi_RX9_34 ly_2 rfl ?_
    refine v_nmw (fun w4 hw4 => ?_)
    have F2_3 : w4 2 3 = ((P : Int) + 1) := by rw [hw4, up_eq]
    refine v_aload_n 0 (pc' := 60) rfl dX9_add_59 rfl rfl ?_
    refine v_get (z := ((P : Int) + 1)) (pc' := 63) rfl dX9_add_60 fk_RX9_34 ly_2 rfl (F2_3) ?_
    refine v_iconst (pc' := 64) rfl dX9_add_63 ?_
    refine v_isub (pc' := 65) rfl dX9_add_64 ?_
    refine v_iret dX9_add_65 (by decide) (rfl) ?_
    exact Or.inr ⟨by omega, by omega, by rw [hw4, hw3, hw2, hw1]; rfl⟩
  ·
    refine v_bipush (pc' := 18) rfl dX9_add_16 rfl ?_
    refine v_iret dX9_add_18 (by decide) (rfl) ?_
    exact Or.inl ⟨by omega, rfl, rfl⟩
def RdI (w : Wd) (n st tl fi la : Nat) (g : Nat → Nat) : Prop := w 30 0 = n ∧ w 30 1 = st ∧ w 30 2 = tl ∧ w 30 3 = fi ∧ w 30 4 = la ∧ w 30 5 = (hx g : Nat)
def rdOK (n st tl fi la : Nat) (g : Nat → Nat) : Prop := n ≤ 7 ∧ st ≤ 5 ∧ tl < 128 ∧ fi ≤ 7 ∧ la ≤ 7 ∧ B7 g ∧ ((st = 3 ∨ st = 4) → 1 ≤ la ∧ g la = 0 ∧ 1 ≤ fi) ∧ (fi ≠ 0 → st = 3 ∨ st = 4)
def rdFault (n st tl c : Nat) : Nat :=
  if c = 32 then 0 else if c = 40 then (if st = 0 ∨ st = 1 then 0 else 1) else if c = 41 then (if st = 3 ∨ st = 4 then 0 else 1) else if c = 101 then (if st = 0 then 0 else 1)
  else if 48 ≤ c ∧ c ≤ 57 then (if st = 2 ∨ st = 4 then (if c - 48 < 1 ∨ n < c - 48 then 2 else if tl &&& bt (c - 48) ≠ 0 then 3 else 0) else 1) else 1
def rdSt (st c : Nat) : Nat := if c = 32 then (if st = 3 then 4 else st) else if c = 40 then 2 else if c = 41 then 1 else if c = 101 then 5 else 3
def rdTl (tl c : Nat) : Nat := if c = 32 ∨ c = 40 ∨ c = 41 ∨ c = 101 then tl else tl ||| bt (c - 48)
def rdFi (fi c : Nat) : Nat := if c = 32 ∨ c = 40 ∨ c = 101 then fi else if c = 41 then 0 else if fi = 0 then c - 48 else fi
def rdLa (la c : Nat) : Nat := if c = 32 ∨ c = 40 ∨ c = 41 ∨ c = 101 then la else c - 48
def rdG (fi la : Nat) (g : Nat → Nat) (c : Nat) : Nat → Nat := if c = 32 ∨ c = 40 ∨ c = 101 then g else if c = 41 then gset g la fi else if fi = 0 then g else gset g la (c - 48)
set_option maxHeartbeats 4000000 in
set_option maxRecDepth 100000 in
theorem c_step7 (l : Launch) (G : Gx) {b nx : Int} (hb : b = 0 ∨ b = 1) (w : Wd)  : Sp l G 0 mX7_step [aR 30, aI (b), aI (nx)] w (fun z w' => (b = 0 ∧ z = 1 ∧ w' = w) ∨ (b = 1 ∧ z = 0 ∧ w' = up w 30 1 nx)) := by
  refine Sp_of RX7 rfl (by decide +kernel) rfl (Nat.le_of_ble_eq_true rfl) ?_
  refine v_iload_n 1 (pc' := 1) rfl dX7_step_0 rfl rfl ?_
  refine v_if_ne (pc' := 4) (tgt := 6) rfl dX7_step_1 (by decide) (by omega) (fun c0 => ?_) (fun c0 => ?_)
  ·
    refine v_aload_n 0 (pc' := 7) rfl dX7_step_6 rfl rfl ?_
    refine v_iload_n 2 (pc' := 8) rfl dX7_step_7 rfl rfl ?_
    refine v_put (pc' := 11) rfl dX7_step_8 fi_RX7_15 ly_30 rfl ?_
    refine v_nmw (fun w1 hw1 => ?_)
    have F30_1 : w1 30 1 = nx := by rw [hw1, up_eq]
    refine v_iconst (pc' := 12) rfl dX7_step_11 ?_
    refine v_iret dX7_step_12 (by decide) (rfl) ?_
    exact Or.inr ⟨by omega, rfl, hw1⟩
  ·
    refine v_iconst (pc' := 5) rfl dX7_step_4 ?_
    refine v_iret dX7_step_5 (by decide) (rfl) ?_
    exact Or.inl ⟨by omega, rfl, rfl⟩
set_option maxHeartbeats 4000000 in
set_option maxRecDepth 100000 in
theorem c_begin (l : Launch) (G : Gx) {d0 : Int} (w : Wd)  : Sp l G 0 mX7_begin [aR 30, aI (d0)] w (fun _ w' => w' = up (up (up (up (up (up w 30 0 d0) 30 1 0) 30 2 0) 30 3 0) 30 4 0) 30 5 0) := by
  refine Sp_of RX7 rfl (by decide +kernel) rfl (Nat.le_of_ble_eq_true rfl) ?_
  refine v_aload_n 0 (pc' := 1) rfl dX7_begin_0 rfl rfl ?_
  refine v_iload_n 1 (pc' := 2) rfl dX7_begin_1 rfl rfl ?_
  refine v_put (pc' := 5) rfl dX7_begin_2 fi_RX7_9 ly_30 rfl ?_
  refine v_nmw (fun w1 hw1 => ?_)
  have F30_0 : w1 30 0 = d0 := by rw [hw1, up_eq]
  refine v_aload_n 0 (pc' := 6) rfl dX7_begin_5 rfl rfl ?_
  refine v_iconst (pc' := 7) rfl dX7_begin_6 ?_
  refine v_put (pc' := 10) rfl dX7_begin_7 fi_RX7_15 ly_30 rfl ?_
  refine v_nmw (fun w2 hw2 => ?_)
  have F30_0 : w2 30 0 = d0 := by rw [hw2, up_ne _ _ (by omega)]; exact F30_0
  have F30_1 : w2 30 1 = 0 := by rw [hw2, up_eq]
  refine v_aload_n 0 (pc' := 11) rfl dX7_begin_10 rfl rfl ?_
  refine v_iconst (pc' := 12) rfl dX7_begin_11 ?_
  refine v_put (pc' := 15) rfl dX7_begin_12 fi_RX7_18 ly_30 rfl ?_
  refine v_nmw (fun w3 hw3 => ?_)
  have F30_0 : w3 30 0 = d0 := by rw [hw3, up_ne _ _ (by omega)]; exact F30_0
  have F30_1 : w3 30 1 = 0 := by rw [hw3, up_ne _ _ (by omega)]; exact F30_1
  have F30_2 : w3 30 2 = 0 := by rw [hw3, up_eq]
  refine v_aload_n 0 (pc' := 16) rfl dX7_begin_15 rfl rfl ?_
  refine v_iconst (pc' := 17) rfl dX7_begin_16 ?_
  refine v_put (pc' := 20) rfl dX7_begin_17 fi_RX7_21 ly_30 rfl ?_
  refine v_nmw (fun w4 hw4 => ?_)
  have F30_0 : w4 30 0 = d0 := by rw [hw4, up_ne _ _ (by omega)]; exact F30_0
  have F30_1 : w4 30 1 = 0 := by rw [hw4, up_ne _ _ (by omega)]; exact F30_1
  have F30_2 : w4 30 2 = 0 := by rw [hw4, up_ne _ _ (by omega)]; exact F30_2
  have F30_3 : w4 30 3 = 0 := by rw [hw4, up_eq]
  refine v_aload_n 0 (pc' := 21) rfl dX7_begin_20 rfl rfl ?_
  refine v_iconst (pc' := 22) rfl dX7_begin_21 ?_
  refine v_put (pc' := 25) rfl dX7_begin_22 fi_RX7_24 ly_30 rfl ?_
  refine v_nmw (fun w5 hw5 => ?_)
  have F30_0 : w5 30 0 = d0 := by rw [hw5, up_ne _ _ (by omega)]; exact F30_0
  have F30_1 : w5 30 1 = 0 := by rw [hw5, up_ne _ _ (by omega)]; exact F30_1
  have F30_2 : w5 30 2 = 0 := by rw [hw5, up_ne _ _ (by omega)]; exact F30_2
  have F30_3 : w5 30 3 = 0 := by rw [hw5, up_ne _ _ (by omega)]; exact F30_3
  have F30_4 : w5 30 4 = 0 := by rw [hw5, up_eq]
  refine v_aload_n 0 (pc' := 26) rfl dX7_begin_25 rfl rfl ?_
  refine v_iconst (pc' := 27) rfl dX7_begin_26 ?_
  refine v_put (pc' := 30) rfl dX7_begin_27 fi_RX7_27 ly_30 rfl ?_
  refine v_nmw (fun w6 hw6 => ?_)
  have F30_0 : w6 30 0 = d0 := by rw [hw6, up_ne _ _ (by omega)]; exact F30_0
  have F30_1 : w6 30 1 = 0 := by rw [hw6, up_ne _ _ (by omega)]; exact F30_1
  have F30_2 : w6 30 2 = 0 := by rw [hw6, up_ne _ _ (by omega)]; exact F30_2
  have F30_3 : w6 30 3 = 0 := by rw [hw6, up_ne _ _ (by omega)]; exact F30_3
  have F30_4 : w6 30 4 = 0 := by rw [hw6, up_ne _ _ (by omega)]; exact F30_4
  have F30_5 : w6 30 5 = 0 := by rw [hw6, up_eq]
  refine v_vret dX7_begin_30 ?_
  rw [hw6, hw5, hw4, hw3, hw2, hw1]
set_option maxHeartbeats 4000000 in
set_option maxRecDepth 100000 in
theorem c_close (l : Launch) (G : Gx) {n st tl fi la : Nat} {g : Nat → Nat} (ok : rdOK n st tl fi la g) (w : Wd) (hR : RdI w n st tl fi la g) : Sp l G 1 mX7_close [aR 30] w (fun z w' => (¬ (st = 3 ∨ st = 4) ∧ z = 1 ∧ w' = w) ∨ ((st = 3 ∨ st = 4) ∧ z = 0 ∧ w' = up (up (up w 30 5 (hx (gset g la fi) : Nat)) 30 3 0) 30 1 1)) := by
  obtain ⟨hn7, hst, htl, hfi, hla, hg, hop, hfs⟩ := ok
  obtain ⟨f0, f1, f2, f3, f4, f5⟩ := hR
  refine Sp_of RX7 rfl (by decide +kernel) rfl (Nat.le_of_ble_eq_true rfl) ?_
  refine v_aload_n 0 (pc' := 1) rfl dX7_close_0 rfl rfl ?_
  refine v_get (z := (st : Int)) (pc' := 4) rfl dX7_close_1 fk_RX7_15 ly_30 rfl (f1) ?_
  refine v_iconst (pc' := 5) rfl dX7_close_4 ?_
  refine v_icmp_eq (pc' := 8) (tgt := 18) rfl dX7_close_5 (by decide) (by omega) (by omega) (fun c0 => ?_) (fun c0 => ?_)
  ·
    have hs34 : st = 3 ∨ st = 4 := by omega
    have ho := hop hs34
    refine v_aload_n 0 (pc' := 19) rfl dX7_close_18 rfl rfl ?_
    refine v_dupR (pc' := 20) rfl dX7_close_19 ?_
    refine v_get (z := ((hx g : Nat) : Int)) (pc' := 23) rfl dX7_close_20 fk_RX7_27 ly_30 rfl (f5) ?_
    refine v_aload_n 0 (pc' := 24) rfl dX7_close_23 rfl rfl ?_
    refine v_get (z := (fi : Int)) (pc' := 27) rfl dX7_close_24 fk_RX7_21 ly_30 rfl (f3) ?_
    refine v_aload_n 0 (pc' := 28) rfl dX7_close_27 rfl rfl ?_
    refine v_get (z := (la : Int)) (pc' := 31) rfl dX7_close_28 fk_RX7_24 ly_30 rfl (f4) ?_
    refine v_cSP (pc' := 34) rfl dX7_close_31 lk_RX7_42 rfl (c_shift l G w) rfl rfl rfl ?_
    refine v_nm (fun shift1 hshift1 => ?_)
    refine v_ishl (z := ((fi * 2 ^ (28 - 4 * la) : Nat) : Int)) (pc' := 35) rfl dX7_close_34 (iz_shlE rfl (by omega) (by omega)) ?_
    refine v_ior (z := ((hx (gset g la fi) : Nat) : Int)) (pc' := 36) rfl dX7_close_35 (by rw [iz_or]; exact congrArg (fun q : Nat => iz (q : Int)) (hx_or hg.le15 ho.1 hla ho.2.1 (by omega))) ?_
    refine v_put (pc' := 39) rfl dX7_close_36 fi_RX7_27 ly_30 rfl ?_
    refine v_nmw (fun w2 hw2 => ?_)
    have f0 : w2 30 0 = (n : Int) := by rw [hw2, up_ne _ _ (by omega)]; exact f0
    have f1 : w2 30 1 = (st : Int) := by rw [hw2, up_ne _ _ (by omega)]; exact f1
    have f2 : w2 30 2 = (tl : Int) := by rw [hw2, up_ne _ _ (by omega)]; exact f2
    have f3 : w2 30 3 = (fi : Int) := by rw [hw2, up_ne _ _ (by omega)]; exact f3
    have f4 : w2 30 4 = (la : Int) := by rw [hw2, up_ne _ _ (by omega)]; exact f4
    have F30_5 : w2 30 5 = (((hx (gset g la fi) : Nat) : Int)) := by rw [hw2, up_eq]
    refine v_aload_n 0 (pc' := 40) rfl dX7_close_39 rfl rfl ?_
    refine v_iconst (pc' := 41) rfl dX7_close_40 ?_
    refine v_put (pc' := 44) rfl dX7_close_41 fi_RX7_21 ly_30 rfl ?_
    refine v_nmw (fun w3 hw3 => ?_)
    have f0 : w3 30 0 = (n : Int) := by rw [hw3, up_ne _ _ (by omega)]; exact f0
    have f1 : w3 30 1 = (st : Int) := by rw [hw3, up_ne _ _ (by omega)]; exact f1
    have f2 : w3 30 2 = (tl : Int) := by rw [hw3, up_ne _ _ (by omega)]; exact f2
    have f4 : w3 30 4 = (la : Int) := by rw [hw3, up_ne _ _ (by omega)]; exact f4
    have F30_5 : w3 30 5 = (((hx (gset g la fi) : Nat) : Int)) := by rw [hw3, up_ne _ _ (by omega)]; exact F30_5
    have F30_3 : w3 30 3 = 0 := by rw [hw3, up_eq]
    refine v_aload_n 0 (pc' := 45) rfl dX7_close_44 rfl rfl ?_
    refine v_iconst (pc' := 46) rfl dX7_close_45 ?_
    refine v_put (pc' := 49) rfl dX7_close_46 fi_RX7_15 ly_30 rfl ?_
    refine v_nmw (fun w4 hw4 => ?_)
    have f0 : w4 30 0 = (n : Int) := by rw [hw4, up_ne _ _ (by omega)]; exact f0
    have f2 : w4 30 2 = (tl : Int) := by rw [hw4, up_ne _ _ (by omega)]; exact f2
    have f4 : w4 30 4 = (la : Int) := by rw [hw4, up_ne _ _ (by omega)]; exact f4
    have F30_5 : w4 30 5 = (((hx (gset g la fi) : Nat) : Int)) := by rw [hw4, up_ne _ _ (by omega)]; exact F30_5
    have F30_3 : w4 30 3 = 0 := by rw [hw4, up_ne _ _ (by omega)]; exact F30_3
    have F30_1 : w4 30 1 = 1 := by rw [hw4, up_eq]
    refine v_iconst (pc' := 50) rfl dX7_close_49 ?_
    refine v_iret dX7_close_50 (by decide) (rfl) ?_
    exact Or.inr ⟨hs34, rfl, by rw [hw4, hw3, hw2]⟩
  ·
    refine v_aload_n 0 (pc' := 9) rfl dX7_close_8 rfl rfl ?_
    refine v_get (z := (st : Int)) (pc' := 12) rfl dX7_close_9 fk_RX7_15 ly_30 rfl (f1) ?_
    refine v_iconst (pc' := 13) rfl dX7_close_12 ?_
    refine v_icmp_eq (pc' := 16) (tgt := 18) rfl dX7_close_13 (by decide) (by omega) (by omega) (fun c1 => ?_) (fun c1 => ?_)
    ·
      have hs34 : st = 3 ∨ st = 4 := by omega
      have ho := hop hs34
      refine v_aload_n 0 (pc' := 19) rfl dX7_close_18 rfl rfl ?_
      refine v_dupR (pc' := 20) rfl dX7_close_19 ?_
      refine v_get (z := ((hx g : Nat) : Int)) (pc' := 23) rfl dX7_close_20 fk_RX7_27 ly_30 rfl (f5) ?_
      refine v_aload_n 0 (pc' := 24) rfl dX7_close_23 rfl rfl ?_
      refine v_get (z := (fi : Int)) (pc' := 27) rfl dX7_close_24 fk_RX7_21 ly_30 rfl (f3) ?_
      refine v_aload_n 0 (pc' := 28) rfl dX7_close_27 rfl rfl ?_
      refine v_get (z := (la : Int)) (pc' := 31) rfl dX7_close_28 fk_RX7_24 ly_30 rfl (f4) ?_
      refine v_cSP (pc' := 34) rfl dX7_close_31 lk_RX7_42 rfl (c_shift l G w) rfl rfl rfl ?_
      refine v_nm (fun shift1 hshift1 => ?_)
      refine v_ishl (z := ((fi * 2 ^ (28 - 4 * la) : Nat) : Int)) (pc' := 35) rfl dX7_close_34 (iz_shlE rfl (by omega) (by omega)) ?_
      refine v_ior (z := ((hx (gset g la fi) : Nat) : Int)) (pc' := 36) rfl dX7_close_35 (by rw [iz_or]; exact congrArg (fun q : Nat => iz (q : Int)) (hx_or hg.le15 ho.1 hla ho.2.1 (by omega))) ?_
      refine v_put (pc' := 39) rfl dX7_close_36 fi_RX7_27 ly_30 rfl ?_
      refine v_nmw (fun w2 hw2 => ?_)
      have f0 : w2 30 0 = (n : Int) := by rw [hw2, up_ne _ _ (by omega)]; exact f0
      have f1 : w2 30 1 = (st : Int) := by rw [hw2, up_ne _ _ (by omega)]; exact f1
      have f2 : w2 30 2 = (tl : Int) := by rw [hw2, up_ne _ _ (by omega)]; exact f2
      have f3 : w2 30 3 = (fi : Int) := by rw [hw2, up_ne _ _ (by omega)]; exact f3
      have f4 : w2 30 4 = (la : Int) := by rw [hw2, up_ne _ _ (by omega)]; exact f4
      have F30_5 : w2 30 5 = (((hx (gset g la fi) : Nat) : Int)) := by rw [hw2, up_eq]
      refine v_aload_n 0 (pc' := 40) rfl dX7_close_39 rfl rfl ?_
      refine v_iconst (pc' := 41) rfl dX7_close_40 ?_
      refine v_put (pc' := 44) rfl dX7_close_41 fi_RX7_21 ly_30 rfl ?_
      refine v_nmw (fun w3 hw3 => ?_)
      have f0 : w3 30 0 = (n : Int) := by rw [hw3, up_ne _ _ (by omega)]; exact f0
      have f1 : w3 30 1 = (st : Int) := by rw [hw3, up_ne _ _ (by omega)]; exact f1
      have f2 : w3 30 2 = (tl : Int) := by rw [hw3, up_ne _ _ (by omega)]; exact f2
      have f4 : w3 30 4 = (la : Int) := by rw [hw3, up_ne _ _ (by omega)]; exact f4
      have F30_5 : w3 30 5 = (((hx (gset g la fi) : Nat) : Int)) := by rw [hw3, up_ne _ _ (by omega)]; exact F30_5
      have F30_3 : w3 30 3 = 0 := by rw [hw3, up_eq]
      refine v_aload_n 0 (pc' := 45) rfl dX7_close_44 rfl rfl ?_
      refine v_iconst (pc' := 46) rfl dX7_close_45 ?_
      refine v_put (pc' := 49) rfl dX7_close_46 fi_RX7_15 ly_30 rfl ?_
      refine v_nmw (fun w4 hw4 => ?_)
      have f0 : w4 30 0 = (n : Int) := by rw [hw4, up_ne _ _ (by omega)]; exact f0
      have f2 : w4 30 2 = (tl : Int) := by rw [hw4, up_ne _ _ (by omega)]; exact f2
      have f4 : w4 30 4 = (la : Int) := by rw [hw4, up_ne _ _ (by omega)]; exact f4
      have F30_5 : w4 30 5 = (((hx (gset g la fi) : Nat) : Int)) := by rw [hw4, up_ne _ _ (by omega)]; exact F30_5
      have F30_3 : w4 30 3 = 0 := by rw [hw4, up_ne _ _ (by omega)]; exact F30_3
      have F30_1 : w4 30 1 = 1 := by rw [hw4, up_eq]
      refine v_iconst (pc' := 50) rfl dX7_close_49 ?_
      refine v_iret dX7_close_50 (by decide) (rfl) ?_
      exact Or.inr ⟨hs34, rfl, by rw [hw4, hw3, hw2]⟩
    ·
      refine v_iconst (pc' := 17) rfl dX7_close_16 ?_
      refine v_iret dX7_close_17 (by decide) (rfl) ?_
      exact Or.inl ⟨by omega, rfl, rfl⟩
set_option maxHeartbeats 4000000 in
set_option maxRecDepth 100000 in
theorem c_number (l : Launch) (G : Gx) {x0 : Int} {x : Nat} (hx0 : x0 = x) (hx9 : x ≤ 9) {n st tl fi la : Nat} {g : Nat → Nat} (ok : rdOK n st tl fi la g) (w : Wd) (hR : RdI w n st tl fi la g) : Sp l G 1 mX7_number [aR 30, aI (x0)] w (fun z w' => (¬ (st = 2 ∨ st = 4) ∧ z = 1 ∧ w' = w) ∨ ((st = 2 ∨ st = 4) ∧ (x < 1 ∨ n < x) ∧ z = 2 ∧ w' = w) ∨ ((st = 2 ∨ st = 4) ∧ ¬ (x < 1 ∨ n < x) ∧ tl &&& bt x ≠ 0 ∧ z = 3 ∧ w' = w) ∨ ((st = 2 ∨ st = 4) ∧ ¬ (x < 1 ∨ n < x) ∧ tl &&& bt x = 0 ∧ z = 0 ∧ Fr [30] w w' ∧ RdI w' n 3 (tl ||| bt x) (if fi = 0 then x else fi) x (if fi = 0 then g else gset g la x))) := by
  obtain ⟨hn7, hst, htl, hfi, hla, hg, hop, hfs⟩ := ok
  obtain ⟨f0, f1, f2, f3, f4, f5⟩ := hR
  refine Sp_of RX7 rfl (by decide +kernel) rfl (Nat.le_of_ble_eq_true rfl) ?_
  refine v_aload_n 0 (pc' := 1) rfl dX7_number_0 rfl rfl ?_
  refine v_get (z := (st : Int)) (pc' := 4) rfl dX7_number_1 fk_RX7_15 ly_30 rfl (f1) ?_
  refine v_iconst (pc' := 5) rfl dX7_number_4 ?_
  refine v_icmp_eq (pc' := 8) (tgt := 18) rfl dX7_number_5 (by decide) (by omega) (by omega) (fun c0 => ?_) (fun c0 => ?_)
  ·
    have hs24 : st = 2 ∨ st = 4 := by omega
    refine v_iload_n 1 (pc' := 19) rfl dX7_number_18 rfl rfl ?_
    refine v_iconst (pc' := 20) rfl dX7_number_19 ?_
    refine v_icmp_lt (pc' := 23) (tgt := 31) rfl dX7_number_20 (by decide) (by omega) (by omega) (fun c2 => ?_) (fun c2 => ?_)
    ·
      refine v_iconst (pc' := 32) rfl dX7_number_31 ?_
      refine v_iret dX7_number_32 (by decide) (rfl) ?_
      exact Or.inr (Or.inl ⟨hs24, by omega, rfl, rfl⟩)
    ·
      refine v_iload_n 1 (pc' := 24) rfl dX7_number_23 rfl rfl ?_
      refine v_aload_n 0 (pc' := 25) rfl dX7_number_24 rfl rfl ?_
      refine v_get (z := (n : Int)) (pc' := 28) rfl dX7_number_25 fk_RX7_9 ly_30 rfl (f0) ?_
      refine v_icmp_le (pc' := 31) (tgt := 33) rfl dX7_number_28 (by decide) (by omega) (by omega) (fun c3 => ?_) (fun c3 => ?_)
      ·
        refine v_aload_n 0 (pc' := 34) rfl dX7_number_33 rfl rfl ?_
        refine v_get (z := (tl : Int)) (pc' := 37) rfl dX7_number_34 fk_RX7_18 ly_30 rfl (f2) ?_
        refine v_iload_n 1 (pc' := 38) rfl dX7_number_37 rfl rfl ?_
        refine v_cSP (pc' := 41) rfl dX7_number_38 lk_RX7_47 rfl (c_bit l G hx0 (by omega) (by omega) w) rfl rfl rfl ?_
        refine v_nm (fun bit1 hbit1 => ?_)
        refine v_iand (z := ((tl &&& bt x : Nat) : Int)) (pc' := 42) rfl dX7_number_41 (iz_andE rfl hbit1) ?_
        refine v_if_eq (pc' := 45) (tgt := 47) rfl dX7_number_42 (by decide) (by have := and_lt7 (b := bt x) htl; omega) (fun c4 => ?_) (fun c4 => ?_)
        ·
          refine v_aload_n 0 (pc' := 48) rfl dX7_number_47 rfl rfl ?_
          refine v_get (z := (fi : Int)) (pc' := 51) rfl dX7_number_48 fk_RX7_21 ly_30 rfl (f3) ?_
          refine v_if_ne (pc' := 54) (tgt := 62) rfl dX7_number_51 (by decide) (by omega) (fun c5 => ?_) (fun c5 => ?_)
          ·
            have hz : ¬ fi = 0 := by omega
            have ho := hop (hfs hz)
            refine v_aload_n 0 (pc' := 63) rfl dX7_number_62 rfl rfl ?_
            refine v_dupR (pc' := 64) rfl dX7_number_63 ?_
            refine v_get (z := ((hx g : Nat) : Int)) (pc' := 67) rfl dX7_number_64 fk_RX7_27 ly_30 rfl (f5) ?_
            refine v_iload_n 1 (pc' := 68) rfl dX7_number_67 rfl rfl ?_
            refine v_aload_n 0 (pc' := 69) rfl dX7_number_68 rfl rfl ?_
            refine v_get (z := (la : Int)) (pc' := 72) rfl dX7_number_69 fk_RX7_24 ly_30 rfl (f4) ?_
            refine v_cSP (pc' := 75) rfl dX7_number_72 lk_RX7_42 rfl (c_shift l G w) rfl rfl rfl ?_
            refine v_nm (fun shift1 hshift1 => ?_)
            refine v_ishl (z := ((x * 2 ^ (28 - 4 * la) : Nat) : Int)) (pc' := 76) rfl dX7_number_75 (iz_shlE hx0 (by omega) (by omega)) ?_
            refine v_ior (z := ((hx (gset g la x) : Nat) : Int)) (pc' := 77) rfl dX7_number_76 (by rw [iz_or]; exact congrArg (fun q : Nat => iz (q : Int)) (hx_or hg.le15 ho.1 hla ho.2.1 (by omega))) ?_
            refine v_put (pc' := 80) rfl dX7_number_77 fi_RX7_27 ly_30 rfl ?_
            refine v_nmw (fun w4 hw4 => ?_)
            have f0 : w4 30 0 = (n : Int) := by rw [hw4, up_ne _ _ (by omega)]; exact f0
            have f1 : w4 30 1 = (st : Int) := by rw [hw4, up_ne _ _ (by omega)]; exact f1
            have f2 : w4 30 2 = (tl : Int) := by rw [hw4, up_ne _ _ (by omega)]; exact f2
            have f3 : w4 30 3 = (fi : Int) := by rw [hw4, up_ne _ _ (by omega)]; exact f3
            have f4 : w4 30 4 = (la : Int) := by rw [hw4, up_ne _ _ (by omega)]; exact f4
            have F30_5 : w4 30 5 = (((hx (gset g la x) : Nat) : Int)) := by rw [hw4, up_eq]
            refine v_aload_n 0 (pc' := 81) rfl dX7_number_80 rfl rfl ?_
            refine v_iload_n 1 (pc' := 82) rfl dX7_number_81 rfl rfl ?_
            refine v_put (pc' := 85) rfl dX7_number_82 fi_RX7_24 ly_30 rfl ?_
            refine v_nmw (fun w5 hw5 => ?_)
            have f0 : w5 30 0 = (n : Int) := by rw [hw5, up_ne _ _ (by omega)]; exact f0
            have f1 : w5 30 1 = (st : Int) := by rw [hw5, up_ne _ _ (by omega)]; exact f1
            have f2 : w5 30 2 = (tl : Int) := by rw [hw5, up_ne _ _ (by omega)]; exact f2
            have f3 : w5 30 3 = (fi : Int) := by rw [hw5, up_ne _ _ (by omega)]; exact f3
            have F30_5 : w5 30 5 = (((hx (gset g la x) : Nat) : Int)) := by rw [hw5, up_ne _ _ (by omega)]; exact F30_5
            have F30_4 : w5 30 4 = x0 := by rw [hw5, up_eq]
            refine v_aload_n 0 (pc' := 86) rfl dX7_number_85 rfl rfl ?_
            refine v_dupR (pc' := 87) rfl dX7_number_86 ?_
            refine v_get (z := (tl : Int)) (pc' := 90) rfl dX7_number_87 fk_RX7_18 ly_30 rfl (f2) ?_
            refine v_iload_n 1 (pc' := 91) rfl dX7_number_90 rfl rfl ?_
            refine v_cSP (pc' := 94) rfl dX7_number_91 lk_RX7_47 rfl (c_bit l G hx0 (by omega) (by omega) w5) rfl rfl rfl ?_
            refine v_nm (fun bit2 hbit2 => ?_)
            refine v_ior (z := ((tl ||| bt x : Nat) : Int)) (pc' := 95) rfl dX7_number_94 (iz_orE rfl hbit2) ?_
            refine v_put (pc' := 98) rfl dX7_number_95 fi_RX7_18 ly_30 rfl ?_
            refine v_nmw (fun w7 hw7 => ?_)
            have f0 : w7 30 0 = (n : Int) := by rw [hw7, up_ne _ _ (by omega)]; exact f0
            have f1 : w7 30 1 = (st : Int) := by rw [hw7, up_ne _ _ (by omega)]; exact f1
            have f3 : w7 30 3 = (fi : Int) := by rw [hw7, up_ne _ _ (by omega)]; exact f3
            have F30_5 : w7 30 5 = (((hx (gset g la x) : Nat) : Int)) := by rw [hw7, up_ne _ _ (by omega)]; exact F30_5
            have F30_4 : w7 30 4 = x0 := by rw [hw7, up_ne _ _ (by omega)]; exact F30_4
            have F30_2 : w7 30 2 = (((tl ||| bt x : Nat) : Int)) := by rw [hw7, up_eq]
            refine v_aload_n 0 (pc' := 99) rfl dX7_number_98 rfl rfl ?_
            refine v_iconst (pc' := 100) rfl dX7_number_99 ?_
            refine v_put (pc' := 103) rfl dX7_number_100 fi_RX7_15 ly_30 rfl ?_
            refine v_nmw (fun w8 hw8 => ?_)
            have f0 : w8 30 0 = (n : Int) := by rw [hw8, up_ne _ _ (by omega)]; exact f0
            have f3 : w8 30 3 = (fi : Int) := by rw [hw8, up_ne _ _ (by omega)]; exact f3
            have F30_5 : w8 30 5 = (((hx (gset g la x) : Nat) : Int)) := by rw [hw8, up_ne _ _ (by omega)]; exact F30_5
            have F30_4 : w8 30 4 = x0 := by rw [hw8, up_ne _ _ (by omega)]; exact F30_4
            have F30_2 : w8 30 2 = (((tl ||| bt x : Nat) : Int)) := by rw [hw8, up_ne _ _ (by omega)]; exact F30_2
            have F30_1 : w8 30 1 = 3 := by rw [hw8, up_eq]
            refine v_iconst (pc' := 104) rfl dX7_number_103 ?_
            refine v_iret dX7_number_104 (by decide) (rfl) ?_
            refine Or.inr (Or.inr (Or.inr ⟨hs24, by omega, by omega, rfl, ?_, ?_⟩))
            · first | (rw [hw8, hw7, hw5, hw2]; exact ((((Fr.rf _ _).up rfl).up rfl).up rfl).up rfl) | (rw [hw8, hw7, hw5, hw4]; exact ((((Fr.rf _ _).up rfl).up rfl).up rfl).up rfl)
            · exact ⟨f0, F30_1, F30_2, by first | (rw [if_pos hz, F30_3, hx0]) | (rw [if_neg hz, f3]), by rw [F30_4, hx0], by first | (rw [if_pos hz, f5]) | (rw [if_neg hz, F30_5])⟩
          ·
            have hz : fi = 0 := by omega
            refine v_aload_n 0 (pc' := 55) rfl dX7_number_54 rfl rfl ?_
            refine v_iload_n 1 (pc' := 56) rfl dX7_number_55 rfl rfl ?_
            refine v_put (pc' := 59) rfl dX7_number_56 fi_RX7_21 ly_30 rfl ?_
            refine v_nmw (fun w2 hw2 => ?_)
            have f0 : w2 30 0 = (n : Int) := by rw [hw2, up_ne _ _ (by omega)]; exact f0
            have f1 : w2 30 1 = (st : Int) := by rw [hw2, up_ne _ _ (by omega)]; exact f1
            have f2 : w2 30 2 = (tl : Int) := by rw [hw2, up_ne _ _ (by omega)]; exact f2
            have f4 : w2 30 4 = (la : Int) := by rw [hw2, up_ne _ _ (by omega)]; exact f4
            have f5 : w2 30 5 = ((hx g : Nat) : Int) := by rw [hw2, up_ne _ _ (by omega)]; exact f5
            have F30_3 : w2 30 3 = x0 := by rw [hw2, up_eq]
            refine v_goto (tgt := 80) dX7_number_59 (by decide) ?_
            refine v_aload_n 0 (pc' := 81) rfl dX7_number_80 rfl rfl ?_
            refine v_iload_n 1 (pc' := 82) rfl dX7_number_81 rfl rfl ?_
            refine v_put (pc' := 85) rfl dX7_number_82 fi_RX7_24 ly_30 rfl ?_
            refine v_nmw (fun w5 hw5 => ?_)
            have f0 : w5 30 0 = (n : Int) := by rw [hw5, up_ne _ _ (by omega)]; exact f0
            have f1 : w5 30 1 = (st : Int) := by rw [hw5, up_ne _ _ (by omega)]; exact f1
            have f2 : w5 30 2 = (tl : Int) := by rw [hw5, up_ne _ _ (by omega)]; exact f2
            have f5 : w5 30 5 = ((hx g : Nat) : Int) := by rw [hw5, up_ne _ _ (by omega)]; exact f5
            have F30_3 : w5 30 3 = x0 := by rw [hw5, up_ne _ _ (by omega)]; exact F30_3
            have F30_4 : w5 30 4 = x0 := by rw [hw5, up_eq]
            refine v_aload_n 0 (pc' := 86) rfl dX7_number_85 rfl rfl ?_
            refine v_dupR (pc' := 87) rfl dX7_number_86 ?_
            refine v_get (z := (tl : Int)) (pc' := 90) rfl dX7_number_87 fk_RX7_18 ly_30 rfl (f2) ?_
            refine v_iload_n 1 (pc' := 91) rfl dX7_number_90 rfl rfl ?_
            refine v_cSP (pc' := 94) rfl dX7_number_91 lk_RX7_47 rfl (c_bit l G hx0 (by omega) (by omega) w5) rfl rfl rfl ?_
            refine v_nm (fun bit2 hbit2 => ?_)
            refine v_ior (z := ((tl ||| bt x : Nat) : Int)) (pc' := 95) rfl dX7_number_94 (iz_orE rfl hbit2) ?_
            refine v_put (pc' := 98) rfl dX7_number_95 fi_RX7_18 ly_30 rfl ?_
            refine v_nmw (fun w7 hw7 => ?_)
            have f0 : w7 30 0 = (n : Int) := by rw [hw7, up_ne _ _ (by omega)]; exact f0
            have f1 : w7 30 1 = (st : Int) := by rw [hw7, up_ne _ _ (by omega)]; exact f1
            have f5 : w7 30 5 = ((hx g : Nat) : Int) := by rw [hw7, up_ne _ _ (by omega)]; exact f5
            have F30_3 : w7 30 3 = x0 := by rw [hw7, up_ne _ _ (by omega)]; exact F30_3
            have F30_4 : w7 30 4 = x0 := by rw [hw7, up_ne _ _ (by omega)]; exact F30_4
            have F30_2 : w7 30 2 = (((tl ||| bt x : Nat) : Int)) := by rw [hw7, up_eq]
            refine v_aload_n 0 (pc' := 99) rfl dX7_number_98 rfl rfl ?_
            refine v_iconst (pc' := 100) rfl dX7_number_99 ?_
            refine v_put (pc' := 103) rfl dX7_number_100 fi_RX7_15 ly_30 rfl ?_
            refine v_nmw (fun w8 hw8 => ?_)
            have f0 : w8 30 0 = (n : Int) := by rw [hw8, up_ne _ _ (by omega)]; exact f0
            have f5 : w8 30 5 = ((hx g : Nat) : Int) := by rw [hw8, up_ne _ _ (by omega)]; exact f5
            have F30_3 : w8 30 3 = x0 := by rw [hw8, up_ne _ _ (by omega)]; exact F30_3
            have F30_4 : w8 30 4 = x0 := by rw [hw8, up_ne _ _ (by omega)]; exact F30_4
            have F30_2 : w8 30 2 = (((tl ||| bt x : Nat) : Int)) := by rw [hw8, up_ne _ _ (by omega)]; exact F30_2
            have F30_1 : w8 30 1 = 3 := by rw [hw8, up_eq]
            refine v_iconst (pc' := 104) rfl dX7_number_103 ?_
            refine v_iret dX7_number_104 (by decide) (rfl) ?_
            refine Or.inr (Or.inr (Or.inr ⟨hs24, by omega, by omega, rfl, ?_, ?_⟩))
            · first | (rw [hw8, hw7, hw5, hw2]; exact ((((Fr.rf _ _).up rfl).up rfl).up rfl).up rfl) | (rw [hw8, hw7, hw5, hw4]; exact ((((Fr.rf _ _).up rfl).up rfl).up rfl).up rfl)
            · exact ⟨f0, F30_1, F30_2, by first | (rw [if_pos hz, F30_3, hx0]) | (rw [if_neg hz, f3]), by rw [F30_4, hx0], by first | (rw [if_pos hz, f5]) | (rw [if_neg hz, F30_5])⟩
        ·
          refine v_iconst (pc' := 46) rfl dX7_number_45 ?_
          refine v_iret dX7_number_46 (by decide) (rfl) ?_
          exact Or.inr (Or.inr (Or.inl ⟨hs24, by omega, by omega, rfl, rfl⟩))
      ·
        refine v_iconst (pc' := 32) rfl dX7_number_31 ?_
        refine v_iret dX7_number_32 (by decide) (rfl) ?_
        exact Or.inr (Or.inl ⟨hs24, by omega, rfl, rfl⟩)
  ·
    refine v_aload_n 0 (pc' := 9) rfl dX7_number_8 rfl rfl ?_
    refine v_get (z := (st : Int)) (pc' := 12) rfl dX7_number_9 fk_RX7_15 ly_30 rfl (f1) ?_
    refine v_iconst (pc' := 13) rfl dX7_number_12 ?_
    refine v_icmp_eq (pc' := 16) (tgt := 18) rfl dX7_number_13 (by decide) (by omega) (by omega) (fun c1 => ?_) (fun c1 => ?_)
    ·
      have hs24 : st = 2 ∨ st = 4 := by omega
      refine v_iload_n 1 (pc' := 19) rfl dX7_number_18 rfl rfl ?_
      refine v_iconst (pc' := 20) rfl dX7_number_19 ?_
      refine v_icmp_lt (pc' := 23) (tgt := 31) rfl dX7_number_20 (by decide) (by omega) (by omega) (fun c2 => ?_) (fun c2 => ?_)
      ·
        refine v_iconst (pc' := 32) rfl dX7_number_31 ?_
        refine v_iret dX7_number_32 (by decide) (rfl) ?_
        exact Or.inr (Or.inl ⟨hs24, by omega, rfl, rfl⟩)
      ·
        refine v_iload_n 1 (pc' := 24) rfl dX7_number_23 rfl rfl ?_
        refine v_aload_n 0 (pc' := 25) rfl dX7_number_24 rfl rfl ?_
        refine v_get (z := (n : Int)) (pc' := 28) rfl dX7_number_25 fk_RX7_9 ly_30 rfl (f0) ?_
        refine v_icmp_le (pc' := 31) (tgt := 33) rfl dX7_number_28 (by decide) (by omega) (by omega) (fun c3 => ?_) (fun c3 => ?_)
        ·
          refine v_aload_n 0 (pc' := 34) rfl dX7_number_33 rfl rfl ?_
          refine v_get (z := (tl : Int)) (pc' := 37) rfl dX7_number_34 fk_RX7_18 ly_30 rfl (f2) ?_
          refine v_iload_n 1 (pc' := 38) rfl dX7_number_37 rfl rfl ?_
          refine v_cSP (pc' := 41) rfl dX7_number_38 lk_RX7_47 rfl (c_bit l G hx0 (by omega) (by omega) w) rfl rfl rfl ?_
          refine v_nm (fun bit1 hbit1 => ?_)
          refine v_iand (z := ((tl &&& bt x : Nat) : Int)) (pc' := 42) rfl dX7_number_41 (iz_andE rfl hbit1) ?_
          refine v_if_eq (pc' := 45) (tgt := 47) rfl dX7_number_42 (by decide) (by have := and_lt7 (b := bt x) htl; omega) (fun c4 => ?_) (fun c4 => ?_)
          ·
            refine v_aload_n 0 (pc' := 48) rfl dX7_number_47 rfl rfl ?_
            refine v_get (z := (fi : Int)) (pc' := 51) rfl dX7_number_48 fk_RX7_21 ly_30 rfl (f3) ?_
            refine v_if_ne (pc' := 54) (tgt := 62) rfl dX7_number_51 (by decide) (by omega) (fun c5 => ?_) (fun c5 => ?_)
            ·
              have hz : ¬ fi = 0 := by omega
              have ho := hop (hfs hz)
              refine v_aload_n 0 (pc' := 63) rfl dX7_number_62 rfl rfl ?_
              refine v_dupR (pc' := 64) rfl dX7_number_63 ?_
              refine v_get (z := ((hx g : Nat) : Int)) (pc' := 67) rfl dX7_number_64 fk_RX7_27 ly_30 rfl (f5) ?_
              refine v_iload_n 1 (pc' := 68) rfl dX7_number_67 rfl rfl ?_
              refine v_aload_n 0 (pc' := 69) rfl dX7_number_68 rfl rfl ?_
              refine v_get (z := (la : Int)) (pc' := 72) rfl dX7_number_69 fk_RX7_24 ly_30 rfl (f4) ?_
              refine v_cSP (pc' := 75) rfl dX7_number_72 lk_RX7_42 rfl (c_shift l G w) rfl rfl rfl ?_
              refine v_nm (fun shift1 hshift1 => ?_)
              refine v_ishl (z := ((x * 2 ^ (28 - 4 * la) : Nat) : Int)) (pc' := 76) rfl dX7_number_75 (iz_shlE hx0 (by omega) (by omega)) ?_
              refine v_ior (z := ((hx (gset g la x) : Nat) : Int)) (pc' := 77) rfl dX7_number_76 (by rw [iz_or]; exact congrArg (fun q : Nat => iz (q : Int)) (hx_or hg.le15 ho.1 hla ho.2.1 (by omega))) ?_
              refine v_put (pc' := 80) rfl dX7_number_77 fi_RX7_27 ly_30 rfl ?_
              refine v_nmw (fun w4 hw4 => ?_)
              have f0 : w4 30 0 = (n : Int) := by rw [hw4, up_ne _ _ (by omega)]; exact f0
              have f1 : w4 30 1 = (st : Int) := by rw [hw4, up_ne _ _ (by omega)]; exact f1
              have f2 : w4 30 2 = (tl : Int) := by rw [hw4, up_ne _ _ (by omega)]; exact f2
              have f3 : w4 30 3 = (fi : Int) := by rw [hw4, up_ne _ _ (by omega)]; exact f3
              have f4 : w4 30 4 = (la : Int) := by rw [hw4, up_ne _ _ (by omega)]; exact f4
              have F30_5 : w4 30 5 = (((hx (gset g la x) : Nat) : Int)) := by rw [hw4, up_eq]
              refine v_aload_n 0 (pc' := 81) rfl dX7_number_80 rfl rfl ?_
              refine v_iload_n 1 (pc' := 82) rfl dX7_number_81 rfl rfl ?_
              refine v_put (pc' := 85) rfl dX7_number_82 fi_RX7_24 ly_30 rfl ?_
              refine v_nmw (fun w5 hw5 => ?_)
              have f0 : w5 30 0 = (n : Int) := by rw [hw5, up_ne _ _ (by omega)]; exact f0
              have f1 : w5 30 1 = (st : Int) := by rw [hw5, up_ne _ _ (by omega)]; exact f1
              have f2 : w5 30 2 = (tl : Int) := by rw [hw5, up_ne _ _ (by omega)]; exact f2
              have f3 : w5 30 3 = (fi : Int) := by rw [hw5, up_ne _ _ (by omega)]; exact f3
              have F30_5 : w5 30 5 = (((hx (gset g la x) : Nat) : Int)) := by rw [hw5, up_ne _ _ (by omega)]; exact F30_5
              have F30_4 : w5 30 4 = x0 := by rw [hw5, up_eq]
              refine v_aload_n 0 (pc' := 86) rfl dX7_number_85 rfl rfl ?_
              refine v_dupR (pc' := 87) rfl dX7_number_86 ?_
              refine v_get (z := (tl : Int)) (pc' := 90) rfl dX7_number_87 fk_RX7_18 ly_30 rfl (f2) ?_
              refine v_iload_n 1 (pc' := 91) rfl dX7_number_90 rfl rfl ?_
              refine v_cSP (pc' := 94) rfl dX7_number_91 lk_RX7_47 rfl (c_bit l G hx0 (by omega) (by omega) w5) rfl rfl rfl ?_
              refine v_nm (fun bit2 hbit2 => ?_)
              refine v_ior (z := ((tl ||| bt x : Nat) : Int)) (pc' := 95) rfl dX7_number_94 (iz_orE rfl hbit2) ?_
              refine v_put (pc' := 98) rfl dX7_number_95 fi_RX7_18 ly_30 rfl ?_
              refine v_nmw (fun w7 hw7 => ?_)
              have f0 : w7 30 0 = (n : Int) := by rw [hw7, up_ne _ _ (by omega)]; exact f0
              have f1 : w7 30 1 = (st : Int) := by rw [hw7, up_ne _ _ (by omega)]; exact f1
              have f3 : w7 30 3 = (fi : Int) := by rw [hw7, up_ne _ _ (by omega)]; exact f3
              have F30_5 : w7 30 5 = (((hx (gset g la x) : Nat) : Int)) := by rw [hw7, up_ne _ _ (by omega)]; exact F30_5
              have F30_4 : w7 30 4 = x0 := by rw [hw7, up_ne _ _ (by omega)]; exact F30_4
              have F30_2 : w7 30 2 = (((tl ||| bt x : Nat) : Int)) := by rw [hw7, up_eq]
              refine v_aload_n 0 (pc' := 99) rfl dX7_number_98 rfl rfl ?_
              refine v_iconst (pc' := 100) rfl dX7_number_99 ?_
              refine v_put (pc' := 103) rfl dX7_number_100 fi_RX7_15 ly_30 rfl ?_
              refine v_nmw (fun w8 hw8 => ?_)
              have f0 : w8 30 0 = (n : Int) := by rw [hw8, up_ne _ _ (by omega)]; exact f0
              have f3 : w8 30 3 = (fi : Int) := by rw [hw8, up_ne _ _ (by omega)]; exact f3
              have F30_5 : w8 30 5 = (((hx (gset g la x) : Nat) : Int)) := by rw [hw8, up_ne _ _ (by omega)]; exact F30_5
              have F30_4 : w8 30 4 = x0 := by rw [hw8, up_ne _ _ (by omega)]; exact F30_4
              have F30_2 : w8 30 2 = (((tl ||| bt x : Nat) : Int)) := by rw [hw8, up_ne _ _ (by omega)]; exact F30_2
              have F30_1 : w8 30 1 = 3 := by rw [hw8, up_eq]
              refine v_iconst (pc' := 104) rfl dX7_number_103 ?_
              refine v_iret dX7_number_104 (by decide) (rfl) ?_
              refine Or.inr (Or.inr (Or.inr ⟨hs24, by omega, by omega, rfl, ?_, ?_⟩))
              · first | (rw [hw8, hw7, hw5, hw2]; exact ((((Fr.rf _ _).up rfl).up rfl).up rfl).up rfl) | (rw [hw8, hw7, hw5, hw4]; exact ((((Fr.rf _ _).up rfl).up rfl).up rfl).up rfl)
              · exact ⟨f0, F30_1, F30_2, by first | (rw [if_pos hz, F30_3, hx0]) | (rw [if_neg hz, f3]), by rw [F30_4, hx0], by first | (rw [if_pos hz, f5]) | (rw [if_neg hz, F30_5])⟩
            ·
              have hz : fi = 0 := by omega
              refine v_aload_n 0 (pc' := 55) rfl dX7_number_54 rfl rfl ?_
              refine v_iload_n 1 (pc' := 56) rfl dX7_number_55 rfl rfl ?_
              refine v_put (pc' := 59) rfl dX7_number_56 fi_RX7_21 ly_30 rfl ?_
              refine v_nmw (fun w2 hw2 => ?_)
              have f0 : w2 30 0 = (n : Int) := by rw [hw2, up_ne _ _ (by omega)]; exact f0
              have f1 : w2 30 1 = (st : Int) := by rw [hw2, up_ne _ _ (by omega)]; exact f1
              have f2 : w2 30 2 = (tl : Int) := by rw [hw2, up_ne _ _ (by omega)]; exact f2
              have f4 : w2 30 4 = (la : Int) := by rw [hw2, up_ne _ _ (by omega)]; exact f4
              have f5 : w2 30 5 = ((hx g : Nat) : Int) := by rw [hw2, up_ne _ _ (by omega)]; exact f5
              have F30_3 : w2 30 3 = x0 := by rw [hw2, up_eq]
              refine v_goto (tgt := 80) dX7_number_59 (by decide) ?_
              refine v_aload_n 0 (pc' := 81) rfl dX7_number_80 rfl rfl ?_
              refine v_iload_n 1 (pc' := 82) rfl dX7_number_81 rfl rfl ?_
              refine v_put (pc' := 85) rfl dX7_number_82 fi_RX7_24 ly_30 rfl ?_
              refine v_nmw (fun w5 hw5 => ?_)
              have f0 : w5 30 0 = (n : Int) := by rw [hw5, up_ne _ _ (by omega)]; exact f0
              have f1 : w5 30 1 = (st : Int) := by rw [hw5, up_ne _ _ (by omega)]; exact f1
              have f2 : w5 30 2 = (tl : Int) := by rw [hw5, up_ne _ _ (by omega)]; exact f2
              have f5 : w5 30 5 = ((hx g : Nat) : Int) := by rw [hw5, up_ne _ _ (by omega)]; exact f5
              have F30_3 : w5 30 3 = x0 := by rw [hw5, up_ne _ _ (by omega)]; exact F30_3
              have F30_4 : w5 30 4 = x0 := by rw [hw5, up_eq]
              refine v_aload_n 0 (pc' := 86) rfl dX7_number_85 rfl rfl ?_
              refine v_dupR (pc' := 87) rfl dX7_number_86 ?_
              refine v_get (z := (tl : Int)) (pc' := 90) rfl dX7_number_87 fk_RX7_18 ly_30 rfl (f2) ?_
              refine v_iload_n 1 (pc' := 91) rfl dX7_number_90 rfl rfl ?_
              refine v_cSP (pc' := 94) rfl dX7_number_91 lk_RX7_47 rfl (c_bit l G hx0 (by omega) (by omega) w5) rfl rfl rfl ?_
              refine v_nm (fun bit2 hbit2 => ?_)
              refine v_ior (z := ((tl ||| bt x : Nat) : Int)) (pc' := 95) rfl dX7_number_94 (iz_orE rfl hbit2) ?_
              refine v_put (pc' := 98) rfl dX7_number_95 fi_RX7_18 ly_30 rfl ?_
              refine v_nmw (fun w7 hw7 => ?_)
              have f0 : w7 30 0 = (n : Int) := by rw [hw7, up_ne _ _ (by omega)]; exact f0
              have f1 : w7 30 1 = (st : Int) := by rw [hw7, up_ne _ _ (by omega)]; exact f1
              have f5 : w7 30 5 = ((hx g : Nat) : Int) := by rw [hw7, up_ne _ _ (by omega)]; exact f5
              have F30_3 : w7 30 3 = x0 := by rw [hw7, up_ne _ _ (by omega)]; exact F30_3
              have F30_4 : w7 30 4 = x0 := by rw [hw7, up_ne _ _ (by omega)]; exact F30_4
              have F30_2 : w7 30 2 = (((tl ||| bt x : Nat) : Int)) := by rw [hw7, up_eq]
              refine v_aload_n 0 (pc' := 99) rfl dX7_number_98 rfl rfl ?_
              refine v_iconst (pc' := 100) rfl dX7_number_99 ?_
              refine v_put (pc' := 103) rfl dX7_number_100 fi_RX7_15 ly_30 rfl ?_
              refine v_nmw (fun w8 hw8 => ?_)
              have f0 : w8 30 0 = (n : Int) := by rw [hw8, up_ne _ _ (by omega)]; exact f0
              have f5 : w8 30 5 = ((hx g : Nat) : Int) := by rw [hw8, up_ne _ _ (by omega)]; exact f5
              have F30_3 : w8 30 3 = x0 := by rw [hw8, up_ne _ _ (by omega)]; exact F30_3
              have F30_4 : w8 30 4 = x0 := by rw [hw8, up_ne _ _ (by omega)]; exact F30_4
              have F30_2 : w8 30 2 = (((tl ||| bt x : Nat) : Int)) := by rw [hw8, up_ne _ _ (by omega)]; exact F30_2
              have F30_1 : w8 30 1 = 3 := by rw [hw8, up_eq]
              refine v_iconst (pc' := 104) rfl dX7_number_103 ?_
              refine v_iret dX7_number_104 (by decide) (rfl) ?_
              refine Or.inr (Or.inr (Or.inr ⟨hs24, by omega, by omega, rfl, ?_, ?_⟩))
              · first | (rw [hw8, hw7, hw5, hw2]; exact ((((Fr.rf _ _).up rfl).up rfl).up rfl).up rfl) | (rw [hw8, hw7, hw5, hw4]; exact ((((Fr.rf _ _).up rfl).up rfl).up rfl).up rfl)
              · exact ⟨f0, F30_1, F30_2, by first | (rw [if_pos hz, F30_3, hx0]) | (rw [if_neg hz, f3]), by rw [F30_4, hx0], by first | (rw [if_pos hz, f5]) | (rw [if_neg hz, F30_5])⟩
          ·
            refine v_iconst (pc' := 46) rfl dX7_number_45 ?_
            refine v_iret dX7_number_46 (by decide) (rfl) ?_
            exact Or.inr (Or.inr (Or.inl ⟨hs24, by omega, by omega, rfl, rfl⟩))
        ·
          refine v_iconst (pc' := 32) rfl dX7_number_31 ?_
          refine v_iret dX7_number_32 (by decide) (rfl) ?_
          exact Or.inr (Or.inl ⟨hs24, by omega, rfl, rfl⟩)
    ·
      refine v_iconst (pc' := 17) rfl dX7_number_16 ?_
      refine v_iret dX7_number_17 (by decide) (rfl) ?_
      exact Or.inl ⟨by omega, rfl, rfl⟩
set_option maxHeartbeats 4000000 in
set_option maxRecDepth 100000 in
theorem c_complete (l : Launch) (G : Gx) {st : Nat} (hst : st ≤ 5) (w : Wd) (hs : w 30 1 = st) : SpP l G 0 mX7_complete [aR 30] w ((if st = 1 ∨ st = 5 then 1 else 0 : Int)) := by
  refine Sp_of RX7 rfl (by decide +kernel) rfl (Nat.le_of_ble_eq_true rfl) ?_
  refine v_aload_n 0 (pc' := 1) rfl dX7_complete_0 rfl rfl ?_
  refine v_get (z := (st : Int)) (pc' := 4) rfl dX7_complete_1 fk_RX7_15 ly_30 rfl (hs) ?_
  refine v_iconst (pc' := 5) rfl dX7_complete_4 ?_
  refine v_icmp_eq (pc' := 8) (tgt := 16) rfl dX7_complete_5 (by decide) (by omega) (by omega) (fun c0 => ?_) (fun c0 => ?_)
  ·
    have hz : st = 1 ∨ st = 5 := by omega
    refine v_iconst (pc' := 17) rfl dX7_complete_16 ?_
    refine v_goto (tgt := 21) dX7_complete_17 (by decide) ?_
    refine v_iret dX7_complete_21 (by decide) (rfl) ?_
    first | exact ⟨by rw [if_pos hz], rfl⟩ | exact ⟨by rw [if_neg hz], rfl⟩
  ·
    refine v_aload_n 0 (pc' := 9) rfl dX7_complete_8 rfl rfl ?_
    refine v_get (z := (st : Int)) (pc' := 12) rfl dX7_complete_9 fk_RX7_15 ly_30 rfl (hs) ?_
    refine v_iconst (pc' := 13) rfl dX7_complete_12 ?_
    refine v_icmp_ne (pc' := 16) (tgt := 20) rfl dX7_complete_13 (by decide) (by omega) (by omega) (fun c1 => ?_) (fun c1 => ?_)
    ·
      have hz : ¬ (st = 1 ∨ st = 5) := by omega
      refine v_iconst (pc' := 21) rfl dX7_complete_20 ?_
      refine v_iret dX7_complete_21 (by decide) (rfl) ?_
      first | exact ⟨by rw [if_pos hz], rfl⟩ | exact ⟨by rw [if_neg hz], rfl⟩
    ·
      have hz : st = 1 ∨ st = 5 := by omega
      refine v_iconst (pc' := 17) rfl dX7_complete_16 ?_
      refine v_goto (tgt := 21) dX7_complete_17 (by decide) ?_
      refine v_iret dX7_complete_21 (by decide) (rfl) ?_
      first | exact ⟨by rw [if_pos hz], rfl⟩ | exact ⟨by rw [if_neg hz], rfl⟩
/-- what was read, the darts that were not told staying -/
def rdP (tl : Nat) (g : Nat → Nat) : Nat → (Nat → Nat)
  | 0 => g
  | k + 1 => if tl &&& bt (k + 1) = 0 then gset (rdP tl g k) (k + 1) (k + 1) else rdP tl g k
theorem rdP_hi (tl : Nat) (g : Nat → Nat) : ∀ k z, k < z → rdP tl g k z = g z
  | 0, _, _ => rfl
  | k + 1, z, h => by
    simp only [rdP]
    split
    · unfold gset; rw [if_neg (by omega)]; exact rdP_hi tl g k z (by omega)
    · exact rdP_hi tl g k z (by omega)
theorem rdP_7 {tl : Nat} {g : Nat → Nat} (hg : B7 g) : ∀ k, k ≤ 7 → B7 (rdP tl g k)
  | 0, _ => hg
  | k + 1, h => by
    simp only [rdP]
    split
    · exact gset_7 (rdP_7 hg k (by omega)) h
    · exact rdP_7 hg k (by omega)
set_option maxHeartbeats 4000000 in
set_option maxRecDepth 100000 in
theorem c_permutation7 (l : Launch) (G : Gx) {tl : Nat} {g : Nat → Nat} (htl : tl < 128) (hg : B7 g) (hz : ∀ z, 1 ≤ z → z ≤ 7 → tl &&& bt z = 0 → g z = 0) (w : Wd) (h2 : w 30 2 = tl) (h5 : w 30 5 = (hx g : Nat)) : SpP l G 1 mX7_permutation [aR 30] w (((hx (rdP tl g 7) : Nat) : Int)) := by
  refine Sp_of RX7 rfl (by decide +kernel) rfl (Nat.le_of_ble_eq_true rfl) ?_
  refine v_aload_n 0 (pc' := 1) rfl dX7_permutation_0 rfl rfl ?_
  refine v_get (z := ((hx g : Nat) : Int)) (pc' := 4) rfl dX7_permutation_1 fk_RX7_27 ly_30 rfl (h5) ?_
  refine v_nm (fun q' hq' => ?_)
  refine v_istore_n (ls' := [(1, _), (0, _)]) (pc' := 5) rfl dX7_permutation_4 rfl rfl rfl ?_
  refine v_iconst (pc' := 6) rfl dX7_permutation_5 ?_
  refine v_istore_n (ls' := [(2, _), (1, _), (0, _)]) (pc' := 7) rfl dX7_permutation_6 rfl rfl rfl ?_
  refine v_ls [2, 1, 0] rfl ?_
  refine v_loop2 7 (fun (q : Int) (x : Int) => ∃ k : Nat, x = k + 1 ∧ k ≤ 7 ∧ q = (hx (rdP tl g k) : Nat)) (fun (q : Int) (x : Int) => (8 - x).toNat) (fun (q : Int) (x : Int) => [(0, aR 30), (1, aI (q)), (2, aI (x))]) (fun (q : Int) (x : Int) => []) (fun (q : Int) (x : Int) => w) (fun q x hI0 ih0 => ?_) (q') (1) (⟨0, rfl, by omega, hq'⟩)
  obtain ⟨k, hk, hk7, hq⟩ := hI0
  refine v_iload_n 2 (pc' := 8) rfl dX7_permutation_7 rfl rfl ?_
  refine v_bipush (pc' := 10) rfl dX7_permutation_8 rfl ?_
  refine v_icmp_gt (pc' := 13) (tgt := 40) rfl dX7_permutation_10 (by decide) (by omega) (by omega) (fun c0 => ?_) (fun c0 => ?_)
  ·
    refine v_iload_n 1 (pc' := 41) rfl dX7_permutation_40 rfl rfl ?_
    refine v_iret dX7_permutation_41 (by decide) (rfl) ?_
    have e7 : k = 7 := by omega
    subst e7
    exact ⟨hq, rfl⟩
  ·
    refine v_aload_n 0 (pc' := 14) rfl dX7_permutation_13 rfl rfl ?_
    refine v_get (z := (tl : Int)) (pc' := 17) rfl dX7_permutation_14 fk_RX7_18 ly_30 rfl (h2) ?_
    refine v_iload_n 2 (pc' := 18) rfl dX7_permutation_17 rfl rfl ?_
    refine v_cSP (pc' := 21) rfl dX7_permutation_18 lk_RX7_47 rfl (c_bit l G (x := k + 1) (by omega) (by omega) (by omega) w) rfl rfl rfl ?_
    refine v_nm (fun bit1 hbit1 => ?_)
    refine v_iand (z := ((tl &&& bt (k + 1) : Nat) : Int)) (pc' := 22) rfl dX7_permutation_21 (iz_andE rfl hbit1) ?_
    refine v_if_ne (pc' := 25) (tgt := 34) rfl dX7_permutation_22 (by decide) (by have := and_lt7 (b := bt (k + 1)) htl; omega) (fun c1 => ?_) (fun c1 => ?_)
    ·
      have hA : ¬ tl &&& bt (k + 1) = 0 := by omega
      refine v_iinc (ls' := [(2, _), (0, _), (1, _)]) 2 (pc' := 37) rfl dX7_permutation_34 rfl rfl rfl ?_
      refine v_nl (fun x' hx' => ?_)
      refine v_goto (tgt := 7) dX7_permutation_37 (by decide) ?_
      refine v_ls [1, 2, 0] rfl ?_
      exact ih0 (q) (x') (⟨k + 1, by omega, by omega, by simp only [rdP]; rw [if_neg hA, hq]⟩) (by omega)
    ·
      have hA : tl &&& bt (k + 1) = 0 := by omega
      refine v_iload_n 1 (pc' := 26) rfl dX7_permutation_25 rfl rfl ?_
      refine v_iload_n 2 (pc' := 27) rfl dX7_permutation_26 rfl rfl ?_
      refine v_iload_n 2 (pc' := 28) rfl dX7_permutation_27 rfl rfl ?_
      refine v_cSP (pc' := 31) rfl dX7_permutation_28 lk_RX7_42 rfl (c_shift l G w) rfl rfl rfl ?_
      refine v_nm (fun shift1 hshift1 => ?_)
      refine v_ishl (z := (((k + 1) * 2 ^ (28 - 4 * (k + 1)) : Nat) : Int)) (pc' := 32) rfl dX7_permutation_31 (iz_shlE (n := k + 1) (by omega) (by omega) (by omega)) ?_
      refine v_ior (z := ((hx (gset (rdP tl g k) (k + 1) (k + 1)) : Nat) : Int)) (pc' := 33) rfl dX7_permutation_32 (by rw [hq, iz_or]; exact congrArg (fun q : Nat => iz (q : Int)) (hx_or (rdP_7 hg k (by omega)).le15 (by omega) (by omega) (by rw [rdP_hi tl g k _ (by omega)]; exact hz _ (by omega) (by omega) hA) (by omega))) ?_
      refine v_nm (fun q' hq' => ?_)
      refine v_istore_n (ls' := [(1, _), (0, _), (2, _)]) (pc' := 34) rfl dX7_permutation_33 rfl rfl rfl ?_
      refine v_iinc (ls' := [(2, _), (1, _), (0, _)]) 2 (pc' := 37) rfl dX7_permutation_34 rfl rfl rfl ?_
      refine v_nl (fun x' hx' => ?_)
      refine v_goto (tgt := 7) dX7_permutation_37 (by decide) ?_
      refine v_ls [2, 1, 0] rfl ?_
      exact ih0 (q') (x') (⟨k + 1, by omega, by omega, by simp only [rdP]; rw [if_pos hA, hq']⟩) (by omega)
set_option maxHeartbeats 4000000 in
set_option maxRecDepth 100000 in
theorem c_fault (l : Launch) (G : Gx) {c0 : Int} {c : Nat} (hc0 : c0 = c) (hc : c < 256) {n st tl fi la : Nat} {g : Nat → Nat} (ok : rdOK n st tl fi la g) (w : Wd) (hR : RdI w n st tl fi la g) : Sp l G 2 mX7_fault [aR 30, aI (c0)] w (fun z w' => z = (rdFault n st tl c : Nat) ∧ Fr [30] w w' ∧ (rdFault n st tl c = 0 → RdI w' n (rdSt st c) (rdTl tl c) (rdFi fi c) (rdLa la c) (rdG fi la g c))) := by
  have hRR := hR
  obtain ⟨hn7, hst, htl, hfi, hla, hg, hop, hfs⟩ := id ok
  obtain ⟨f0, f1, f2, f3, f4, f5⟩ := hR
  refine Sp_of RX7 rfl (by decide +kernel) rfl (Nat.le_of_ble_eq_true rfl) ?_
  refine v_iload_n 1 (pc' := 1) rfl dX7_fault_0 rfl rfl ?_
  rcases (show c0 = 32 ∨ c0 = 40 ∨ c0 = 41 ∨ c0 = 101 ∨ (c0 ≠ 32 ∧ c0 ≠ 40 ∧ c0 ≠ 41 ∧ c0 ≠ 101) by omega) with sw0 | sw0 | sw0 | sw0 | sw0
  ·
    refine v_lsw (off := 43) (tgt := 44) dX7_fault_1 (by decide) (by omega) (by rw [sw0]; decide) (by decide) ?_
    obtain rfl : c = 32 := by omega
    refine v_aload_n 0 (pc' := 45) rfl dX7_fault_44 rfl rfl ?_
    refine v_aload_n 0 (pc' := 46) rfl dX7_fault_45 rfl rfl ?_
    refine v_get (z := (st : Int)) (pc' := 49) rfl dX7_fault_46 fk_RX7_15 ly_30 rfl (f1) ?_
    refine v_iconst (pc' := 50) rfl dX7_fault_49 ?_
    refine v_icmp_ne (pc' := 53) (tgt := 57) rfl dX7_fault_50 (by decide) (by omega) (by omega) (fun c0 => ?_) (fun c0 => ?_)
    ·
      have hA : ¬ st = 3 := by omega
      refine v_aload_n 0 (pc' := 58) rfl dX7_fault_57 rfl rfl ?_
      refine v_get (z := (st : Int)) (pc' := 61) rfl dX7_fault_58 fk_RX7_15 ly_30 rfl (f1) ?_
      refine v_put (pc' := 64) rfl dX7_fault_61 fi_RX7_15 ly_30 rfl ?_
      refine v_nmw (fun w1 hw1 => ?_)
      have f0 : w1 30 0 = (n : Int) := by rw [hw1, up_ne _ _ (by omega)]; exact f0
      have f2 : w1 30 2 = (tl : Int) := by rw [hw1, up_ne _ _ (by omega)]; exact f2
      have f3 : w1 30 3 = (fi : Int) := by rw [hw1, up_ne _ _ (by omega)]; exact f3
      have f4 : w1 30 4 = (la : Int) := by rw [hw1, up_ne _ _ (by omega)]; exact f4
      have f5 : w1 30 5 = ((hx g : Nat) : Int) := by rw [hw1, up_ne _ _ (by omega)]; exact f5
      have F30_1 : w1 30 1 = (st : Int) := by rw [hw1, up_eq]
      refine v_iconst (pc' := 65) rfl dX7_fault_64 ?_
      refine v_iret dX7_fault_65 (by decide) (rfl) ?_
      refine ⟨rfl, by rw [hw1]; exact (Fr.rf _ _).up rfl, fun _ => ?_⟩
      simp [RdI, hw1, up_at, rdSt, rdTl, rdFi, rdLa, rdG, hA, hRR.1, hRR.2.1, hRR.2.2.1, hRR.2.2.2.1, hRR.2.2.2.2.1, hRR.2.2.2.2.2]
    ·
      have hA : st = 3 := by omega
      refine v_iconst (pc' := 54) rfl dX7_fault_53 ?_
      refine v_goto (tgt := 61) dX7_fault_54 (by decide) ?_
      refine v_put (pc' := 64) rfl dX7_fault_61 fi_RX7_15 ly_30 rfl ?_
      refine v_nmw (fun w1 hw1 => ?_)
      have f0 : w1 30 0 = (n : Int) := by rw [hw1, up_ne _ _ (by omega)]; exact f0
      have f2 : w1 30 2 = (tl : Int) := by rw [hw1, up_ne _ _ (by omega)]; exact f2
      have f3 : w1 30 3 = (fi : Int) := by rw [hw1, up_ne _ _ (by omega)]; exact f3
      have f4 : w1 30 4 = (la : Int) := by rw [hw1, up_ne _ _ (by omega)]; exact f4
      have f5 : w1 30 5 = ((hx g : Nat) : Int) := by rw [hw1, up_ne _ _ (by omega)]; exact f5
      have F30_1 : w1 30 1 = 4 := by rw [hw1, up_eq]
      refine v_iconst (pc' := 65) rfl dX7_fault_64 ?_
      refine v_iret dX7_fault_65 (by decide) (rfl) ?_
      refine ⟨rfl, by rw [hw1]; exact (Fr.rf _ _).up rfl, fun _ => ?_⟩
      simp [RdI, hw1, up_at, rdSt, rdTl, rdFi, rdLa, rdG, hA, hRR.1, hRR.2.1, hRR.2.2.1, hRR.2.2.2.1, hRR.2.2.2.2.1, hRR.2.2.2.2.2]
  ·
    refine v_lsw (off := 65) (tgt := 66) dX7_fault_1 (by decide) (by omega) (by rw [sw0]; decide) (by decide) ?_
    obtain rfl : c = 40 := by omega
    refine v_aload_n 0 (pc' := 67) rfl dX7_fault_66 rfl rfl ?_
    refine v_aload_n 0 (pc' := 68) rfl dX7_fault_67 rfl rfl ?_
    refine v_get (z := (st : Int)) (pc' := 71) rfl dX7_fault_68 fk_RX7_15 ly_30 rfl (f1) ?_
    refine v_if_eq (pc' := 74) (tgt := 82) rfl dX7_fault_71 (by decide) (by omega) (fun c1 => ?_) (fun c1 => ?_)
    ·
      have hA : st = 0 ∨ st = 1 := by omega
      refine v_iconst (pc' := 83) rfl dX7_fault_82 ?_
      refine v_goto (tgt := 87) dX7_fault_83 (by decide) ?_
      refine v_iconst (pc' := 88) rfl dX7_fault_87 ?_
      refine v_cVi (pc' := 91) rfl dX7_fault_88 lk_RX7_30 ly_30 rfl (c_step7 l G (by omega) w) rfl rfl rfl (fun step1 w2 hq2 => ?_)
      refine v_iret dX7_fault_91 (by decide) (rfl) ?_
      rcases hq2 with ⟨h1, rfl, rfl⟩ | ⟨h1, rfl, rfl⟩
      · first | (exact absurd h1 (by decide)) | (refine ⟨by simp [rdFault, hA], Fr.rf _ _, fun h => absurd h (by simp [rdFault, hA])⟩)
      · first | (exact absurd h1 (by decide)) | (refine ⟨by simp [rdFault, hA], (Fr.rf _ _).up rfl, fun _ => ?_⟩; simp [RdI, up_at, rdSt, rdTl, rdFi, rdLa, rdG, hRR.1, hRR.2.1, hRR.2.2.1, hRR.2.2.2.1, hRR.2.2.2.2.1, hRR.2.2.2.2.2])
    ·
      refine v_aload_n 0 (pc' := 75) rfl dX7_fault_74 rfl rfl ?_
      refine v_get (z := (st : Int)) (pc' := 78) rfl dX7_fault_75 fk_RX7_15 ly_30 rfl (f1) ?_
      refine v_iconst (pc' := 79) rfl dX7_fault_78 ?_
      refine v_icmp_ne (pc' := 82) (tgt := 86) rfl dX7_fault_79 (by decide) (by omega) (by omega) (fun c2 => ?_) (fun c2 => ?_)
      ·
        have hA : ¬ (st = 0 ∨ st = 1) := by omega
        refine v_iconst (pc' := 87) rfl dX7_fault_86 ?_
        refine v_iconst (pc' := 88) rfl dX7_fault_87 ?_
        refine v_cVi (pc' := 91) rfl dX7_fault_88 lk_RX7_30 ly_30 rfl (c_step7 l G (by omega) w) rfl rfl rfl (fun step1 w2 hq2 => ?_)
        refine v_iret dX7_fault_91 (by decide) (rfl) ?_
        rcases hq2 with ⟨h1, rfl, rfl⟩ | ⟨h1, rfl, rfl⟩
        · first | (exact absurd h1 (by decide)) | (refine ⟨by simp [rdFault, hA], Fr.rf _ _, fun h => absurd h (by simp [rdFault, hA])⟩)
        · first | (exact absurd h1 (by decide)) | (refine ⟨by simp [rdFault, hA], (Fr.rf _ _).up rfl, fun _ => ?_⟩; simp [RdI, up_at, rdSt, rdTl, rdFi, rdLa, rdG, hRR.1, hRR.2.1, hRR.2.2.1, hRR.2.2.2.1, hRR.2.2.2.2.1, hRR.2.2.2.2.2])
      ·
        have hA : st = 0 ∨ st = 1 := by omega
        refine v_iconst (pc' := 83) rfl dX7_fault_82 ?_
        refine v_goto (tgt := 87) dX7_fault_83 (by decide) ?_
        refine v_iconst (pc' := 88) rfl dX7_fault_87 ?_
        refine v_cVi (pc' := 91) rfl dX7_fault_88 lk_RX7_30 ly_30 rfl (c_step7 l G (by omega) w) rfl rfl rfl (fun step1 w2 hq2 => ?_)
        refine v_iret dX7_fault_91 (by decide) (rfl) ?_
        rcases hq2 with ⟨h1, rfl, rfl⟩ | ⟨h1, rfl, rfl⟩
        · first | (exact absurd h1 (by decide)) | (refine ⟨by simp [rdFault, hA], Fr.rf _ _, fun h => absurd h (by simp [rdFault, hA])⟩)
        · first | (exact absurd h1 (by decide)) | (refine ⟨by simp [rdFault, hA], (Fr.rf _ _).up rfl, fun _ => ?_⟩; simp [RdI, up_at, rdSt, rdTl, rdFi, rdLa, rdG, hRR.1, hRR.2.1, hRR.2.2.1, hRR.2.2.2.1, hRR.2.2.2.2.1, hRR.2.2.2.2.2])
  ·
    refine v_lsw (off := 91) (tgt := 92) dX7_fault_1 (by decide) (by omega) (by rw [sw0]; decide) (by decide) ?_
    obtain rfl : c = 41 := by omega
    refine v_aload_n 0 (pc' := 93) rfl dX7_fault_92 rfl rfl ?_
    refine v_cVi (pc' := 96) rfl dX7_fault_93 lk_RX7_34 ly_30 rfl (c_close l G ok w hRR) rfl rfl rfl (fun close1 w3 hq3 => ?_)
    refine v_iret dX7_fault_96 (by decide) (rfl) ?_
    rcases hq3 with ⟨h1, rfl, rfl⟩ | ⟨h1, rfl, rfl⟩
    · exact ⟨by simp [rdFault, h1], Fr.rf _ _, fun h => absurd h (by simp [rdFault, h1])⟩
    · refine ⟨by simp [rdFault, h1], (((Fr.rf _ _).up rfl).up rfl).up rfl, fun _ => ?_⟩
      simp [RdI, up_at, rdSt, rdTl, rdFi, rdLa, rdG, hRR.1, hRR.2.2.1, hRR.2.2.2.2.1]
  ·
    refine v_lsw (off := 96) (tgt := 97) dX7_fault_1 (by decide) (by omega) (by rw [sw0]; decide) (by decide) ?_
    obtain rfl : c = 101 := by omega
    refine v_aload_n 0 (pc' := 98) rfl dX7_fault_97 rfl rfl ?_
    refine v_aload_n 0 (pc' := 99) rfl dX7_fault_98 rfl rfl ?_
    refine v_get (z := (st : Int)) (pc' := 102) rfl dX7_fault_99 fk_RX7_15 ly_30 rfl (f1) ?_
    refine v_if_ne (pc' := 105) (tgt := 109) rfl dX7_fault_102 (by decide) (by omega) (fun c3 => ?_) (fun c3 => ?_)
    ·
      have hA : ¬ st = 0 := by omega
      refine v_iconst (pc' := 110) rfl dX7_fault_109 ?_
      refine v_iconst (pc' := 111) rfl dX7_fault_110 ?_
      refine v_cVi (pc' := 114) rfl dX7_fault_111 lk_RX7_30 ly_30 rfl (c_step7 l G (by omega) w) rfl rfl rfl (fun step2 w4 hq4 => ?_)
      refine v_iret dX7_fault_114 (by decide) (rfl) ?_
      rcases hq4 with ⟨h1, rfl, rfl⟩ | ⟨h1, rfl, rfl⟩
      · first | (exact absurd h1 (by decide)) | (refine ⟨by simp [rdFault, hA], Fr.rf _ _, fun h => absurd h (by simp [rdFault, hA])⟩)
      · first | (exact absurd h1 (by decide)) | (refine ⟨by simp [rdFault, hA], (Fr.rf _ _).up rfl, fun _ => ?_⟩; simp [RdI, up_at, rdSt, rdTl, rdFi, rdLa, rdG, hRR.1, hRR.2.1, hRR.2.2.1, hRR.2.2.2.1, hRR.2.2.2.2.1, hRR.2.2.2.2.2])
    ·
      have hA : st = 0 := by omega
      refine v_iconst (pc' := 106) rfl dX7_fault_105 ?_
      refine v_goto (tgt := 110) dX7_fault_106 (by decide) ?_
      refine v_iconst (pc' := 111) rfl dX7_fault_110 ?_
      refine v_cVi (pc' := 114) rfl dX7_fault_111 lk_RX7_30 ly_30 rfl (c_step7 l G (by omega) w) rfl rfl rfl (fun step2 w4 hq4 => ?_)
      refine v_iret dX7_fault_114 (by decide) (rfl) ?_
      rcases hq4 with ⟨h1, rfl, rfl⟩ | ⟨h1, rfl, rfl⟩
      · first | (exact absurd h1 (by decide)) | (refine ⟨by simp [rdFault, hA], Fr.rf _ _, fun h => absurd h (by simp [rdFault, hA])⟩)
      · first | (exact absurd h1 (by decide)) | (refine ⟨by simp [rdFault, hA], (Fr.rf _ _).up rfl, fun _ => ?_⟩; simp [RdI, up_at, rdSt, rdTl, rdFi, rdLa, rdG, hRR.1, hRR.2.1, hRR.2.2.1, hRR.2.2.2.1, hRR.2.2.2.2.1, hRR.2.2.2.2.2])
  ·
    refine v_lsw (off := 114) (tgt := 115) dX7_fault_1 (by decide) (by omega) (by simp only [Op.lookupswitch.offset]; rw [if_neg (by omega), if_neg (by omega), if_neg (by omega), if_neg (by omega)]) (by decide) ?_
    have n1 : c ≠ 32 := by omega
    have n2 : c ≠ 40 := by omega
    have n3 : c ≠ 41 := by omega
    have n4 : c ≠ 101 := by omega
    refine v_iload_n 1 (pc' := 116) rfl dX7_fault_115 rfl rfl ?_
    refine v_bipush (pc' := 118) rfl dX7_fault_116 rfl ?_
    refine v_icmp_lt (pc' := 121) (tgt := 138) rfl dX7_fault_118 (by decide) (by omega) (by omega) (fun c4 => ?_) (fun c4 => ?_)
    ·
      have hB : ¬ (48 ≤ c ∧ c ≤ 57) := by omega
      refine v_iconst (pc' := 139) rfl dX7_fault_138 ?_
      refine v_iret dX7_fault_139 (by decide) (rfl) ?_
      exact ⟨by simp [rdFault, n1, n2, n3, n4, hB], Fr.rf _ _, fun h => absurd h (by simp [rdFault, n1, n2, n3, n4, hB])⟩
    ·
      refine v_iload_n 1 (pc' := 122) rfl dX7_fault_121 rfl rfl ?_
      refine v_bipush (pc' := 124) rfl dX7_fault_122 rfl ?_
      refine v_icmp_gt (pc' := 127) (tgt := 138) rfl dX7_fault_124 (by decide) (by omega) (by omega) (fun c5 => ?_) (fun c5 => ?_)
      ·
        have hB : ¬ (48 ≤ c ∧ c ≤ 57) := by omega
        refine v_iconst (pc' := 139) rfl dX7_fault_138 ?_
        refine v_iret dX7_fault_139 (by decide) (rfl) ?_
        exact ⟨by simp [rdFault, n1, n2, n3, n4, hB], Fr.rf _ _, fun h => absurd h (by simp [rdFault, n1, n2, n3, n4, hB])⟩
      ·
        have hB : 48 ≤ c ∧ c ≤ 57 := by omega
        refine v_aload_n 0 (pc' := 128) rfl dX7_fault_127 rfl rfl ?_
        refine v_iload_n 1 (pc' := 129) rfl dX7_fault_128 rfl rfl ?_
        refine v_bipush (pc' := 131) rfl dX7_fault_129 rfl ?_
        refine v_isub (pc' := 132) rfl dX7_fault_131 ?_
        refine v_cVi (pc' := 135) rfl dX7_fault_132 lk_RX7_38 ly_30 rfl (c_number l G (x := c - 48) (by omega) (by omega) ok w hRR) rfl rfl rfl (fun number1 w5 hq5 => ?_)
        refine v_goto (tgt := 139) dX7_fault_135 (by decide) ?_
        refine v_iret dX7_fault_139 (by decide) (rfl) ?_
        rcases hq5 with ⟨h1, rfl, rfl⟩ | ⟨h1, h2, rfl, rfl⟩ | ⟨h1, h2, h3, rfl, rfl⟩ | ⟨h1, h2, h3, rfl, hfr, hRd⟩
        · exact ⟨by simp only [rdFault, n1, n2, n3, n4, hB, h1, if_false, if_true, and_self]; rfl, Fr.rf _ _, fun h => absurd h (by simp only [rdFault, n1, n2, n3, n4, hB, h1, if_false, if_true, and_self]; decide)⟩
        · exact ⟨by simp only [rdFault, n1, n2, n3, n4, hB, h1, h2, if_false, if_true, and_self]; rfl, Fr.rf _ _, fun h => absurd h (by simp only [rdFault, n1, n2, n3, n4, hB, h1, h2, if_false, if_true, and_self]; decide)⟩
        · exact ⟨by simp only [rdFault, n1, n2, n3, n4, hB, h1, h2, h3, if_false, if_true, and_self, ne_eq, not_false_eq_true]; rfl, Fr.rf _ _, fun h => absurd h (by simp only [rdFault, n1, n2, n3, n4, hB, h1, h2, h3, if_false, if_true, and_self, ne_eq, not_false_eq_true]; decide)⟩
        · exact ⟨by simp only [rdFault, n1, n2, n3, n4, hB, h1, h2, h3, if_false, if_true, and_self, ne_eq, not_true_eq_false]; rfl, hfr, fun _ => by simpa [rdSt, rdTl, rdFi, rdLa, rdG, n1, n2, n3, n4] using hRd⟩

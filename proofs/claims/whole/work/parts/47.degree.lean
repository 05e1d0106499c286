theorem hx_pid : hx pid = 19088743 := by decide +kernel
def DegP (w : Wd) (n : Nat) (d z : Int) (w' : Wd) : Prop := (¬ (1 ≤ d ∧ d ≤ 7) ∧ w' = w ∧ z = -1) ∨
  ((1 ≤ d ∧ d ≤ 7) ∧ Fr [2] w w' ∧ MapW w' d.toNat pid pid ∧ (∀ j, 3 ≤ j → w' 2 j = w 2 j) ∧ z = n)
set_option maxHeartbeats 4000000 in
set_option maxRecDepth 100000 in
theorem c_degree (l : Launch) (G : Gx) {d : Int} (hd : rg d) {n : Nat} {s a : Nat → Nat} (hV : MapV n s a) (w : Wd) (hM : MapW w n s a) : Sp l G 0 mX10_degree [aR 0, aI (d)] w (fun z w' => DegP w n d z w') := by
  obtain ⟨⟨hn1, hn7⟩, hs, ha⟩ := id hV
  obtain ⟨m0, m1, m2⟩ := id hM
  refine Sp_of RX10 rfl (by decide +kernel) rfl (Nat.le_of_ble_eq_true rfl) ?_
  refine v_iload_n 1 (pc' := 1) rfl dX10_degree_0 rfl rfl ?_
  refine v_iconst (pc' := 2) rfl dX10_degree_1 ?_
  refine v_icmp_lt (pc' := 5) (tgt := 11) rfl dX10_degree_2 (by decide) (by omega) (by omega) (fun c0 => ?_) (fun c0 => ?_)
  ·
    refine v_iconst (pc' := 12) rfl dX10_degree_11 ?_
    refine v_iret dX10_degree_12 (by decide) (rfl) ?_
    first | exact Or.inl ⟨by omega, rfl, rfl⟩ | skip
    first | done | exact Or.inr ⟨by omega, by rw [hw3, hw2, hw1]; exact (((Fr.rf [2] w).up rfl).up rfl).up rfl, ⟨by rw [hw3, hw2, hw1]; exact (show d = ((d.toNat : Nat) : Int) by omega), by rw [hw3, hw2, hw1, hx_pid]; rfl, by rw [hw3, hw2, hw1, hx_pid]; rfl⟩, fun j hj => by rw [hw3, up_ne _ _ (by omega), hw2, up_ne _ _ (by omega), hw1, up_ne _ _ (by omega)], by assumption⟩
  ·
    refine v_iload_n 1 (pc' := 6) rfl dX10_degree_5 rfl rfl ?_
    refine v_bipush (pc' := 8) rfl dX10_degree_6 rfl ?_
    refine v_icmp_le (pc' := 11) (tgt := 13) rfl dX10_degree_8 (by decide) (by omega) (by omega) (fun c1 => ?_) (fun c1 => ?_)
    ·
      refine v_aload_n 0 (pc' := 14) rfl dX10_degree_13 rfl rfl ?_
      refine v_getR (pc' := 17) rfl dX10_degree_14 fk_RX10_16 ly_0 rfl ?_
      refine v_get (z := (n : Int)) (pc' := 20) rfl dX10_degree_17 fk_RX10_81 ly_2 rfl (m0) ?_
      refine v_nm (fun was' hwas' => ?_)
      refine v_istore_n (ls' := [(2, _), (0, _), (1, _)]) (pc' := 21) rfl dX10_degree_20 rfl rfl rfl ?_
      refine v_aload_n 1 (pc' := 22) rfl dX10_degree_21 rfl rfl ?_
      refine v_getR (pc' := 25) rfl dX10_degree_22 fk_RX10_16 ly_0 rfl ?_
      refine v_iload_n 2 (pc' := 26) rfl dX10_degree_25 rfl rfl ?_
      refine v_put (pc' := 29) rfl dX10_degree_26 fi_RX10_81 ly_2 rfl ?_
      refine v_nmw (fun w1 hw1 => ?_)
      have m1 : w1 2 1 = ((hx s : Nat) : Int) := by rw [hw1, up_ne _ _ (by omega)]; exact m1
      have m2 : w1 2 2 = ((hx a : Nat) : Int) := by rw [hw1, up_ne _ _ (by omega)]; exact m2
      have F2_0 : w1 2 0 = d := by rw [hw1, up_eq]
      refine v_aload_n 1 (pc' := 30) rfl dX10_degree_29 rfl rfl ?_
      refine v_getR (pc' := 33) rfl dX10_degree_30 fk_RX10_16 ly_0 rfl ?_
      refine v_ldc (z := 19088743) (pc' := 35) rfl dX10_degree_33 kc_RX10_86 ?_
      refine v_put (pc' := 38) rfl dX10_degree_35 fi_RX10_87 ly_2 rfl ?_
      refine v_nmw (fun w2 hw2 => ?_)
      have m2 : w2 2 2 = ((hx a : Nat) : Int) := by rw [hw2, up_ne _ _ (by omega)]; exact m2
      have F2_0 : w2 2 0 = d := by rw [hw2, up_ne _ _ (by omega)]; exact F2_0
      have F2_1 : w2 2 1 = 19088743 := by rw [hw2, up_eq]
      refine v_aload_n 1 (pc' := 39) rfl dX10_degree_38 rfl rfl ?_
      refine v_getR (pc' := 42) rfl dX10_degree_39 fk_RX10_16 ly_0 rfl ?_
      refine v_ldc (z := 19088743) (pc' := 44) rfl dX10_degree_42 kc_RX10_86 ?_
      refine v_put (pc' := 47) rfl dX10_degree_44 fi_RX10_90 ly_2 rfl ?_
      refine v_nmw (fun w3 hw3 => ?_)
      have F2_0 : w3 2 0 = d := by rw [hw3, up_ne _ _ (by omega)]; exact F2_0
      have F2_1 : w3 2 1 = 19088743 := by rw [hw3, up_ne _ _ (by omega)]; exact F2_1
      have F2_2 : w3 2 2 = 19088743 := by rw [hw3, up_eq]
      refine v_iload_n 0 (pc' := 48) rfl dX10_degree_47 rfl rfl ?_
      refine v_iret dX10_degree_48 (by decide) (rfl) ?_
      first | exact Or.inl ⟨by omega, rfl, rfl⟩ | skip
      first | done | exact Or.inr ⟨by omega, by rw [hw3, hw2, hw1]; exact (((Fr.rf [2] w).up rfl).up rfl).up rfl, ⟨by rw [hw3, hw2, hw1]; exact (show d = ((d.toNat : Nat) : Int) by omega), by rw [hw3, hw2, hw1, hx_pid]; rfl, by rw [hw3, hw2, hw1, hx_pid]; rfl⟩, fun j hj => by rw [hw3, up_ne _ _ (by omega), hw2, up_ne _ _ (by omega), hw1, up_ne _ _ (by omega)], by assumption⟩
    ·
      refine v_iconst (pc' := 12) rfl dX10_degree_11 ?_
      refine v_iret dX10_degree_12 (by decide) (rfl) ?_
      first | exact Or.inl ⟨by omega, rfl, rfl⟩ | skip
      first | done | exact Or.inr ⟨by omega, by rw [hw3, hw2, hw1]; exact (((Fr.rf [2] w).up rfl).up rfl).up rfl, ⟨by rw [hw3, hw2, hw1]; exact (show d = ((d.toNat : Nat) : Int) by omega), by rw [hw3, hw2, hw1, hx_pid]; rfl, by rw [hw3, hw2, hw1, hx_pid]; rfl⟩, fun j hj => by rw [hw3, up_ne _ _ (by omega), hw2, up_ne _ _ (by omega), hw1, up_ne _ _ (by omega)], by assumption⟩
set_option maxHeartbeats 4000000 in
set_option maxRecDepth 100000 in
theorem c_put (l : Launch) (G : Gx) {wh p : Int} (hwh : rg wh) (hp : rg p) (w : Wd)  : Sp l G 0 mX10_put [aR 0, aI (wh), aI (p)] w (fun _ w' => w' = up w 2 (if wh = 0 then 1 else 2) p) := by
  refine Sp_of RX10 rfl (by decide +kernel) rfl (Nat.le_of_ble_eq_true rfl) ?_
  refine v_iload_n 1 (pc' := 1) rfl dX10_put_0 rfl rfl ?_
  refine v_if_ne (pc' := 4) (tgt := 15) rfl dX10_put_1 (by decide) (by omega) (fun c0 => ?_) (fun c0 => ?_)
  ·
    refine v_aload_n 0 (pc' := 16) rfl dX10_put_15 rfl rfl ?_
    refine v_getR (pc' := 19) rfl dX10_put_16 fk_RX10_16 ly_0 rfl ?_
    refine v_iload_n 2 (pc' := 20) rfl dX10_put_19 rfl rfl ?_
    refine v_put (pc' := 23) rfl dX10_put_20 fi_RX10_90 ly_2 rfl ?_
    refine v_nmw (fun w2 hw2 => ?_)
    have F2_2 : w2 2 2 = p := by rw [hw2, up_eq]
    refine v_vret dX10_put_23 ?_
    first | exact (by rw [if_pos (by omega)]; assumption) | exact (by rw [if_neg (by omega)]; assumption)
  ·
    refine v_aload_n 0 (pc' := 5) rfl dX10_put_4 rfl rfl ?_
    refine v_getR (pc' := 8) rfl dX10_put_5 fk_RX10_16 ly_0 rfl ?_
    refine v_iload_n 2 (pc' := 9) rfl dX10_put_8 rfl rfl ?_
    refine v_put (pc' := 12) rfl dX10_put_9 fi_RX10_87 ly_2 rfl ?_
    refine v_nmw (fun w1 hw1 => ?_)
    have F2_1 : w1 2 1 = p := by rw [hw1, up_eq]
    refine v_goto (tgt := 23) dX10_put_12 (by decide) ?_
    refine v_vret dX10_put_23 ?_
    first | exact (by rw [if_pos (by omega)]; assumption) | exact (by rw [if_neg (by omega)]; assumption)

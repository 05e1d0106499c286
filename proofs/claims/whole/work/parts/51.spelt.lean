def spI (s a : Nat → Nat) (T : Nat → Int) : Nat → Nat → (Nat → Nat) → Int
  | 0, _, f => (hx f : Nat)
  | m + 1, i, f => if letOk (T i) then spI s a T m (i + 1) (pcomp f (letF s a (T i))) else -1000 - (i : Int)
set_option maxHeartbeats 4000000 in
set_option maxRecDepth 100000 in
theorem c_spelt (l : Launch) (G : Gx) {k : Int} (hk : rg k) {n : Nat} {s a : Nat → Nat} (hV : MapV n s a) (w : Wd) (hM : MapW w n s a) (hT : ∀ j, j < 120 → rg (w 1 j)) : Sp l G 5 mX10_spelt [aR 0, aI (k)] w (fun z w' => w' = up w 0 1 0 ∧ z = spI s a (w 1) (min k.toNat 120) 0 pid) := by
  obtain ⟨⟨hn1, hn7⟩, hs, ha⟩ := id hV
  obtain ⟨m0, m1, m2⟩ := id hM
  refine Sp_of RX10 rfl (by decide +kernel) rfl (Nat.le_of_ble_eq_true rfl) ?_
  refine v_aload_n 0 (pc' := 1) rfl dX10_spelt_0 rfl rfl ?_
  refine v_iconst (pc' := 2) rfl dX10_spelt_1 ?_
  refine v_put (pc' := 5) rfl dX10_spelt_2 fi_RX10_73 ly_0 rfl ?_
  refine v_nmw (fun w1 hw1 => ?_)
  have m0 : w1 2 0 = (n : Int) := by rw [hw1, up_ne _ _ (by omega)]; exact m0
  have m1 : w1 2 1 = ((hx s : Nat) : Int) := by rw [hw1, up_ne _ _ (by omega)]; exact m1
  have m2 : w1 2 2 = ((hx a : Nat) : Int) := by rw [hw1, up_ne _ _ (by omega)]; exact m2
  have F0_1 : w1 0 1 = 0 := by rw [hw1, up_eq]
  refine v_ldc (z := 19088743) (pc' := 7) rfl dX10_spelt_5 kc_RX10_86 ?_
  refine v_istore_n (ls' := [(2, _), (0, _), (1, _)]) (pc' := 8) rfl dX10_spelt_7 rfl rfl rfl ?_
  refine v_iconst (pc' := 9) rfl dX10_spelt_8 ?_
  refine v_istore_n (ls' := [(3, _), (2, _), (0, _), (1, _)]) (pc' := 10) rfl dX10_spelt_9 rfl rfl rfl ?_
  refine v_ls [2, 3, 1, 0] rfl ?_
  refine v_loop2 10 (fun (r : Int) (i : Int) => ∃ (m iN : Nat) (f : Nat → Nat), i = iN ∧ iN + m = (min k.toNat 120) ∧ Pm n f ∧ r = (hx f : Nat) ∧ spI s a (w 1) m iN f = spI s a (w 1) (min k.toNat 120) 0 pid) (fun (r : Int) (i : Int) => (120 - i).toNat) (fun (r : Int) (i : Int) => [(0, aR 0), (1, aI (k)), (2, aI (r)), (3, aI (i))]) (fun (r : Int) (i : Int) => []) (fun (r : Int) (i : Int) => w1) (fun r i hI0 ih0 => ?_) (19088743) (0) (⟨(min k.toNat 120), 0, pid, rfl, by omega, pm_id n, by rw [hx_pid]; rfl, rfl⟩)
  obtain ⟨m, iN, f, hi, him, hf, hr, hR⟩ := hI0
  refine v_iload_n 3 (pc' := 11) rfl dX10_spelt_10 rfl rfl ?_
  refine v_iload_n 1 (pc' := 12) rfl dX10_spelt_11 rfl rfl ?_
  refine v_icmp_ge (pc' := 15) (tgt := 57) rfl dX10_spelt_12 (by decide) (by omega) (by omega) (fun c0 => ?_) (fun c0 => ?_)
  ·
    have hm0 : m = 0 := by omega
    subst hm0
    refine v_iload_n 2 (pc' := 58) rfl dX10_spelt_57 rfl rfl ?_
    refine v_iret dX10_spelt_58 (by decide) (rfl) ?_
    first | exact ⟨hw1, by rw [← hR]; simp only [spI]; rw [if_neg hok]; omega⟩ | exact ⟨hw1, by rw [← hR]; exact hr⟩
  ·
    refine v_iload_n 3 (pc' := 16) rfl dX10_spelt_15 rfl rfl ?_
    refine v_bipush (pc' := 18) rfl dX10_spelt_16 rfl ?_
    refine v_icmp_ge (pc' := 21) (tgt := 57) rfl dX10_spelt_18 (by decide) (by omega) (by omega) (fun c1 => ?_) (fun c1 => ?_)
    ·
      have hm0 : m = 0 := by omega
      subst hm0
      refine v_iload_n 2 (pc' := 58) rfl dX10_spelt_57 rfl rfl ?_
      refine v_iret dX10_spelt_58 (by decide) (rfl) ?_
      first | exact ⟨hw1, by rw [← hR]; simp only [spI]; rw [if_neg hok]; omega⟩ | exact ⟨hw1, by rw [← hR]; exact hr⟩
    ·
      obtain ⟨m, rfl⟩ : ∃ j, m = j + 1 := ⟨m - 1, by omega⟩
      have hM1 : MapW w1 n s a := by rw [hw1]; exact hM
      have hlp := hx_pos (letF_pm hV (w 1 iN)) hn7
      refine v_aload_n 0 (pc' := 22) rfl dX10_spelt_21 rfl rfl ?_
      refine v_aload_n 0 (pc' := 23) rfl dX10_spelt_22 rfl rfl ?_
      refine v_getR (pc' := 26) rfl dX10_spelt_23 fk_RX10_9 ly_0 rfl ?_
      refine v_iload_n 3 (pc' := 27) rfl dX10_spelt_26 rfl rfl ?_
      refine v_iald (z := w 1 iN) (pc' := 28) rfl dX10_spelt_27 ly_1 (by omega) (by omega) rfl (by rw [show i.toNat = iN by omega, hw1]; rfl) ?_
      refine v_cVP (pc' := 31) rfl dX10_spelt_28 lk_RX10_340 ly_0 rfl (c_letter l G (hT iN (by omega)) hV w1 hM1) rfl rfl rfl ?_
      refine v_nm (fun letter1 hletter1 => ?_)
      refine v_istore (ls' := [(4, _), (0, _), (1, _), (2, _), (3, _)]) (pc' := 33) rfl dX10_spelt_31 rfl rfl ?_
      refine v_iload 0 (pc' := 35) rfl dX10_spelt_33 rfl ?_
      refine v_if_ne (pc' := 38) (tgt := 44) rfl dX10_spelt_35 (by decide) (by rw [hletter1]; split <;> omega) (fun c2 => ?_) (fun c2 => ?_)
      ·
        have hok : letOk (w 1 iN) := Classical.byContradiction (fun q => by rw [if_neg q] at hletter1; omega)
        refine v_iload_n 3 (pc' := 45) rfl dX10_spelt_44 rfl rfl ?_
        refine v_iload 0 (pc' := 47) rfl dX10_spelt_45 rfl ?_
        refine v_cSP (pc' := 50) rfl dX10_spelt_47 lk_RX10_343 rfl (c_then l G hr (hletter1.trans (if_pos hok)) (hf.b7 hn7) ((letF_pm hV (w 1 iN)).B hn7) w1) rfl rfl rfl ?_
        refine v_nm (fun then1 hthen1 => ?_)
        refine v_istore_n (ls' := [(2, _), (4, _), (0, _), (1, _), (3, _)]) (pc' := 51) rfl dX10_spelt_50 rfl rfl rfl ?_
        refine v_iinc (ls' := [(3, _), (2, _), (4, _), (0, _), (1, _)]) 4 (pc' := 54) rfl dX10_spelt_51 rfl rfl rfl ?_
        refine v_nl (fun i' hi' => ?_)
        refine v_goto (tgt := 10) dX10_spelt_54 (by decide) ?_
        refine v_ls [3, 4, 1, 0] rfl ?_
        exact ih0 (then1) (i') (⟨m, iN + 1, pcomp f (letF s a (w 1 iN)), by omega, by omega, hf.comp (letF_pm hV _), hthen1, by rw [← hR]; simp only [spI]; rw [if_pos hok]⟩) (by omega)
      ·
        have hok : ¬ letOk (w 1 iN) := fun q => by rw [if_pos q] at hletter1; omega
        refine v_sipush (pc' := 41) rfl dX10_spelt_38 rfl ?_
        refine v_iload_n 4 (pc' := 42) rfl dX10_spelt_41 rfl rfl ?_
        refine v_isub (pc' := 43) rfl dX10_spelt_42 ?_
        refine v_iret dX10_spelt_43 (by decide) (rfl) ?_
        first | exact ⟨hw1, by rw [← hR]; simp only [spI]; rw [if_neg hok]; omega⟩ | exact ⟨hw1, by rw [← hR]; exact hr⟩

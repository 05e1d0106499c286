/-! ===== Census: prepare, tally ===== -/
theorem nxC_7 {n : Nat} (hn : n ≤ 7) : ∀ (k : Nat) (q : Nat → Nat) (low high : Nat), P7 q → 1 ≤ low → high ≤ n → P7 (nxC k q low high)
  | 0, q, _, _, h, _, _ => h
  | k + 1, q, low, high, h, h1, h2 => by
    simp only [nxC]
    split
    · exact nxC_7 hn k _ _ _ (gsw_7 h h1 (by omega) (by omega) (by omega)) (by omega) (by omega)
    · exact h
theorem nxA_le (f : Nat → Nat) : ∀ k, nxA f k ≤ k
  | 0 => Nat.le_refl _
  | k + 1 => by simp only [nxA]; split; have := nxA_le f k; omega; omega
theorem nxB_in (f : Nat → Nat) (x : Nat) : ∀ k, x ≤ k → nxB f x k ≤ k ∧ x ≤ nxB f x k
  | 0, h => by simp only [nxB]; omega
  | k + 1, h => by
    simp only [nxB]
    split
    · have := nxB_in f x k (by omega); omega
    · omega
theorem nextF_7 {f : Nat → Nat} {n : Nat} (hf : P7 f) (hn : n ≤ 7) : P7 (nextF f n) := by
  unfold nextF
  split
  · exact hf
  · have a := nxA_le f (n - 1)
    have b := nxB_in f (nxA f (n - 1)) n (by omega)
    exact nxC_7 hn 7 _ _ _ (gsw_7 hf (by omega) (by omega) (by omega) (by omega)) (by omega) (Nat.le_refl _)
def CP (w : Wd) (n : Nat) : Prop := w 19 2 = n ∧ w 19 3 = (facN n : Nat) ∧ ∀ i, i < facN n → w 20 i = (hx (pn n i) : Nat) ∧ w 21 i = (kindN (pn n i) n : Nat)
def cntI (P : Nat → Bool) : Nat → Nat
  | 0 => 0
  | k + 1 => cntI P k + if P k then 1 else 0
theorem cntI_le (P : Nat → Bool) : ∀ k, cntI P k ≤ k
  | 0 => Nat.le_refl _
  | k + 1 => by have := cntI_le P k; simp only [cntI]; split <;> omega
def tPA (n : Nat) (s : Nat → Nat) (t2 t3 : Nat) : Nat → Bool := fun i => kindN (pn n i) n == t2 && kindN (pcomp s (pn n i)) n == t3
def tPC (n : Nat) (s : Nat → Nat) (t2 t3 : Nat) : Nat → Bool := fun i => tPA n s t2 t3 i && joinB s (pn n i) n
def CT (w : Wd) (n i1 i2 k : Nat) : Prop := ∀ j, j < kmany n → w 22 j = (cntI (tPA n (leastF (kT n i1) n) (kT n i2) (kT n j)) k : Nat) ∧ w 23 j = (cntI (tPC n (leastF (kT n i1) n) (kT n i2) (kT n j)) k : Nat)
set_option maxHeartbeats 4000000 in
set_option maxRecDepth 100000 in
theorem c_prepHit (l : Launch) (G : Gx) {n0 : Int} {n : Nat} (hn : n0 = n) (hn7 : n ≤ 7) (w : Wd) (h2 : w 19 2 = n) : Sp l G 3 mX1_prepare [aR 19, aI (n0)] w (fun _ w' => w' = w) := by
  refine Sp_of RX1 rfl (by decide +kernel) rfl (Nat.le_of_ble_eq_true rfl) ?_
  refine v_iload_n 1 (pc' := 1) rfl dX1_prepare_0 rfl rfl ?_
  refine v_aload_n 0 (pc' := 2) rfl dX1_prepare_1 rfl rfl ?_
  refine v_get (z := (n : Int)) (pc' := 5) rfl dX1_prepare_2 fk_RX1_36 ly_19 rfl (h2) ?_
  refine v_icmp_eq (pc' := 8) (tgt := 19) rfl dX1_prepare_5 (by decide) (by omega) (by omega) (fun c0 => ?_) (fun c0 => absurd c0 (by omega))
  refine v_vret dX1_prepare_19 ?_
  rfl
set_option maxHeartbeats 4000000 in
set_option maxRecDepth 100000 in
theorem c_prepMiss (l : Launch) (G : Gx) {n0 : Int} {n : Nat} (hn : n0 = n) (hn1 : 1 ≤ n) (hn7 : n ≤ 7) (w : Wd) (h2 : rg (w 19 2)) (h3 : w 19 2 ≠ n) : Sp l G 3 mX1_prepare [aR 19, aI (n0)] w (fun _ w' => CP w' n ∧ w' 19 6 = 0 ∧ w' 19 11 = 0 ∧ Fr [19, 20, 21] w w') := by
  have hfl := fac_le hn1 hn7
  refine Sp_of RX1 rfl (by decide +kernel) rfl (Nat.le_of_ble_eq_true rfl) ?_
  refine v_iload_n 1 (pc' := 1) rfl dX1_prepare_0 rfl rfl ?_
  refine v_aload_n 0 (pc' := 2) rfl dX1_prepare_1 rfl rfl ?_
  refine v_get (pc' := 5) rfl dX1_prepare_2 fk_RX1_36 ly_19 rfl rfl ?_
  refine v_icmp_eq (pc' := 8) (tgt := 19) rfl dX1_prepare_5 (by decide) (by omega) (by omega) (fun c0 => absurd c0 (by omega)) (fun c0 => ?_)
  refine v_iload_n 1 (pc' := 9) rfl dX1_prepare_8 rfl rfl ?_
  refine v_iconst (pc' := 10) rfl dX1_prepare_9 ?_
  refine v_icmp_lt (pc' := 13) (tgt := 19) rfl dX1_prepare_10 (by decide) (by omega) (by omega) (fun c1 => absurd c1 (by omega)) (fun c1 => ?_)
  refine v_iload_n 1 (pc' := 14) rfl dX1_prepare_13 rfl rfl ?_
  refine v_bipush (pc' := 16) rfl dX1_prepare_14 rfl ?_
  refine v_icmp_le (pc' := 19) (tgt := 20) rfl dX1_prepare_16 (by decide) (by omega) (by omega) (fun c2 => ?_) (fun c2 => absurd c2 (by omega))
  refine v_aload_n 0 (pc' := 21) rfl dX1_prepare_20 rfl rfl ?_
  refine v_iload_n 1 (pc' := 22) rfl dX1_prepare_21 rfl rfl ?_
  refine v_put (pc' := 25) rfl dX1_prepare_22 fi_RX1_36 ly_19 rfl ?_
  refine v_nmw (fun w1 hw1 => ?_)
  refine v_aload_n 0 (pc' := 26) rfl dX1_prepare_25 rfl rfl ?_
  refine v_aload_n 0 (pc' := 27) rfl dX1_prepare_26 rfl rfl ?_
  refine v_get (z := n0) (pc' := 30) rfl dX1_prepare_27 fk_RX1_36 ly_19 rfl (by rw [hw1, up_eq]) ?_
  have f1n : n0 = (n : Int) := hn
  refine v_cSP (pc' := 33) rfl dX1_prepare_30 lk_RX1_40 rfl (c_factorial l G f1n hn1 hn7 w1) rfl rfl rfl ?_
  refine v_nm (fun factorial1 hfactorial1 => ?_)
  refine v_put (pc' := 36) rfl dX1_prepare_33 fi_RX1_44 ly_19 rfl ?_
  refine v_nmw (fun w3 hw3 => ?_)
  refine v_aload_n 0 (pc' := 37) rfl dX1_prepare_36 rfl rfl ?_
  refine v_iconst (pc' := 38) rfl dX1_prepare_37 ?_
  refine v_put (pc' := 41) rfl dX1_prepare_38 fi_RX1_47 ly_19 rfl ?_
  refine v_nmw (fun w4 hw4 => ?_)
  refine v_aload_n 0 (pc' := 42) rfl dX1_prepare_41 rfl rfl ?_
  refine v_iconst (pc' := 43) rfl dX1_prepare_42 ?_
  refine v_put (pc' := 46) rfl dX1_prepare_43 fi_RX1_50 ly_19 rfl ?_
  refine v_nmw (fun w5 hw5 => ?_)
  refine v_ldc (z := 19088743) (pc' := 48) rfl dX1_prepare_46 kc_RX1_55 ?_
  refine v_istore_n (ls' := [(2, _), (0, _), (1, _)]) (pc' := 49) rfl dX1_prepare_48 rfl rfl rfl ?_
  refine v_iconst (pc' := 50) rfl dX1_prepare_49 ?_
  refine v_istore_n (ls' := [(3, _), (2, _), (0, _), (1, _)]) (pc' := 51) rfl dX1_prepare_50 rfl rfl rfl ?_
  refine v_ls [2, 3, 1, 0] rfl ?_
  refine v_loop3 51 (fun (p : Int) (i : Int) (wl : Wd) => ∃ (k : Nat) (g : Nat → Nat), i = k ∧ k ≤ facN n ∧ p = (hx g : Nat) ∧ P7 g ∧ (k < facN n → g = pn n k) ∧ (wl 19 2 = n ∧ wl 19 3 = (facN n : Nat) ∧ wl 19 6 = 0 ∧ wl 19 11 = 0) ∧ (∀ j, j < k → wl 20 j = (hx (pn n j) : Nat) ∧ wl 21 j = (kindN (pn n j) n : Nat)) ∧ Fr [19, 20, 21] w wl) (fun (p : Int) (i : Int) (wl : Wd) => ((facN n : Int) - i).toNat) (fun (p : Int) (i : Int) (wl : Wd) => [(0, aR 19), (1, aI (n0)), (2, aI (p)), (3, aI (i))]) (fun (p : Int) (i : Int) (wl : Wd) => []) (fun (p : Int) (i : Int) (wl : Wd) => wl) (fun p i wl hI0 ih0 => ?_) (19088743) (0) w5 (⟨0, pid, rfl, by omega, by decide, (pm_id n).b7 hn7, fun _ => (pn_first hn1 hn7).symm, by simp [hw5, hw4, hw3, hw1, up_at, hn, hfactorial1], fun j h => by omega, by rw [hw5, hw4, hw3, hw1]; exact ((((Fr.rf _ _).up rfl).up rfl).up rfl).up rfl⟩)
  obtain ⟨k, g, hi, hk, hp, hg7, hgk, ⟨g2, g3, g6, g11⟩, hA, hfl2⟩ := hI0
  have hik : i.toNat = k := by omega
  have g2z := g2
  have g3z := g3
  have g6z := g6
  have g11z := g11
  refine v_iload_n 3 (pc' := 52) rfl dX1_prepare_51 rfl rfl ?_
  refine v_aload_n 0 (pc' := 53) rfl dX1_prepare_52 rfl rfl ?_
  refine v_get (z := ((facN n : Nat) : Int)) (pc' := 56) rfl dX1_prepare_53 fk_RX1_44 ly_19 rfl (g3) ?_
  refine v_icmp_ge (pc' := 59) (tgt := 102) rfl dX1_prepare_56 (by decide) (by omega) (by omega) (fun c3 => ?_) (fun c3 => ?_)
  ·
    refine v_vret dX1_prepare_102 ?_
    have e : k = facN n := by omega
    rw [e] at hA
    exact ⟨⟨g2, g3, hA⟩, g6, g11, hfl2⟩
  ·
    refine v_iload_n 3 (pc' := 60) rfl dX1_prepare_59 rfl rfl ?_
    refine v_sipush (pc' := 63) rfl dX1_prepare_60 rfl ?_
    refine v_icmp_ge (pc' := 66) (tgt := 102) rfl dX1_prepare_63 (by decide) (by omega) (by omega) (fun c4 => ?_) (fun c4 => ?_)
    ·
      refine v_vret dX1_prepare_102 ?_
      have e : k = facN n := by omega
      rw [e] at hA
      exact ⟨⟨g2, g3, hA⟩, g6, g11, hfl2⟩
    ·
      refine v_aload_n 0 (pc' := 67) rfl dX1_prepare_66 rfl rfl ?_
      refine v_getR (pc' := 70) rfl dX1_prepare_67 fk_RX1_9 ly_19 rfl ?_
      refine v_iload_n 3 (pc' := 71) rfl dX1_prepare_70 rfl rfl ?_
      refine v_iload_n 2 (pc' := 72) rfl dX1_prepare_71 rfl rfl ?_
      refine v_iast (pc' := 73) rfl dX1_prepare_72 ly_20 (by omega) (by omega) rfl ?_
      refine v_nmw (fun w6 hw6 => ?_)
      have g3 : w6 19 3 = ((facN n : Nat) : Int) := by rw [hw6, up_ne _ _ (by omega)]; exact g3
      have g2 : w6 19 2 = (n : Int) := by rw [hw6, up_ne _ _ (by omega)]; exact g2
      refine v_aload_n 0 (pc' := 74) rfl dX1_prepare_73 rfl rfl ?_
      refine v_getR (pc' := 77) rfl dX1_prepare_74 fk_RX1_15 ly_19 rfl ?_
      refine v_iload_n 3 (pc' := 78) rfl dX1_prepare_77 rfl rfl ?_
      refine v_iload_n 2 (pc' := 79) rfl dX1_prepare_78 rfl rfl ?_
      refine v_aload_n 0 (pc' := 80) rfl dX1_prepare_79 rfl rfl ?_
      refine v_get (z := (n : Int)) (pc' := 83) rfl dX1_prepare_80 fk_RX1_36 ly_19 rfl (g2) ?_
      refine v_cSP (pc' := 86) rfl dX1_prepare_83 lk_RX1_56 rfl (c_kind l G hp hg7 (n := n) rfl hn7 w6) rfl rfl rfl ?_
      refine v_nm (fun kind1 hkind1 => ?_)
      refine v_iast (pc' := 87) rfl dX1_prepare_86 ly_21 (by omega) (by omega) rfl ?_
      refine v_nmw (fun w8 hw8 => ?_)
      have g3 : w8 19 3 = ((facN n : Nat) : Int) := by rw [hw8, up_ne _ _ (by omega)]; exact g3
      have g2 : w8 19 2 = (n : Int) := by rw [hw8, up_ne _ _ (by omega)]; exact g2
      refine v_iload_n 2 (pc' := 88) rfl dX1_prepare_87 rfl rfl ?_
      refine v_aload_n 0 (pc' := 89) rfl dX1_prepare_88 rfl rfl ?_
      refine v_get (z := (n : Int)) (pc' := 92) rfl dX1_prepare_89 fk_RX1_36 ly_19 rfl (g2) ?_
      refine v_cSP (pc' := 95) rfl dX1_prepare_92 lk_RX1_60 rfl (c_next l G hp hg7 (n := n) rfl hn1 hn7 w8) rfl rfl rfl ?_
      refine v_nm (fun next1 hnext1 => ?_)
      refine v_istore_n (ls' := [(2, _), (0, _), (1, _), (3, _)]) (pc' := 96) rfl dX1_prepare_95 rfl rfl rfl ?_
      refine v_iinc (ls' := [(3, _), (2, _), (0, _), (1, _)]) 3 (pc' := 99) rfl dX1_prepare_96 rfl rfl rfl ?_
      refine v_nl (fun i' hi' => ?_)
      refine v_goto (tgt := 51) dX1_prepare_99 (by decide) ?_
      refine v_ls [2, 3, 1, 0] rfl ?_
      have hgk2 := hgk (by omega)
      have hstep : hx (nextF g n) = hx (if k + 1 < facN n then pn n (k + 1) else nextF g n) := by
        split
        · rw [hgk2]; exact pn_next hn1 hn7 (by assumption)
        · rfl
      have h7 : P7 (if k + 1 < facN n then pn n (k + 1) else nextF g n) := by
        split
        · exact (pn_at hn1 hn7 (by assumption)).1.b7 hn7
        · exact nextF_7 hg7 hn7
      exact ih0 (next1) (i') w8 (⟨k + 1, if k + 1 < facN n then pn n (k + 1) else nextF g n, by omega, by omega, by rw [hnext1, hstep], h7, fun q => if_pos q, by simp [hw8, hw6, up_at, g2z, g3z, g6z, g11z], fun j h => by
          simp only [hw8, hw6, up_at, hik]
          by_cases q : j = k
          · subst q; simp [hp, hkind1, hgk2]
          · have := hA j (by omega); simp [q, this], by rw [hw8, hw6]; exact (hfl2.up rfl).up rfl⟩) (by omega)
set_option maxHeartbeats 4000000 in
set_option maxRecDepth 100000 in
theorem c_permutation (l : Launch) (G : Gx) {i0 : Int} {n i : Nat} (hi : i0 = i) (hn1 : 1 ≤ n) (hn7 : n ≤ 7) (hiF : i < facN n) (w : Wd) (hC : CP w n) : SpP l G 0 mX1_permutation [aR 19, aI (i0)] w (((hx (pn n i) : Nat) : Int)) := by
  have hf5 := fac_5040 hn1 hn7
  refine Sp_of RX1 rfl (by decide +kernel) rfl (Nat.le_of_ble_eq_true rfl) ?_
  refine v_iload_n 1 (pc' := 1) rfl dX1_permutation_0 rfl rfl ?_
  refine v_if_lt (pc' := 4) (tgt := 11) rfl dX1_permutation_1 (by decide) (by omega) (fun c0 => absurd c0 (by omega)) (fun c0 => ?_)
  refine v_iload_n 1 (pc' := 5) rfl dX1_permutation_4 rfl rfl ?_
  refine v_sipush (pc' := 8) rfl dX1_permutation_5 rfl ?_
  refine v_icmp_lt (pc' := 11) (tgt := 16) rfl dX1_permutation_8 (by decide) (by omega) (by omega) (fun c1 => ?_) (fun c1 => absurd c1 (by omega))
  refine v_aload_n 0 (pc' := 17) rfl dX1_permutation_16 rfl rfl ?_
  refine v_getR (pc' := 20) rfl dX1_permutation_17 fk_RX1_9 ly_19 rfl ?_
  refine v_iload_n 1 (pc' := 21) rfl dX1_permutation_20 rfl rfl ?_
  refine v_iald (z := ((hx (pn n i) : Nat) : Int)) (pc' := 22) rfl dX1_permutation_21 ly_20 (by omega) (by omega) rfl (by rw [show i0.toNat = i by omega]; exact (hC.2.2 i hiF).1) ?_
  refine v_iret dX1_permutation_22 (by decide) (rfl) ?_
  exact ⟨rfl, rfl⟩
set_option maxHeartbeats 4000000 in
set_option maxRecDepth 100000 in
theorem c_tell (l : Launch) (G : Gx) {p q : Int} {n j : Nat} {s a : Nat → Nat} (hn1 : 1 ≤ n) (hn7 : n ≤ 7) (hs : Pm n s) (ha : Pm n a) (hp : p = (hx s : Nat)) (hq : q = (hx a : Nat)) (hj : j < kmany n) (hkj : kindN (pcomp s a) n = kT n j) (w : Wd) (h2 : w 19 2 = n) : Sp l G 4 mX1_tell [aR 19, aI (p), aI (q)] w (fun _ w' => (∀ x, w' 22 x = w 22 x + (if x = j then 1 else 0) ∧ w' 23 x = w 23 x + (if x = j ∧ joinB s a n = true then 1 else 0)) ∧ Fr [22, 23] w w') := by
  have hm := ((frst_ok n (by omega)).2.2 hn1).2
  have hkl := kT_le hn7 hj
  refine Sp_of RX1 rfl (by decide +kernel) rfl (Nat.le_of_ble_eq_true rfl) ?_
  refine v_iload_n 1 (pc' := 1) rfl dX1_tell_0 rfl rfl ?_
  refine v_iload_n 2 (pc' := 2) rfl dX1_tell_1 rfl rfl ?_
  refine v_cSP (pc' := 5) rfl dX1_tell_2 lk_RX1_77 rfl (c_then l G hp hq (hs.b7 hn7) (ha.B hn7) w) rfl rfl rfl ?_
  refine v_nm (fun then1 hthen1 => ?_)
  refine v_aload_n 0 (pc' := 6) rfl dX1_tell_5 rfl rfl ?_
  refine v_get (z := (n : Int)) (pc' := 9) rfl dX1_tell_6 fk_RX1_36 ly_19 rfl (h2) ?_
  refine v_cSP (pc' := 12) rfl dX1_tell_9 lk_RX1_56 rfl (c_kind l G hthen1 ((hs.comp ha).b7 hn7) rfl hn7 w) rfl rfl rfl ?_
  refine v_nm (fun kind1 hkind1 => ?_)
  refine v_aload_n 0 (pc' := 13) rfl dX1_tell_12 rfl rfl ?_
  refine v_get (z := (n : Int)) (pc' := 16) rfl dX1_tell_13 fk_RX1_36 ly_19 rfl (h2) ?_
  refine v_cSR (pc' := 19) rfl dX1_tell_16 lk_RX1_80 rfl (c_index l G (n := n) (by omega) rfl hn1 hn7 w ) rfl rfl rfl (fun index1 hindex1 => ?_)
  have hat : index1 = (j : Int) := by
    rcases hindex1 with ⟨-, h⟩ | ⟨i, h1, h2, h3, h4⟩
    · exact absurd (by rw [hkind1, hkj]) (h j hj)
    · rw [h1, kT_inj n (by omega) i h2 j hj (by omega)]
  refine v_istore_n (ls' := [(3, _), (0, _), (1, _), (2, _)]) (pc' := 20) rfl dX1_tell_19 rfl rfl rfl ?_
  refine v_iload_n 0 (pc' := 21) rfl dX1_tell_20 rfl rfl ?_
  refine v_if_lt (pc' := 24) (tgt := 62) rfl dX1_tell_21 (by decide) (by omega) (fun c0 => absurd c0 (by omega)) (fun c0 => ?_)
  refine v_iload_n 0 (pc' := 25) rfl dX1_tell_24 rfl rfl ?_
  refine v_bipush (pc' := 27) rfl dX1_tell_25 rfl ?_
  refine v_icmp_ge (pc' := 30) (tgt := 62) rfl dX1_tell_27 (by decide) (by omega) (by omega) (fun c1 => absurd c1 (by omega)) (fun c1 => ?_)
  refine v_aload_n 1 (pc' := 31) rfl dX1_tell_30 rfl rfl ?_
  refine v_getR (pc' := 34) rfl dX1_tell_31 fk_RX1_20 ly_19 rfl ?_
  refine v_iload_n 0 (pc' := 35) rfl dX1_tell_34 rfl rfl ?_
  refine v_dup2IR (pc' := 36) rfl dX1_tell_35 ?_
  refine v_iald (pc' := 37) rfl dX1_tell_36 ly_22 (by omega) (by omega) rfl (rfl) ?_
  refine v_iconst (pc' := 38) rfl dX1_tell_37 ?_
  refine v_iadd (pc' := 39) rfl dX1_tell_38 ?_
  refine v_iast (pc' := 40) rfl dX1_tell_39 ly_22 (by omega) (by omega) rfl ?_
  refine v_nmw (fun w4 hw4 => ?_)
  have h2 : w4 19 2 = (n : Int) := by rw [hw4, up_ne _ _ (by omega)]; exact h2
  refine v_iload_n 2 (pc' := 41) rfl dX1_tell_40 rfl rfl ?_
  refine v_iload_n 3 (pc' := 42) rfl dX1_tell_41 rfl rfl ?_
  refine v_aload_n 1 (pc' := 43) rfl dX1_tell_42 rfl rfl ?_
  refine v_get (z := (n : Int)) (pc' := 46) rfl dX1_tell_43 fk_RX1_36 ly_19 rfl (h2) ?_
  refine v_cSP (pc' := 49) rfl dX1_tell_46 lk_RX1_83 rfl (c_joined l G hp hq (hs.b7 hn7) (ha.b7 hn7) rfl hn7 w4) rfl rfl rfl ?_
  refine v_nm (fun joined1 hjoined1 => ?_)
  refine v_if_eq (pc' := 52) (tgt := 62) rfl dX1_tell_49 (by decide) (by rw [hjoined1]; split <;> omega) (fun c2 => ?_) (fun c2 => ?_)
  ·
    have hB : joinB s a n = false := by rw [Bool.eq_false_iff]; intro e; rw [e] at hjoined1; simp at hjoined1; omega
    refine v_vret dX1_tell_62 ?_
    refine ⟨fun x => ?_, by rw [hw4]; exact (Fr.rf _ _).up rfl⟩
    have hjn : index1.toNat = j := by omega
    simp only [hw4, up_at, hjn]
    by_cases e : x = j
    · subst e; simp [hB]
    · simp [e, hB]
  ·
    have hB : joinB s a n = true := by rw [← Bool.not_eq_false]; intro e; rw [e] at hjoined1; simp at hjoined1; omega
    refine v_aload_n 1 (pc' := 53) rfl dX1_tell_52 rfl rfl ?_
    refine v_getR (pc' := 56) rfl dX1_tell_53 fk_RX1_23 ly_19 rfl ?_
    refine v_iload_n 0 (pc' := 57) rfl dX1_tell_56 rfl rfl ?_
    refine v_dup2IR (pc' := 58) rfl dX1_tell_57 ?_
    refine v_iald (pc' := 59) rfl dX1_tell_58 ly_23 (by omega) (by omega) rfl (rfl) ?_
    refine v_iconst (pc' := 60) rfl dX1_tell_59 ?_
    refine v_iadd (pc' := 61) rfl dX1_tell_60 ?_
    refine v_iast (pc' := 62) rfl dX1_tell_61 ly_23 (by omega) (by omega) rfl ?_
    refine v_nmw (fun w6 hw6 => ?_)
    have h2 : w6 19 2 = (n : Int) := by rw [hw6, up_ne _ _ (by omega)]; exact h2
    refine v_vret dX1_tell_62 ?_
    refine ⟨fun x => ?_, by rw [hw6, hw4]; exact ((Fr.rf _ _).up rfl).up rfl⟩
    have hjn : index1.toNat = j := by omega
    simp only [hw6, hw4, up_at, hjn]
    by_cases e : x = j
    · subst e; simp [hB]
    · simp [e, hB]

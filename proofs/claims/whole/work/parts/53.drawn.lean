theorem iz_mod {a b : Int} (h : a % 4294967296 = b % 4294967296) : iz a = iz b := by
  apply Int32.toBitVec_inj.mp
  show (Int32.ofInt a).toBitVec = (Int32.ofInt b).toBitVec
  rw [Int32.toBitVec_ofInt, Int32.toBitVec_ofInt]
  apply BitVec.eq_of_toNat_eq
  rw [BitVec.toNat_ofInt, BitVec.toNat_ofInt]
  exact congrArg Int.toNat h
theorem iz_m16 (z : Int) : iz z &&& iz 65535 = iz (((z % 65536).toNat : Nat) : Int) := by
  have h := iz_andlow (a := ((z % 4294967296).toNat : Nat)) (b := 65535) (m := (z % 4294967296).toNat) (k := 16) rfl (by decide)
  have e : (z % 4294967296).toNat % 2 ^ 16 = (z % 65536).toNat := by simp only [Nat.reducePow]; omega
  rw [iz_mod (a := z) (b := ((z % 4294967296).toNat : Nat)) (by omega), h, e]
def lotN (X : Nat) : Nat := (25173 * X + 13849) % 65536
theorem lot_bits {b : Int} {X : Nat} (hb : b = X) : iz (25173 * b + 13849) &&& iz 65535 = iz ((lotN X : Nat) : Int) := by
  have e : ((25173 * b + 13849) % 65536).toNat = lotN X := by unfold lotN; omega
  rw [iz_m16, e]
theorem lot_lt (X : Nat) : lotN X < 65536 := Nat.mod_lt _ (by decide)
def shuL : Nat → Nat → (Nat → Nat) → Nat × (Nat → Nat)
  | 0, X, p => (X, p)
  | k + 1, X, p => shuL k (lotN X) (gsw p (k + 2) (lotN X / 4 % (k + 2) + 1))
theorem gsw_pm {n x y : Nat} {p : Nat → Nat} (hp : Pm n p) (hx1 : 1 ≤ x) (hx2 : x ≤ n) (hy1 : 1 ≤ y) (hy2 : y ≤ n) : Pm n (gsw p x y) := by
  obtain ⟨h1, h2, h3⟩ := hp
  have ax := h1 x hx1 hx2
  have ay := h1 y hy1 hy2
  refine ⟨fun z a b => ?_, fun z v a b c d e => ?_, fun z hz => ?_⟩
  · unfold gsw
    split
    · exact ay
    · split
      · exact ax
      · exact h1 z a b
  · unfold gsw at e
    by_cases p1 : z = x
    · rw [if_pos p1] at e
      by_cases q1 : v = x
      · omega
      · rw [if_neg q1] at e
        by_cases q2 : v = y
        · rw [if_pos q2] at e
          have := h2 y x hy1 hy2 hx1 hx2 e; omega
        · rw [if_neg q2] at e
          have := h2 y v hy1 hy2 c d e; omega
    · rw [if_neg p1] at e
      by_cases p2 : z = y
      · rw [if_pos p2] at e
        by_cases q1 : v = x
        · rw [if_pos q1] at e
          have := h2 x y hx1 hx2 hy1 hy2 e; omega
        · rw [if_neg q1] at e
          by_cases q2 : v = y
          · omega
          · rw [if_neg q2] at e
            have := h2 x v hx1 hx2 c d e; omega
      · rw [if_neg p2] at e
        by_cases q1 : v = x
        · rw [if_pos q1] at e
          have := h2 z y a b hy1 hy2 e; omega
        · rw [if_neg q1] at e
          by_cases q2 : v = y
          · rw [if_pos q2] at e
            have := h2 z x a b hx1 hx2 e; omega
          · rw [if_neg q2] at e
            exact h2 z v a b c d e
  · unfold gsw
    rw [if_neg (by omega), if_neg (by omega)]
    exact h3 z hz
theorem shuL_lt : ∀ k X f, X < 65536 → (shuL k X f).1 < 65536
  | 0, _, _, h => h
  | k + 1, X, f, _ => shuL_lt k _ _ (lot_lt X)
theorem shuL_pm {n : Nat} : ∀ k X f, k + 1 ≤ n → Pm n f → Pm n (shuL k X f).2
  | 0, _, _, _, h => h
  | k + 1, X, f, hk, h => shuL_pm k _ _ (by omega) (gsw_pm h (by omega) (by omega) (by omega) (by have := Nat.mod_lt (lotN X / 4) (show 0 < k + 2 by omega); omega))
def Only (a j : Nat) (w w' : Wd) : Prop := ∀ a' j', ¬ (a' = a ∧ j' = j) → w' a' j' = w a' j'
theorem Only.rf (a j : Nat) (w : Wd) : Only a j w w := fun _ _ _ => rfl
theorem Only.up {a j : Nat} {w w' : Wd} (h : Only a j w w') (v : Int) : Only a j w (up w' a j v) := fun a' j' q => by rw [up_ne _ _ q]; exact h a' j' q
theorem Only.fr {a j : Nat} {w w' : Wd} (h : Only a j w w') : Fr [a] w w' := fun o i q => h o i (fun e => by rw [e.1] at q; simp at q)
set_option maxHeartbeats 4000000 in
set_option maxRecDepth 100000 in
theorem c_shuffled (l : Launch) (G : Gx) {n0 : Int} {n X : Nat} (hn : n0 = n) (hn1 : 1 ≤ n) (hn7 : n ≤ 7) (hX : X < 65536) (w : Wd) (hL : w 0 2 = (X : Nat)) : Sp l G 2 mX10_shuffled [aR 0, aI (n0)] w (fun z w' => Only 0 2 w w' ∧ w' 0 2 = ((shuL (n - 1) X pid).1 : Nat) ∧ z = (hx (shuL (n - 1) X pid).2 : Nat)) := by
  refine Sp_of RX10 rfl (by decide +kernel) rfl (Nat.le_of_ble_eq_true rfl) ?_
  refine v_ldc (z := 19088743) (pc' := 2) rfl dX10_shuffled_0 kc_RX10_86 ?_
  refine v_istore_n (ls' := [(2, _), (0, _), (1, _)]) (pc' := 3) rfl dX10_shuffled_2 rfl rfl rfl ?_
  refine v_iload_n 2 (pc' := 4) rfl dX10_shuffled_3 rfl rfl ?_
  refine v_istore_n (ls' := [(3, _), (2, _), (0, _), (1, _)]) (pc' := 5) rfl dX10_shuffled_4 rfl rfl rfl ?_
  refine v_ls [2, 3, 1, 0] rfl ?_
  refine v_loop3 5 (fun (p : Int) (x : Int) (wl : Wd) => ∃ (k Y : Nat) (f : Nat → Nat), x = ((k + 1 : Nat) : Int) ∧ k + 1 ≤ n ∧ Pm n f ∧ p = (hx f : Nat) ∧ wl 0 2 = (Y : Nat) ∧ Y < 65536 ∧ shuL k Y f = shuL (n - 1) X pid ∧ Only 0 2 w wl) (fun (p : Int) (x : Int) (wl : Wd) => x.toNat) (fun (p : Int) (x : Int) (wl : Wd) => [(0, aR 0), (1, aI (n0)), (2, aI (p)), (3, aI (x))]) (fun (p : Int) (x : Int) (wl : Wd) => []) (fun (p : Int) (x : Int) (wl : Wd) => wl) (fun p x wl hI0 ih0 => ?_) (19088743) (n0) w (⟨n - 1, X, pid, by omega, by omega, pm_id n, by rw [hx_pid]; rfl, hL, hX, rfl, Only.rf _ _ _⟩)
  obtain ⟨k, Y, f, hxx, hkn, hf, hp, hlot, hY, hR, ho⟩ := hI0
  refine v_iload_n 3 (pc' := 6) rfl dX10_shuffled_5 rfl rfl ?_
  refine v_iconst (pc' := 7) rfl dX10_shuffled_6 ?_
  refine v_icmp_lt (pc' := 10) (tgt := 51) rfl dX10_shuffled_7 (by decide) (by omega) (by omega) (fun c0 => ?_) (fun c0 => ?_)
  ·
    have hk0 : k = 0 := by omega
    subst hk0
    refine v_iload_n 2 (pc' := 52) rfl dX10_shuffled_51 rfl rfl ?_
    refine v_iret dX10_shuffled_52 (by decide) (rfl) ?_
    exact ⟨ho, by rw [← hR]; exact hlot, by rw [← hR]; exact hp⟩
  ·
    obtain ⟨m, rfl⟩ : ∃ m, k = m + 1 := ⟨k - 1, by omega⟩
    have hml := Nat.mod_lt (lotN Y / 4) (show 0 < m + 2 by omega)
    refine v_aload_n 0 (pc' := 11) rfl dX10_shuffled_10 rfl rfl ?_
    refine v_sipush (pc' := 14) rfl dX10_shuffled_11 rfl ?_
    refine v_aload_n 0 (pc' := 15) rfl dX10_shuffled_14 rfl rfl ?_
    refine v_get (z := (Y : Int)) (pc' := 18) rfl dX10_shuffled_15 fk_RX10_130 ly_0 rfl (hlot) ?_
    refine v_imul (pc' := 19) rfl dX10_shuffled_18 ?_
    refine v_sipush (pc' := 22) rfl dX10_shuffled_19 rfl ?_
    refine v_iadd (pc' := 23) rfl dX10_shuffled_22 ?_
    refine v_ldc (z := 65535) (pc' := 25) rfl dX10_shuffled_23 kc_RX10_129 ?_
    refine v_iand (z := ((lotN Y : Nat) : Int)) (pc' := 26) rfl dX10_shuffled_25 (lot_bits rfl) ?_
    refine v_put (pc' := 29) rfl dX10_shuffled_26 fi_RX10_130 ly_0 rfl ?_
    refine v_nmw (fun w1 hw1 => ?_)
    have F0_2 : w1 0 2 = (((lotN Y : Nat) : Int)) := by rw [hw1, up_eq]
    refine v_iload_n 2 (pc' := 30) rfl dX10_shuffled_29 rfl rfl ?_
    refine v_iload_n 3 (pc' := 31) rfl dX10_shuffled_30 rfl rfl ?_
    refine v_aload_n 0 (pc' := 32) rfl dX10_shuffled_31 rfl rfl ?_
    refine v_get (z := (((lotN Y : Nat) : Int))) (pc' := 35) rfl dX10_shuffled_32 fk_RX10_130 ly_0 rfl (F0_2) ?_
    refine v_iconst (pc' := 36) rfl dX10_shuffled_35 ?_
    refine v_idiv (z := ((lotN Y / 4 : Nat) : Int)) (pc' := 37) rfl dX10_shuffled_36 (iz_ne (by decide) (by omega)) (by have := lot_lt Y; exact iz_divN (by omega) (by omega) (by omega) (by omega)) ?_
    refine v_iload_n 3 (pc' := 38) rfl dX10_shuffled_37 rfl rfl ?_
    refine v_irem (z := ((lotN Y / 4 % (m + 2) : Nat) : Int)) (pc' := 39) rfl dX10_shuffled_38 (iz_ne (by omega) (by omega)) (by have := lot_lt Y; rw [show x = ((m + 2 : Nat) : Int) by omega]; exact iz_remN (by omega) (by omega) (by omega) (by omega)) ?_
    refine v_iconst (pc' := 40) rfl dX10_shuffled_39 ?_
    refine v_iadd (pc' := 41) rfl dX10_shuffled_40 ?_
    refine v_cSP (pc' := 44) rfl dX10_shuffled_41 lk_RX10_136 rfl (c_swapped l G hp (hf.B hn7) (x := m + 2) (y := lotN Y / 4 % (m + 2) + 1) (by omega) (by omega) (by omega) (by omega) (by omega) (by omega) w1) rfl rfl rfl ?_
    refine v_nm (fun swapped1 hswapped1 => ?_)
    refine v_istore_n (ls' := [(2, _), (0, _), (1, _), (3, _)]) (pc' := 45) rfl dX10_shuffled_44 rfl rfl rfl ?_
    refine v_iinc (ls' := [(3, _), (2, _), (0, _), (1, _)]) 3 (pc' := 48) rfl dX10_shuffled_45 rfl rfl rfl ?_
    refine v_nl (fun x' hx' => ?_)
    refine v_goto (tgt := 5) dX10_shuffled_48 (by decide) ?_
    refine v_ls [2, 3, 1, 0] rfl ?_
    exact ih0 (swapped1) (x') w1 (⟨m, lotN Y, gsw f (m + 2) (lotN Y / 4 % (m + 2) + 1), by omega, by omega, gsw_pm hf (by omega) (by omega) (by omega) (by omega), hswapped1, F0_2, lot_lt Y, by rw [← hR]; rfl, by rw [hw1]; exact ho.up _⟩) (by omega)
def drwS (n : Nat) (z : Int) : Nat → Nat := (shuL (n - 1) (z % 65536).toNat pid).2
def drwA (n : Nat) (z : Int) : Nat → Nat := (shuL (n - 1) (shuL (n - 1) (z % 65536).toNat pid).1 pid).2
theorem drw_pm {n : Nat} (hn1 : 1 ≤ n) (z : Int) : Pm n (drwS n z) ∧ Pm n (drwA n z) := ⟨shuL_pm _ _ _ (by omega) (pm_id n), shuL_pm _ _ _ (by omega) (pm_id n)⟩
set_option maxHeartbeats 4000000 in
set_option maxRecDepth 100000 in
theorem c_drawn (l : Launch) (G : Gx) {d : Int} (hd : rg d) {n : Nat} {s a : Nat → Nat} (hV : MapV n s a) (w : Wd) (hM : MapW w n s a) : Sp l G 3 mX10_drawn [aR 0, aI (d)] w (fun z w' => Fr [0, 2] w w' ∧ (∀ j, j ≠ 2 → w' 0 j = w 0 j) ∧ MapW w' n (drwS n d) (drwA n d) ∧ (∀ j, 3 ≤ j → w' 2 j = w 2 j) ∧ z = (cdk (drwS n d) n : Nat)) := by
  obtain ⟨⟨hn1, hn7⟩, hs, ha⟩ := id hV
  obtain ⟨m0, m1, m2⟩ := id hM
  have hX : (d % 65536).toNat < 65536 := by omega
  have hY := shuL_lt (n - 1) (d % 65536).toNat pid hX
  have hdp := drw_pm hn1 d
  refine Sp_of RX10 rfl (by decide +kernel) rfl (Nat.le_of_ble_eq_true rfl) ?_
  refine v_aload_n 0 (pc' := 1) rfl dX10_drawn_0 rfl rfl ?_
  refine v_iload_n 1 (pc' := 2) rfl dX10_drawn_1 rfl rfl ?_
  refine v_ldc (z := 65535) (pc' := 4) rfl dX10_drawn_2 kc_RX10_129 ?_
  refine v_iand (z := (((d % 65536).toNat : Nat) : Int)) (pc' := 5) rfl dX10_drawn_4 (iz_m16 d) ?_
  refine v_put (pc' := 8) rfl dX10_drawn_5 fi_RX10_130 ly_0 rfl ?_
  refine v_nmw (fun w1 hw1 => ?_)
  have m0 : w1 2 0 = (n : Int) := by rw [hw1, up_ne _ _ (by omega)]; exact m0
  have m1 : w1 2 1 = ((hx s : Nat) : Int) := by rw [hw1, up_ne _ _ (by omega)]; exact m1
  have m2 : w1 2 2 = ((hx a : Nat) : Int) := by rw [hw1, up_ne _ _ (by omega)]; exact m2
  have F0_2 : w1 0 2 = ((((d % 65536).toNat : Nat) : Int)) := by rw [hw1, up_eq]
  refine v_aload_n 0 (pc' := 9) rfl dX10_drawn_8 rfl rfl ?_
  refine v_getR (pc' := 12) rfl dX10_drawn_9 fk_RX10_16 ly_0 rfl ?_
  refine v_aload_n 0 (pc' := 13) rfl dX10_drawn_12 rfl rfl ?_
  refine v_aload_n 0 (pc' := 14) rfl dX10_drawn_13 rfl rfl ?_
  refine v_getR (pc' := 17) rfl dX10_drawn_14 fk_RX10_16 ly_0 rfl ?_
  refine v_get (z := (n : Int)) (pc' := 20) rfl dX10_drawn_17 fk_RX10_81 ly_2 rfl (m0) ?_
  refine v_cVi (pc' := 23) rfl dX10_drawn_20 lk_RX10_133 ly_0 rfl (c_shuffled l G (n := n) rfl hn1 hn7 hX w1 F0_2) rfl rfl rfl (fun shuffled1 w2 hq2 => ?_)
  obtain ⟨o2, l2, z2⟩ := hq2
  have n2 : w2 2 0 = (n : Int) := (o2 2 0 (by omega)).trans m0
  refine v_put (pc' := 26) rfl dX10_drawn_23 fi_RX10_87 ly_2 rfl ?_
  refine v_nmw (fun w3 hw3 => ?_)
  have n2 : w3 2 0 = (n : Int) := by rw [hw3, up_ne _ _ (by omega)]; exact n2
  have F2_1 : w3 2 1 = shuffled1 := by rw [hw3, up_eq]
  refine v_aload_n 0 (pc' := 27) rfl dX10_drawn_26 rfl rfl ?_
  refine v_getR (pc' := 30) rfl dX10_drawn_27 fk_RX10_16 ly_0 rfl ?_
  refine v_aload_n 0 (pc' := 31) rfl dX10_drawn_30 rfl rfl ?_
  refine v_aload_n 0 (pc' := 32) rfl dX10_drawn_31 rfl rfl ?_
  refine v_getR (pc' := 35) rfl dX10_drawn_32 fk_RX10_16 ly_0 rfl ?_
  refine v_get (z := (n : Int)) (pc' := 38) rfl dX10_drawn_35 fk_RX10_81 ly_2 rfl (n2) ?_
  refine v_cVi (pc' := 41) rfl dX10_drawn_38 lk_RX10_133 ly_0 rfl (c_shuffled l G (n := n) rfl hn1 hn7 hY w3 (by rw [hw3, up_ne _ _ (by omega)]; exact l2)) rfl rfl rfl (fun shuffled2 w4 hq4 => ?_)
  obtain ⟨o4, l4, z4⟩ := hq4
  have n4 : w4 2 0 = (n : Int) := (o4 2 0 (by omega)).trans n2
  have n4s : w4 2 1 = (hx (drwS n d) : Nat) := (o4 2 1 (by omega)).trans (by rw [hw3, up_eq, z2]; rfl)
  refine v_put (pc' := 44) rfl dX10_drawn_41 fi_RX10_90 ly_2 rfl ?_
  refine v_nmw (fun w5 hw5 => ?_)
  have n4 : w5 2 0 = (n : Int) := by rw [hw5, up_ne _ _ (by omega)]; exact n4
  have n4s : w5 2 1 = ((hx (drwS n d) : Nat) : Int) := by rw [hw5, up_ne _ _ (by omega)]; exact n4s
  have F2_2 : w5 2 2 = shuffled2 := by rw [hw5, up_eq]
  refine v_aload_n 0 (pc' := 45) rfl dX10_drawn_44 rfl rfl ?_
  refine v_getR (pc' := 48) rfl dX10_drawn_45 fk_RX10_16 ly_0 rfl ?_
  refine v_get (z := ((hx (drwS n d) : Nat) : Int)) (pc' := 51) rfl dX10_drawn_48 fk_RX10_87 ly_2 rfl (n4s) ?_
  refine v_aload_n 0 (pc' := 52) rfl dX10_drawn_51 rfl rfl ?_
  refine v_getR (pc' := 55) rfl dX10_drawn_52 fk_RX10_16 ly_0 rfl ?_
  refine v_get (z := (n : Int)) (pc' := 58) rfl dX10_drawn_55 fk_RX10_81 ly_2 rfl (n4) ?_
  refine v_cSP (pc' := 61) rfl dX10_drawn_58 lk_RX10_105 rfl (c_digits l G rfl (hdp.1.B hn7) rfl hn7 w5) rfl rfl rfl ?_
  refine v_nm (fun digits1 hdigits1 => ?_)
  refine v_iret dX10_drawn_61 (by decide) (rfl) ?_
  have k1 : ∀ a j, ¬ (a = 0 ∧ j = 2) → ¬ (a = 2 ∧ (j = 1 ∨ j = 2)) → w5 a j = w a j := fun a j p q => by rw [hw5, up_ne _ _ (by omega), o4 a j p, hw3, up_ne _ _ (by omega), o2 a j p, hw1, up_ne _ _ p]
  refine ⟨fun o j ho => k1 o j (fun e => by rw [e.1] at ho; simp at ho) (fun e => by rw [e.1] at ho; simp at ho), fun j hj => k1 0 j (by omega) (by omega), ⟨?_, ?_, ?_⟩, fun j hj => k1 2 j (by omega) (by omega), hdigits1⟩
  · rw [k1 2 0 (by omega) (by omega)]; exact hM.1
  · exact n4s
  · rw [hw5, up_eq, z4]; rfl
def OprP (w : Wd) (n : Nat) (s a : Nat → Nat) (k z : Int) (w' : Wd) : Prop := (¬ (0 ≤ k ∧ k ≤ 3) ∧ w' = w ∧ z = -1) ∨
  ((0 ≤ k ∧ k ≤ 3) ∧ Fr [2] w w' ∧ MapW w' n (pblack k.toNat s a) (pwhite k.toNat s a) ∧ (∀ j, 3 ≤ j → w' 2 j = w 2 j) ∧ z = (cdk (pblack k.toNat s a) n : Nat))
theorem pbw_pm {n : Nat} {s a : Nat → Nat} (hV : MapV n s a) (k : Nat) : Pm n (pblack k s a) ∧ Pm n (pwhite k s a) := by
  have f := Pm.face hV.1.2 hV.2.1 hV.2.2
  have i1 := hV.2.1.inv hV.1.2
  have i2 := hV.2.2.inv hV.1.2
  unfold pblack pwhite
  refine ⟨?_, ?_⟩
  · split
    · exact i1
    · split
      · exact f
      · exact hV.2.2
  · split
    · exact hV.2.1
    · split
      · exact i2
      · split
        · exact f
        · exact hV.2.2
set_option maxHeartbeats 4000000 in
set_option maxRecDepth 100000 in
theorem c_operate (l : Launch) (G : Gx) {k : Int} (hk : rg k) {n : Nat} {s a : Nat → Nat} (hV : MapV n s a) (w : Wd) (hM : MapW w n s a) : Sp l G 4 mX10_operate [aR 0, aI (k)] w (fun z w' => OprP w n s a k z w') := by
  obtain ⟨⟨hn1, hn7⟩, hs, ha⟩ := id hV
  obtain ⟨m0, m1, m2⟩ := id hM
  have hop := pbw_pm hV k.toNat
  refine Sp_of RX10 rfl (by decide +kernel) rfl (Nat.le_of_ble_eq_true rfl) ?_
  refine v_iload_n 1 (pc' := 1) rfl dX10_operate_0 rfl rfl ?_
  refine v_if_lt (pc' := 4) (tgt := 9) rfl dX10_operate_1 (by decide) (by omega) (fun c0 => ?_) (fun c0 => ?_)
  ·
    refine v_iconst (pc' := 10) rfl dX10_operate_9 ?_
    refine v_iret dX10_operate_10 (by decide) (rfl) ?_
    first | exact Or.inl ⟨by omega, rfl, rfl⟩ | exact Or.inr ⟨by omega, by rw [hw4, hw3]; exact ((Fr.rf _ _).up rfl).up rfl, ⟨by rw [hw4, hw3]; exact hM.1, by rw [hw4, up_ne _ _ (by omega), hw3, up_eq]; exact hblack1, by rw [hw4, up_eq]; exact hwhite1⟩, fun j hj => by rw [hw4, up_ne _ _ (by omega), hw3, up_ne _ _ (by omega)], hdigits1⟩
  ·
    refine v_iload_n 1 (pc' := 5) rfl dX10_operate_4 rfl rfl ?_
    refine v_iconst (pc' := 6) rfl dX10_operate_5 ?_
    refine v_icmp_lt (pc' := 9) (tgt := 11) rfl dX10_operate_6 (by decide) (by omega) (by omega) (fun c1 => ?_) (fun c1 => ?_)
    ·
      refine v_iload_n 1 (pc' := 12) rfl dX10_operate_11 rfl rfl ?_
      refine v_aload_n 0 (pc' := 13) rfl dX10_operate_12 rfl rfl ?_
      refine v_getR (pc' := 16) rfl dX10_operate_13 fk_RX10_16 ly_0 rfl ?_
      refine v_get (z := ((hx s : Nat) : Int)) (pc' := 19) rfl dX10_operate_16 fk_RX10_87 ly_2 rfl (m1) ?_
      refine v_aload_n 0 (pc' := 20) rfl dX10_operate_19 rfl rfl ?_
      refine v_getR (pc' := 23) rfl dX10_operate_20 fk_RX10_16 ly_0 rfl ?_
      refine v_get (z := ((hx a : Nat) : Int)) (pc' := 26) rfl dX10_operate_23 fk_RX10_90 ly_2 rfl (m2) ?_
      refine v_cSP (pc' := 29) rfl dX10_operate_26 lk_RX10_140 rfl (c_black l G (k := k.toNat) (by omega) (by omega) rfl rfl (hs.mono hn7) (ha.mono hn7) w) rfl rfl rfl ?_
      refine v_nm (fun black1 hblack1 => ?_)
      refine v_istore_n (ls' := [(2, _), (0, _), (1, _)]) (pc' := 30) rfl dX10_operate_29 rfl rfl rfl ?_
      refine v_iload_n 2 (pc' := 31) rfl dX10_operate_30 rfl rfl ?_
      refine v_aload_n 1 (pc' := 32) rfl dX10_operate_31 rfl rfl ?_
      refine v_getR (pc' := 35) rfl dX10_operate_32 fk_RX10_16 ly_0 rfl ?_
      refine v_get (z := ((hx s : Nat) : Int)) (pc' := 38) rfl dX10_operate_35 fk_RX10_87 ly_2 rfl (m1) ?_
      refine v_aload_n 1 (pc' := 39) rfl dX10_operate_38 rfl rfl ?_
      refine v_getR (pc' := 42) rfl dX10_operate_39 fk_RX10_16 ly_0 rfl ?_
      refine v_get (z := ((hx a : Nat) : Int)) (pc' := 45) rfl dX10_operate_42 fk_RX10_90 ly_2 rfl (m2) ?_
      refine v_cSP (pc' := 48) rfl dX10_operate_45 lk_RX10_143 rfl (c_white l G (k := k.toNat) (by omega) (by omega) rfl rfl (hs.mono hn7) (ha.mono hn7) w) rfl rfl rfl ?_
      refine v_nm (fun white1 hwhite1 => ?_)
      refine v_istore_n (ls' := [(3, _), (2, _), (0, _), (1, _)]) (pc' := 49) rfl dX10_operate_48 rfl rfl rfl ?_
      refine v_aload_n 2 (pc' := 50) rfl dX10_operate_49 rfl rfl ?_
      refine v_getR (pc' := 53) rfl dX10_operate_50 fk_RX10_16 ly_0 rfl ?_
      refine v_iload_n 1 (pc' := 54) rfl dX10_operate_53 rfl rfl ?_
      refine v_put (pc' := 57) rfl dX10_operate_54 fi_RX10_87 ly_2 rfl ?_
      refine v_nmw (fun w3 hw3 => ?_)
      have m0 : w3 2 0 = (n : Int) := by rw [hw3, up_ne _ _ (by omega)]; exact m0
      have m2 : w3 2 2 = ((hx a : Nat) : Int) := by rw [hw3, up_ne _ _ (by omega)]; exact m2
      have F2_1 : w3 2 1 = black1 := by rw [hw3, up_eq]
      refine v_aload_n 2 (pc' := 58) rfl dX10_operate_57 rfl rfl ?_
      refine v_getR (pc' := 61) rfl dX10_operate_58 fk_RX10_16 ly_0 rfl ?_
      refine v_iload_n 0 (pc' := 62) rfl dX10_operate_61 rfl rfl ?_
      refine v_put (pc' := 65) rfl dX10_operate_62 fi_RX10_90 ly_2 rfl ?_
      refine v_nmw (fun w4 hw4 => ?_)
      have m0 : w4 2 0 = (n : Int) := by rw [hw4, up_ne _ _ (by omega)]; exact m0
      have F2_1 : w4 2 1 = black1 := by rw [hw4, up_ne _ _ (by omega)]; exact F2_1
      have F2_2 : w4 2 2 = white1 := by rw [hw4, up_eq]
      refine v_aload_n 2 (pc' := 66) rfl dX10_operate_65 rfl rfl ?_
      refine v_getR (pc' := 69) rfl dX10_operate_66 fk_RX10_16 ly_0 rfl ?_
      refine v_get (z := black1) (pc' := 72) rfl dX10_operate_69 fk_RX10_87 ly_2 rfl (F2_1) ?_
      refine v_aload_n 2 (pc' := 73) rfl dX10_operate_72 rfl rfl ?_
      refine v_getR (pc' := 76) rfl dX10_operate_73 fk_RX10_16 ly_0 rfl ?_
      refine v_get (z := (n : Int)) (pc' := 79) rfl dX10_operate_76 fk_RX10_81 ly_2 rfl (m0) ?_
      refine v_cSP (pc' := 82) rfl dX10_operate_79 lk_RX10_105 rfl (c_digits l G hblack1 (hop.1.B hn7) rfl hn7 w4) rfl rfl rfl ?_
      refine v_nm (fun digits1 hdigits1 => ?_)
      refine v_iret dX10_operate_82 (by decide) (rfl) ?_
      first | exact Or.inl ⟨by omega, rfl, rfl⟩ | exact Or.inr ⟨by omega, by rw [hw4, hw3]; exact ((Fr.rf _ _).up rfl).up rfl, ⟨by rw [hw4, hw3]; exact hM.1, by rw [hw4, up_ne _ _ (by omega), hw3, up_eq]; exact hblack1, by rw [hw4, up_eq]; exact hwhite1⟩, fun j hj => by rw [hw4, up_ne _ _ (by omega), hw3, up_ne _ _ (by omega)], hdigits1⟩
    ·
      refine v_iconst (pc' := 10) rfl dX10_operate_9 ?_
      refine v_iret dX10_operate_10 (by decide) (rfl) ?_
      first | exact Or.inl ⟨by omega, rfl, rfl⟩ | exact Or.inr ⟨by omega, by rw [hw4, hw3]; exact ((Fr.rf _ _).up rfl).up rfl, ⟨by rw [hw4, hw3]; exact hM.1, by rw [hw4, up_ne _ _ (by omega), hw3, up_eq]; exact hblack1, by rw [hw4, up_eq]; exact hwhite1⟩, fun j hj => by rw [hw4, up_ne _ _ (by omega), hw3, up_ne _ _ (by omega)], hdigits1⟩
theorem both_has7 : ∀ u : Nat, u < 128 → ∀ v : Nat, v < 128 → (u &&& v == 0) = true → ([1, 2, 3, 4, 5, 6, 7].all (fun y => (u &&& bt y == 0) || (v &&& bt y == 0))) = true := by decide +kernel
theorem both_has (u v : Nat) (hu : u < 128) (hv : v < 128) {y : Nat} (h1 : 1 ≤ y) (h2 : y ≤ 7) (a : u &&& bt y ≠ 0) (b : v &&& bt y ≠ 0) : u &&& v ≠ 0 := fun e => by
  have h := List.all_eq_true.mp (both_has7 u hu v hv (by rw [e]; rfl)) y (by simp; omega)
  simp only [Bool.or_eq_true, beq_iff_eq] at h
  rcases h with h | h
  · exact a h
  · exact b h
theorem BO_len {L : List Nat} (h : BO L) : L.length ≤ 7 := by
  refine fb_holes 7 L.length (fun i => lowN (L.getD i 0) - 1) (fun i hi => ?_) (fun i j hij hj e => ?_)
  · have a := h.1 _ (getD_mem (d := 0) hi)
    have := low_in _ a.1 a.2
    show lowN (L.getD i 0) - 1 < 7
    omega
  · have hi : i < L.length := by omega
    have a := h.1 _ (getD_mem (d := 0) hi)
    have b := h.1 _ (getD_mem (d := 0) hj)
    have la := low_in _ a.1 a.2
    have lb := low_in _ b.1 b.2
    have e2 : lowN (L.getD i 0) = lowN (L.getD j 0) := by
      have e' : lowN (L.getD i 0) - 1 = lowN (L.getD j 0) - 1 := e
      omega
    have d := pw_getD h.2 (d := 0) hij hj
    have ha := low_has _ a.1 a.2
    have hb := low_has _ b.1 b.2
    rw [← e2] at hb
    have := both_has (L.getD i 0) (L.getD j 0) a.1 b.1 la.1 la.2 ha hb
    exact this d
def BlkP (n : Nat) (s a : Nat → Nat) (i what z : Int) : Prop :=
  (¬ (0 ≤ i ∧ 0 ≤ what ∧ what ≤ 3) ∧ z = -1) ∨
  ((0 ≤ i ∧ 0 ≤ what ∧ what ≤ 3) ∧ (joinB s a n = false ∨ ((sysL n s a).length : Int) ≤ i) ∧ z = -2) ∨
  ((0 ≤ i ∧ 0 ≤ what ∧ what ≤ 3) ∧ joinB s a n = true ∧ i < ((sysL n s a).length : Int) ∧ ∃ L A, layN s a ((sysL n s a).getD i.toNat 0) = some L ∧ BPV A ∧ SrtOf L A ∧ 0 < A.length ∧
    z = if what = 0 then (popc (A.getD 0 (0, 0)).2 : Int) else if what = 1 then ((A.getD 0 (0, 0)).2 : Int) else if what = 2 then (smO s A A.length : Int) else (smO a A A.length : Int))
theorem jn_1 {b : Bool} {z : Int} (h : z = if b then 1 else 0) (hz : z ≠ 0) : b = true := by cases b; exact absurd h hz; rfl
theorem jn_0 {b : Bool} {z : Int} (h : z = if b then 1 else 0) (hz : z = 0) : b = false := by cases b; rfl; rw [hz] at h; exact absurd h (by decide)
theorem jn_r {b : Bool} {z : Int} (h : z = if b then 1 else 0) : rg z := by rw [h]; split <;> decide
theorem Srt_ok {n : Nat} {s a : Nat → Nat} (hV : MapV n s a) {i : Nat} {L : List Nat} {A : List PC} (hi : i < (sysL n s a).length) (hL : layN s a ((sysL n s a).getD i 0) = some L) (hl7 : A.length ≤ 7) (hA : SrtOf L A) : BPV A ∧ 0 < A.length ∧ (A.getD 0 (0, 0)).2 < 128 := by
  have hs7 := hV.2.1.b7 hV.1.2
  have ha7 := hV.2.2.b7 hV.1.2
  have hm := sysL_mem.mp (getD_mem (d := 0) hi)
  have hp := two_pow7 hV.1.1 hV.1.2
  have hBO := layN_BO hs7 ha7 (set := (sysL n s a).getD i 0) (by omega) (by omega) hL
  have e := hA.1.length_eq
  rw [prs_len] at e
  have hB := (hBO.1.prs (by omega)).perm hA.1
  exact ⟨hB, by omega, (hB.at (show 0 < A.length by omega)).2.1⟩
set_option maxHeartbeats 4000000 in
set_option maxRecDepth 100000 in
theorem c_block (l : Launch) (G : Gx) {i what : Int} (hi : rg i) (hwt : rg what) {n : Nat} {s a : Nat → Nat} (hV : MapV n s a) (w : Wd) (hM : MapW w n s a) : Sp l G 5 mX10_block [aR 0, aI (i), aI (what)] w (fun z w' => Fr [17, 18] w w' ∧ BlkP n s a i what z) := by
  obtain ⟨⟨hn1, hn7⟩, hs, ha⟩ := id hV
  obtain ⟨m0, m1, m2⟩ := id hM
  refine Sp_of RX10 rfl (by decide +kernel) rfl (Nat.le_of_ble_eq_true rfl) ?_
  refine v_iload_n 1 (pc' := 1) rfl dX10_block_0 rfl rfl ?_
  refine v_if_lt (pc' := 4) (tgt := 13) rfl dX10_block_1 (by decide) (by omega) (fun c0 => ?_) (fun c0 => ?_)
  ·
    refine v_iconst (pc' := 14) rfl dX10_block_13 ?_
    refine v_iret dX10_block_14 (by decide) (rfl) ?_
    first | exact ⟨Fr.rf _ _, Or.inl ⟨by omega, rfl⟩⟩ | exact ⟨Fr.rf _ _, Or.inr (Or.inl ⟨by omega, Or.inl hj, rfl⟩)⟩ | exact ⟨f1, Or.inr (Or.inl ⟨by omega, Or.inr hge, rfl⟩)⟩ | exact ⟨f1, Or.inr (Or.inr ⟨by omega, hj, by omega, L, A, hL, hok.1, hA, hok.2.1, by rw [if_pos sw0]; exact hbitCount1⟩)⟩ | exact ⟨f1, Or.inr (Or.inr ⟨by omega, hj, by omega, L, A, hL, hok.1, hA, hok.2.1, by rw [if_neg (by omega), if_pos sw0]; exact hwithDartOne2.trans (hBW.2 0 hok.2.1)⟩)⟩ | exact ⟨f1, Or.inr (Or.inr ⟨by omega, hj, by omega, L, A, hL, hok.1, hA, hok.2.1, by rw [if_neg (by omega), if_neg (by omega), if_pos sw0]; exact hsmaller1⟩)⟩ | exact ⟨f1, Or.inr (Or.inr ⟨by omega, hj, by omega, L, A, hL, hok.1, hA, hok.2.1, by rw [if_neg (by omega), if_neg (by omega), if_neg (by omega)]; exact hsmaller2⟩)⟩
  ·
    refine v_iload_n 2 (pc' := 5) rfl dX10_block_4 rfl rfl ?_
    refine v_if_lt (pc' := 8) (tgt := 13) rfl dX10_block_5 (by decide) (by omega) (fun c1 => ?_) (fun c1 => ?_)
    ·
      refine v_iconst (pc' := 14) rfl dX10_block_13 ?_
      refine v_iret dX10_block_14 (by decide) (rfl) ?_
      first | exact ⟨Fr.rf _ _, Or.inl ⟨by omega, rfl⟩⟩ | exact ⟨Fr.rf _ _, Or.inr (Or.inl ⟨by omega, Or.inl hj, rfl⟩)⟩ | exact ⟨f1, Or.inr (Or.inl ⟨by omega, Or.inr hge, rfl⟩)⟩ | exact ⟨f1, Or.inr (Or.inr ⟨by omega, hj, by omega, L, A, hL, hok.1, hA, hok.2.1, by rw [if_pos sw0]; exact hbitCount1⟩)⟩ | exact ⟨f1, Or.inr (Or.inr ⟨by omega, hj, by omega, L, A, hL, hok.1, hA, hok.2.1, by rw [if_neg (by omega), if_pos sw0]; exact hwithDartOne2.trans (hBW.2 0 hok.2.1)⟩)⟩ | exact ⟨f1, Or.inr (Or.inr ⟨by omega, hj, by omega, L, A, hL, hok.1, hA, hok.2.1, by rw [if_neg (by omega), if_neg (by omega), if_pos sw0]; exact hsmaller1⟩)⟩ | exact ⟨f1, Or.inr (Or.inr ⟨by omega, hj, by omega, L, A, hL, hok.1, hA, hok.2.1, by rw [if_neg (by omega), if_neg (by omega), if_neg (by omega)]; exact hsmaller2⟩)⟩
    ·
      refine v_iload_n 2 (pc' := 9) rfl dX10_block_8 rfl rfl ?_
      refine v_iconst (pc' := 10) rfl dX10_block_9 ?_
      refine v_icmp_le (pc' := 13) (tgt := 15) rfl dX10_block_10 (by decide) (by omega) (by omega) (fun c2 => ?_) (fun c2 => ?_)
      ·
        refine v_aload_n 0 (pc' := 16) rfl dX10_block_15 rfl rfl ?_
        refine v_cVP (pc' := 19) rfl dX10_block_16 lk_RX10_194 ly_0 rfl (c_connected l G hV w hM) rfl rfl rfl ?_
        refine v_nm (fun connected1 hconnected1 => ?_)
        refine v_if_eq (pc' := 22) (tgt := 54) rfl dX10_block_19 (by decide) (jn_r hconnected1) (fun c3 => ?_) (fun c3 => ?_)
        ·
          have hj := jn_0 hconnected1 (by omega)
          refine v_bipush (pc' := 56) rfl dX10_block_54 rfl ?_
          refine v_iret dX10_block_56 (by decide) (rfl) ?_
          first | exact ⟨Fr.rf _ _, Or.inl ⟨by omega, rfl⟩⟩ | exact ⟨Fr.rf _ _, Or.inr (Or.inl ⟨by omega, Or.inl hj, rfl⟩)⟩ | exact ⟨f1, Or.inr (Or.inl ⟨by omega, Or.inr hge, rfl⟩)⟩ | exact ⟨f1, Or.inr (Or.inr ⟨by omega, hj, by omega, L, A, hL, hok.1, hA, hok.2.1, by rw [if_pos sw0]; exact hbitCount1⟩)⟩ | exact ⟨f1, Or.inr (Or.inr ⟨by omega, hj, by omega, L, A, hL, hok.1, hA, hok.2.1, by rw [if_neg (by omega), if_pos sw0]; exact hwithDartOne2.trans (hBW.2 0 hok.2.1)⟩)⟩ | exact ⟨f1, Or.inr (Or.inr ⟨by omega, hj, by omega, L, A, hL, hok.1, hA, hok.2.1, by rw [if_neg (by omega), if_neg (by omega), if_pos sw0]; exact hsmaller1⟩)⟩ | exact ⟨f1, Or.inr (Or.inr ⟨by omega, hj, by omega, L, A, hL, hok.1, hA, hok.2.1, by rw [if_neg (by omega), if_neg (by omega), if_neg (by omega)]; exact hsmaller2⟩)⟩
        ·
          have hj := jn_1 hconnected1 (by omega)
          refine v_aload_n 0 (pc' := 23) rfl dX10_block_22 rfl rfl ?_
          refine v_getR (pc' := 26) rfl dX10_block_23 fk_RX10_48 ly_0 rfl ?_
          refine v_aload_n 0 (pc' := 27) rfl dX10_block_26 rfl rfl ?_
          refine v_getR (pc' := 30) rfl dX10_block_27 fk_RX10_16 ly_0 rfl ?_
          refine v_get (z := (n : Int)) (pc' := 33) rfl dX10_block_30 fk_RX10_81 ly_2 rfl (m0) ?_
          refine v_aload_n 0 (pc' := 34) rfl dX10_block_33 rfl rfl ?_
          refine v_getR (pc' := 37) rfl dX10_block_34 fk_RX10_16 ly_0 rfl ?_
          refine v_get (z := ((hx s : Nat) : Int)) (pc' := 40) rfl dX10_block_37 fk_RX10_87 ly_2 rfl (m1) ?_
          refine v_aload_n 0 (pc' := 41) rfl dX10_block_40 rfl rfl ?_
          refine v_getR (pc' := 44) rfl dX10_block_41 fk_RX10_16 ly_0 rfl ?_
          refine v_get (z := ((hx a : Nat) : Int)) (pc' := 47) rfl dX10_block_44 fk_RX10_90 ly_2 rfl (m2) ?_
          refine v_iload_n 1 (pc' := 48) rfl dX10_block_47 rfl rfl ?_
          refine v_cVi (pc' := 51) rfl dX10_block_48 lk_RX10_273 ly_17 rfl (c_find l G (n := n) rfl hn1 hn7 rfl rfl (hs.b7 hn7) (ha.b7 hn7) (i := i.toNat) (by omega) (by omega) w) rfl rfl rfl (fun find1 w2 hq2 => ?_)
          obtain ⟨q2, f1⟩ := hq2
          have rz : rg find1 := by rcases q2 with ⟨h, -⟩ | ⟨h, -⟩ <;> omega
          have n0a := (f1 2 0 rfl).trans m0
          have n1a := (f1 2 1 rfl).trans m1
          have n2a := (f1 2 2 rfl).trans m2
          refine v_if_ne (pc' := 54) (tgt := 57) rfl dX10_block_51 (by decide) (rz) (fun c4 => ?_) (fun c4 => ?_)
          ·
            obtain ⟨hil, L, A, hL, hBW, hA⟩ : i.toNat < (sysL n s a).length ∧ ∃ L A, layN s a ((sysL n s a).getD i.toNat 0) = some L ∧ BPW w2 A ∧ SrtOf L A := by
              rcases q2 with ⟨-, h⟩ | ⟨h, -⟩
              · exact h
              · omega
            have hl7 : A.length ≤ 7 := by
              have hm := sysL_mem.mp (getD_mem (d := 0) hil)
              have hp := two_pow7 hn1 hn7
              have hBO := layN_BO (hs.b7 hn7) (ha.b7 hn7) (set := (sysL n s a).getD i.toNat 0) (by omega) (by omega) hL
              have e := hA.1.length_eq
              rw [prs_len] at e
              have := BO_len hBO.1
              omega
            have hok := Srt_ok hV hil hL hl7 hA
            refine v_iload_n 2 (pc' := 58) rfl dX10_block_57 rfl rfl ?_
            rcases (show what = 0 ∨ what = 1 ∨ what = 2 ∨ (what < 0 ∨ 2 < what) by omega) with sw0 | sw0 | sw0 | sw0
            ·
              refine v_tin (tgt := 84) 0 dX10_block_58 sw0 (by decide) (by decide) (by decide) rfl (by decide) ?_
              refine v_aload_n 0 (pc' := 85) rfl dX10_block_84 rfl rfl ?_
              refine v_getR (pc' := 88) rfl dX10_block_85 fk_RX10_48 ly_0 rfl ?_
              refine v_cVP (pc' := 91) rfl dX10_block_88 lk_RX10_277 ly_17 rfl (c_withDartOne l G w2) rfl rfl rfl ?_
              refine v_nm (fun withDartOne1 hwithDartOne1 => ?_)
              refine v_cSP (pc' := 94) rfl dX10_block_91 lk_RX10_180 rfl (c_bitCount l G (hwithDartOne1.trans (hBW.2 0 hok.2.1)) (by have := hok.2.2; omega) w2) rfl rfl rfl ?_
              refine v_nm (fun bitCount1 hbitCount1 => ?_)
              refine v_iret dX10_block_94 (by decide) (rfl) ?_
              first | exact ⟨Fr.rf _ _, Or.inl ⟨by omega, rfl⟩⟩ | exact ⟨Fr.rf _ _, Or.inr (Or.inl ⟨by omega, Or.inl hj, rfl⟩)⟩ | exact ⟨f1, Or.inr (Or.inl ⟨by omega, Or.inr hge, rfl⟩)⟩ | exact ⟨f1, Or.inr (Or.inr ⟨by omega, hj, by omega, L, A, hL, hok.1, hA, hok.2.1, by rw [if_pos sw0]; exact hbitCount1⟩)⟩ | exact ⟨f1, Or.inr (Or.inr ⟨by omega, hj, by omega, L, A, hL, hok.1, hA, hok.2.1, by rw [if_neg (by omega), if_pos sw0]; exact hwithDartOne2.trans (hBW.2 0 hok.2.1)⟩)⟩ | exact ⟨f1, Or.inr (Or.inr ⟨by omega, hj, by omega, L, A, hL, hok.1, hA, hok.2.1, by rw [if_neg (by omega), if_neg (by omega), if_pos sw0]; exact hsmaller1⟩)⟩ | exact ⟨f1, Or.inr (Or.inr ⟨by omega, hj, by omega, L, A, hL, hok.1, hA, hok.2.1, by rw [if_neg (by omega), if_neg (by omega), if_neg (by omega)]; exact hsmaller2⟩)⟩
            ·
              refine v_tin (tgt := 95) 1 dX10_block_58 sw0 (by decide) (by decide) (by decide) rfl (by decide) ?_
              refine v_aload_n 0 (pc' := 96) rfl dX10_block_95 rfl rfl ?_
              refine v_getR (pc' := 99) rfl dX10_block_96 fk_RX10_48 ly_0 rfl ?_
              refine v_cVP (pc' := 102) rfl dX10_block_99 lk_RX10_277 ly_17 rfl (c_withDartOne l G w2) rfl rfl rfl ?_
              refine v_nm (fun withDartOne2 hwithDartOne2 => ?_)
              refine v_iret dX10_block_102 (by decide) (rfl) ?_
              first | exact ⟨Fr.rf _ _, Or.inl ⟨by omega, rfl⟩⟩ | exact ⟨Fr.rf _ _, Or.inr (Or.inl ⟨by omega, Or.inl hj, rfl⟩)⟩ | exact ⟨f1, Or.inr (Or.inl ⟨by omega, Or.inr hge, rfl⟩)⟩ | exact ⟨f1, Or.inr (Or.inr ⟨by omega, hj, by omega, L, A, hL, hok.1, hA, hok.2.1, by rw [if_pos sw0]; exact hbitCount1⟩)⟩ | exact ⟨f1, Or.inr (Or.inr ⟨by omega, hj, by omega, L, A, hL, hok.1, hA, hok.2.1, by rw [if_neg (by omega), if_pos sw0]; exact hwithDartOne2.trans (hBW.2 0 hok.2.1)⟩)⟩ | exact ⟨f1, Or.inr (Or.inr ⟨by omega, hj, by omega, L, A, hL, hok.1, hA, hok.2.1, by rw [if_neg (by omega), if_neg (by omega), if_pos sw0]; exact hsmaller1⟩)⟩ | exact ⟨f1, Or.inr (Or.inr ⟨by omega, hj, by omega, L, A, hL, hok.1, hA, hok.2.1, by rw [if_neg (by omega), if_neg (by omega), if_neg (by omega)]; exact hsmaller2⟩)⟩
            ·
              refine v_tin (tgt := 103) 2 dX10_block_58 sw0 (by decide) (by decide) (by decide) rfl (by decide) ?_
              refine v_aload_n 0 (pc' := 104) rfl dX10_block_103 rfl rfl ?_
              refine v_getR (pc' := 107) rfl dX10_block_104 fk_RX10_48 ly_0 rfl ?_
              refine v_aload_n 0 (pc' := 108) rfl dX10_block_107 rfl rfl ?_
              refine v_getR (pc' := 111) rfl dX10_block_108 fk_RX10_16 ly_0 rfl ?_
              refine v_get (z := ((hx s : Nat) : Int)) (pc' := 114) rfl dX10_block_111 fk_RX10_87 ly_2 rfl (n1a) ?_
              refine v_cVP (pc' := 117) rfl dX10_block_114 lk_RX10_280 ly_17 rfl (c_smaller l G rfl (hs.b7 hn7) hok.1 w2 hBW) rfl rfl rfl ?_
              refine v_nm (fun smaller1 hsmaller1 => ?_)
              refine v_iret dX10_block_117 (by decide) (rfl) ?_
              first | exact ⟨Fr.rf _ _, Or.inl ⟨by omega, rfl⟩⟩ | exact ⟨Fr.rf _ _, Or.inr (Or.inl ⟨by omega, Or.inl hj, rfl⟩)⟩ | exact ⟨f1, Or.inr (Or.inl ⟨by omega, Or.inr hge, rfl⟩)⟩ | exact ⟨f1, Or.inr (Or.inr ⟨by omega, hj, by omega, L, A, hL, hok.1, hA, hok.2.1, by rw [if_pos sw0]; exact hbitCount1⟩)⟩ | exact ⟨f1, Or.inr (Or.inr ⟨by omega, hj, by omega, L, A, hL, hok.1, hA, hok.2.1, by rw [if_neg (by omega), if_pos sw0]; exact hwithDartOne2.trans (hBW.2 0 hok.2.1)⟩)⟩ | exact ⟨f1, Or.inr (Or.inr ⟨by omega, hj, by omega, L, A, hL, hok.1, hA, hok.2.1, by rw [if_neg (by omega), if_neg (by omega), if_pos sw0]; exact hsmaller1⟩)⟩ | exact ⟨f1, Or.inr (Or.inr ⟨by omega, hj, by omega, L, A, hL, hok.1, hA, hok.2.1, by rw [if_neg (by omega), if_neg (by omega), if_neg (by omega)]; exact hsmaller2⟩)⟩
            ·
              refine v_tout (tgt := 118) dX10_block_58 (by omega) sw0 (by decide) ?_
              refine v_aload_n 0 (pc' := 119) rfl dX10_block_118 rfl rfl ?_
              refine v_getR (pc' := 122) rfl dX10_block_119 fk_RX10_48 ly_0 rfl ?_
              refine v_aload_n 0 (pc' := 123) rfl dX10_block_122 rfl rfl ?_
              refine v_getR (pc' := 126) rfl dX10_block_123 fk_RX10_16 ly_0 rfl ?_
              refine v_get (z := ((hx a : Nat) : Int)) (pc' := 129) rfl dX10_block_126 fk_RX10_90 ly_2 rfl (n2a) ?_
              refine v_cVP (pc' := 132) rfl dX10_block_129 lk_RX10_280 ly_17 rfl (c_smaller l G rfl (ha.b7 hn7) hok.1 w2 hBW) rfl rfl rfl ?_
              refine v_nm (fun smaller2 hsmaller2 => ?_)
              refine v_iret dX10_block_132 (by decide) (rfl) ?_
              first | exact ⟨Fr.rf _ _, Or.inl ⟨by omega, rfl⟩⟩ | exact ⟨Fr.rf _ _, Or.inr (Or.inl ⟨by omega, Or.inl hj, rfl⟩)⟩ | exact ⟨f1, Or.inr (Or.inl ⟨by omega, Or.inr hge, rfl⟩)⟩ | exact ⟨f1, Or.inr (Or.inr ⟨by omega, hj, by omega, L, A, hL, hok.1, hA, hok.2.1, by rw [if_pos sw0]; exact hbitCount1⟩)⟩ | exact ⟨f1, Or.inr (Or.inr ⟨by omega, hj, by omega, L, A, hL, hok.1, hA, hok.2.1, by rw [if_neg (by omega), if_pos sw0]; exact hwithDartOne2.trans (hBW.2 0 hok.2.1)⟩)⟩ | exact ⟨f1, Or.inr (Or.inr ⟨by omega, hj, by omega, L, A, hL, hok.1, hA, hok.2.1, by rw [if_neg (by omega), if_neg (by omega), if_pos sw0]; exact hsmaller1⟩)⟩ | exact ⟨f1, Or.inr (Or.inr ⟨by omega, hj, by omega, L, A, hL, hok.1, hA, hok.2.1, by rw [if_neg (by omega), if_neg (by omega), if_neg (by omega)]; exact hsmaller2⟩)⟩
          ·
            have hge : ((sysL n s a).length : Int) ≤ i := by rcases q2 with ⟨h, -⟩ | ⟨-, h⟩ <;> omega
            refine v_bipush (pc' := 56) rfl dX10_block_54 rfl ?_
            refine v_iret dX10_block_56 (by decide) (rfl) ?_
            first | exact ⟨Fr.rf _ _, Or.inl ⟨by omega, rfl⟩⟩ | exact ⟨Fr.rf _ _, Or.inr (Or.inl ⟨by omega, Or.inl hj, rfl⟩)⟩ | exact ⟨f1, Or.inr (Or.inl ⟨by omega, Or.inr hge, rfl⟩)⟩ | exact ⟨f1, Or.inr (Or.inr ⟨by omega, hj, by omega, L, A, hL, hok.1, hA, hok.2.1, by rw [if_pos sw0]; exact hbitCount1⟩)⟩ | exact ⟨f1, Or.inr (Or.inr ⟨by omega, hj, by omega, L, A, hL, hok.1, hA, hok.2.1, by rw [if_neg (by omega), if_pos sw0]; exact hwithDartOne2.trans (hBW.2 0 hok.2.1)⟩)⟩ | exact ⟨f1, Or.inr (Or.inr ⟨by omega, hj, by omega, L, A, hL, hok.1, hA, hok.2.1, by rw [if_neg (by omega), if_neg (by omega), if_pos sw0]; exact hsmaller1⟩)⟩ | exact ⟨f1, Or.inr (Or.inr ⟨by omega, hj, by omega, L, A, hL, hok.1, hA, hok.2.1, by rw [if_neg (by omega), if_neg (by omega), if_neg (by omega)]; exact hsmaller2⟩)⟩
      ·
        refine v_iconst (pc' := 14) rfl dX10_block_13 ?_
        refine v_iret dX10_block_14 (by decide) (rfl) ?_
        first | exact ⟨Fr.rf _ _, Or.inl ⟨by omega, rfl⟩⟩ | exact ⟨Fr.rf _ _, Or.inr (Or.inl ⟨by omega, Or.inl hj, rfl⟩)⟩ | exact ⟨f1, Or.inr (Or.inl ⟨by omega, Or.inr hge, rfl⟩)⟩ | exact ⟨f1, Or.inr (Or.inr ⟨by omega, hj, by omega, L, A, hL, hok.1, hA, hok.2.1, by rw [if_pos sw0]; exact hbitCount1⟩)⟩ | exact ⟨f1, Or.inr (Or.inr ⟨by omega, hj, by omega, L, A, hL, hok.1, hA, hok.2.1, by rw [if_neg (by omega), if_pos sw0]; exact hwithDartOne2.trans (hBW.2 0 hok.2.1)⟩)⟩ | exact ⟨f1, Or.inr (Or.inr ⟨by omega, hj, by omega, L, A, hL, hok.1, hA, hok.2.1, by rw [if_neg (by omega), if_neg (by omega), if_pos sw0]; exact hsmaller1⟩)⟩ | exact ⟨f1, Or.inr (Or.inr ⟨by omega, hj, by omega, L, A, hL, hok.1, hA, hok.2.1, by rw [if_neg (by omega), if_neg (by omega), if_neg (by omega)]; exact hsmaller2⟩)⟩

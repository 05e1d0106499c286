/-! ===== DrawnMaps: common, mass, family, roots ===== -/
theorem gcd_stp (B S : Nat) : Nat.gcd B S = Nat.gcd S (B % S) := by
  rw [Nat.gcd_comm B S, Nat.gcd_rec S B, Nat.gcd_comm]
theorem half_stp {B S m : Nat} (hS : 0 < S) (hle : S ≤ B) (h : B * S < 2 ^ (m + 1)) : S * (B % S) < 2 ^ m ∧ B % S ≤ S := by
  have hr := Nat.mod_lt B hS
  have hd := Nat.div_add_mod B S
  have hq : 1 ≤ B / S := (Nat.one_le_div_iff hS).mpr hle
  have h1 : S * 1 ≤ S * (B / S) := Nat.mul_le_mul_left S hq
  have h2 : 2 * (B % S) ≤ B := by omega
  have h3 : S * (2 * (B % S)) ≤ S * B := Nat.mul_le_mul_left S h2
  rw [show S * (2 * (B % S)) = 2 * (S * (B % S)) by rw [Nat.mul_left_comm]] at h3
  rw [Nat.mul_comm] at h
  rw [Nat.pow_succ] at h
  omega
set_option maxHeartbeats 4000000 in
set_option maxRecDepth 100000 in
theorem c_common (l : Launch) (G : Gx) {a b : Int} {A B : Nat} (ha : a = A) (hb : b = B) (hA : A < 2 ^ 40) (hB : B < 2 ^ 40) (w : Wd)  : SpP l G 0 mX10_common [aL (a), aL (b)] w (((Nat.gcd A B : Nat) : Int)) := by
  have hA9 : A < 1099511627776 := hA
  have hB9 : B < 1099511627776 := hB
  have hAB : A * B < 2 ^ 99 := Nat.lt_of_lt_of_le (Nat.mul_lt_mul_of_lt_of_le hA (Nat.le_of_lt hB) (by decide)) (by decide)
  refine Sp_of RX10 rfl (by decide +kernel) rfl (Nat.le_of_ble_eq_true rfl) ?_
  refine v_lload_n 0 (pc' := 1) rfl dX10_common_0 rfl rfl ?_
  refine v_lstore (ls' := [(4, _), (0, _), (2, _)]) (pc' := 3) rfl dX10_common_1 rfl rfl ?_
  refine v_lload_n 2 (pc' := 4) rfl dX10_common_3 rfl rfl ?_
  refine v_lstore (ls' := [(6, _), (4, _), (0, _), (2, _)]) (pc' := 6) rfl dX10_common_4 rfl rfl ?_
  refine v_iconst (pc' := 7) rfl dX10_common_6 ?_
  refine v_istore (ls' := [(8, _), (6, _), (4, _), (0, _), (2, _)]) (pc' := 9) rfl dX10_common_7 rfl rfl ?_
  refine v_ls [3, 4, 2, 1, 0] rfl ?_
  refine v_loop3 9 (fun (big : Int) (small : Int) (i : Int) => ∃ P Q m : Nat, big = P ∧ small = Q ∧ (i + m = 100 ∧ m ≤ 100) ∧ Nat.gcd P Q = Nat.gcd A B ∧ (P < 1099511627776 ∧ Q < 1099511627776) ∧ ((Q ≤ P ∧ P * Q < 2 ^ m) ∨ (m = 100 ∧ P * Q < 2 ^ 99))) (fun (big : Int) (small : Int) (i : Int) => (100 - i).toNat) (fun (big : Int) (small : Int) (i : Int) => [(0, aL (a)), (2, aL (b)), (4, aL (big)), (6, aL (small)), (8, aI (i))]) (fun (big : Int) (small : Int) (i : Int) => []) (fun (big : Int) (small : Int) (i : Int) => w) (fun big small i hI0 ih0 => ?_) (a) (b) (0) (⟨A, B, 100, ha, hb, ⟨rfl, by omega⟩, rfl, ⟨hA9, hB9⟩, Or.inr ⟨rfl, hAB⟩⟩)
  obtain ⟨P, Q, m, hP, hQ, ⟨him, hm100⟩, hg, ⟨hPl, hQl⟩, hst⟩ := hI0
  refine v_iload 4 (pc' := 11) rfl dX10_common_9 rfl ?_
  refine v_bipush (pc' := 13) rfl dX10_common_11 rfl ?_
  refine v_icmp_ge (pc' := 16) (tgt := 44) rfl dX10_common_13 (by decide) (by omega) (by omega) (fun c0 => ?_) (fun c0 => ?_)
  ·
    have hm0 : m = 0 := by omega
    subst hm0
    have hQ0 : Q = 0 := by
      rcases hst with ⟨h, h2⟩ | ⟨h, -⟩
      · have : P * Q = 0 := by omega
        rcases Nat.mul_eq_zero.mp this with h3 | h3 <;> omega
      · omega
    refine v_lload 2 (pc' := 46) rfl dX10_common_44 rfl ?_
    refine v_lret dX10_common_46 ?_
    exact ⟨by rw [hP, ← hg, hQ0, Nat.gcd_zero_right], rfl⟩
  ·
    refine v_lload 3 (pc' := 18) rfl dX10_common_16 rfl ?_
    refine v_lconst (z := 0) (pc' := 19) rfl dX10_common_18 rfl ?_
    refine v_lcmp (z := (lcmpI small 0)) (pc' := 20) rfl dX10_common_19 (lcmp_iz (by omega) (by omega)) ?_
    refine v_if_eq (pc' := 23) (tgt := 44) rfl dX10_common_20 (by decide) (by unfold lcmpI; split; decide; split <;> decide) (fun c1 => ?_) (fun c1 => ?_)
    ·
      have hQ0 : Q = 0 := by
        unfold lcmpI at c1
        split at c1
        · omega
        · split at c1 <;> omega
      refine v_lload 2 (pc' := 46) rfl dX10_common_44 rfl ?_
      refine v_lret dX10_common_46 ?_
      exact ⟨by rw [hP, ← hg, hQ0, Nat.gcd_zero_right], rfl⟩
    ·
      have hQp : 0 < Q := by
        refine Nat.pos_of_ne_zero (fun e => c1 ?_)
        unfold lcmpI
        rw [if_neg (by omega), if_pos (by omega)]
      obtain ⟨m0, rfl⟩ : ∃ j, m = j + 1 := ⟨m - 1, by omega⟩
      have hml := Nat.mod_lt P hQp
      have hnx : Q * (P % Q) < 2 ^ m0 ∧ P % Q ≤ Q := by
        rcases hst with ⟨h, h2⟩ | ⟨h, h2⟩
        · exact half_stp hQp h h2
        · refine ⟨Nat.lt_of_le_of_lt (Nat.mul_le_mul_left Q (Nat.mod_le P Q)) ?_, by omega⟩
          rw [Nat.mul_comm, show m0 = 99 by omega]
          exact h2
      refine v_lload 2 (pc' := 25) rfl dX10_common_23 rfl ?_
      refine v_lload 3 (pc' := 27) rfl dX10_common_25 rfl ?_
      refine v_lrem (z := ((P % Q : Nat) : Int)) (pc' := 28) rfl dX10_common_27 (lz_ne (by omega) (by omega) (by omega)) (by rw [hP, hQ]; exact lz_remN (by omega) (by omega) (by omega) (by omega)) ?_
      refine v_nmL (fun rest' hrest' => ?_)
      refine v_lstore (ls' := [(9, _), (0, _), (2, _), (4, _), (6, _), (8, _)]) (pc' := 30) rfl dX10_common_28 rfl rfl ?_
      refine v_lload 4 (pc' := 32) rfl dX10_common_30 rfl ?_
      refine v_lstore (ls' := [(4, _), (9, _), (0, _), (2, _), (6, _), (8, _)]) (pc' := 34) rfl dX10_common_32 rfl rfl ?_
      refine v_lload 1 (pc' := 36) rfl dX10_common_34 rfl ?_
      refine v_lstore (ls' := [(6, _), (4, _), (9, _), (0, _), (2, _), (8, _)]) (pc' := 38) rfl dX10_common_36 rfl rfl ?_
      refine v_iinc (ls' := [(8, _), (6, _), (4, _), (9, _), (0, _), (2, _)]) 5 (pc' := 41) rfl dX10_common_38 rfl rfl rfl ?_
      refine v_nl (fun i' hi' => ?_)
      refine v_goto (tgt := 9) dX10_common_41 (by decide) ?_
      refine v_ls [4, 5, 2, 1, 0] rfl ?_
      exact ih0 (small) (rest') (i') (⟨Q, P % Q, m0, hQ, hrest', ⟨by omega, by omega⟩, by rw [← gcd_stp]; exact hg, ⟨hQl, by omega⟩, Or.inl ⟨hnx.2, hnx.1⟩⟩) (by omega)
def MasP (n : Nat) (t1 t2 t3 what z : Int) : Prop := (¬ (KN3 n t1 t2 t3 ∧ 0 ≤ what ∧ what ≤ 1) ∧ z = -1) ∨
  ∃ i1 i2 i3, (i1 < kmany n ∧ i2 < kmany n ∧ i3 < kmany n) ∧ (t1 = (kT n i1 : Nat) ∧ t2 = (kT n i2 : Nat) ∧ t3 = (kT n i3 : Nat)) ∧ (0 ≤ what ∧ what ≤ 1) ∧
    z = if what = 0 then conI n i1 i2 i3 / (Nat.gcd (conI n i1 i2 i3).toNat (facN n) : Int) else (facN n : Int) / (Nat.gcd (conI n i1 i2 i3).toNat (facN n) : Int)
theorem conI_le {n i1 : Nat} (hn1 : 1 ≤ n) (hn7 : n ≤ 7) (h1 : i1 < kmany n) (i2 i3 : Nat) : 0 ≤ conI n i1 i2 i3 ∧ conI n i1 i2 i3 ≤ 4233600 := by
  have hmb := (kt_ok n (by omega) i1 h1).2.2
  have hcb := cnt_rg hn1 hn7 (tPC n (leastF (kT n i1) n) (kT n i2) (kT n i3))
  unfold conI
  generalize membersN (kT n i1) n = m at hmb
  generalize cntI (tPC n (leastF (kT n i1) n) (kT n i2) (kT n i3)) (facN n) = c at hcb
  have : m * c ≤ 840 * 5040 := Nat.mul_le_mul hmb.2 hcb
  rw [← Int.natCast_mul]
  omega
theorem lcmp_0 {a b : Int} (h : lcmpI a b ≠ 0) : a ≠ b := fun e => h (by unfold lcmpI; rw [if_neg (by omega), if_pos e])
theorem lcmp_n {a b : Int} (h : a ≠ b) : lcmpI a b ≠ 0 := by
  unfold lcmpI
  split
  · decide
  · first | decide | (rw [if_neg h]; decide)
theorem lcmp_r (a b : Int) : rg (lcmpI a b) := by
  unfold lcmpI
  split
  · decide
  · split <;> decide
set_option maxHeartbeats 4000000 in
set_option maxRecDepth 100000 in
theorem c_mass (l : Launch) (G : Gx) {t1 t2 t3 what : Int} (hr1 : rg t1) (hr2 : rg t2) (hr3 : rg t3) (hwt : rg what) {n : Nat} {s a : Nat → Nat} (hV : MapV n s a) (w : Wd) (hM : MapW w n s a) (hI : CInv w) : Sp l G 7 mX10_mass [aR 0, aI (t1), aI (t2), aI (t3), aI (what)] w (fun z w' => Fr [19, 20, 21, 22, 23] w w' ∧ CInv w' ∧ MasP n t1 t2 t3 what z) := by
  obtain ⟨⟨hn1, hn7⟩, hs, ha⟩ := id hV
  obtain ⟨m0, m1, m2⟩ := id hM
  refine Sp_of RX10 rfl (by decide +kernel) rfl (Nat.le_of_ble_eq_true rfl) ?_
  refine v_aload_n 0 (pc' := 1) rfl dX10_mass_0 rfl rfl ?_
  refine v_iload_n 1 (pc' := 2) rfl dX10_mass_1 rfl rfl ?_
  refine v_cVP (pc' := 5) rfl dX10_mass_2 lk_RX10_250 ly_0 rfl (c_kindStands l G hr1 hV w hM) rfl rfl rfl ?_
  refine v_nm (fun kindStands1 hkindStands1 => ?_)
  refine v_if_eq (pc' := 8) (tgt := 35) rfl dX10_mass_5 (by decide) (kn_r hkindStands1) (fun c0 => ?_) (fun c0 => ?_)
  ·
    have q1 := kn_0 hkindStands1 (by omega)
    have hz : ¬ (KN3 n t1 t2 t3 ∧ 0 ≤ what ∧ what ≤ 1) := fun q => q1 q.1.1
    refine v_ldc2 (z := (-1)) (pc' := 38) rfl dX10_mass_35 kc_RX10_296 ?_
    refine v_lret dX10_mass_38 ?_
    first | exact ⟨Fr.rf _ _, hI, Or.inl ⟨hz, rfl⟩⟩ | exact ⟨f1, hI2, Or.inr ⟨i1, i2, i3, ⟨h1, h2, h3⟩, ⟨ht1, ht2, ht3⟩, by omega, by rw [if_pos (by omega)]⟩⟩ | exact ⟨f1, hI2, Or.inr ⟨i1, i2, i3, ⟨h1, h2, h3⟩, ⟨ht1, ht2, ht3⟩, by omega, by rw [if_neg (by omega)]⟩⟩
  ·
    have q1 := kn_1 hkindStands1 (by omega)
    refine v_aload_n 0 (pc' := 9) rfl dX10_mass_8 rfl rfl ?_
    refine v_iload_n 2 (pc' := 10) rfl dX10_mass_9 rfl rfl ?_
    refine v_cVP (pc' := 13) rfl dX10_mass_10 lk_RX10_250 ly_0 rfl (c_kindStands l G hr2 hV w hM) rfl rfl rfl ?_
    refine v_nm (fun kindStands2 hkindStands2 => ?_)
    refine v_if_eq (pc' := 16) (tgt := 35) rfl dX10_mass_13 (by decide) (kn_r hkindStands2) (fun c1 => ?_) (fun c1 => ?_)
    ·
      have q2 := kn_0 hkindStands2 (by omega)
      have hz : ¬ (KN3 n t1 t2 t3 ∧ 0 ≤ what ∧ what ≤ 1) := fun q => q2 q.1.2.1
      refine v_ldc2 (z := (-1)) (pc' := 38) rfl dX10_mass_35 kc_RX10_296 ?_
      refine v_lret dX10_mass_38 ?_
      first | exact ⟨Fr.rf _ _, hI, Or.inl ⟨hz, rfl⟩⟩ | exact ⟨f1, hI2, Or.inr ⟨i1, i2, i3, ⟨h1, h2, h3⟩, ⟨ht1, ht2, ht3⟩, by omega, by rw [if_pos (by omega)]⟩⟩ | exact ⟨f1, hI2, Or.inr ⟨i1, i2, i3, ⟨h1, h2, h3⟩, ⟨ht1, ht2, ht3⟩, by omega, by rw [if_neg (by omega)]⟩⟩
    ·
      have q2 := kn_1 hkindStands2 (by omega)
      refine v_aload_n 0 (pc' := 17) rfl dX10_mass_16 rfl rfl ?_
      refine v_iload_n 3 (pc' := 18) rfl dX10_mass_17 rfl rfl ?_
      refine v_cVP (pc' := 21) rfl dX10_mass_18 lk_RX10_250 ly_0 rfl (c_kindStands l G hr3 hV w hM) rfl rfl rfl ?_
      refine v_nm (fun kindStands3 hkindStands3 => ?_)
      refine v_if_eq (pc' := 24) (tgt := 35) rfl dX10_mass_21 (by decide) (kn_r hkindStands3) (fun c2 => ?_) (fun c2 => ?_)
      ·
        have q3 := kn_0 hkindStands3 (by omega)
        have hz : ¬ (KN3 n t1 t2 t3 ∧ 0 ≤ what ∧ what ≤ 1) := fun q => q3 q.1.2.2
        refine v_ldc2 (z := (-1)) (pc' := 38) rfl dX10_mass_35 kc_RX10_296 ?_
        refine v_lret dX10_mass_38 ?_
        first | exact ⟨Fr.rf _ _, hI, Or.inl ⟨hz, rfl⟩⟩ | exact ⟨f1, hI2, Or.inr ⟨i1, i2, i3, ⟨h1, h2, h3⟩, ⟨ht1, ht2, ht3⟩, by omega, by rw [if_pos (by omega)]⟩⟩ | exact ⟨f1, hI2, Or.inr ⟨i1, i2, i3, ⟨h1, h2, h3⟩, ⟨ht1, ht2, ht3⟩, by omega, by rw [if_neg (by omega)]⟩⟩
      ·
        have q3 := kn_1 hkindStands3 (by omega)
        have hz2 : ¬ (0 ≤ what ∧ what ≤ 1) → ¬ (KN3 n t1 t2 t3 ∧ 0 ≤ what ∧ what ≤ 1) := fun a b => a b.2
        obtain ⟨i1, h1, ht1'⟩ := kndB_iff.mp q1
        obtain ⟨i2, h2, ht2'⟩ := kndB_iff.mp q2
        obtain ⟨i3, h3, ht3'⟩ := kndB_iff.mp q3
        have ht1 := ht1'.symm
        have ht2 := ht2'.symm
        have ht3 := ht3'.symm
        have hfl := fac_le hn1 hn7
        refine v_iload 4 (pc' := 26) rfl dX10_mass_24 rfl ?_
        refine v_if_lt (pc' := 29) (tgt := 35) rfl dX10_mass_26 (by decide) (by omega) (fun c3 => ?_) (fun c3 => ?_)
        ·
          have hz := hz2 (by omega)
          refine v_ldc2 (z := (-1)) (pc' := 38) rfl dX10_mass_35 kc_RX10_296 ?_
          refine v_lret dX10_mass_38 ?_
          first | exact ⟨Fr.rf _ _, hI, Or.inl ⟨hz, rfl⟩⟩ | exact ⟨f1, hI2, Or.inr ⟨i1, i2, i3, ⟨h1, h2, h3⟩, ⟨ht1, ht2, ht3⟩, by omega, by rw [if_pos (by omega)]⟩⟩ | exact ⟨f1, hI2, Or.inr ⟨i1, i2, i3, ⟨h1, h2, h3⟩, ⟨ht1, ht2, ht3⟩, by omega, by rw [if_neg (by omega)]⟩⟩
        ·
          refine v_iload 4 (pc' := 31) rfl dX10_mass_29 rfl ?_
          refine v_iconst (pc' := 32) rfl dX10_mass_31 ?_
          refine v_icmp_le (pc' := 35) (tgt := 39) rfl dX10_mass_32 (by decide) (by omega) (by omega) (fun c4 => ?_) (fun c4 => ?_)
          ·
            refine v_aload_n 0 (pc' := 40) rfl dX10_mass_39 rfl rfl ?_
            refine v_iload_n 1 (pc' := 41) rfl dX10_mass_40 rfl rfl ?_
            refine v_iload_n 2 (pc' := 42) rfl dX10_mass_41 rfl rfl ?_
            refine v_iload_n 3 (pc' := 43) rfl dX10_mass_42 rfl rfl ?_
            refine v_cVl (pc' := 46) rfl dX10_mass_43 lk_RX10_304 ly_0 rfl (c_connectedMaps l G hV h1 h2 ht1 ht2 h3 ht3 w hM hI) rfl rfl rfl (fun connectedMaps1 w4 hq4 => ?_)
            obtain ⟨f1, hI2, hz4⟩ := hq4
            have hcl := conI_le hn1 hn7 h1 i2 i3
            have m0 : w4 2 0 = (n : Int) := (f1 2 0 (by decide)).trans m0
            have m1 : w4 2 1 = ((hx s : Nat) : Int) := (f1 2 1 (by decide)).trans m1
            have m2 : w4 2 2 = ((hx a : Nat) : Int) := (f1 2 2 (by decide)).trans m2
            refine v_lstore (ls' := [(5, _), (0, _), (1, _), (2, _), (3, _), (4, _)]) (pc' := 48) rfl dX10_mass_46 rfl rfl ?_
            refine v_aload_n 1 (pc' := 49) rfl dX10_mass_48 rfl rfl ?_
            refine v_getR (pc' := 52) rfl dX10_mass_49 fk_RX10_16 ly_0 rfl ?_
            refine v_get (z := (n : Int)) (pc' := 55) rfl dX10_mass_52 fk_RX10_81 ly_2 rfl (m0) ?_
            refine v_cSP (pc' := 58) rfl dX10_mass_55 lk_RX10_319 rfl (c_factorial l G rfl hn1 hn7 w4) rfl rfl rfl ?_
            refine v_nm (fun factorial1 hfactorial1 => ?_)
            refine v_i2l (pc' := 59) rfl dX10_mass_58 (by omega) ?_
            refine v_lstore (ls' := [(7, _), (5, _), (0, _), (1, _), (2, _), (3, _), (4, _)]) (pc' := 61) rfl dX10_mass_59 rfl rfl ?_
            refine v_lload 1 (pc' := 63) rfl dX10_mass_61 rfl ?_
            refine v_lload 0 (pc' := 65) rfl dX10_mass_63 rfl ?_
            have hgne : ((Nat.gcd (conI n i1 i2 i3).toNat (facN n) : Nat) : Int) ≠ 0 := by
              have := Nat.gcd_pos_of_pos_right (conI n i1 i2 i3).toNat (show 0 < facN n by omega)
              omega
            have hgle := Nat.gcd_le_right (conI n i1 i2 i3).toNat (show 0 < facN n by omega)
            refine v_cSPL (pc' := 68) rfl dX10_mass_65 lk_RX10_322 rfl (c_common l G (A := (conI n i1 i2 i3).toNat) (B := facN n) (by omega) (by omega) (by omega) (by omega) w4) rfl rfl rfl ?_
            refine v_nmL (fun common1 hcommon1 => ?_)
            refine v_lstore (ls' := [(9, _), (7, _), (5, _), (0, _), (1, _), (2, _), (3, _), (4, _)]) (pc' := 70) rfl dX10_mass_68 rfl rfl ?_
            refine v_lload 0 (pc' := 72) rfl dX10_mass_70 rfl ?_
            refine v_lconst (z := 0) (pc' := 73) rfl dX10_mass_72 rfl ?_
            refine v_lcmp (z := (lcmpI common1 0)) (pc' := 74) rfl dX10_mass_73 (lcmp_iz (by omega) (by omega)) ?_
            refine v_if_ne (pc' := 77) (tgt := 81) rfl dX10_mass_74 (by decide) (lcmp_r _ _) (fun c5 => ?_) (fun c5 => absurd c5 (lcmp_n (by rw [hcommon1]; exact hgne)))
            refine v_iload 7 (pc' := 83) rfl dX10_mass_81 rfl ?_
            refine v_if_ne (pc' := 86) (tgt := 94) rfl dX10_mass_83 (by decide) (by omega) (fun c6 => ?_) (fun c6 => ?_)
            ·
              refine v_lload 1 (pc' := 96) rfl dX10_mass_94 rfl ?_
              refine v_lload 0 (pc' := 98) rfl dX10_mass_96 rfl ?_
              refine v_ldiv (z := ((facN n : Int) / (Nat.gcd (conI n i1 i2 i3).toNat (facN n) : Int))) (pc' := 99) rfl dX10_mass_98 (lz_ne (by omega) (by omega) (by rw [hcommon1]; exact hgne)) (by rw [hcommon1, hfactorial1]; exact lz_divN (by omega) (by omega) (by omega) (by omega)) ?_
              refine v_lret dX10_mass_99 ?_
              first | exact ⟨Fr.rf _ _, hI, Or.inl ⟨hz, rfl⟩⟩ | exact ⟨f1, hI2, Or.inr ⟨i1, i2, i3, ⟨h1, h2, h3⟩, ⟨ht1, ht2, ht3⟩, by omega, by rw [if_pos (by omega)]⟩⟩ | exact ⟨f1, hI2, Or.inr ⟨i1, i2, i3, ⟨h1, h2, h3⟩, ⟨ht1, ht2, ht3⟩, by omega, by rw [if_neg (by omega)]⟩⟩
            ·
              refine v_lload 2 (pc' := 88) rfl dX10_mass_86 rfl ?_
              refine v_lload 0 (pc' := 90) rfl dX10_mass_88 rfl ?_
              refine v_ldiv (z := (conI n i1 i2 i3 / (Nat.gcd (conI n i1 i2 i3).toNat (facN n) : Int))) (pc' := 91) rfl dX10_mass_90 (lz_ne (by omega) (by omega) (by rw [hcommon1]; exact hgne)) (by rw [hcommon1, hz4]; exact lz_divN (by omega) (by omega) (by omega) (by omega)) ?_
              refine v_goto (tgt := 99) dX10_mass_91 (by decide) ?_
              refine v_lret dX10_mass_99 ?_
              first | exact ⟨Fr.rf _ _, hI, Or.inl ⟨hz, rfl⟩⟩ | exact ⟨f1, hI2, Or.inr ⟨i1, i2, i3, ⟨h1, h2, h3⟩, ⟨ht1, ht2, ht3⟩, by omega, by rw [if_pos (by omega)]⟩⟩ | exact ⟨f1, hI2, Or.inr ⟨i1, i2, i3, ⟨h1, h2, h3⟩, ⟨ht1, ht2, ht3⟩, by omega, by rw [if_neg (by omega)]⟩⟩
          ·
            have hz := hz2 (by omega)
            refine v_ldc2 (z := (-1)) (pc' := 38) rfl dX10_mass_35 kc_RX10_296 ?_
            refine v_lret dX10_mass_38 ?_
            first | exact ⟨Fr.rf _ _, hI, Or.inl ⟨hz, rfl⟩⟩ | exact ⟨f1, hI2, Or.inr ⟨i1, i2, i3, ⟨h1, h2, h3⟩, ⟨ht1, ht2, ht3⟩, by omega, by rw [if_pos (by omega)]⟩⟩ | exact ⟨f1, hI2, Or.inr ⟨i1, i2, i3, ⟨h1, h2, h3⟩, ⟨ht1, ht2, ht3⟩, by omega, by rw [if_neg (by omega)]⟩⟩
def FamP (n : Nat) (s a : Nat → Nat) (i what z : Int) : Prop := (¬ (-1 ≤ i ∧ 0 ≤ what ∧ what ≤ 1) ∧ z = -1) ∨
  ((-1 ≤ i ∧ 0 ≤ what ∧ what ≤ 1) ∧ ∃ A : List PC, A.Perm (fam n s a) ∧ SO A A.length ∧
    z = if i = -1 then (A.length : Int) else if (A.length : Int) ≤ i then -2 else if what = 0 then (cdk (dg (A.getD i.toNat (0, 0)).1) n : Int) else (cdk (dg (A.getD i.toNat (0, 0)).2) n : Int))
set_option maxHeartbeats 4000000 in
set_option maxRecDepth 100000 in
theorem c_family (l : Launch) (G : Gx) {i what : Int} (hi : rg i) (hwt : rg what) {n : Nat} {s a : Nat → Nat} (hV : MapV n s a) (w : Wd) (hM : MapW w n s a) : Sp l G 12 mX10_family [aR 0, aI (i), aI (what)] w (fun z w' => Fr [7, 8, 9, 10, 27, 28, 29] w w' ∧ FamP n s a i what z) := by
  obtain ⟨⟨hn1, hn7⟩, hs, ha⟩ := id hV
  obtain ⟨m0, m1, m2⟩ := id hM
  refine Sp_of RX10 rfl (by decide +kernel) rfl (Nat.le_of_ble_eq_true rfl) ?_
  refine v_iload_n 1 (pc' := 1) rfl dX10_family_0 rfl rfl ?_
  refine v_iconst (pc' := 2) rfl dX10_family_1 ?_
  refine v_icmp_lt (pc' := 5) (tgt := 14) rfl dX10_family_2 (by decide) (by omega) (by omega) (fun c0 => ?_) (fun c0 => ?_)
  ·
    refine v_iconst (pc' := 15) rfl dX10_family_14 ?_
    refine v_iret dX10_family_15 (by decide) (rfl) ?_
    first | exact ⟨Fr.rf _ _, Or.inl ⟨by omega, rfl⟩⟩ | exact ⟨f1, Or.inr ⟨by omega, A, hA, hSO, by rw [if_pos (by omega)]⟩⟩ | exact ⟨f1, Or.inr ⟨by omega, A, hA, hSO, by rw [if_neg (by omega), if_pos (by omega)]⟩⟩ | exact ⟨f1, Or.inr ⟨by omega, A, hA, hSO, by rw [if_neg (by omega), if_neg (by omega), if_pos (by omega)]; exact hdigits1⟩⟩ | exact ⟨f1, Or.inr ⟨by omega, A, hA, hSO, by rw [if_neg (by omega), if_neg (by omega), if_neg (by omega)]; exact hdigits1⟩⟩ | exact ⟨f1, Or.inr ⟨by omega, A, hA, hSO, by rw [if_neg (by omega), if_neg (by omega), if_neg (by omega)]; exact hdigits1⟩⟩
  ·
    refine v_iload_n 2 (pc' := 6) rfl dX10_family_5 rfl rfl ?_
    refine v_if_lt (pc' := 9) (tgt := 14) rfl dX10_family_6 (by decide) (by omega) (fun c1 => ?_) (fun c1 => ?_)
    ·
      refine v_iconst (pc' := 15) rfl dX10_family_14 ?_
      refine v_iret dX10_family_15 (by decide) (rfl) ?_
      first | exact ⟨Fr.rf _ _, Or.inl ⟨by omega, rfl⟩⟩ | exact ⟨f1, Or.inr ⟨by omega, A, hA, hSO, by rw [if_pos (by omega)]⟩⟩ | exact ⟨f1, Or.inr ⟨by omega, A, hA, hSO, by rw [if_neg (by omega), if_pos (by omega)]⟩⟩ | exact ⟨f1, Or.inr ⟨by omega, A, hA, hSO, by rw [if_neg (by omega), if_neg (by omega), if_pos (by omega)]; exact hdigits1⟩⟩ | exact ⟨f1, Or.inr ⟨by omega, A, hA, hSO, by rw [if_neg (by omega), if_neg (by omega), if_neg (by omega)]; exact hdigits1⟩⟩ | exact ⟨f1, Or.inr ⟨by omega, A, hA, hSO, by rw [if_neg (by omega), if_neg (by omega), if_neg (by omega)]; exact hdigits1⟩⟩
    ·
      refine v_iload_n 2 (pc' := 10) rfl dX10_family_9 rfl rfl ?_
      refine v_iconst (pc' := 11) rfl dX10_family_10 ?_
      refine v_icmp_le (pc' := 14) (tgt := 16) rfl dX10_family_11 (by decide) (by omega) (by omega) (fun c2 => ?_) (fun c2 => ?_)
      ·
        refine v_aload_n 0 (pc' := 17) rfl dX10_family_16 rfl rfl ?_
        refine v_getR (pc' := 20) rfl dX10_family_17 fk_RX10_62 ly_0 rfl ?_
        refine v_aload_n 0 (pc' := 21) rfl dX10_family_20 rfl rfl ?_
        refine v_getR (pc' := 24) rfl dX10_family_21 fk_RX10_27 ly_0 rfl ?_
        refine v_aload_n 0 (pc' := 25) rfl dX10_family_24 rfl rfl ?_
        refine v_getR (pc' := 28) rfl dX10_family_25 fk_RX10_16 ly_0 rfl ?_
        refine v_get (z := (n : Int)) (pc' := 31) rfl dX10_family_28 fk_RX10_81 ly_2 rfl (m0) ?_
        refine v_aload_n 0 (pc' := 32) rfl dX10_family_31 rfl rfl ?_
        refine v_getR (pc' := 35) rfl dX10_family_32 fk_RX10_16 ly_0 rfl ?_
        refine v_get (z := ((hx s : Nat) : Int)) (pc' := 38) rfl dX10_family_35 fk_RX10_87 ly_2 rfl (m1) ?_
        refine v_aload_n 0 (pc' := 39) rfl dX10_family_38 rfl rfl ?_
        refine v_getR (pc' := 42) rfl dX10_family_39 fk_RX10_16 ly_0 rfl ?_
        refine v_get (z := ((hx a : Nat) : Int)) (pc' := 45) rfl dX10_family_42 fk_RX10_90 ly_2 rfl (m2) ?_
        refine v_cVv (pc' := 48) rfl dX10_family_45 lk_RX10_328 ly_27 rfl (c_gather3 l G (n := n) rfl hn1 hn7 hs ha rfl rfl w) rfl rfl rfl (fun gather1 w1 hq1 => ?_)
        obtain ⟨f1, A, hA, hFA, hSO⟩ := hq1
        have fm := hFA.1
        have hFV := famI_FV hn1 hn7 hs ha 12
        have hAl : A.length ≤ 12 := by rw [hA.length_eq]; exact hFV.1.1
        have m0 : w1 2 0 = (n : Int) := (f1 2 0 (by decide)).trans m0
        have m1 : w1 2 1 = ((hx s : Nat) : Int) := (f1 2 1 (by decide)).trans m1
        have m2 : w1 2 2 = ((hx a : Nat) : Int) := (f1 2 2 (by decide)).trans m2
        refine v_iload_n 1 (pc' := 49) rfl dX10_family_48 rfl rfl ?_
        refine v_iconst (pc' := 50) rfl dX10_family_49 ?_
        refine v_icmp_ne (pc' := 53) (tgt := 61) rfl dX10_family_50 (by decide) (by omega) (by omega) (fun c3 => ?_) (fun c3 => ?_)
        ·
          refine v_iload_n 1 (pc' := 62) rfl dX10_family_61 rfl rfl ?_
          refine v_aload_n 0 (pc' := 63) rfl dX10_family_62 rfl rfl ?_
          refine v_getR (pc' := 66) rfl dX10_family_63 fk_RX10_62 ly_0 rfl ?_
          refine v_get (z := ((A.length : Nat) : Int)) (pc' := 69) rfl dX10_family_66 fk_RX10_332 ly_27 rfl (fm) ?_
          refine v_icmp_lt (pc' := 72) (tgt := 75) rfl dX10_family_69 (by decide) (by omega) (by omega) (fun c4 => ?_) (fun c4 => ?_)
          ·
            have hil : i.toNat < A.length := by omega
            obtain ⟨S, T, hS, hT, hST⟩ := hFV.2.2 _ (hA.mem_iff.mp (getD_mem (d := (0, 0)) hil))
            have hp1 : hx (dg (A.getD i.toNat (0, 0)).1) = (A.getD i.toNat (0, 0)).1 := by rw [hST]; simp only []; rw [dg_hx hS hn7]
            have hp2 : hx (dg (A.getD i.toNat (0, 0)).2) = (A.getD i.toNat (0, 0)).2 := by rw [hST]; simp only []; rw [dg_hx hT hn7]
            have hB1 : B7 (dg (A.getD i.toNat (0, 0)).1) := by rw [hST]; simp only []; rw [dg_hx hS hn7]; exact hS.B hn7
            have hB2 : B7 (dg (A.getD i.toNat (0, 0)).2) := by rw [hST]; simp only []; rw [dg_hx hT hn7]; exact hT.B hn7
            refine v_iload_n 2 (pc' := 76) rfl dX10_family_75 rfl rfl ?_
            refine v_if_ne (pc' := 79) (tgt := 90) rfl dX10_family_76 (by decide) (by omega) (fun c5 => ?_) (fun c5 => ?_)
            ·
              refine v_aload_n 0 (pc' := 91) rfl dX10_family_90 rfl rfl ?_
              refine v_getR (pc' := 94) rfl dX10_family_91 fk_RX10_62 ly_0 rfl ?_
              refine v_iload_n 1 (pc' := 95) rfl dX10_family_94 rfl rfl ?_
              refine v_cVP (pc' := 98) rfl dX10_family_95 lk_RX10_336 ly_27 rfl (c_white3 l G (i := i.toNat) (by omega) (by omega) hAl w1 hFA) rfl rfl rfl ?_
              refine v_nm (fun white1 hwhite1 => ?_)
              refine v_aload_n 0 (pc' := 99) rfl dX10_family_98 rfl rfl ?_
              refine v_getR (pc' := 102) rfl dX10_family_99 fk_RX10_16 ly_0 rfl ?_
              refine v_get (z := (n : Int)) (pc' := 105) rfl dX10_family_102 fk_RX10_81 ly_2 rfl (m0) ?_
              refine v_cSP (pc' := 108) rfl dX10_family_105 lk_RX10_105 rfl (c_digits l G (f := dg (A.getD i.toNat (0, 0)).2) (by rw [hwhite1, hp2]) hB2 rfl hn7 w1) rfl rfl rfl ?_
              refine v_nm (fun digits1 hdigits1 => ?_)
              refine v_iret dX10_family_108 (by decide) (rfl) ?_
              first | exact ⟨Fr.rf _ _, Or.inl ⟨by omega, rfl⟩⟩ | exact ⟨f1, Or.inr ⟨by omega, A, hA, hSO, by rw [if_pos (by omega)]⟩⟩ | exact ⟨f1, Or.inr ⟨by omega, A, hA, hSO, by rw [if_neg (by omega), if_pos (by omega)]⟩⟩ | exact ⟨f1, Or.inr ⟨by omega, A, hA, hSO, by rw [if_neg (by omega), if_neg (by omega), if_pos (by omega)]; exact hdigits1⟩⟩ | exact ⟨f1, Or.inr ⟨by omega, A, hA, hSO, by rw [if_neg (by omega), if_neg (by omega), if_neg (by omega)]; exact hdigits1⟩⟩ | exact ⟨f1, Or.inr ⟨by omega, A, hA, hSO, by rw [if_neg (by omega), if_neg (by omega), if_neg (by omega)]; exact hdigits1⟩⟩
            ·
              refine v_aload_n 0 (pc' := 80) rfl dX10_family_79 rfl rfl ?_
              refine v_getR (pc' := 83) rfl dX10_family_80 fk_RX10_62 ly_0 rfl ?_
              refine v_iload_n 1 (pc' := 84) rfl dX10_family_83 rfl rfl ?_
              refine v_cVP (pc' := 87) rfl dX10_family_84 lk_RX10_334 ly_27 rfl (c_black3 l G (i := i.toNat) (by omega) (by omega) hAl w1 hFA) rfl rfl rfl ?_
              refine v_nm (fun black1 hblack1 => ?_)
              refine v_goto (tgt := 98) dX10_family_87 (by decide) ?_
              refine v_aload_n 0 (pc' := 99) rfl dX10_family_98 rfl rfl ?_
              refine v_getR (pc' := 102) rfl dX10_family_99 fk_RX10_16 ly_0 rfl ?_
              refine v_get (z := (n : Int)) (pc' := 105) rfl dX10_family_102 fk_RX10_81 ly_2 rfl (m0) ?_
              refine v_cSP (pc' := 108) rfl dX10_family_105 lk_RX10_105 rfl (c_digits l G (f := dg (A.getD i.toNat (0, 0)).1) (by rw [hblack1, hp1]) hB1 rfl hn7 w1) rfl rfl rfl ?_
              refine v_nm (fun digits1 hdigits1 => ?_)
              refine v_iret dX10_family_108 (by decide) (rfl) ?_
              first | exact ⟨Fr.rf _ _, Or.inl ⟨by omega, rfl⟩⟩ | exact ⟨f1, Or.inr ⟨by omega, A, hA, hSO, by rw [if_pos (by omega)]⟩⟩ | exact ⟨f1, Or.inr ⟨by omega, A, hA, hSO, by rw [if_neg (by omega), if_pos (by omega)]⟩⟩ | exact ⟨f1, Or.inr ⟨by omega, A, hA, hSO, by rw [if_neg (by omega), if_neg (by omega), if_pos (by omega)]; exact hdigits1⟩⟩ | exact ⟨f1, Or.inr ⟨by omega, A, hA, hSO, by rw [if_neg (by omega), if_neg (by omega), if_neg (by omega)]; exact hdigits1⟩⟩ | exact ⟨f1, Or.inr ⟨by omega, A, hA, hSO, by rw [if_neg (by omega), if_neg (by omega), if_neg (by omega)]; exact hdigits1⟩⟩
          ·
            refine v_bipush (pc' := 74) rfl dX10_family_72 rfl ?_
            refine v_iret dX10_family_74 (by decide) (rfl) ?_
            first | exact ⟨Fr.rf _ _, Or.inl ⟨by omega, rfl⟩⟩ | exact ⟨f1, Or.inr ⟨by omega, A, hA, hSO, by rw [if_pos (by omega)]⟩⟩ | exact ⟨f1, Or.inr ⟨by omega, A, hA, hSO, by rw [if_neg (by omega), if_pos (by omega)]⟩⟩ | exact ⟨f1, Or.inr ⟨by omega, A, hA, hSO, by rw [if_neg (by omega), if_neg (by omega), if_pos (by omega)]; exact hdigits1⟩⟩ | exact ⟨f1, Or.inr ⟨by omega, A, hA, hSO, by rw [if_neg (by omega), if_neg (by omega), if_neg (by omega)]; exact hdigits1⟩⟩ | exact ⟨f1, Or.inr ⟨by omega, A, hA, hSO, by rw [if_neg (by omega), if_neg (by omega), if_neg (by omega)]; exact hdigits1⟩⟩
        ·
          refine v_aload_n 0 (pc' := 54) rfl dX10_family_53 rfl rfl ?_
          refine v_getR (pc' := 57) rfl dX10_family_54 fk_RX10_62 ly_0 rfl ?_
          refine v_get (z := ((A.length : Nat) : Int)) (pc' := 60) rfl dX10_family_57 fk_RX10_332 ly_27 rfl (fm) ?_
          refine v_iret dX10_family_60 (by decide) (rfl) ?_
          first | exact ⟨Fr.rf _ _, Or.inl ⟨by omega, rfl⟩⟩ | exact ⟨f1, Or.inr ⟨by omega, A, hA, hSO, by rw [if_pos (by omega)]⟩⟩ | exact ⟨f1, Or.inr ⟨by omega, A, hA, hSO, by rw [if_neg (by omega), if_pos (by omega)]⟩⟩ | exact ⟨f1, Or.inr ⟨by omega, A, hA, hSO, by rw [if_neg (by omega), if_neg (by omega), if_pos (by omega)]; exact hdigits1⟩⟩ | exact ⟨f1, Or.inr ⟨by omega, A, hA, hSO, by rw [if_neg (by omega), if_neg (by omega), if_neg (by omega)]; exact hdigits1⟩⟩ | exact ⟨f1, Or.inr ⟨by omega, A, hA, hSO, by rw [if_neg (by omega), if_neg (by omega), if_neg (by omega)]; exact hdigits1⟩⟩
      ·
        refine v_iconst (pc' := 15) rfl dX10_family_14 ?_
        refine v_iret dX10_family_15 (by decide) (rfl) ?_
        first | exact ⟨Fr.rf _ _, Or.inl ⟨by omega, rfl⟩⟩ | exact ⟨f1, Or.inr ⟨by omega, A, hA, hSO, by rw [if_pos (by omega)]⟩⟩ | exact ⟨f1, Or.inr ⟨by omega, A, hA, hSO, by rw [if_neg (by omega), if_pos (by omega)]⟩⟩ | exact ⟨f1, Or.inr ⟨by omega, A, hA, hSO, by rw [if_neg (by omega), if_neg (by omega), if_pos (by omega)]; exact hdigits1⟩⟩ | exact ⟨f1, Or.inr ⟨by omega, A, hA, hSO, by rw [if_neg (by omega), if_neg (by omega), if_neg (by omega)]; exact hdigits1⟩⟩ | exact ⟨f1, Or.inr ⟨by omega, A, hA, hSO, by rw [if_neg (by omega), if_neg (by omega), if_neg (by omega)]; exact hdigits1⟩⟩
def rotB (n : Nat) (f : Nat → Nat) (K j : Nat) : Bool := rootB (pn n j) K f 7
def RotP (n : Nat) (s a : Nat → Nat) (wh k i z : Int) : Prop := (¬ (tok wh ∧ (1 ≤ k ∧ k ≤ 12) ∧ -1 ≤ i) ∧ z = -1) ∨
  ((tok wh ∧ (1 ≤ k ∧ k ≤ 12) ∧ -1 ≤ i) ∧ z = pickI (fil (rotB n (trF s a wh) k.toNat) (facN n)) (fun j => (cdk (pn n j) n : Int)) i)
set_option maxHeartbeats 4000000 in
set_option maxRecDepth 100000 in
theorem c_roots (l : Launch) (G : Gx) {wh k i0 : Int} (hwh : rg wh) (hk : rg k) (hri : rg i0) {n : Nat} {s a : Nat → Nat} (hV : MapV n s a) (w : Wd) (hM : MapW w n s a) (hI : CInv w) : Sp l G 4 mX10_roots [aR 0, aI (wh), aI (k), aI (i0)] w (fun z w' => Fr [19, 20, 21] w w' ∧ CInv w' ∧ RotP n s a wh k i0 z) := by
  obtain ⟨⟨hn1, hn7⟩, hs, ha⟩ := id hV
  obtain ⟨m0, m1, m2⟩ := id hM
  have hf := trF_pm hV wh
  refine Sp_of RX10 rfl (by decide +kernel) rfl (Nat.le_of_ble_eq_true rfl) ?_
  refine v_aload_n 0 (pc' := 1) rfl dX10_roots_0 rfl rfl ?_
  refine v_iload_n 1 (pc' := 2) rfl dX10_roots_1 rfl rfl ?_
  refine v_cVP (pc' := 5) rfl dX10_roots_2 lk_RX10_101 ly_0 rfl (c_turn l G hwh hV w hM) rfl rfl rfl ?_
  refine v_nm (fun turn1 hturn1 => ?_)
  refine v_istore (ls' := [(4, _), (0, _), (1, _), (2, _), (3, _)]) (pc' := 7) rfl dX10_roots_5 rfl rfl ?_
  refine v_iload 0 (pc' := 9) rfl dX10_roots_7 rfl ?_
  refine v_if_eq (pc' := 12) (tgt := 28) rfl dX10_roots_9 (by decide) (by have := (trI_0 hV (wh := wh)).2; omega) (fun c0 => ?_) (fun c0 => ?_)
  ·
    have hw : ¬ tok wh := ntok_of hV (by omega)
    have hz : ¬ (tok wh ∧ (1 ≤ k ∧ k ≤ 12) ∧ -1 ≤ i0) := fun q => hw q.1
    refine v_iconst (pc' := 29) rfl dX10_roots_28 ?_
    refine v_iret dX10_roots_29 (by decide) (rfl) ?_
    first | exact ⟨Fr.rf _ _, hI, Or.inl ⟨hz, rfl⟩⟩ | exact ⟨f1, hI2, Or.inr ⟨hy, by rw [pick_hit hjF hP (by omega)]; exact hdigits1⟩⟩ | exact ⟨f1, hI2, Or.inr ⟨hy, by rw [pick_all (by omega), hm, hje]⟩⟩ | exact ⟨f1, hI2, Or.inr ⟨hy, by rw [pick_no (by omega) (by rw [← hje]; omega)]⟩⟩
  ·
    have hw : tok wh := tok_of hV (by omega)
    have hT : turn1 = (hx (trF s a wh) : Nat) := hturn1.trans (trI_ok hw)
    refine v_iload_n 3 (pc' := 13) rfl dX10_roots_12 rfl rfl ?_
    refine v_iconst (pc' := 14) rfl dX10_roots_13 ?_
    refine v_icmp_lt (pc' := 17) (tgt := 28) rfl dX10_roots_14 (by decide) (by omega) (by omega) (fun c1 => ?_) (fun c1 => ?_)
    ·
      have hz : ¬ (tok wh ∧ (1 ≤ k ∧ k ≤ 12) ∧ -1 ≤ i0) := by omega
      refine v_iconst (pc' := 29) rfl dX10_roots_28 ?_
      refine v_iret dX10_roots_29 (by decide) (rfl) ?_
      first | exact ⟨Fr.rf _ _, hI, Or.inl ⟨hz, rfl⟩⟩ | exact ⟨f1, hI2, Or.inr ⟨hy, by rw [pick_hit hjF hP (by omega)]; exact hdigits1⟩⟩ | exact ⟨f1, hI2, Or.inr ⟨hy, by rw [pick_all (by omega), hm, hje]⟩⟩ | exact ⟨f1, hI2, Or.inr ⟨hy, by rw [pick_no (by omega) (by rw [← hje]; omega)]⟩⟩
    ·
      refine v_iload_n 3 (pc' := 18) rfl dX10_roots_17 rfl rfl ?_
      refine v_bipush (pc' := 20) rfl dX10_roots_18 rfl ?_
      refine v_icmp_gt (pc' := 23) (tgt := 28) rfl dX10_roots_20 (by decide) (by omega) (by omega) (fun c2 => ?_) (fun c2 => ?_)
      ·
        have hz : ¬ (tok wh ∧ (1 ≤ k ∧ k ≤ 12) ∧ -1 ≤ i0) := by omega
        refine v_iconst (pc' := 29) rfl dX10_roots_28 ?_
        refine v_iret dX10_roots_29 (by decide) (rfl) ?_
        first | exact ⟨Fr.rf _ _, hI, Or.inl ⟨hz, rfl⟩⟩ | exact ⟨f1, hI2, Or.inr ⟨hy, by rw [pick_hit hjF hP (by omega)]; exact hdigits1⟩⟩ | exact ⟨f1, hI2, Or.inr ⟨hy, by rw [pick_all (by omega), hm, hje]⟩⟩ | exact ⟨f1, hI2, Or.inr ⟨hy, by rw [pick_no (by omega) (by rw [← hje]; omega)]⟩⟩
      ·
        refine v_iload_n 4 (pc' := 24) rfl dX10_roots_23 rfl rfl ?_
        refine v_iconst (pc' := 25) rfl dX10_roots_24 ?_
        refine v_icmp_ge (pc' := 28) (tgt := 30) rfl dX10_roots_25 (by decide) (by omega) (by omega) (fun c3 => ?_) (fun c3 => ?_)
        ·
          have hy : (tok wh ∧ (1 ≤ k ∧ k ≤ 12) ∧ -1 ≤ i0) := by omega
          refine v_aload_n 1 (pc' := 31) rfl dX10_roots_30 rfl rfl ?_
          refine v_getR (pc' := 34) rfl dX10_roots_31 fk_RX10_55 ly_0 rfl ?_
          refine v_aload_n 1 (pc' := 35) rfl dX10_roots_34 rfl rfl ?_
          refine v_getR (pc' := 38) rfl dX10_roots_35 fk_RX10_16 ly_0 rfl ?_
          refine v_get (z := (n : Int)) (pc' := 41) rfl dX10_roots_38 fk_RX10_81 ly_2 rfl (m0) ?_
          refine v_cVv (pc' := 44) rfl dX10_roots_41 lk_RX10_349 ly_19 rfl (c_prepare l G (n := n) rfl hn1 hn7 w hI.rg) rfl rfl rfl (fun prepare1 w2 hq2 => ?_)
          obtain ⟨hP1, hT1, hL1, f1⟩ := hI.prep hn1 hq2
          have hI2 : CInv w2 := Or.inr ⟨n, ⟨hn1, hn7⟩, hP1, hT1, hL1⟩
          have hfl := fac_le hn1 hn7
          have m0 : w2 2 0 = (n : Int) := (f1 2 0 (by decide)).trans m0
          have m1 : w2 2 1 = ((hx s : Nat) : Int) := (f1 2 1 (by decide)).trans m1
          have m2 : w2 2 2 = ((hx a : Nat) : Int) := (f1 2 2 (by decide)).trans m2
          refine v_iconst (pc' := 45) rfl dX10_roots_44 ?_
          refine v_istore (ls' := [(5, _), (4, _), (0, _), (1, _), (2, _), (3, _)]) (pc' := 47) rfl dX10_roots_45 rfl rfl ?_
          refine v_iconst (pc' := 48) rfl dX10_roots_47 ?_
          refine v_istore (ls' := [(6, _), (5, _), (4, _), (0, _), (1, _), (2, _), (3, _)]) (pc' := 50) rfl dX10_roots_48 rfl rfl ?_
          refine v_ls [3, 4, 5, 6, 2, 1, 0] rfl ?_
          refine v_loop2 50 (fun (m : Int) (u : Int) => ∃ j : Nat, u = j ∧ j ≤ facN n ∧ m = ((fil (rotB n (trF s a wh) k.toNat) j).length : Nat) ∧ (i0 = -1 ∨ m ≤ i0)) (fun (m : Int) (u : Int) => (5040 - u).toNat) (fun (m : Int) (u : Int) => [(0, aR 0), (1, aI (wh)), (2, aI (k)), (3, aI (i0)), (4, aI (turn1)), (5, aI (m)), (6, aI (u))]) (fun (m : Int) (u : Int) => []) (fun (m : Int) (u : Int) => w2) (fun m u hI0 ih0 => ?_) (0) (0) (⟨0, rfl, by omega, rfl, by omega⟩)
          obtain ⟨j, hat, hjk, hm, him⟩ := hI0
          have hfl2 := fil_len (rotB n (trF s a wh) k.toNat) j
          refine v_iload 6 (pc' := 52) rfl dX10_roots_50 rfl ?_
          refine v_aload_n 0 (pc' := 53) rfl dX10_roots_52 rfl rfl ?_
          refine v_getR (pc' := 56) rfl dX10_roots_53 fk_RX10_16 ly_0 rfl ?_
          refine v_get (z := (n : Int)) (pc' := 59) rfl dX10_roots_56 fk_RX10_81 ly_2 rfl (m0) ?_
          refine v_cSP (pc' := 62) rfl dX10_roots_59 lk_RX10_319 rfl (c_factorial l G rfl hn1 hn7 w2) rfl rfl rfl ?_
          refine v_nm (fun factorial1 hfactorial1 => ?_)
          refine v_icmp_ge (pc' := 65) (tgt := 115) rfl dX10_roots_62 (by decide) (by omega) (by omega) (fun c4 => ?_) (fun c4 => ?_)
          ·
            have hje : j = facN n := by omega
            refine v_iload_n 3 (pc' := 116) rfl dX10_roots_115 rfl rfl ?_
            refine v_iconst (pc' := 117) rfl dX10_roots_116 ?_
            refine v_icmp_ne (pc' := 120) (tgt := 125) rfl dX10_roots_117 (by decide) (by omega) (by omega) (fun c7 => ?_) (fun c7 => ?_)
            ·
              refine v_bipush (pc' := 127) rfl dX10_roots_125 rfl ?_
              refine v_iret dX10_roots_127 (by decide) (rfl) ?_
              first | exact ⟨Fr.rf _ _, hI, Or.inl ⟨hz, rfl⟩⟩ | exact ⟨f1, hI2, Or.inr ⟨hy, by rw [pick_hit hjF hP (by omega)]; exact hdigits1⟩⟩ | exact ⟨f1, hI2, Or.inr ⟨hy, by rw [pick_all (by omega), hm, hje]⟩⟩ | exact ⟨f1, hI2, Or.inr ⟨hy, by rw [pick_no (by omega) (by rw [← hje]; omega)]⟩⟩
            ·
              refine v_iload 5 (pc' := 122) rfl dX10_roots_120 rfl ?_
              refine v_goto (tgt := 127) dX10_roots_122 (by decide) ?_
              refine v_iret dX10_roots_127 (by decide) (rfl) ?_
              first | exact ⟨Fr.rf _ _, hI, Or.inl ⟨hz, rfl⟩⟩ | exact ⟨f1, hI2, Or.inr ⟨hy, by rw [pick_hit hjF hP (by omega)]; exact hdigits1⟩⟩ | exact ⟨f1, hI2, Or.inr ⟨hy, by rw [pick_all (by omega), hm, hje]⟩⟩ | exact ⟨f1, hI2, Or.inr ⟨hy, by rw [pick_no (by omega) (by rw [← hje]; omega)]⟩⟩
          ·
            have hjF : j < facN n := by omega
            have hpk := pn_at hn1 hn7 hjF
            refine v_aload_n 0 (pc' := 66) rfl dX10_roots_65 rfl rfl ?_
            refine v_getR (pc' := 69) rfl dX10_roots_66 fk_RX10_55 ly_0 rfl ?_
            refine v_iload 6 (pc' := 71) rfl dX10_roots_69 rfl ?_
            refine v_cVP (pc' := 74) rfl dX10_roots_71 lk_RX10_352 ly_19 rfl (c_permutation l G hat hn1 hn7 hjF w2 hP1) rfl rfl rfl ?_
            refine v_nm (fun permutation1 hpermutation1 => ?_)
            refine v_istore (ls' := [(7, _), (0, _), (1, _), (2, _), (3, _), (4, _), (5, _), (6, _)]) (pc' := 76) rfl dX10_roots_74 rfl rfl ?_
            refine v_iload 0 (pc' := 78) rfl dX10_roots_76 rfl ?_
            refine v_iload_n 3 (pc' := 79) rfl dX10_roots_78 rfl rfl ?_
            refine v_iload 5 (pc' := 81) rfl dX10_roots_79 rfl ?_
            refine v_cSP (pc' := 84) rfl dX10_roots_81 lk_RX10_354 rfl (c_isRoot l G (f := trF s a wh) hpermutation1 (hpk.1.b7 hn7) hT (hf.b7 hn7) (show k = ((k.toNat : Nat) : Int) by omega) (by omega) w2) rfl rfl rfl ?_
            refine v_nm (fun isRoot1 hisRoot1 => ?_)
            refine v_if_eq (pc' := 87) (tgt := 109) rfl dX10_roots_84 (by decide) (jn_r hisRoot1) (fun c5 => ?_) (fun c5 => ?_)
            ·
              have hP : ¬ rotB n (trF s a wh) k.toNat j = true := by unfold rotB; rw [jn_0 hisRoot1 (by omega)]; decide
              refine v_iinc (ls' := [(6, _), (7, _), (0, _), (1, _), (2, _), (3, _), (4, _), (5, _)]) 7 (pc' := 112) rfl dX10_roots_109 rfl rfl rfl ?_
              refine v_nl (fun u' hu' => ?_)
              refine v_goto (tgt := 50) dX10_roots_112 (by decide) ?_
              refine v_ls [2, 3, 4, 5, 6, 7, 0] rfl ?_
              exact ih0 (m) (u') (⟨j + 1, by omega, by omega, by rw [fil_s, if_neg hP]; exact hm, him⟩) (by omega)
            ·
              have hP : rotB n (trF s a wh) k.toNat j = true := by unfold rotB; exact jn_1 hisRoot1 (by omega)
              refine v_iload 6 (pc' := 89) rfl dX10_roots_87 rfl ?_
              refine v_iload_n 4 (pc' := 90) rfl dX10_roots_89 rfl rfl ?_
              refine v_icmp_ne (pc' := 93) (tgt := 106) rfl dX10_roots_90 (by decide) (by omega) (by omega) (fun c6 => ?_) (fun c6 => ?_)
              ·
                refine v_iinc (ls' := [(5, _), (7, _), (0, _), (1, _), (2, _), (3, _), (4, _), (6, _)]) 6 (pc' := 109) rfl dX10_roots_106 rfl rfl rfl ?_
                refine v_nl (fun m' hm' => ?_)
                refine v_iinc (ls' := [(6, _), (5, _), (7, _), (0, _), (1, _), (2, _), (3, _), (4, _)]) 7 (pc' := 112) rfl dX10_roots_109 rfl rfl rfl ?_
                refine v_nl (fun u' hu' => ?_)
                refine v_goto (tgt := 50) dX10_roots_112 (by decide) ?_
                refine v_ls [3, 4, 5, 6, 7, 1, 0] rfl ?_
                exact ih0 (m') (u') (⟨j + 1, by omega, by omega, by rw [fil_s, if_pos hP, List.length_append]; simp; omega, by omega⟩) (by omega)
              ·
                refine v_iload 0 (pc' := 95) rfl dX10_roots_93 rfl ?_
                refine v_aload_n 1 (pc' := 96) rfl dX10_roots_95 rfl rfl ?_
                refine v_getR (pc' := 99) rfl dX10_roots_96 fk_RX10_16 ly_0 rfl ?_
                refine v_get (z := (n : Int)) (pc' := 102) rfl dX10_roots_99 fk_RX10_81 ly_2 rfl (m0) ?_
                refine v_cSP (pc' := 105) rfl dX10_roots_102 lk_RX10_105 rfl (c_digits l G hpermutation1 (hpk.1.B hn7) rfl hn7 w2) rfl rfl rfl ?_
                refine v_nm (fun digits1 hdigits1 => ?_)
                refine v_iret dX10_roots_105 (by decide) (rfl) ?_
                first | exact ⟨Fr.rf _ _, hI, Or.inl ⟨hz, rfl⟩⟩ | exact ⟨f1, hI2, Or.inr ⟨hy, by rw [pick_hit hjF hP (by omega)]; exact hdigits1⟩⟩ | exact ⟨f1, hI2, Or.inr ⟨hy, by rw [pick_all (by omega), hm, hje]⟩⟩ | exact ⟨f1, hI2, Or.inr ⟨hy, by rw [pick_no (by omega) (by rw [← hje]; omega)]⟩⟩
        ·
          have hz : ¬ (tok wh ∧ (1 ≤ k ∧ k ≤ 12) ∧ -1 ≤ i0) := by omega
          refine v_iconst (pc' := 29) rfl dX10_roots_28 ?_
          refine v_iret dX10_roots_29 (by decide) (rfl) ?_
          first | exact ⟨Fr.rf _ _, hI, Or.inl ⟨hz, rfl⟩⟩ | exact ⟨f1, hI2, Or.inr ⟨hy, by rw [pick_hit hjF hP (by omega)]; exact hdigits1⟩⟩ | exact ⟨f1, hI2, Or.inr ⟨hy, by rw [pick_all (by omega), hm, hje]⟩⟩ | exact ⟨f1, hI2, Or.inr ⟨hy, by rw [pick_no (by omega) (by rw [← hje]; omega)]⟩⟩

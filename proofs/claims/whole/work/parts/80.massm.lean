/-! ===== the reference: mass ===== -/
theorem frac_eq {a b c d : Nat} (hb : 0 < b) (hd : 0 < d) (h : a * d = b * c) : a / Nat.gcd a b = c / Nat.gcd c d ∧ b / Nat.gcd a b = d / Nat.gcd c d := by
  have g1 : 0 < Nat.gcd a b := Nat.gcd_pos_of_pos_right _ hb
  have g2 : 0 < Nat.gcd c d := Nat.gcd_pos_of_pos_right _ hd
  have k1 := Nat.coprime_div_gcd_div_gcd g1
  have k2 := Nat.coprime_div_gcd_div_gcd g2
  obtain ⟨a', ha⟩ := Nat.gcd_dvd_left a b
  obtain ⟨b', hb'⟩ := Nat.gcd_dvd_right a b
  obtain ⟨c', hc⟩ := Nat.gcd_dvd_left c d
  obtain ⟨d', hd'⟩ := Nat.gcd_dvd_right c d
  have ea : a / Nat.gcd a b = a' := by rw [Nat.div_eq_iff_eq_mul_right g1 (Nat.gcd_dvd_left a b)]; exact ha
  have eb : b / Nat.gcd a b = b' := by rw [Nat.div_eq_iff_eq_mul_right g1 (Nat.gcd_dvd_right a b)]; exact hb'
  have ec : c / Nat.gcd c d = c' := by rw [Nat.div_eq_iff_eq_mul_right g2 (Nat.gcd_dvd_left c d)]; exact hc
  have ed : d / Nat.gcd c d = d' := by rw [Nat.div_eq_iff_eq_mul_right g2 (Nat.gcd_dvd_right c d)]; exact hd'
  rw [ea, eb] at k1
  rw [ec, ed] at k2
  rw [ea, eb, ec, ed]
  have hm : a' * d' = b' * c' := by
    have e : (Nat.gcd a b * Nat.gcd c d) * (a' * d') = (Nat.gcd a b * Nat.gcd c d) * (b' * c') := by
      calc (Nat.gcd a b * Nat.gcd c d) * (a' * d') = (Nat.gcd a b * a') * (Nat.gcd c d * d') := by simp only [Nat.mul_assoc, Nat.mul_left_comm]
        _ = a * d := by rw [← ha, ← hd']
        _ = b * c := h
        _ = (Nat.gcd a b * b') * (Nat.gcd c d * c') := by rw [← hb', ← hc]
        _ = (Nat.gcd a b * Nat.gcd c d) * (b' * c') := by simp only [Nat.mul_assoc, Nat.mul_left_comm]
    exact Nat.eq_of_mul_eq_mul_left (Nat.mul_pos g1 g2) e
  have x1 : a' ∣ c' := k1.dvd_of_dvd_mul_left ⟨d', hm.symm⟩
  have x2 : c' ∣ a' := k2.dvd_of_dvd_mul_right ⟨b', by rw [hm, Nat.mul_comm]⟩
  have e : a' = c' := Nat.dvd_antisymm x1 x2
  refine ⟨e, ?_⟩
  have y1 : b' ∣ d' := k1.symm.dvd_of_dvd_mul_left ⟨c', hm⟩
  have y2 : d' ∣ b' := k2.symm.dvd_of_dvd_mul_right ⟨a', by rw [← hm, Nat.mul_comm]⟩
  exact Nat.dvd_antisymm y1 y2
theorem cntG_1 {P : (Nat → Nat) → Bool} {L : List (Nat → Nat)} {j : Nat} (hP : P (L.getD j pid) = true) : ∀ k, j < k → 1 ≤ cntG P L k
  | 0, h => absurd h (Nat.not_lt_zero _)
  | k + 1, h => by
    rw [cntG_s]
    by_cases q : j = k
    · rw [← q, if_pos hP]; omega
    · have := cntG_1 hP k (by omega); omega
theorem autN_1 {n : Nat} {S A : Nat → Nat} (h7 : n ≤ 7) (hS : Pm n S) : 1 ≤ autN n S A := by
  have hm : pid ∈ gathL n S S := (gathL_mem h7 hS hS _).mpr ⟨pm_id n, conj_id h7 _⟩
  obtain ⟨j, hj, e⟩ := mem_getD (d := pid) hm
  refine cntG_1 (j := j) ?_ _ hj
  rw [e, conj_id h7]; exact beq_self_eq_true _
def masN (n : Nat) (S : Nat → Nat) (L : List Nat) : Nat → Nat
  | 0 => 0
  | k + 1 => masN n S L k + 420 / autN n S (pn n (L.getD k 0))
theorem masN_le (n : Nat) (S : Nat → Nat) (L : List Nat) : ∀ k, masN n S L k ≤ 420 * k
  | 0 => Nat.le_refl _
  | k + 1 => by
    have := masN_le n S L k
    have := Nat.div_le_self 420 (autN n S (pn n (L.getD k 0)))
    simp only [masN]; omega
def MAS : Prop := ∀ n i1 i2 i3 : Nat, 1 ≤ n → n ≤ 7 → i1 < kmany n → i2 < kmany n → i3 < kmany n → masN n (leastF (kT n i1) n) (clL n i1 i2 i3) (clL n i1 i2 i3).length * facN n = 420 * (conI n i1 i2 i3).toNat
set_option maxHeartbeats 4000000 in
set_option maxRecDepth 100000 in
theorem c_commonM (l : Launch) (G : Gx) {a b : Int} {A B : Nat} (ha : a = A) (hb : b = B) (hA : A < 2 ^ 40) (hB : B < 2 ^ 40) (w : Wd)  : SpP l G 0 mX11_common [aL (a), aL (b)] w (((Nat.gcd A B : Nat) : Int)) := by
  have hA9 : A < 1099511627776 := hA
  have hB9 : B < 1099511627776 := hB
  refine Sp_of RX11 rfl (by decide +kernel) rfl (Nat.le_of_ble_eq_true rfl) ?_
  refine v_lload_n 0 (pc' := 1) rfl dX11_common_0 rfl rfl ?_
  refine v_lstore (ls' := [(4, _), (0, _), (2, _)]) (pc' := 3) rfl dX11_common_1 rfl rfl ?_
  refine v_lload_n 2 (pc' := 4) rfl dX11_common_3 rfl rfl ?_
  refine v_lstore (ls' := [(6, _), (4, _), (0, _), (2, _)]) (pc' := 6) rfl dX11_common_4 rfl rfl ?_
  refine v_ls [2, 3, 1, 0] rfl ?_
  refine v_loop2 6 (fun (x : Int) (y : Int) => ∃ P Q : Nat, x = P ∧ y = Q ∧ (P < 1099511627776 ∧ Q < 1099511627776) ∧ Nat.gcd P Q = Nat.gcd A B) (fun (x : Int) (y : Int) => y.toNat) (fun (x : Int) (y : Int) => [(0, aL (a)), (2, aL (b)), (4, aL (x)), (6, aL (y))]) (fun (x : Int) (y : Int) => []) (fun (x : Int) (y : Int) => w) (fun x y hI0 ih0 => ?_) (a) (b) (⟨A, B, ha, hb, ⟨hA9, hB9⟩, rfl⟩)
  obtain ⟨P, Q, hP, hQ, ⟨hPl, hQl⟩, hG⟩ := hI0
  refine v_lload 3 (pc' := 8) rfl dX11_common_6 rfl ?_
  refine v_lconst (z := 0) (pc' := 9) rfl dX11_common_8 rfl ?_
  refine v_lcmp (z := (lcmpI y 0)) (pc' := 10) rfl dX11_common_9 (lcmp_iz (by omega) (by omega)) ?_
  refine v_if_eq (pc' := 13) (tgt := 31) rfl dX11_common_10 (by decide) (by unfold lcmpI; split; decide; split <;> decide) (fun c0 => ?_) (fun c0 => ?_)
  ·
    have hQ0 : Q = 0 := by
      unfold lcmpI at c0
      split at c0
      · omega
      · split at c0 <;> omega
    refine v_lload 2 (pc' := 33) rfl dX11_common_31 rfl ?_
    refine v_lret dX11_common_33 ?_
    exact ⟨by rw [hP, ← hG, hQ0, Nat.gcd_zero_right], rfl⟩
  ·
    have hQp : 0 < Q := by
      refine Nat.pos_of_ne_zero (fun e => c0 ?_)
      unfold lcmpI
      rw [if_neg (by omega), if_pos (by omega)]
    have hml := Nat.mod_lt P hQp
    refine v_lload 2 (pc' := 15) rfl dX11_common_13 rfl ?_
    refine v_lload 3 (pc' := 17) rfl dX11_common_15 rfl ?_
    refine v_lrem (z := ((P % Q : Nat) : Int)) (pc' := 18) rfl dX11_common_17 (lz_ne (by omega) (by omega) (by omega)) (by rw [hP, hQ]; exact lz_remN (by omega) (by omega) (by omega) (by omega)) ?_
    refine v_nmL (fun rr' hrr' => ?_)
    refine v_lstore (ls' := [(8, _), (0, _), (2, _), (4, _), (6, _)]) (pc' := 20) rfl dX11_common_18 rfl rfl ?_
    refine v_lload 4 (pc' := 22) rfl dX11_common_20 rfl ?_
    refine v_lstore (ls' := [(4, _), (8, _), (0, _), (2, _), (6, _)]) (pc' := 24) rfl dX11_common_22 rfl rfl ?_
    refine v_lload 1 (pc' := 26) rfl dX11_common_24 rfl ?_
    refine v_lstore (ls' := [(6, _), (4, _), (8, _), (0, _), (2, _)]) (pc' := 28) rfl dX11_common_26 rfl rfl ?_
    refine v_goto (tgt := 6) dX11_common_28 (by decide) ?_
    refine v_ls [3, 4, 1, 0] rfl ?_
    exact ih0 (y) (rr') (⟨Q, P % Q, hQ, hrr', ⟨hQl, by omega⟩, by rw [← gcd_stp]; exact hG⟩) (by omega)
set_option maxHeartbeats 4000000 in
set_option maxRecDepth 100000 in
theorem c_massM (l : Launch) (G : Gx) {t1 t2 t3 what : Int} (hr1 : rg t1) (hr2 : rg t2) (hr3 : rg t3) (hwt : rg what) (h64 : OP64) (hmas : MAS) {n : Nat} {s a : Nat → Nat} (hV : MapV n s a) (w : Wd) (hM : RMW w n s a) (hR : RTab w n) : Sp l G 4 mX11_mass [aR 63, aI (t1), aI (t2), aI (t3), aI (what)] w (fun z w' => Scr w w' ∧ MasP n t1 t2 t3 what z) := by
  obtain ⟨⟨hn1, hn7⟩, hs, ha⟩ := id hV
  obtain ⟨r0, r1, r2⟩ := id hM
  obtain ⟨r3, r4, rPK, rTK⟩ := id hR
  have hfc := fac_le hn1 hn7
  have hk15 := kmany_le n hn7
  refine Sp_of RX11 rfl (by decide +kernel) rfl (Nat.le_of_ble_eq_true rfl) ?_
  refine v_aload_n 0 (pc' := 1) rfl dX11_mass_0 rfl rfl ?_
  refine v_iload_n 1 (pc' := 2) rfl dX11_mass_1 rfl rfl ?_
  refine v_iload_n 2 (pc' := 3) rfl dX11_mass_2 rfl rfl ?_
  refine v_iload_n 3 (pc' := 4) rfl dX11_mass_3 rfl rfl ?_
  refine v_cVR (pc' := 7) rfl dX11_mass_4 lk_RX11_358 ly_63 rfl (c_areKinds l G hr1 hr2 hr3 hV w hM hR) rfl rfl rfl (fun areKinds1 hareKinds1 => ?_)
  refine v_if_eq (pc' := 10) (tgt := 20) rfl dX11_mass_7 (by decide) (ak_r hareKinds1) (fun c0 => ?_) (fun c0 => ?_)
  ·
    have hno := ak_0 hareKinds1 (by omega)
    refine v_ldc2 (z := (-1)) (pc' := 23) rfl dX11_mass_20 kc_RX11_361 ?_
    refine v_lret dX11_mass_23 ?_
    first
    | exact ⟨Scr.rf _, Or.inl ⟨fun q => hno q.1, rfl⟩⟩
    | exact ⟨Scr.rf _, Or.inl ⟨fun q => hn2 q.2, rfl⟩⟩
    | exact ⟨hsc, Or.inr ⟨i1, i2, i3, ⟨h1, h2, h3⟩, ⟨ht1, ht2, ht3⟩, hy2, by rw [if_pos (by omega), hfr.1, Int.natCast_ediv, Int.toNat_of_nonneg hcn]⟩⟩
    | exact ⟨hsc, Or.inr ⟨i1, i2, i3, ⟨h1, h2, h3⟩, ⟨ht1, ht2, ht3⟩, hy2, by rw [if_neg (by omega), hfr.2, Int.natCast_ediv]⟩⟩
  ·
    obtain ⟨i1, i2, i3, ⟨h1, h2, h3⟩, ht1, ht2, ht3⟩ := ak_1 hareKinds1 (by omega)
    refine v_iload 4 (pc' := 12) rfl dX11_mass_10 rfl ?_
    refine v_iconst (pc' := 13) rfl dX11_mass_12 ?_
    refine v_iconst (pc' := 14) rfl dX11_mass_13 ?_
    refine v_cSP (pc' := 17) rfl dX11_mass_14 lk_RX11_121 rfl (c_in l G hwt (by decide) (by decide) w) rfl rfl rfl ?_
    refine v_nm (fun in1 hin1 => ?_)
    refine v_if_ne (pc' := 20) (tgt := 24) rfl dX11_mass_17 (by decide) (in_r hin1) (fun c1 => ?_) (fun c1 => ?_)
    ·
      have hy2 := in_1 hin1 (by omega)
      have hSp := lp_pm hn7 h1
      refine v_aload_n 0 (pc' := 25) rfl dX11_mass_24 rfl rfl ?_
      refine v_aload_n 0 (pc' := 26) rfl dX11_mass_25 rfl rfl ?_
      refine v_iload_n 1 (pc' := 27) rfl dX11_mass_26 rfl rfl ?_
      refine v_cVR (pc' := 30) rfl dX11_mass_27 lk_RX11_178 ly_63 rfl (c_kindOf l G (n := n) (t := t1) hr1 hn1 hn7 w r4 (fun k hk => (rTK k hk).1)) rfl rfl rfl (fun kindOf1 hkindOf1 => ?_)
      have hkz1 := KX_is hn7 hkindOf1 h1 ht1
      refine v_aload_n 0 (pc' := 31) rfl dX11_mass_30 rfl rfl ?_
      refine v_iload_n 2 (pc' := 32) rfl dX11_mass_31 rfl rfl ?_
      refine v_cVR (pc' := 35) rfl dX11_mass_32 lk_RX11_178 ly_63 rfl (c_kindOf l G (n := n) (t := t2) hr2 hn1 hn7 w r4 (fun k hk => (rTK k hk).1)) rfl rfl rfl (fun kindOf2 hkindOf2 => ?_)
      have hkz2 := KX_is hn7 hkindOf2 h2 ht2
      refine v_aload_n 0 (pc' := 36) rfl dX11_mass_35 rfl rfl ?_
      refine v_iload_n 3 (pc' := 37) rfl dX11_mass_36 rfl rfl ?_
      refine v_cVR (pc' := 40) rfl dX11_mass_37 lk_RX11_178 ly_63 rfl (c_kindOf l G (n := n) (t := t3) hr3 hn1 hn7 w r4 (fun k hk => (rTK k hk).1)) rfl rfl rfl (fun kindOf3 hkindOf3 => ?_)
      have hkz3 := KX_is hn7 hkindOf3 h3 ht3
      refine v_cVv (pc' := 43) rfl dX11_mass_40 lk_RX11_374 ly_63 rfl (c_laysClasses l G hn1 hn7 h1 h2 h3 hkz1 hkz2 hkz3 h64 w hM.1 hR) rfl rfl rfl (fun laysClasses1 w6 hq6 => ?_)
      obtain ⟨hsc, hCL⟩ := hq6
      have hcm : w6 63 46 = ((clL n i1 i2 i3).length : Nat) := hCL.1
      have hl64 : (clL n i1 i2 i3).length ≤ 64 := h64 n i1 i2 i3 hn1 hn7 h1 h2 h3
      refine v_lconst (z := 0) (pc' := 44) rfl dX11_mass_43 rfl ?_
      refine v_lstore (ls' := [(5, _), (0, _), (1, _), (2, _), (3, _), (4, _)]) (pc' := 46) rfl dX11_mass_44 rfl rfl ?_
      refine v_iconst (pc' := 47) rfl dX11_mass_46 ?_
      refine v_istore (ls' := [(7, _), (5, _), (0, _), (1, _), (2, _), (3, _), (4, _)]) (pc' := 49) rfl dX11_mass_47 rfl rfl ?_
      refine v_ls [2, 3, 4, 5, 6, 1, 0] rfl ?_
      refine v_loop2 49 (fun (all : Int) (i : Int) => ∃ k : Nat, i = k ∧ k ≤ (clL n i1 i2 i3).length ∧ all = (masN n (leastF (kT n i1) n) (clL n i1 i2 i3) k : Nat)) (fun (all : Int) (i : Int) => (64 - i).toNat) (fun (all : Int) (i : Int) => [(0, aR 63), (1, aI (t1)), (2, aI (t2)), (3, aI (t3)), (4, aI (what)), (5, aL (all)), (7, aI (i))]) (fun (all : Int) (i : Int) => []) (fun (all : Int) (i : Int) => w6) (fun all i hI0 ih0 => ?_) (0) (0) (⟨0, rfl, by omega, rfl⟩)
      obtain ⟨k, hi, hk, hall⟩ := hI0
      have hml := masN_le n (leastF (kT n i1) n) (clL n i1 i2 i3) k
      refine v_iload 6 (pc' := 51) rfl dX11_mass_49 rfl ?_
      refine v_aload_n 0 (pc' := 52) rfl dX11_mass_51 rfl rfl ?_
      refine v_get (z := (((clL n i1 i2 i3).length : Nat) : Int)) (pc' := 55) rfl dX11_mass_52 fk_RX11_371 ly_63 rfl (hcm) ?_
      refine v_icmp_ge (pc' := 58) (tgt := 81) rfl dX11_mass_55 (by decide) (by omega) (by omega) (fun c2 => ?_) (fun c2 => ?_)
      ·
        have hke : k = (clL n i1 i2 i3).length := by omega
        have hall2 : all = ((masN n (leastF (kT n i1) n) (clL n i1 i2 i3) (clL n i1 i2 i3).length) : Nat) := by rw [hall, hke]
        have hml2 := masN_le n (leastF (kT n i1) n) (clL n i1 i2 i3) (clL n i1 i2 i3).length
        have hmas1 := hmas n i1 i2 i3 hn1 hn7 h1 h2 h3
        have hcn := (conI_le hn1 hn7 h1 i2 i3).1
        have hfr := frac_eq (a := (masN n (leastF (kT n i1) n) (clL n i1 i2 i3) (clL n i1 i2 i3).length)) (b := 420) (c := (conI n i1 i2 i3).toNat) (d := facN n) (by decide) (by omega) hmas1
        have hgp : 0 < Nat.gcd (masN n (leastF (kT n i1) n) (clL n i1 i2 i3) (clL n i1 i2 i3).length) 420 := Nat.gcd_pos_of_pos_right _ (by decide)
        have hgl : Nat.gcd (masN n (leastF (kT n i1) n) (clL n i1 i2 i3) (clL n i1 i2 i3).length) 420 ≤ 420 := Nat.gcd_le_right _ (by decide)
        refine v_lload 5 (pc' := 83) rfl dX11_mass_81 rfl ?_
        refine v_ldc2 (z := 420) (pc' := 86) rfl dX11_mass_83 kc_RX11_380 ?_
        refine v_cSPL (pc' := 89) rfl dX11_mass_86 lk_RX11_382 rfl (c_commonM l G (A := (masN n (leastF (kT n i1) n) (clL n i1 i2 i3) (clL n i1 i2 i3).length)) (B := 420) hall2 rfl (by omega) (by decide) w6) rfl rfl rfl ?_
        refine v_nmL (fun common1 hcommon1 => ?_)
        refine v_lstore (ls' := [(7, _), (0, _), (1, _), (2, _), (3, _), (4, _), (5, _)]) (pc' := 91) rfl dX11_mass_89 rfl rfl ?_
        refine v_iload 5 (pc' := 93) rfl dX11_mass_91 rfl ?_
        refine v_if_ne (pc' := 96) (tgt := 104) rfl dX11_mass_93 (by decide) (by omega) (fun c3 => ?_) (fun c3 => ?_)
        ·
          refine v_ldc2 (z := 420) (pc' := 107) rfl dX11_mass_104 kc_RX11_380 ?_
          refine v_lload 0 (pc' := 109) rfl dX11_mass_107 rfl ?_
          refine v_ldiv (z := ((420 / Nat.gcd (masN n (leastF (kT n i1) n) (clL n i1 i2 i3) (clL n i1 i2 i3).length) 420 : Nat) : Int)) (pc' := 110) rfl dX11_mass_109 (lz_ne (by omega) (by omega) (by omega)) (by rw [hcommon1]; exact lz_divN (by omega) (by omega) (by omega) (by omega)) ?_
          refine v_lret dX11_mass_110 ?_
          first
          | exact ⟨Scr.rf _, Or.inl ⟨fun q => hno q.1, rfl⟩⟩
          | exact ⟨Scr.rf _, Or.inl ⟨fun q => hn2 q.2, rfl⟩⟩
          | exact ⟨hsc, Or.inr ⟨i1, i2, i3, ⟨h1, h2, h3⟩, ⟨ht1, ht2, ht3⟩, hy2, by rw [if_pos (by omega), hfr.1, Int.natCast_ediv, Int.toNat_of_nonneg hcn]⟩⟩
          | exact ⟨hsc, Or.inr ⟨i1, i2, i3, ⟨h1, h2, h3⟩, ⟨ht1, ht2, ht3⟩, hy2, by rw [if_neg (by omega), hfr.2, Int.natCast_ediv]⟩⟩
        ·
          refine v_lload 6 (pc' := 98) rfl dX11_mass_96 rfl ?_
          refine v_lload 0 (pc' := 100) rfl dX11_mass_98 rfl ?_
          refine v_ldiv (z := (((masN n (leastF (kT n i1) n) (clL n i1 i2 i3) (clL n i1 i2 i3).length) / Nat.gcd (masN n (leastF (kT n i1) n) (clL n i1 i2 i3) (clL n i1 i2 i3).length) 420 : Nat) : Int)) (pc' := 101) rfl dX11_mass_100 (lz_ne (by omega) (by omega) (by omega)) (by rw [hall2, hcommon1]; exact lz_divN (by omega) (by omega) (by omega) (by omega)) ?_
          refine v_goto (tgt := 110) dX11_mass_101 (by decide) ?_
          refine v_lret dX11_mass_110 ?_
          first
          | exact ⟨Scr.rf _, Or.inl ⟨fun q => hno q.1, rfl⟩⟩
          | exact ⟨Scr.rf _, Or.inl ⟨fun q => hn2 q.2, rfl⟩⟩
          | exact ⟨hsc, Or.inr ⟨i1, i2, i3, ⟨h1, h2, h3⟩, ⟨ht1, ht2, ht3⟩, hy2, by rw [if_pos (by omega), hfr.1, Int.natCast_ediv, Int.toNat_of_nonneg hcn]⟩⟩
          | exact ⟨hsc, Or.inr ⟨i1, i2, i3, ⟨h1, h2, h3⟩, ⟨ht1, ht2, ht3⟩, hy2, by rw [if_neg (by omega), hfr.2, Int.natCast_ediv]⟩⟩
      ·
        have hkl : k < (clL n i1 i2 i3).length := by omega
        have hau1 := autN_1 (A := pn n ((clL n i1 i2 i3).getD k 0)) hn7 hSp
        have hau5 := autN_le hn1 hn7 hSp (pn n ((clL n i1 i2 i3).getD k 0))
        obtain ⟨Q, hQ⟩ : ∃ q, q = 420 / (autN n (leastF (kT n i1) n) (pn n ((clL n i1 i2 i3).getD k 0))) := ⟨_, rfl⟩
        have hQl : Q ≤ 420 := by rw [hQ]; exact Nat.div_le_self _ _
        refine v_lload 5 (pc' := 60) rfl dX11_mass_58 rfl ?_
        refine v_sipush (pc' := 63) rfl dX11_mass_60 rfl ?_
        refine v_aload_n 0 (pc' := 64) rfl dX11_mass_63 rfl rfl ?_
        refine v_getR (pc' := 67) rfl dX11_mass_64 fk_RX11_86 ly_63 rfl ?_
        refine v_iload 6 (pc' := 69) rfl dX11_mass_67 rfl ?_
        refine v_iald (z := (((autN n (leastF (kT n i1) n) (pn n ((clL n i1 i2 i3).getD k 0))) : Nat) : Int)) (pc' := 70) rfl dX11_mass_69 ly_89 (by omega) (by omega) rfl (by rw [show i.toNat = k by omega]; exact (hCL.2 k hkl).2) ?_
        refine v_idiv (z := ((Q : Nat) : Int)) (pc' := 71) rfl dX11_mass_70 (iz_ne (by omega) (by omega)) (by rw [hQ]; exact iz_divN (by omega) (by omega) (by omega) (by omega)) ?_
        refine v_i2l (pc' := 72) rfl dX11_mass_71 (by omega) ?_
        refine v_ladd (pc' := 73) rfl dX11_mass_72 ?_
        refine v_nmL (fun all' hall' => ?_)
        refine v_lstore (ls' := [(5, _), (0, _), (1, _), (2, _), (3, _), (4, _), (7, _)]) (pc' := 75) rfl dX11_mass_73 rfl rfl ?_
        refine v_iinc (ls' := [(7, _), (5, _), (0, _), (1, _), (2, _), (3, _), (4, _)]) 6 (pc' := 78) rfl dX11_mass_75 rfl rfl rfl ?_
        refine v_nl (fun i' hi' => ?_)
        refine v_goto (tgt := 49) dX11_mass_78 (by decide) ?_
        refine v_ls [2, 3, 4, 5, 6, 1, 0] rfl ?_
        exact ih0 (all') (i') (⟨k + 1, by omega, by omega, by rw [hall', hall, hQ]; rfl⟩) (by omega)
    ·
      have hn2 := in_0 hin1 (by omega)
      refine v_ldc2 (z := (-1)) (pc' := 23) rfl dX11_mass_20 kc_RX11_361 ?_
      refine v_lret dX11_mass_23 ?_
      first
      | exact ⟨Scr.rf _, Or.inl ⟨fun q => hno q.1, rfl⟩⟩
      | exact ⟨Scr.rf _, Or.inl ⟨fun q => hn2 q.2, rfl⟩⟩
      | exact ⟨hsc, Or.inr ⟨i1, i2, i3, ⟨h1, h2, h3⟩, ⟨ht1, ht2, ht3⟩, hy2, by rw [if_pos (by omega), hfr.1, Int.natCast_ediv, Int.toNat_of_nonneg hcn]⟩⟩
      | exact ⟨hsc, Or.inr ⟨i1, i2, i3, ⟨h1, h2, h3⟩, ⟨ht1, ht2, ht3⟩, hy2, by rw [if_neg (by omega), hfr.2, Int.natCast_ediv]⟩⟩

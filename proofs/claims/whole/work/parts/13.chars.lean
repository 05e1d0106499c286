theorem kt_ok : ∀ n : Nat, n < 8 → ∀ i : Nat, i < kmany n → (vbL 7 (kT n i) 0 0 < 16384 ∧ okB n 7 1 (kT n i) = true) ∧ (1 ≤ fixT (kT n i) ∧ fixT (kT n i) ≤ 5040) ∧ (1 ≤ membersN (kT n i) n ∧ membersN (kT n i) n ≤ 840) := by decide +kernel
theorem val_ok : ∀ n : Nat, n < 8 → ∀ i : Nat, i < kmany n → 1 ≤ valN (kT n i) (kT n 0) ∧ ∀ j : Nat, j < kmany n → -35 ≤ valN (kT n i) (kT n j) ∧ valN (kT n i) (kT n j) ≤ 35 := by decide +kernel
theorem abs_mul {a b A B : Int} (h1 : -A ≤ a) (h2 : a ≤ A) (h3 : -B ≤ b) (h4 : b ≤ B) : -(A * B) ≤ a * b ∧ a * b ≤ A * B := by
  have p1 : 0 ≤ (A - a) * (B + b) := Int.mul_nonneg (by omega) (by omega)
  have p2 : 0 ≤ (A + a) * (B - b) := Int.mul_nonneg (by omega) (by omega)
  have p3 : 0 ≤ (A - a) * (B - b) := Int.mul_nonneg (by omega) (by omega)
  have p4 : 0 ≤ (A + a) * (B + b) := Int.mul_nonneg (by omega) (by omega)
  simp only [Int.sub_mul, Int.mul_sub, Int.add_mul, Int.mul_add] at p1 p2 p3 p4
  omega
def bcT (n i1 i2 i3 k : Nat) : Int := (facN n : Int) / valN (kT n k) (kT n 0) * valN (kT n k) (kT n i1) * valN (kT n k) (kT n i2) * valN (kT n k) (kT n i3)
def bcS (n i1 i2 i3 : Nat) : Nat → Int
  | 0 => 0
  | k + 1 => bcS n i1 i2 i3 k + bcT n i1 i2 i3 k
def bcI (n i1 i2 i3 : Nat) : Int := ((bcS n i1 i2 i3 (kmany n) * (membersN (kT n i1) n : Int) * (membersN (kT n i2) n : Int) * (membersN (kT n i3) n : Int)).tdiv (facN n)).tdiv (facN n)
theorem fac_le {n : Nat} : 1 ≤ n → n ≤ 7 → 1 ≤ facN n ∧ facN n ≤ 5040 := by
  intro h1 h7
  rcases (show n = 1 ∨ n = 2 ∨ n = 3 ∨ n = 4 ∨ n = 5 ∨ n = 6 ∨ n = 7 by omega) with rfl | rfl | rfl | rfl | rfl | rfl | rfl <;> decide
theorem bcT_le {n i1 i2 i3 k : Nat} (hn1 : 1 ≤ n) (hn7 : n ≤ 7) (h1 : i1 < kmany n) (h2 : i2 < kmany n) (h3 : i3 < kmany n) (hk : k < kmany n) : -216090000 ≤ bcT n i1 i2 i3 k ∧ bcT n i1 i2 i3 k ≤ 216090000 := by
  have v := val_ok n (by omega) k hk
  have f := fac_le hn1 hn7
  have a := v.2 i1 h1
  have b := v.2 i2 h2
  have c := v.2 i3 h3
  have d0 : 0 ≤ (facN n : Int) / valN (kT n k) (kT n 0) := Int.ediv_nonneg (by omega) (by omega)
  have d1 : (facN n : Int) / valN (kT n k) (kT n 0) ≤ facN n := Int.ediv_le_self _ (by omega)
  have e1 := abs_mul (A := 5040) (B := 35) (a := (facN n : Int) / valN (kT n k) (kT n 0)) (by omega) (by omega) a.1 a.2
  have e2 := abs_mul (A := 5040 * 35) (B := 35) e1.1 e1.2 b.1 b.2
  have e3 := abs_mul (A := 5040 * 35 * 35) (B := 35) e2.1 e2.2 c.1 c.2
  unfold bcT; omega
theorem bcS_le {n i1 i2 i3 : Nat} (hn1 : 1 ≤ n) (hn7 : n ≤ 7) (h1 : i1 < kmany n) (h2 : i2 < kmany n) (h3 : i3 < kmany n) : ∀ k, k ≤ kmany n → -(216090000 * (k : Int)) ≤ bcS n i1 i2 i3 k ∧ bcS n i1 i2 i3 k ≤ 216090000 * (k : Int)
  | 0, _ => by simp [bcS]
  | k + 1, h => by
    have a := bcS_le hn1 hn7 h1 h2 h3 k (by omega)
    have b := bcT_le hn1 hn7 h1 h2 h3 (k := k) (by omega)
    simp only [bcS]; omega
theorem bcP_le {n i1 i2 i3 : Nat} (hn1 : 1 ≤ n) (hn7 : n ≤ 7) (h1 : i1 < kmany n) (h2 : i2 < kmany n) (h3 : i3 < kmany n) : -9000000000000000000 ≤ bcS n i1 i2 i3 (kmany n) * (membersN (kT n i1) n : Int) * (membersN (kT n i2) n : Int) * (membersN (kT n i3) n : Int) ∧ bcS n i1 i2 i3 (kmany n) * (membersN (kT n i1) n : Int) * (membersN (kT n i2) n : Int) * (membersN (kT n i3) n : Int) ≤ 9000000000000000000 := by
  have m := ((frst_ok n (by omega)).2.2 hn1).2
  have a := bcS_le hn1 hn7 h1 h2 h3 (kmany n) (Nat.le_refl _)
  have b1 := (kt_ok n (by omega) i1 h1).2.2
  have b2 := (kt_ok n (by omega) i2 h2).2.2
  have b3 := (kt_ok n (by omega) i3 h3).2.2
  have e1 := abs_mul (A := 3241350000) (B := 840) (a := bcS n i1 i2 i3 (kmany n)) (b := (membersN (kT n i1) n : Int)) (by omega) (by omega) (by omega) (by omega)
  have e2 := abs_mul (A := 3241350000 * 840) (B := 840) (b := (membersN (kT n i2) n : Int)) e1.1 e1.2 (by omega) (by omega)
  have e3 := abs_mul (A := 3241350000 * 840 * 840) (B := 840) (b := (membersN (kT n i3) n : Int)) e2.1 e2.2 (by omega) (by omega)
  omega
theorem tdiv_le {a b A : Int} (h1 : -A ≤ a) (h2 : a ≤ A) : -A ≤ a.tdiv b ∧ a.tdiv b ≤ A := by
  have h3 : (a.tdiv b).natAbs = a.natAbs / b.natAbs := Int.natAbs_tdiv a b
  have h4 : a.natAbs / b.natAbs ≤ a.natAbs := Nat.div_le_self _ _
  generalize a.natAbs / b.natAbs = q at h3 h4
  omega
set_option maxHeartbeats 4000000 in
set_option maxRecDepth 100000 in
theorem c_byCharacters (l : Launch) (G : Gx) {a b c n0 : Int} {n i1 i2 i3 : Nat} (ha : a = (kT n i1 : Nat)) (hb : b = (kT n i2 : Nat)) (hc : c = (kT n i3 : Nat)) (hn : n0 = n) (hn1 : 1 ≤ n) (hn7 : n ≤ 7) (h1 : i1 < kmany n) (h2 : i2 < kmany n) (h3 : i3 < kmany n) (w : Wd) : SpP l G 9 mX5_byCharacters [aI (a), aI (b), aI (c), aI (n0)] w (bcI n i1 i2 i3) := by
  have hm := ((frst_ok n (by omega)).2.2 hn1).2
  have hfl := fac_le hn1 hn7
  have hp1 := kT_le hn7 h1
  have hp2 := kT_le hn7 h2
  have hp3 := kT_le hn7 h3
  have hm0 : 0 < kmany n := by omega
  have hp0 := kT_le hn7 hm0
  have hb1 := (kt_ok n (by omega) i1 h1).2.2
  have hb2 := (kt_ok n (by omega) i2 h2).2.2
  have hb3 := (kt_ok n (by omega) i3 h3).2.2
  refine Sp_of RX5 rfl (by decide +kernel) rfl (Nat.le_of_ble_eq_true rfl) ?_
  refine v_iload_n 3 (pc' := 1) rfl dX5_byCharacters_0 rfl rfl ?_
  refine v_cSP (pc' := 4) rfl dX5_byCharacters_1 lk_RX5_29 rfl (c_factorial l G hn hn1 hn7 w) rfl rfl rfl ?_
  refine v_nm (fun factorial1 hfactorial1 => ?_)
  refine v_i2l (pc' := 5) rfl dX5_byCharacters_4 (by omega) ?_
  refine v_lstore (ls' := [(4, _), (0, _), (1, _), (2, _), (3, _)]) (pc' := 7) rfl dX5_byCharacters_5 rfl rfl ?_
  refine v_lload 0 (pc' := 9) rfl dX5_byCharacters_7 rfl ?_
  refine v_lconst (z := 1) (pc' := 10) rfl dX5_byCharacters_9 rfl ?_
  refine v_lcmp (z := (lcmpI factorial1 1)) (pc' := 11) rfl dX5_byCharacters_10 (lcmp_iz (by omega) (by omega)) ?_
  refine v_if_ge (pc' := 14) (tgt := 16) rfl dX5_byCharacters_11 (by decide) (by unfold lcmpI; split; omega; split <;> omega) (fun c0 => ?_) (fun c0 => absurd c0 (by unfold lcmpI; split; omega; split <;> omega))
  refine v_lconst (z := 0) (pc' := 17) rfl dX5_byCharacters_16 rfl ?_
  refine v_lstore (ls' := [(6, _), (4, _), (0, _), (1, _), (2, _), (3, _)]) (pc' := 19) rfl dX5_byCharacters_17 rfl rfl ?_
  refine v_iconst (pc' := 20) rfl dX5_byCharacters_19 ?_
  refine v_istore (ls' := [(8, _), (6, _), (4, _), (0, _), (1, _), (2, _), (3, _)]) (pc' := 22) rfl dX5_byCharacters_20 rfl rfl ?_
  refine v_ls [3, 4, 5, 6, 2, 1, 0] rfl ?_
  refine v_loop2 22 (fun (sum : Int) (i : Int) => ∃ k : Nat, i = k ∧ k ≤ kmany n ∧ sum = bcS n i1 i2 i3 k) (fun (sum : Int) (i : Int) => (15 - i).toNat) (fun (sum : Int) (i : Int) => [(0, aI (a)), (1, aI (b)), (2, aI (c)), (3, aI (n0)), (4, aL (factorial1)), (6, aL (sum)), (8, aI (i))]) (fun (sum : Int) (i : Int) => []) (fun (sum : Int) (i : Int) => w) (fun sum i hI0 ih0 => ?_) (0) (0) (⟨0, rfl, by omega, rfl⟩)
  obtain ⟨k, hi, hk, hsum⟩ := hI0
  refine v_iload 6 (pc' := 24) rfl dX5_byCharacters_22 rfl ?_
  refine v_iload_n 3 (pc' := 25) rfl dX5_byCharacters_24 rfl rfl ?_
  refine v_cSP (pc' := 28) rfl dX5_byCharacters_25 lk_RX5_15 rfl (c_many l G hn hn1 hn7 w) rfl rfl rfl ?_
  refine v_nm (fun many1 hmany1 => ?_)
  refine v_icmp_ge (pc' := 31) (tgt := 97) rfl dX5_byCharacters_28 (by decide) (by omega) (by omega) (fun c1 => ?_) (fun c1 => ?_)
  ·
    obtain rfl : k = kmany n := by omega
    have hP := bcP_le hn1 hn7 h1 h2 h3
    have hQ := tdiv_le (b := (facN n : Int)) hP.1 hP.2
    refine v_lload 5 (pc' := 99) rfl dX5_byCharacters_97 rfl ?_
    refine v_iload_n 0 (pc' := 100) rfl dX5_byCharacters_99 rfl rfl ?_
    refine v_iload_n 3 (pc' := 101) rfl dX5_byCharacters_100 rfl rfl ?_
    refine v_cSP (pc' := 104) rfl dX5_byCharacters_101 lk_RX5_44 rfl (c_members l G ha (by have := kT_le hn7 h1; omega) (kt_ok n (by omega) _ h1).2.1.1 (kt_ok n (by omega) _ h1).2.1.2 hn hn1 hn7 w) rfl rfl rfl ?_
    refine v_nm (fun members1 hmembers1 => ?_)
    refine v_i2l (pc' := 105) rfl dX5_byCharacters_104 (by omega) ?_
    refine v_lmul (pc' := 106) rfl dX5_byCharacters_105 ?_
    refine v_iload_n 1 (pc' := 107) rfl dX5_byCharacters_106 rfl rfl ?_
    refine v_iload_n 3 (pc' := 108) rfl dX5_byCharacters_107 rfl rfl ?_
    refine v_cSP (pc' := 111) rfl dX5_byCharacters_108 lk_RX5_44 rfl (c_members l G hb (by have := kT_le hn7 h2; omega) (kt_ok n (by omega) _ h2).2.1.1 (kt_ok n (by omega) _ h2).2.1.2 hn hn1 hn7 w) rfl rfl rfl ?_
    refine v_nm (fun members2 hmembers2 => ?_)
    refine v_i2l (pc' := 112) rfl dX5_byCharacters_111 (by omega) ?_
    refine v_lmul (pc' := 113) rfl dX5_byCharacters_112 ?_
    refine v_iload_n 2 (pc' := 114) rfl dX5_byCharacters_113 rfl rfl ?_
    refine v_iload_n 3 (pc' := 115) rfl dX5_byCharacters_114 rfl rfl ?_
    refine v_cSP (pc' := 118) rfl dX5_byCharacters_115 lk_RX5_44 rfl (c_members l G hc (by have := kT_le hn7 h3; omega) (kt_ok n (by omega) _ h3).2.1.1 (kt_ok n (by omega) _ h3).2.1.2 hn hn1 hn7 w) rfl rfl rfl ?_
    refine v_nm (fun members3 hmembers3 => ?_)
    refine v_i2l (pc' := 119) rfl dX5_byCharacters_118 (by omega) ?_
    refine v_lmul (pc' := 120) rfl dX5_byCharacters_119 ?_
    refine v_lload 4 (pc' := 122) rfl dX5_byCharacters_120 rfl ?_
    refine v_ldiv (z := ((bcS n i1 i2 i3 (kmany n) * (membersN (kT n i1) n : Int) * (membersN (kT n i2) n : Int) * (membersN (kT n i3) n : Int)).tdiv (facN n))) (pc' := 123) rfl dX5_byCharacters_122 (lz_ne (by omega) (by omega) (by omega)) (by rw [hsum, hmembers1, hmembers2, hmembers3, hfactorial1]; exact lz_div (by omega) (by omega) (by omega) (by omega) (by omega)) ?_
    refine v_lload 4 (pc' := 125) rfl dX5_byCharacters_123 rfl ?_
    refine v_ldiv (z := bcI n i1 i2 i3) (pc' := 126) rfl dX5_byCharacters_125 (lz_ne (by omega) (by omega) (by omega)) (by rw [hfactorial1]; exact lz_div (by omega) (by omega) (by omega) (by omega) (by omega)) ?_
    refine v_lret dX5_byCharacters_126 ?_
    exact ⟨rfl, rfl⟩
  ·
    have hpk := kT_le hn7 (show k < kmany n by omega)
    have hv := val_ok n (by omega) k (by omega)
    have hv0 := hv.2 0 hm0
    have hv1 := hv.2 i1 h1
    have hv2 := hv.2 i2 h2
    have hv3 := hv.2 i3 h3
    refine v_iload_n 3 (pc' := 32) rfl dX5_byCharacters_31 rfl rfl ?_
    refine v_iload 6 (pc' := 34) rfl dX5_byCharacters_32 rfl ?_
    refine v_cSP (pc' := 37) rfl dX5_byCharacters_34 lk_RX5_22 rfl (c_nth l G hn hn1 hn7 hi (by omega) w) rfl rfl rfl ?_
    refine v_nm (fun nth1 hnth1 => ?_)
    refine v_istore (ls' := [(9, _), (0, _), (1, _), (2, _), (3, _), (4, _), (6, _), (8, _)]) (pc' := 39) rfl dX5_byCharacters_37 rfl rfl ?_
    refine v_iload 0 (pc' := 41) rfl dX5_byCharacters_39 rfl ?_
    refine v_iload_n 4 (pc' := 42) rfl dX5_byCharacters_41 rfl rfl ?_
    refine v_iconst (pc' := 43) rfl dX5_byCharacters_42 ?_
    refine v_cSP (pc' := 46) rfl dX5_byCharacters_43 lk_RX5_22 rfl (c_nth l G hn hn1 hn7 (i := 0) rfl (by omega) w) rfl rfl rfl ?_
    refine v_nm (fun nth2 hnth2 => ?_)
    refine v_cSP (pc' := 49) rfl dX5_byCharacters_46 lk_RX5_41 rfl (c_value l G hnth1 (by omega) (kt_ok n (by omega) k (by omega)).1.1 hnth2 (by omega) w) rfl rfl rfl ?_
    refine v_nm (fun value1 hvalue1 => ?_)
    refine v_istore (ls' := [(10, _), (9, _), (0, _), (1, _), (2, _), (3, _), (4, _), (6, _), (8, _)]) (pc' := 51) rfl dX5_byCharacters_49 rfl rfl ?_
    refine v_iload 0 (pc' := 53) rfl dX5_byCharacters_51 rfl ?_
    refine v_if_le (pc' := 56) (tgt := 91) rfl dX5_byCharacters_53 (by decide) (by omega) (fun c2 => absurd c2 (by omega)) (fun c2 => ?_)
    refine v_lload 7 (pc' := 58) rfl dX5_byCharacters_56 rfl ?_
    refine v_lload 6 (pc' := 60) rfl dX5_byCharacters_58 rfl ?_
    refine v_iload 0 (pc' := 62) rfl dX5_byCharacters_60 rfl ?_
    refine v_i2l (pc' := 63) rfl dX5_byCharacters_62 (by omega) ?_
    refine v_ldiv (z := (factorial1 / value1)) (pc' := 64) rfl dX5_byCharacters_63 (lz_ne (by omega) (by omega) (by omega)) (lz_divN (by omega) (by omega) (by omega) (by omega)) ?_
    refine v_iload 1 (pc' := 66) rfl dX5_byCharacters_64 rfl ?_
    refine v_iload_n 2 (pc' := 67) rfl dX5_byCharacters_66 rfl rfl ?_
    refine v_cSP (pc' := 70) rfl dX5_byCharacters_67 lk_RX5_41 rfl (c_value l G hnth1 (by omega) (kt_ok n (by omega) k (by omega)).1.1 ha (by omega) w) rfl rfl rfl ?_
    refine v_nm (fun value2 hvalue2 => ?_)
    refine v_i2l (pc' := 71) rfl dX5_byCharacters_70 (by omega) ?_
    refine v_lmul (pc' := 72) rfl dX5_byCharacters_71 ?_
    refine v_iload 1 (pc' := 74) rfl dX5_byCharacters_72 rfl ?_
    refine v_iload_n 3 (pc' := 75) rfl dX5_byCharacters_74 rfl rfl ?_
    refine v_cSP (pc' := 78) rfl dX5_byCharacters_75 lk_RX5_41 rfl (c_value l G hnth1 (by omega) (kt_ok n (by omega) k (by omega)).1.1 hb (by omega) w) rfl rfl rfl ?_
    refine v_nm (fun value3 hvalue3 => ?_)
    refine v_i2l (pc' := 79) rfl dX5_byCharacters_78 (by omega) ?_
    refine v_lmul (pc' := 80) rfl dX5_byCharacters_79 ?_
    refine v_iload 1 (pc' := 82) rfl dX5_byCharacters_80 rfl ?_
    refine v_iload_n 4 (pc' := 83) rfl dX5_byCharacters_82 rfl rfl ?_
    refine v_cSP (pc' := 86) rfl dX5_byCharacters_83 lk_RX5_41 rfl (c_value l G hnth1 (by omega) (kt_ok n (by omega) k (by omega)).1.1 hc (by omega) w) rfl rfl rfl ?_
    refine v_nm (fun value4 hvalue4 => ?_)
    refine v_i2l (pc' := 87) rfl dX5_byCharacters_86 (by omega) ?_
    refine v_lmul (pc' := 88) rfl dX5_byCharacters_87 ?_
    refine v_ladd (pc' := 89) rfl dX5_byCharacters_88 ?_
    refine v_nmL (fun sum' hsum' => ?_)
    refine v_lstore (ls' := [(6, _), (10, _), (9, _), (0, _), (1, _), (2, _), (3, _), (4, _), (8, _)]) (pc' := 91) rfl dX5_byCharacters_89 rfl rfl ?_
    refine v_iinc (ls' := [(8, _), (6, _), (10, _), (9, _), (0, _), (1, _), (2, _), (3, _), (4, _)]) 8 (pc' := 94) rfl dX5_byCharacters_91 rfl rfl rfl ?_
    refine v_nl (fun i' hi' => ?_)
    refine v_goto (tgt := 22) dX5_byCharacters_94 (by decide) ?_
    refine v_ls [4, 5, 6, 7, 8, 1, 0] rfl ?_
    exact ih0 (sum') (i') (⟨k + 1, by omega, by omega, by rw [hsum']; simp only [bcS, bcT]; rw [hsum, hfactorial1, hvalue1, hvalue2, hvalue3, hvalue4]⟩) (by omega)

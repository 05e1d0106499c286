def lsW : Nat → (Nat → Nat) → Nat → Nat → (Nat → Nat)
  | 0, g, _, _ => g
  | k + 1, g, x, last => if x < last then lsW k (gset g x (x + 1)) (x + 1) last else g
def lsL : Nat → (Nat → Nat) → Nat → Nat → (Nat → Nat)
  | 0, g, _, _ => g
  | k + 1, g, x, rest => if rest = 0 then g else lsL k (lsW 7 (gset g (x + rest % 10 - 1) x) x (x + rest % 10 - 1)) (x + rest % 10) (rest / 10)
def leastF (T n : Nat) : Nat → Nat := lsL 7 (tl n) 1 T
def okB (n : Nat) : Nat → Nat → Nat → Bool
  | 0, _, rest => rest == 0
  | k + 1, x, rest => rest == 0 || (decide (1 ≤ rest % 10) && decide (x + rest % 10 ≤ n + 1) && okB n k (x + rest % 10) (rest / 10))
theorem okB_s {n k x rest : Nat} (h : okB n (k + 1) x rest = true) (h0 : rest ≠ 0) : 1 ≤ rest % 10 ∧ x + rest % 10 ≤ n + 1 ∧ okB n k (x + rest % 10) (rest / 10) = true := by
  simp only [okB, Bool.or_eq_true, Bool.and_eq_true, beq_iff_eq, decide_eq_true_eq] at h
  rcases h with h | h
  · exact absurd h h0
  · exact ⟨h.1.1, h.1.2, h.2⟩
theorem tl_7 {n : Nat} (h : n ≤ 7) : B7 (tl n) := fun x a b => by unfold tl; split <;> omega
theorem gset_7 {g : Nat → Nat} (h : B7 g) {y d : Nat} (hd : d ≤ 7) : B7 (gset g y d) := fun x a b => by unfold gset; split; exact hd; exact h x a b
theorem B7.le15 {g : Nat → Nat} (h : B7 g) : ∀ x, 1 ≤ x → x ≤ 7 → g x ≤ 15 := fun x a b => by have := h x a b; omega
theorem orb : ∀ u : Nat, u < 128 → ∀ v : Nat, v < 7 → ∀ y : Nat, y < 7 → (((u ||| bt (v + 1)) &&& bt (y + 1)) == 0) = (((u &&& bt (y + 1)) == 0) && !(y == v)) := by decide +kernel
def RD (n : Nat) (code z : Int) : Prop := (z = 0 ∧ ∀ f, Pm n f → (cdk f n : Int) ≠ code) ∨ ∃ f, Pm n f ∧ (cdk f n : Int) = code ∧ z = (hx f : Nat)
set_option maxHeartbeats 4000000 in
set_option maxRecDepth 100000 in
theorem c_least (l : Launch) (G : Gx) {t0 n0 : Int} {T n : Nat} (ht : t0 = T) (hT : T ≤ 2147483647) (hn : n0 = n) (hn1 : 1 ≤ n) (hn7 : n ≤ 7) (hok : okB n 7 1 T = true) (w : Wd) : SpP l G 2 mX6_least [aI (t0), aI (n0)] w (((hx (leastF T n) : Nat) : Int)) := by
  refine Sp_of RX6 rfl (by decide +kernel) rfl (Nat.le_of_ble_eq_true rfl) ?_
  refine v_iload_n 1 (pc' := 1) rfl dX6_least_0 rfl rfl ?_
  refine v_cSP (pc' := 4) rfl dX6_least_1 lk_RX6_31 rfl (c_tail l G hn hn1 hn7 w) rfl rfl rfl ?_
  refine v_nm (fun tail1 htail1 => ?_)
  refine v_istore_n (ls' := [(2, _), (0, _), (1, _)]) (pc' := 5) rfl dX6_least_4 rfl rfl rfl ?_
  refine v_iconst (pc' := 6) rfl dX6_least_5 ?_
  refine v_istore_n (ls' := [(3, _), (2, _), (0, _), (1, _)]) (pc' := 7) rfl dX6_least_6 rfl rfl rfl ?_
  refine v_iload_n 2 (pc' := 8) rfl dX6_least_7 rfl rfl ?_
  refine v_istore (ls' := [(4, _), (3, _), (2, _), (0, _), (1, _)]) (pc' := 10) rfl dX6_least_8 rfl rfl ?_
  refine v_iconst (pc' := 11) rfl dX6_least_10 ?_
  refine v_istore (ls' := [(5, _), (4, _), (3, _), (2, _), (0, _), (1, _)]) (pc' := 13) rfl dX6_least_11 rfl rfl ?_
  refine v_ls [4, 5, 3, 2, 1, 0] rfl ?_
  refine v_loop4 13 (fun (p : Int) (x : Int) (rest : Int) (i : Int) => ∃ (k xN rN : Nat) (g : Nat → Nat), (i + k = 7 ∧ 0 ≤ i) ∧ p = (hx g : Nat) ∧ x = xN ∧ rest = rN ∧ rN ≤ 2147483647 ∧ 1 ≤ xN ∧ xN ≤ n + 1 ∧ (∀ z, xN ≤ z → z ≤ n → g z = 0) ∧ B7 g ∧ okB n k xN rN = true ∧ lsL k g xN rN = leastF T n) (fun (p : Int) (x : Int) (rest : Int) (i : Int) => (7 - i).toNat) (fun (p : Int) (x : Int) (rest : Int) (i : Int) => [(0, aI (t0)), (1, aI (n0)), (2, aI (p)), (3, aI (x)), (4, aI (rest)), (5, aI (i))]) (fun (p : Int) (x : Int) (rest : Int) (i : Int) => []) (fun (p : Int) (x : Int) (rest : Int) (i : Int) => w) (fun p x rest i hI0 ih0 => ?_) (tail1) (1) (t0) (0) (⟨7, 1, T, tl n, by omega, htail1, rfl, ht, hT, by omega, by omega, fun z a b => by unfold tl; rw [if_neg (by omega)], tl_7 hn7, hok, rfl⟩)
  obtain ⟨k, xN, rN, g, hik, hp, hx1, hrest, hrm, hxa, hxb, hz, hg, hok2, hR⟩ := hI0
  refine v_iload 5 (pc' := 15) rfl dX6_least_13 rfl ?_
  refine v_bipush (pc' := 17) rfl dX6_least_15 rfl ?_
  refine v_icmp_ge (pc' := 20) (tgt := 85) rfl dX6_least_17 (by decide) (by omega) (by omega) (fun c0 => ?_) (fun c0 => ?_)
  ·
    have hret : leastF T n = g := by rw [← hR, show k = 0 by omega]; rfl
    refine v_iload_n 2 (pc' := 86) rfl dX6_least_85 rfl rfl ?_
    refine v_iret dX6_least_86 (by decide) (rfl) ?_
    exact ⟨by rw [hp, hret], rfl⟩
  ·
    refine v_iload 4 (pc' := 22) rfl dX6_least_20 rfl ?_
    refine v_if_le (pc' := 25) (tgt := 85) rfl dX6_least_22 (by decide) (by omega) (fun c1 => ?_) (fun c1 => ?_)
    ·
      have hret : leastF T n = g := by rw [← hR, show rN = 0 by omega]; cases k <;> rfl
      refine v_iload_n 2 (pc' := 86) rfl dX6_least_85 rfl rfl ?_
      refine v_iret dX6_least_86 (by decide) (rfl) ?_
      exact ⟨by rw [hp, hret], rfl⟩
    ·
      obtain ⟨k, rfl⟩ : ∃ j, k = j + 1 := ⟨k - 1, by omega⟩
      have hs := okB_s hok2 (by omega)
      obtain ⟨LN, hLN⟩ : ∃ L, L = xN + rN % 10 - 1 := ⟨_, rfl⟩
      refine v_iload_n 3 (pc' := 26) rfl dX6_least_25 rfl rfl ?_
      refine v_iload 4 (pc' := 28) rfl dX6_least_26 rfl ?_
      refine v_bipush (pc' := 30) rfl dX6_least_28 rfl ?_
      refine v_irem (z := (rest % 10)) (pc' := 31) rfl dX6_least_30 (iz_ne (by omega) (by omega)) (iz_remN (by omega) (by omega) (by omega) (by omega)) ?_
      refine v_iadd (pc' := 32) rfl dX6_least_31 ?_
      refine v_iconst (pc' := 33) rfl dX6_least_32 ?_
      refine v_isub (pc' := 34) rfl dX6_least_33 ?_
      refine v_nm (fun last' hlast' => ?_)
      refine v_istore (ls' := [(6, _), (0, _), (1, _), (2, _), (3, _), (4, _), (5, _)]) (pc' := 36) rfl dX6_least_34 rfl rfl ?_
      refine v_iload_n 3 (pc' := 37) rfl dX6_least_36 rfl rfl ?_
      refine v_iload_n 4 (pc' := 38) rfl dX6_least_37 rfl rfl ?_
      refine v_iload 0 (pc' := 40) rfl dX6_least_38 rfl ?_
      refine v_cSP (pc' := 43) rfl dX6_least_40 lk_RX6_18 rfl (c_shift l G w) rfl rfl rfl ?_
      refine v_nm (fun shift1 hshift1 => ?_)
      refine v_ishl (z := ((xN * 2 ^ (28 - 4 * LN) : Nat) : Int)) (pc' := 44) rfl dX6_least_43 (iz_shlE hx1 (by omega) (by omega)) ?_
      refine v_ior (z := ((hx (gset g LN xN) : Nat) : Int)) (pc' := 45) rfl dX6_least_44 (by rw [hp, iz_or]; exact congrArg (fun q : Nat => iz (q : Int)) (hx_or hg.le15 (by omega) (by omega) (hz LN (by omega) (by omega)) (by omega))) ?_
      refine v_nm (fun p' hp' => ?_)
      refine v_istore_n (ls' := [(2, _), (6, _), (0, _), (1, _), (3, _), (4, _), (5, _)]) (pc' := 46) rfl dX6_least_45 rfl rfl rfl ?_
      refine v_ls [2, 3, 0, 4, 5, 6, 1] rfl ?_
      refine v_loop2 46 (fun (p : Int) (x : Int) => ∃ (m yN : Nat) (h : Nat → Nat), x = yN ∧ p = (hx h : Nat) ∧ xN ≤ yN ∧ yN ≤ LN ∧ LN ≤ yN + m ∧ (∀ z, yN ≤ z → z < LN → h z = 0) ∧ (∀ z, LN < z → z ≤ n → h z = 0) ∧ B7 h ∧ lsW m h yN LN = lsW 7 (gset g LN xN) xN LN) (fun (p : Int) (x : Int) => (last' - x).toNat) (fun (p : Int) (x : Int) => [(0, aI (t0)), (1, aI (n0)), (2, aI (p)), (3, aI (x)), (4, aI (rest)), (5, aI (i)), (6, aI (last'))]) (fun (p : Int) (x : Int) => []) (fun (p : Int) (x : Int) => w) (fun p x hI1 ih1 => ?_) (p') (x) (⟨7, xN, gset g LN xN, hx1, hp', by omega, by omega, by omega, fun z a b => by unfold gset; rw [if_neg (by omega)]; exact hz z a (by omega), fun z a b => by unfold gset; rw [if_neg (by omega)]; exact hz z (by omega) b, gset_7 hg (by omega), rfl⟩)
      obtain ⟨m, yN, h, hy, hp3, hya, hyb, hyc, hz2, hz3, hh, hW⟩ := hI1
      refine v_iload_n 3 (pc' := 47) rfl dX6_least_46 rfl rfl ?_
      refine v_iload 6 (pc' := 49) rfl dX6_least_47 rfl ?_
      refine v_icmp_ge (pc' := 52) (tgt := 69) rfl dX6_least_49 (by decide) (by omega) (by omega) (fun c2 => ?_) (fun c2 => ?_)
      ·
        have hWe : lsW m h yN LN = h := by
          cases m with
          | zero => rfl
          | succ m => simp only [lsW]; rw [if_neg (by omega)]
        have hlast := hLN
        refine v_iinc (ls' := [(3, _), (0, _), (1, _), (2, _), (4, _), (5, _), (6, _)]) 3 (pc' := 72) rfl dX6_least_69 rfl rfl rfl ?_
        refine v_nl (fun x' hx' => ?_)
        refine v_iload 4 (pc' := 74) rfl dX6_least_72 rfl ?_
        refine v_bipush (pc' := 76) rfl dX6_least_74 rfl ?_
        refine v_idiv (z := (rest / 10)) (pc' := 77) rfl dX6_least_76 (iz_ne (by omega) (by omega)) (iz_divN (by omega) (by omega) (by omega) (by omega)) ?_
        refine v_nm (fun rest' hrest' => ?_)
        refine v_istore (ls' := [(4, _), (3, _), (0, _), (1, _), (2, _), (5, _), (6, _)]) (pc' := 79) rfl dX6_least_77 rfl rfl ?_
        refine v_iinc (ls' := [(5, _), (4, _), (3, _), (0, _), (1, _), (2, _), (6, _)]) 5 (pc' := 82) rfl dX6_least_79 rfl rfl rfl ?_
        refine v_nl (fun i' hi' => ?_)
        refine v_goto (tgt := 13) dX6_least_82 (by decide) ?_
        refine v_ls [3, 4, 5, 2, 1, 0] rfl ?_
        exact ih0 (p) (x') (rest') (i') (⟨k, xN + rN % 10, rN / 10, h, by omega, hp3, by omega, by omega, by omega, by omega, by omega, fun z a b => hz3 z (by omega) b, hh, hs.2.2, by rw [← hR]; simp only [lsL]; rw [if_neg (by omega), ← hlast, ← hW, hWe]⟩) (by omega)
      ·
        refine v_iload_n 2 (pc' := 53) rfl dX6_least_52 rfl rfl ?_
        refine v_iload_n 3 (pc' := 54) rfl dX6_least_53 rfl rfl ?_
        refine v_iconst (pc' := 55) rfl dX6_least_54 ?_
        refine v_iadd (pc' := 56) rfl dX6_least_55 ?_
        refine v_iload_n 3 (pc' := 57) rfl dX6_least_56 rfl rfl ?_
        refine v_cSP (pc' := 60) rfl dX6_least_57 lk_RX6_18 rfl (c_shift l G w) rfl rfl rfl ?_
        refine v_nm (fun shift2 hshift2 => ?_)
        refine v_ishl (z := (((yN + 1) * 2 ^ (28 - 4 * yN) : Nat) : Int)) (pc' := 61) rfl dX6_least_60 (iz_shlE (n := yN + 1) (by omega) (by omega) (by omega)) ?_
        refine v_ior (z := ((hx (gset h yN (yN + 1)) : Nat) : Int)) (pc' := 62) rfl dX6_least_61 (by rw [hp3, iz_or]; exact congrArg (fun q : Nat => iz (q : Int)) (hx_or hh.le15 (by omega) (by omega) (hz2 yN (by omega) (by omega)) (by omega))) ?_
        refine v_nm (fun p' hp' => ?_)
        refine v_istore_n (ls' := [(2, _), (0, _), (1, _), (3, _), (4, _), (5, _), (6, _)]) (pc' := 63) rfl dX6_least_62 rfl rfl rfl ?_
        refine v_iinc (ls' := [(3, _), (2, _), (0, _), (1, _), (4, _), (5, _), (6, _)]) 3 (pc' := 66) rfl dX6_least_63 rfl rfl rfl ?_
        refine v_nl (fun x' hx' => ?_)
        refine v_goto (tgt := 46) dX6_least_66 (by decide) ?_
        refine v_ls [2, 3, 1, 0, 4, 5, 6] rfl ?_
        obtain ⟨m, rfl⟩ : ∃ j, m = j + 1 := ⟨m - 1, by omega⟩
        exact ih1 (p') (x') (⟨m, yN + 1, gset h yN (yN + 1), by omega, hp', by omega, by omega, by omega, fun z a b => by unfold gset; rw [if_neg (by omega)]; exact hz2 z (by omega) b, fun z a b => by unfold gset; rw [if_neg (by omega)]; exact hz3 z a b, gset_7 hh (by omega), by rw [← hW]; simp only [lsW]; rw [if_pos (by omega)]⟩) (by omega)
theorem cdk_congr {f g : Nat → Nat} : ∀ k, (∀ x, 1 ≤ x → x ≤ k → f x = g x) → cdk f k = cdk g k
  | 0, _ => rfl
  | k + 1, h => by simp only [cdk]; rw [cdk_congr k (fun x a b => h x a (by omega)), h (k + 1) (by omega) (Nat.le_refl _)]
def RI (n : Nat) (code : Int) (k uN : Nat) (g : Nat → Nat) (rest : Int) : Prop :=
  k ≤ n ∧ rg rest ∧ uN < 128 ∧ B7 g ∧ (∀ z, 1 ≤ z → z ≤ k → g z = 0) ∧ (∀ z, (z = 0 ∨ n < z) → g z = z) ∧ (∀ z, k < z → z ≤ n → 1 ≤ g z ∧ g z ≤ n) ∧ (∀ z u, k < z → z < u → u ≤ n → g z ≠ g u) ∧ (∀ y, y < 7 → (uN &&& bt (y + 1) = 0 ↔ ∀ z, k < z → z ≤ n → g z ≠ y + 1)) ∧ (∀ f, Pm n f → (cdk f n : Int) = code → (cdk f k : Int) = rest ∧ ∀ z, k < z → z ≤ n → f z = g z) ∧ (∀ h : Nat → Nat, (∀ z, k < z → z ≤ n → h z = g z) → (cdk h k : Int) = rest → (cdk h n : Int) = code)
theorem RI_init {n : Nat} {code : Int} (hc : rg code) : RI n code n 0 (fun z => if z = 0 ∨ n < z then z else 0) code ∨ 7 < n := by
  by_cases h7 : n ≤ 7
  · refine Or.inl ⟨Nat.le_refl _, hc, by decide, fun z a b => ?_, fun z a b => if_neg (by omega), fun z a => if_pos a, fun z a b => by omega, fun z u a b c => by omega, fun y a => ⟨fun _ z a b => by omega, fun _ => Nat.zero_and _⟩, fun f _ hcd => ⟨hcd, fun z a b => by omega⟩, fun h _ e => e⟩
    show (if _ then _ else _) ≤ 7
    split <;> omega
  · exact Or.inr (by omega)
theorem RI_digit {n : Nat} {code : Int} {k uN : Nat} {g : Nat → Nat} {rest : Int} (h : RI n code (k + 1) uN g rest) (h7 : n ≤ 7) {f : Nat → Nat} (hf : Pm n f) (hc : (cdk f n : Int) = code) : rest.tmod 10 = (f (k + 1) : Int) ∧ (cdk f k : Int) = rest.tdiv 10 ∧ ∀ z, k + 1 < z → z ≤ n → f z = g z := by
  obtain ⟨hkn, hrr, hu, hg, hz0, hzt, hzr, hzd, hU, hA, hB⟩ := h
  obtain ⟨a, b⟩ := hA f hf hc
  have c := hf.1 (k + 1) (by omega) hkn
  simp only [cdk] at a
  rw [Int.tmod_eq_emod_of_nonneg (by omega), Int.tdiv_eq_ediv_of_nonneg (by omega)]
  exact ⟨by omega, by omega, b⟩
theorem RI_fail {n : Nat} {code : Int} {k uN : Nat} {g : Nat → Nat} {rest : Int} (h : RI n code (k + 1) uN g rest) (h7 : n ≤ 7) (hy : rest.tmod 10 < 1 ∨ (n : Int) < rest.tmod 10 ∨ ∃ y : Nat, rest.tmod 10 = (y + 1 : Nat) ∧ y < 7 ∧ uN &&& bt (y + 1) ≠ 0) : ∀ f, Pm n f → (cdk f n : Int) ≠ code := fun f hf hc => by
  obtain ⟨e, -, eq⟩ := RI_digit h h7 hf hc
  obtain ⟨hkn, hrr, hu, hg, hz0, hzt, hzr, hzd, hU, hA, hB⟩ := h
  have c := hf.1 (k + 1) (by omega) hkn
  rcases hy with hy | hy | ⟨y, hy, hy7, hy2⟩
  · omega
  · omega
  · apply hy2
    rw [hU y hy7]
    intro z a b e2
    rw [← eq z a b] at e2
    have := hf.inj (x := z) (y := k + 1) (by omega)
    omega
theorem RI_step {n : Nat} {code : Int} {k uN y : Nat} {g : Nat → Nat} {rest : Int} (h : RI n code (k + 1) uN g rest) (h7 : n ≤ 7) (hy : rest.tmod 10 = (y + 1 : Nat)) (hyn : y + 1 ≤ n) (hy2 : uN &&& bt (y + 1) = 0) : RI n code k (uN ||| bt (y + 1)) (gset g (k + 1) (y + 1)) (rest.tdiv 10) := by
  have hdig := fun f (hf : Pm n f) hc => RI_digit h h7 hf hc
  obtain ⟨hkn, hrr, hu, hg, hz0, hzt, hzr, hzd, hU, hA, hB⟩ := h
  have hr0 : 0 ≤ rest := by
    rcases Int.lt_or_le rest 0 with q | q
    · have : rest.tmod 10 ≤ 0 := by
        have a : (-rest).tmod 10 = -(rest.tmod 10) := Int.neg_tmod rest 10
        have b : 0 ≤ (-rest).tmod 10 := Int.tmod_nonneg _ (by omega)
        omega
      omega
    · exact q
  rw [Int.tmod_eq_emod_of_nonneg hr0] at hy
  have hdiv : rest.tdiv 10 = rest / 10 := Int.tdiv_eq_ediv_of_nonneg hr0
  have hnone := (hU y (by omega)).mp hy2
  have hgk : gset g (k + 1) (y + 1) (k + 1) = y + 1 := if_pos rfl
  have hgz : ∀ z, z ≠ k + 1 → gset g (k + 1) (y + 1) z = g z := fun z q => if_neg q
  refine ⟨by omega, by rw [hdiv]; omega, or_lt7 hu (bt_lt (by omega) (by omega)), gset_7 hg (by omega), fun z a b => by rw [hgz z (by omega)]; exact hz0 z a (by omega), fun z a => by rw [hgz z (by omega)]; exact hzt z a, fun z a b => ?_, fun z u a b c => ?_, fun v hv => ?_, fun f hf hc => ?_, fun h hh e => ?_⟩
  · by_cases q : z = k + 1
    · rw [q, hgk]; omega
    · rw [hgz z q]; exact hzr z (by omega) b
  · by_cases q : z = k + 1
    · rw [q, hgk, hgz u (by omega)]
      exact fun e => hnone u (by omega) c e.symm
    · rw [hgz z q, hgz u (by omega)]; exact hzd z u (by omega) b c
  · have o := orb uN hu y (by omega) v hv
    have o2 : ((uN ||| bt (y + 1)) &&& bt (v + 1) = 0) ↔ (uN &&& bt (v + 1) = 0 ∧ v ≠ y) := by
      have : (((uN ||| bt (y + 1)) &&& bt (v + 1)) == 0) = true ↔ ((uN &&& bt (v + 1)) == 0 && !(v == y)) = true := by rw [o]
      simpa using this
    rw [o2, hU v hv]
    constructor
    · intro ⟨p1, p2⟩ z a b
      by_cases q : z = k + 1
      · rw [q, hgk]; omega
      · rw [hgz z q]; exact p1 z (by omega) b
    · intro p
      refine ⟨fun z a b => ?_, ?_⟩
      · have := p z (by omega) b
        rw [hgz z (by omega)] at this; exact this
      · have := p (k + 1) (by omega) hkn
        rw [hgk] at this; omega
  · obtain ⟨a, b, c⟩ := hdig f hf hc
    refine ⟨b, fun z p q => ?_⟩
    by_cases r : z = k + 1
    · rw [r, hgk]
      rw [Int.tmod_eq_emod_of_nonneg hr0] at a
      omega
    · rw [hgz z r]; exact c z (by omega) q
  · refine hB h (fun z p q => by rw [hh z (by omega) q, hgz z (by omega)]) ?_
    have := hh (k + 1) (by omega) hkn
    rw [hgk] at this
    simp only [cdk, this]
    rw [hdiv] at e
    omega
theorem RI_end {n : Nat} {code : Int} {uN : Nat} {g : Nat → Nat} {rest : Int} (h : RI n code 0 uN g rest) : (rest = 0 → Pm n g ∧ (cdk g n : Int) = code) ∧ (rest ≠ 0 → ∀ f, Pm n f → (cdk f n : Int) ≠ code) := by
  obtain ⟨hkn, hrr, hu, hg, hz0, hzt, hzr, hzd, hU, hA, hB⟩ := h
  refine ⟨fun e => ⟨⟨fun x a b => hzr x (by omega) b, fun x y a b c d e2 => ?_, hzt⟩, hB g (fun _ _ _ => rfl) (by rw [e]; rfl)⟩, fun e f hf hc => ?_⟩
  · rcases Nat.lt_trichotomy x y with q | q | q
    · exact absurd e2 (hzd x y (by omega) q d)
    · exact q
    · exact absurd e2.symm (hzd y x (by omega) q b)
  · have := (hA f hf hc).1
    simp only [cdk] at this
    exact e this.symm
set_option maxHeartbeats 4000000 in
set_option maxRecDepth 100000 in
theorem c_read (l : Launch) (G : Gx) {code n0 : Int} {n : Nat} (hc : rg code) (hn : n0 = n) (hn1 : 1 ≤ n) (hn7 : n ≤ 7) (w : Wd) : SpR l G 2 mX6_read [aI (code), aI (n0)] w (RD n code) := by
  refine Sp_of RX6 rfl (by decide +kernel) rfl (Nat.le_of_ble_eq_true rfl) ?_
  refine v_iload_n 0 (pc' := 1) rfl dX6_read_0 rfl rfl ?_
  refine v_istore_n (ls' := [(2, _), (0, _), (1, _)]) (pc' := 2) rfl dX6_read_1 rfl rfl rfl ?_
  refine v_iconst (pc' := 3) rfl dX6_read_2 ?_
  refine v_istore_n (ls' := [(3, _), (2, _), (0, _), (1, _)]) (pc' := 4) rfl dX6_read_3 rfl rfl rfl ?_
  refine v_iload_n 3 (pc' := 5) rfl dX6_read_4 rfl rfl ?_
  refine v_cSP (pc' := 8) rfl dX6_read_5 lk_RX6_31 rfl (c_tail l G hn hn1 hn7 w) rfl rfl rfl ?_
  refine v_nm (fun tail1 htail1 => ?_)
  refine v_istore (ls' := [(4, _), (3, _), (2, _), (0, _), (1, _)]) (pc' := 10) rfl dX6_read_8 rfl rfl ?_
  refine v_iload_n 4 (pc' := 11) rfl dX6_read_10 rfl rfl ?_
  refine v_istore (ls' := [(5, _), (4, _), (3, _), (2, _), (0, _), (1, _)]) (pc' := 13) rfl dX6_read_11 rfl rfl ?_
  refine v_ls [4, 5, 3, 2, 1, 0] rfl ?_
  refine v_loop4 13 (fun (rest : Int) (used : Int) (p : Int) (x : Int) => ∃ (k uN : Nat) (g : Nat → Nat), x = k ∧ used = uN ∧ p = (hx g : Nat) ∧ RI n code k uN g rest) (fun (rest : Int) (used : Int) (p : Int) (x : Int) => x.toNat) (fun (rest : Int) (used : Int) (p : Int) (x : Int) => [(0, aI (code)), (1, aI (n0)), (2, aI (rest)), (3, aI (used)), (4, aI (p)), (5, aI (x))]) (fun (rest : Int) (used : Int) (p : Int) (x : Int) => []) (fun (rest : Int) (used : Int) (p : Int) (x : Int) => w) (fun rest used p x hI0 ih0 => ?_) (code) (0) (tail1) (n0) (⟨n, 0, fun z => if z = 0 ∨ n < z then z else 0, hn, rfl, by rw [htail1]; exact congrArg (fun q : Nat => (q : Int)) (hx_congr (fun z a b => by unfold tl; split <;> split <;> omega)), (RI_init hc).resolve_right (by omega)⟩)
  obtain ⟨k, uN, g, hxk, hused, hp, hI⟩ := hI0
  have hrr := hI.2.1
  have hu := hI.2.2.1
  have hg := hI.2.2.2.1
  have hkn := hI.1
  refine v_iload 5 (pc' := 15) rfl dX6_read_13 rfl ?_
  refine v_iconst (pc' := 16) rfl dX6_read_15 ?_
  refine v_icmp_lt (pc' := 19) (tgt := 81) rfl dX6_read_16 (by decide) (by omega) (by omega) (fun c0 => ?_) (fun c0 => ?_)
  ·
    have hk0 : k = 0 := by omega
    subst hk0
    have he := RI_end hI
    refine v_iload_n 2 (pc' := 82) rfl dX6_read_81 rfl rfl ?_
    refine v_if_ne (pc' := 85) (tgt := 90) rfl dX6_read_82 (by decide) (by omega) (fun c4 => ?_) (fun c4 => ?_)
    ·
      have hfin : RD n code 0 := Or.inl ⟨rfl, he.2 c4⟩
      refine v_iconst (pc' := 91) rfl dX6_read_90 ?_
      refine v_iret dX6_read_91 (by decide) (rfl) ?_
      exact ⟨hfin, rfl⟩
    ·
      have hfin : RD n code p := Or.inr ⟨g, (he.1 (by omega)).1, (he.1 (by omega)).2, hp⟩
      refine v_iload 4 (pc' := 87) rfl dX6_read_85 rfl ?_
      refine v_goto (tgt := 91) dX6_read_87 (by decide) ?_
      refine v_iret dX6_read_91 (by decide) (rfl) ?_
      exact ⟨hfin, rfl⟩
  ·
    obtain ⟨k, rfl⟩ : ∃ j, k = j + 1 := ⟨k - 1, by omega⟩
    refine v_iload_n 2 (pc' := 20) rfl dX6_read_19 rfl rfl ?_
    refine v_bipush (pc' := 22) rfl dX6_read_20 rfl ?_
    refine v_irem (z := rest.tmod 10) (pc' := 23) rfl dX6_read_22 (by decide) (iz_rem hrr (by omega) (by decide) (by omega)) ?_
    refine v_nm (fun y' hy' => ?_)
    refine v_istore (ls' := [(6, _), (0, _), (1, _), (2, _), (3, _), (4, _), (5, _)]) (pc' := 25) rfl dX6_read_23 rfl rfl ?_
    refine v_iload 0 (pc' := 27) rfl dX6_read_25 rfl ?_
    refine v_iconst (pc' := 28) rfl dX6_read_27 ?_
    refine v_icmp_lt (pc' := 31) (tgt := 47) rfl dX6_read_28 (by decide) (by have := Int.lt_tmod_of_pos rest (b := 10) (by omega); have := Int.tmod_lt_of_pos rest (b := 10) (by omega); omega) (by have := Int.lt_tmod_of_pos rest (b := 10) (by omega); have := Int.tmod_lt_of_pos rest (b := 10) (by omega); omega) (fun c1 => ?_) (fun c1 => ?_)
    ·
      have hno := RI_fail hI hn7 (Or.inl (by omega))
      refine v_iconst (pc' := 48) rfl dX6_read_47 ?_
      refine v_iret dX6_read_48 (by decide) (rfl) ?_
      exact ⟨Or.inl ⟨rfl, hno⟩, rfl⟩
    ·
      refine v_iload 0 (pc' := 33) rfl dX6_read_31 rfl ?_
      refine v_iload_n 2 (pc' := 34) rfl dX6_read_33 rfl rfl ?_
      refine v_icmp_gt (pc' := 37) (tgt := 47) rfl dX6_read_34 (by decide) (by have := Int.tmod_lt_of_pos rest (b := 10) (by omega); omega) (by omega) (fun c2 => ?_) (fun c2 => ?_)
      ·
        have hno := RI_fail hI hn7 (Or.inr (Or.inl (by omega)))
        refine v_iconst (pc' := 48) rfl dX6_read_47 ?_
        refine v_iret dX6_read_48 (by decide) (rfl) ?_
        exact ⟨Or.inl ⟨rfl, hno⟩, rfl⟩
      ·
        obtain ⟨yN, hyN⟩ : ∃ q : Nat, y' = ((q + 1 : Nat) : Int) := ⟨(y' - 1).toNat, by omega⟩
        refine v_iload_n 4 (pc' := 38) rfl dX6_read_37 rfl rfl ?_
        refine v_iload 0 (pc' := 40) rfl dX6_read_38 rfl ?_
        refine v_cSP (pc' := 43) rfl dX6_read_40 lk_RX6_34 rfl (c_bit l G hyN (by omega) (by omega) w) rfl rfl rfl ?_
        refine v_nm (fun bit1 hbit1 => ?_)
        refine v_iand (z := ((uN &&& bt (yN + 1) : Nat) : Int)) (pc' := 44) rfl dX6_read_43 (iz_andE hused hbit1) ?_
        refine v_if_eq (pc' := 47) (tgt := 49) rfl dX6_read_44 (by decide) (by have := and_lt7 (b := bt (yN + 1)) hu; omega) (fun c3 => ?_) (fun c3 => ?_)
        ·
          have hfree : uN &&& bt (yN + 1) = 0 := by omega
          refine v_iload_n 4 (pc' := 50) rfl dX6_read_49 rfl rfl ?_
          refine v_iload 0 (pc' := 52) rfl dX6_read_50 rfl ?_
          refine v_cSP (pc' := 55) rfl dX6_read_52 lk_RX6_34 rfl (c_bit l G hyN (by omega) (by omega) w) rfl rfl rfl ?_
          refine v_nm (fun bit2 hbit2 => ?_)
          refine v_ior (z := ((uN ||| bt (yN + 1) : Nat) : Int)) (pc' := 56) rfl dX6_read_55 (iz_orE hused hbit2) ?_
          refine v_nm (fun used' hused' => ?_)
          refine v_istore_n (ls' := [(3, _), (6, _), (0, _), (1, _), (2, _), (4, _), (5, _)]) (pc' := 57) rfl dX6_read_56 rfl rfl rfl ?_
          refine v_iload 5 (pc' := 59) rfl dX6_read_57 rfl ?_
          refine v_iload 1 (pc' := 61) rfl dX6_read_59 rfl ?_
          refine v_iload 6 (pc' := 63) rfl dX6_read_61 rfl ?_
          refine v_cSP (pc' := 66) rfl dX6_read_63 lk_RX6_18 rfl (c_shift l G w) rfl rfl rfl ?_
          refine v_nm (fun shift1 hshift1 => ?_)
          refine v_ishl (z := (((yN + 1) * 2 ^ (28 - 4 * (k + 1)) : Nat) : Int)) (pc' := 67) rfl dX6_read_66 (iz_shlE hyN (by omega) (by omega)) ?_
          refine v_ior (z := ((hx (gset g (k + 1) (yN + 1)) : Nat) : Int)) (pc' := 68) rfl dX6_read_67 (by rw [hp, iz_or]; exact congrArg (fun q : Nat => iz (q : Int)) (hx_or hg.le15 (by omega) (by omega) (hI.2.2.2.2.1 (k + 1) (by omega) (by omega)) (by omega))) ?_
          refine v_nm (fun p' hp' => ?_)
          refine v_istore (ls' := [(4, _), (3, _), (6, _), (0, _), (1, _), (2, _), (5, _)]) (pc' := 70) rfl dX6_read_68 rfl rfl ?_
          refine v_iload_n 5 (pc' := 71) rfl dX6_read_70 rfl rfl ?_
          refine v_bipush (pc' := 73) rfl dX6_read_71 rfl ?_
          refine v_idiv (z := rest.tdiv 10) (pc' := 74) rfl dX6_read_73 (by decide) (iz_div hrr (by omega) (by decide) (by omega)) ?_
          refine v_nm (fun rest' hrest' => ?_)
          refine v_istore_n (ls' := [(2, _), (4, _), (3, _), (6, _), (0, _), (1, _), (5, _)]) (pc' := 75) rfl dX6_read_74 rfl rfl rfl ?_
          refine v_iinc (ls' := [(5, _), (2, _), (4, _), (3, _), (6, _), (0, _), (1, _)]) 6 (pc' := 78) rfl dX6_read_75 rfl rfl rfl ?_
          refine v_nl (fun x' hx' => ?_)
          refine v_goto (tgt := 13) dX6_read_78 (by decide) ?_
          refine v_ls [5, 6, 1, 3, 2, 0] rfl ?_
          exact ih0 (rest') (used') (p') (x') (⟨k, uN ||| bt (yN + 1), gset g (k + 1) (yN + 1), by omega, hused', hp', by rw [hrest']; exact RI_step hI hn7 (by omega) (by omega) hfree⟩) (by omega)
        ·
          have hno := RI_fail hI hn7 (Or.inr (Or.inr ⟨yN, by omega, by omega, by omega⟩))
          refine v_iconst (pc' := 48) rfl dX6_read_47 ?_
          refine v_iret dX6_read_48 (by decide) (rfl) ?_
          exact ⟨Or.inl ⟨rfl, hno⟩, rfl⟩

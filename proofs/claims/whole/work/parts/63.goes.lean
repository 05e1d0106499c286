/-! ===== the reference: goesOn ===== -/
theorem nxA_spec (f : Nat → Nat) : ∀ m k, nxA f m = k + 1 → ¬ f (k + 2) < f (k + 1) ∧ k + 1 ≤ m
  | 0, k, h => by simp only [nxA] at h; omega
  | m + 1, k, h => by
    simp only [nxA] at h
    by_cases q : f (m + 2) < f (m + 1)
    · rw [if_pos q] at h
      have := nxA_spec f m k h
      exact ⟨this.1, by omega⟩
    · rw [if_neg q] at h
      have : m = k := by omega
      subst this
      exact ⟨q, Nat.le_refl _⟩
theorem nxC_stop {q : Nat → Nat} {lo hi : Nat} (h : ¬ lo < hi) : ∀ m, nxC m q lo hi = q
  | 0 => rfl
  | m + 1 => by simp only [nxC]; rw [if_neg h]
set_option maxHeartbeats 4000000 in
set_option maxRecDepth 100000 in
theorem c_goesOn (l : Launch) (G : Gx) {n : Nat} {f : Nat → Nat} (hf : Pm n f) (hn1 : 1 ≤ n) (hn7 : n ≤ 7) (w : Wd) (r0 : w 63 0 = n) (hD : ∀ x, 1 ≤ x → x ≤ n → w 73 x = (f x : Nat)) : Sp l G 0 mX11_goesOn [aR 63, aR 73] w (fun z w' => (nxA f (n - 1) = 0 ∧ z = 0 ∧ w' = w) ∨ (nxA f (n - 1) ≠ 0 ∧ z = 1 ∧ (∀ x, 1 ≤ x → x ≤ n → w' 73 x = (nextF f n x : Nat)) ∧ Fr [73] w w')) := by
  refine Sp_of RX11 rfl (by decide +kernel) rfl (Nat.le_of_ble_eq_true rfl) ?_
  refine v_aload_n 0 (pc' := 1) rfl dX11_goesOn_0 rfl rfl ?_
  refine v_get (z := (n : Int)) (pc' := 4) rfl dX11_goesOn_1 fk_RX11_125 ly_63 rfl (r0) ?_
  refine v_iconst (pc' := 5) rfl dX11_goesOn_4 ?_
  refine v_isub (pc' := 6) rfl dX11_goesOn_5 ?_
  refine v_nm (fun x' hx' => ?_)
  refine v_istore_n (ls' := [(2, _), (0, _), (1, _)]) (pc' := 7) rfl dX11_goesOn_6 rfl rfl rfl ?_
  refine v_ls [1, 2, 0] rfl ?_
  refine v_loop1 7 (fun (x : Int) => ∃ k : Nat, x = k ∧ k + 1 ≤ n ∧ nxA f k = nxA f (n - 1)) (fun (x : Int) => x.toNat) (fun (x : Int) => [(0, aR 63), (1, aR 73), (2, aI (x))]) (fun (x : Int) => []) (fun (x : Int) => w) (fun x hI0 ih0 => ?_) (x') (⟨n - 1, by omega, by omega, rfl⟩)
  obtain ⟨k, hx, hk, hR⟩ := hI0
  have J29 : ∀ (xf : Int) (hJ : xf = (nxA f (n - 1) : Nat)), V (mX l G 0 7 (some .boolean) (fun z w' => (nxA f (n - 1) = 0 ∧ z = 0 ∧ w' = w) ∨ (nxA f (n - 1) ≠ 0 ∧ z = 1 ∧ (∀ x, 1 ≤ x → x ≤ n → w' 73 x = (nextF f n x : Nat)) ∧ Fr [73] w w'))) RX11 cX11_goesOn 29 [(0, aR 63), (1, aR 73), (2, aI (xf))] [] w := by
    intro xf hJ
    have hxl : nxA f (n - 1) ≤ n - 1 := nxA_le f (n - 1)
    refine v_iload_n 2 (pc' := 30) rfl dX11_goesOn_29 rfl rfl ?_
    refine v_iconst (pc' := 31) rfl dX11_goesOn_30 ?_
    refine v_icmp_ge (pc' := 34) (tgt := 36) rfl dX11_goesOn_31 (by decide) (by omega) (by omega) (fun c2 => ?_) (fun c2 => ?_)
    ·
      obtain ⟨xM, hxM⟩ : ∃ q, nxA f (n - 1) = q + 1 := ⟨nxA f (n - 1) - 1, by omega⟩
      obtain ⟨xN, hxN⟩ : ∃ q, nxA f (n - 1) = q := ⟨_, rfl⟩
      have hsp := nxA_spec f (n - 1) xM hxM
      have fx := hf.1 xN (by omega) (by omega)
      have fx1 := hf.1 (xN + 1) (by omega) (by omega)
      have hlt : f xN < f (xN + 1) := by
        have e : xN = xM + 1 := by omega
        have ne : f (xN + 1) ≠ f xN := fun u => by have := hf.inj u; omega
        have h1 := hsp.1
        rw [show xM + 2 = xN + 1 by omega, ← e] at h1
        omega
      refine v_aload_n 0 (pc' := 37) rfl dX11_goesOn_36 rfl rfl ?_
      refine v_get (z := (n : Int)) (pc' := 40) rfl dX11_goesOn_37 fk_RX11_125 ly_63 rfl (r0) ?_
      refine v_nm (fun y' hy' => ?_)
      refine v_istore_n (ls' := [(3, _), (0, _), (1, _), (2, _)]) (pc' := 41) rfl dX11_goesOn_40 rfl rfl rfl ?_
      refine v_ls [1, 2, 3, 0] rfl ?_
      refine v_loop1 41 (fun (y : Int) => ∃ k : Nat, y = k ∧ k ≤ n ∧ xN + 1 ≤ k ∧ nxB f xN k = nxB f xN n) (fun (y : Int) => y.toNat) (fun (y : Int) => [(0, aR 63), (1, aR 73), (2, aI (xf)), (3, aI (y))]) (fun (y : Int) => []) (fun (y : Int) => w) (fun y hI1 ih1 => ?_) (y') (⟨n, hy', by omega, by omega, rfl⟩)
      obtain ⟨k2, hy, hk2, hxk, hRB⟩ := hI1
      obtain ⟨k3, rfl⟩ : ∃ q, k2 = q + 1 := ⟨k2 - 1, by omega⟩
      have fy := hf.1 (k3 + 1) (by omega) (by omega)
      refine v_aload_n 1 (pc' := 42) rfl dX11_goesOn_41 rfl rfl ?_
      refine v_iload_n 3 (pc' := 43) rfl dX11_goesOn_42 rfl rfl ?_
      refine v_iald (z := ((f (k3 + 1) : Nat) : Int)) (pc' := 44) rfl dX11_goesOn_43 ly_73 (by omega) (by omega) rfl (by rw [show (y).toNat = k3 + 1 by omega]; exact hD _ (by omega) (by omega)) ?_
      refine v_aload_n 1 (pc' := 45) rfl dX11_goesOn_44 rfl rfl ?_
      refine v_iload_n 2 (pc' := 46) rfl dX11_goesOn_45 rfl rfl ?_
      refine v_iald (z := ((f xN : Nat) : Int)) (pc' := 47) rfl dX11_goesOn_46 ly_73 (by omega) (by omega) rfl (by rw [show (xf).toNat = xN by omega]; exact hD _ (by omega) (by omega)) ?_
      refine v_icmp_ge (pc' := 50) (tgt := 57) rfl dX11_goesOn_47 (by decide) (by omega) (by omega) (fun c3 => ?_) (fun c3 => ?_)
      ·
        obtain ⟨yN, hyN⟩ : ∃ q, k3 + 1 = q := ⟨_, rfl⟩
        have hyB : nxB f xN n = yN := by rw [← hRB]; simp only [nxB]; rw [if_neg (by omega)]; exact hyN
        refine v_aload_n 1 (pc' := 58) rfl dX11_goesOn_57 rfl rfl ?_
        refine v_iload_n 2 (pc' := 59) rfl dX11_goesOn_58 rfl rfl ?_
        refine v_iald (z := ((f xN : Nat) : Int)) (pc' := 60) rfl dX11_goesOn_59 ly_73 (by omega) (by omega) rfl (by rw [show (xf).toNat = xN by omega]; exact hD _ (by omega) (by omega)) ?_
        refine v_nm (fun v' hv' => ?_)
        refine v_istore (ls' := [(4, _), (0, _), (1, _), (2, _), (3, _)]) (pc' := 62) rfl dX11_goesOn_60 rfl rfl ?_
        refine v_aload_n 2 (pc' := 63) rfl dX11_goesOn_62 rfl rfl ?_
        refine v_iload_n 3 (pc' := 64) rfl dX11_goesOn_63 rfl rfl ?_
        refine v_aload_n 2 (pc' := 65) rfl dX11_goesOn_64 rfl rfl ?_
        refine v_iload_n 4 (pc' := 66) rfl dX11_goesOn_65 rfl rfl ?_
        refine v_iald (z := ((f yN : Nat) : Int)) (pc' := 67) rfl dX11_goesOn_66 ly_73 (by omega) (by omega) rfl (by rw [show (y).toNat = yN by omega]; exact hD _ (by omega) (by omega)) ?_
        refine v_iast (pc' := 68) rfl dX11_goesOn_67 ly_73 (by omega) (by omega) rfl ?_
        refine v_nmw (fun w1 hw1 => ?_)
        have r0 : w1 63 0 = (n : Int) := by rw [hw1, up_ne _ _ (by omega)]; exact r0
        refine v_aload_n 2 (pc' := 69) rfl dX11_goesOn_68 rfl rfl ?_
        refine v_iload_n 4 (pc' := 70) rfl dX11_goesOn_69 rfl rfl ?_
        refine v_iload 0 (pc' := 72) rfl dX11_goesOn_70 rfl ?_
        refine v_iast (pc' := 73) rfl dX11_goesOn_72 ly_73 (by omega) (by omega) rfl ?_
        refine v_nmw (fun w2 hw2 => ?_)
        have r0 : w2 63 0 = (n : Int) := by rw [hw2, up_ne _ _ (by omega)]; exact r0
        refine v_iload_n 3 (pc' := 74) rfl dX11_goesOn_73 rfl rfl ?_
        refine v_iconst (pc' := 75) rfl dX11_goesOn_74 ?_
        refine v_iadd (pc' := 76) rfl dX11_goesOn_75 ?_
        refine v_nm (fun lo' hlo' => ?_)
        refine v_istore (ls' := [(5, _), (4, _), (0, _), (1, _), (2, _), (3, _)]) (pc' := 78) rfl dX11_goesOn_76 rfl rfl ?_
        refine v_aload_n 2 (pc' := 79) rfl dX11_goesOn_78 rfl rfl ?_
        refine v_get (z := (n : Int)) (pc' := 82) rfl dX11_goesOn_79 fk_RX11_125 ly_63 rfl (r0) ?_
        refine v_nm (fun hi' hhi' => ?_)
        refine v_istore (ls' := [(6, _), (5, _), (4, _), (0, _), (1, _), (2, _), (3, _)]) (pc' := 84) rfl dX11_goesOn_82 rfl rfl ?_
        have hG : ∀ z, 1 ≤ z → z ≤ n → w2 73 z = (gsw f xN yN z : Nat) := fun z a b => by
          rw [hw2, up_at, show y.toNat = yN by omega]
          unfold gsw
          by_cases e2 : z = yN
          · rw [if_pos ⟨rfl, e2⟩, if_neg (by omega), if_pos e2]; exact hv'
          · rw [if_neg (fun e => e2 e.2), hw1, up_at, show xf.toNat = xN by omega]
            by_cases e1 : z = xN
            · rw [if_pos ⟨rfl, e1⟩, if_pos e1]
            · rw [if_neg (fun e => e1 e.2), if_neg e1, if_neg e2]; exact hD z a b
        have hGN : nxC 7 (gsw f xN yN) (xN + 1) n = nextF f n := by unfold nextF; rw [if_neg (by omega), hxN, hyB]
        refine v_ls [3, 4, 5, 6, 2, 1, 0] rfl ?_
        refine v_loop4 84 (fun (v : Int) (lo : Int) (hi : Int) (wl : Wd) => ∃ (m L H : Nat) (q : Nat → Nat), lo = L ∧ hi = H ∧ 1 ≤ L ∧ L ≤ n + 1 ∧ H ≤ n ∧ H ≤ L + 2 * m ∧ (∀ z, 1 ≤ z → z ≤ n → wl 73 z = (q z : Nat)) ∧ nxC m q L H = nextF f n ∧ Fr [73] w wl) (fun (v : Int) (lo : Int) (hi : Int) (wl : Wd) => (hi - lo).toNat) (fun (v : Int) (lo : Int) (hi : Int) (wl : Wd) => [(0, aR 63), (1, aR 73), (2, aI (xf)), (3, aI (y)), (4, aI (v)), (5, aI (lo)), (6, aI (hi))]) (fun (v : Int) (lo : Int) (hi : Int) (wl : Wd) => []) (fun (v : Int) (lo : Int) (hi : Int) (wl : Wd) => wl) (fun v lo hi wl hI2 ih2 => ?_) (v') (lo') (hi') w2 (⟨7, xN + 1, n, gsw f xN yN, by omega, by omega, by omega, by omega, by omega, by omega, hG, hGN, by rw [hw2, hw1]; exact ((Fr.rf _ _).up rfl).up rfl⟩)
        obtain ⟨m2, L, H, q, hlo, hhi, hL1, hLn, hHn, hHL, hQ, hRC, hfl⟩ := hI2
        refine v_iload 5 (pc' := 86) rfl dX11_goesOn_84 rfl ?_
        refine v_iload 6 (pc' := 88) rfl dX11_goesOn_86 rfl ?_
        refine v_icmp_ge (pc' := 91) (tgt := 126) rfl dX11_goesOn_88 (by decide) (by omega) (by omega) (fun c4 => ?_) (fun c4 => ?_)
        ·
          refine v_iconst (pc' := 127) rfl dX11_goesOn_126 ?_
          refine v_iret dX11_goesOn_127 (by decide) (rfl) ?_
          exact Or.inr ⟨by omega, rfl, fun z a b => by rw [← hRC, nxC_stop (by omega)]; exact hQ z a b, hfl⟩
        ·
          obtain ⟨m3, rfl⟩ : ∃ q, m2 = q + 1 := ⟨m2 - 1, by omega⟩
          refine v_aload_n 1 (pc' := 92) rfl dX11_goesOn_91 rfl rfl ?_
          refine v_iload 5 (pc' := 94) rfl dX11_goesOn_92 rfl ?_
          refine v_iald (z := ((q L : Nat) : Int)) (pc' := 95) rfl dX11_goesOn_94 ly_73 (by omega) (by omega) rfl (by rw [show lo.toNat = L by omega]; exact hQ _ (by omega) (by omega)) ?_
          refine v_nm (fun v' hv' => ?_)
          refine v_istore (ls' := [(4, _), (0, _), (1, _), (2, _), (3, _), (5, _), (6, _)]) (pc' := 97) rfl dX11_goesOn_95 rfl rfl ?_
          refine v_aload_n 2 (pc' := 98) rfl dX11_goesOn_97 rfl rfl ?_
          refine v_iload 5 (pc' := 100) rfl dX11_goesOn_98 rfl ?_
          refine v_aload_n 2 (pc' := 101) rfl dX11_goesOn_100 rfl rfl ?_
          refine v_iload 6 (pc' := 103) rfl dX11_goesOn_101 rfl ?_
          refine v_iald (z := ((q H : Nat) : Int)) (pc' := 104) rfl dX11_goesOn_103 ly_73 (by omega) (by omega) rfl (by rw [show hi.toNat = H by omega]; exact hQ _ (by omega) (by omega)) ?_
          refine v_iast (pc' := 105) rfl dX11_goesOn_104 ly_73 (by omega) (by omega) rfl ?_
          refine v_nmw (fun w3 hw3 => ?_)
          refine v_aload_n 2 (pc' := 106) rfl dX11_goesOn_105 rfl rfl ?_
          refine v_iload 6 (pc' := 108) rfl dX11_goesOn_106 rfl ?_
          refine v_iload 0 (pc' := 110) rfl dX11_goesOn_108 rfl ?_
          refine v_iast (pc' := 111) rfl dX11_goesOn_110 ly_73 (by omega) (by omega) rfl ?_
          refine v_nmw (fun w4 hw4 => ?_)
          refine v_iload 5 (pc' := 113) rfl dX11_goesOn_111 rfl ?_
          refine v_iconst (pc' := 114) rfl dX11_goesOn_113 ?_
          refine v_iadd (pc' := 115) rfl dX11_goesOn_114 ?_
          refine v_nm (fun lo' hlo' => ?_)
          refine v_istore (ls' := [(5, _), (4, _), (0, _), (1, _), (2, _), (3, _), (6, _)]) (pc' := 117) rfl dX11_goesOn_115 rfl rfl ?_
          refine v_iload 6 (pc' := 119) rfl dX11_goesOn_117 rfl ?_
          refine v_iconst (pc' := 120) rfl dX11_goesOn_119 ?_
          refine v_isub (pc' := 121) rfl dX11_goesOn_120 ?_
          refine v_nm (fun hi' hhi' => ?_)
          refine v_istore (ls' := [(6, _), (5, _), (4, _), (0, _), (1, _), (2, _), (3, _)]) (pc' := 123) rfl dX11_goesOn_121 rfl rfl ?_
          refine v_goto (tgt := 84) dX11_goesOn_123 (by decide) ?_
          refine v_ls [3, 4, 5, 6, 2, 1, 0] rfl ?_
          exact ih2 (v') (lo') (hi') w4 (⟨m3, L + 1, H - 1, gsw q L H, by omega, by omega, by omega, by omega, by omega, by omega, fun z a b => by
              rw [hw4, up_at, show hi.toNat = H by omega]
              unfold gsw
              by_cases e2 : z = H
              · rw [if_pos ⟨rfl, e2⟩, if_neg (by omega), if_pos e2]; exact hv'
              · rw [if_neg (fun e => e2 e.2), hw3, up_at, show lo.toNat = L by omega]
                by_cases e1 : z = L
                · rw [if_pos ⟨rfl, e1⟩, if_pos e1]
                · rw [if_neg (fun e => e1 e.2), if_neg e1, if_neg e2]; exact hQ z a b, by rw [← hRC]; simp only [nxC]; rw [if_pos (by omega)], by rw [hw4, hw3]; exact (hfl.up rfl).up rfl⟩) (by omega)
      ·
        have hne : xN ≠ k3 := fun e => by
          have h2 : f (k3 + 1) = f (xN + 1) := by rw [e]
          omega
        refine v_iload_n 3 (pc' := 51) rfl dX11_goesOn_50 rfl rfl ?_
        refine v_iconst (pc' := 52) rfl dX11_goesOn_51 ?_
        refine v_isub (pc' := 53) rfl dX11_goesOn_52 ?_
        refine v_nm (fun y' hy' => ?_)
        refine v_istore_n (ls' := [(3, _), (0, _), (1, _), (2, _)]) (pc' := 54) rfl dX11_goesOn_53 rfl rfl rfl ?_
        refine v_goto (tgt := 41) dX11_goesOn_54 (by decide) ?_
        refine v_ls [1, 2, 3, 0] rfl ?_
        exact ih1 (y') (⟨k3, by omega, by omega, by omega, by rw [← hRB]; simp only [nxB]; rw [if_pos ⟨by omega, by omega⟩]⟩) (by omega)
    ·
      have hx0 : nxA f (n - 1) = 0 := by omega
      refine v_iconst (pc' := 35) rfl dX11_goesOn_34 ?_
      refine v_iret dX11_goesOn_35 (by decide) (rfl) ?_
      exact Or.inl ⟨hx0, rfl, rfl⟩
  refine v_iload_n 2 (pc' := 8) rfl dX11_goesOn_7 rfl rfl ?_
  refine v_if_le (pc' := 11) (tgt := 29) rfl dX11_goesOn_8 (by decide) (by omega) (fun c0 => ?_) (fun c0 => ?_)
  ·
    have hk0 : k = 0 := by omega
    have hxf : x = ((nxA f (n - 1) : Nat) : Int) := by rw [← hR, hk0]; simp only [nxA]; omega
    exact J29 (x) (hxf)
  ·
    obtain ⟨m, rfl⟩ : ∃ q, k = q + 1 := ⟨k - 1, by omega⟩
    have fm1 := hf.1 (m + 1) (by omega) (by omega)
    have fm2 := hf.1 (m + 2) (by omega) (by omega)
    refine v_aload_n 1 (pc' := 12) rfl dX11_goesOn_11 rfl rfl ?_
    refine v_iload_n 2 (pc' := 13) rfl dX11_goesOn_12 rfl rfl ?_
    refine v_iald (z := ((f (m + 1) : Nat) : Int)) (pc' := 14) rfl dX11_goesOn_13 ly_73 (by omega) (by omega) rfl (by rw [show (x).toNat = m + 1 by omega]; exact hD _ (by omega) (by omega)) ?_
    refine v_aload_n 1 (pc' := 15) rfl dX11_goesOn_14 rfl rfl ?_
    refine v_iload_n 2 (pc' := 16) rfl dX11_goesOn_15 rfl rfl ?_
    refine v_iconst (pc' := 17) rfl dX11_goesOn_16 ?_
    refine v_iadd (pc' := 18) rfl dX11_goesOn_17 ?_
    refine v_iald (z := ((f (m + 2) : Nat) : Int)) (pc' := 19) rfl dX11_goesOn_18 ly_73 (by omega) (by omega) rfl (by rw [show (x + 1).toNat = m + 2 by omega]; exact hD _ (by omega) (by omega)) ?_
    refine v_icmp_le (pc' := 22) (tgt := 29) rfl dX11_goesOn_19 (by decide) (by omega) (by omega) (fun c1 => ?_) (fun c1 => ?_)
    ·
      have hxf : x = ((nxA f (n - 1) : Nat) : Int) := by rw [← hR]; simp only [nxA]; rw [if_neg (by omega)]; exact hx
      exact J29 (x) (hxf)
    ·
      refine v_iload_n 2 (pc' := 23) rfl dX11_goesOn_22 rfl rfl ?_
      refine v_iconst (pc' := 24) rfl dX11_goesOn_23 ?_
      refine v_isub (pc' := 25) rfl dX11_goesOn_24 ?_
      refine v_nm (fun x' hx' => ?_)
      refine v_istore_n (ls' := [(2, _), (0, _), (1, _)]) (pc' := 26) rfl dX11_goesOn_25 rfl rfl rfl ?_
      refine v_goto (tgt := 7) dX11_goesOn_26 (by decide) ?_
      refine v_ls [1, 2, 0] rfl ?_
      exact ih0 (x') (⟨m, by omega, by omega, by rw [← hR]; simp only [nxA]; rw [if_pos (by omega)]⟩) (by omega)

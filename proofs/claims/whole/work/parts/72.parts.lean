/-! ===== the reference: part, parts, kinds, size, reckon, meet ===== -/
def isf (n : Nat) (f g : Nat → Nat) (R : Nat) : Prop := R < 128 ∧ (∀ y, 1 ≤ y → y ≤ 7 → hasb R y → y ≤ n) ∧ (∀ y, 1 ≤ y → y ≤ 7 → hasb R y → hasb R (f y) ∧ hasb R (g y) ∧ hasb R (pface f g y))
theorem reach_isf {n x : Nat} {f g : Nat → Nat} (h7 : n ≤ 7) (hf : Pm n f) (hg : Pm n g) (h1 : 1 ≤ x) (h2 : x ≤ n) : isf n f g (reachN f g x) := by
  have sb := hf.b7 h7
  have ab := hg.b7 h7
  have sp := reach_spec sb ab h1 (show x ≤ 7 by omega)
  refine ⟨reachN_lt sb ab h1 (by omega), fun y a b h => reach_in hf hg h7 h1 h2 a b h, fun y a b h => ⟨(sp.2.1 y a b h).1, (sp.2.1 y a b h).2, ?_⟩⟩
  have ht := (hf.comp hg).mono h7
  have hy := ((hf.comp hg).inv h7).b7 h7 y a b
  obtain ⟨k, hk⟩ := pm_back ht hy.1 hy.2
  rw [ht.f_inv (by decide)] at hk
  have : ∀ i, hasb (reachN f g x) (pstep (pcomp f g) i y) := fun i => by
    induction i with
    | zero => exact h
    | succ i ih =>
      have q := pstep_7 (ht.b7 (by decide)) i y a b
      rw [pstep_s]
      have u := sp.2.1 _ q.1 q.2 ih
      have v := sb _ q.1 q.2
      exact (sp.2.1 _ v.1 v.2 u.1).2
  have r := this k
  rw [hk] at r
  exact r
theorem tr_isf {n R : Nat} {s a : Nat → Nat} (h : isf n s a R) (wh : Int) : ∀ y, 1 ≤ y → y ≤ 7 → hasb R y → hasb R (trF s a wh y) := fun y p q r => by
  unfold trF
  split
  · exact (h.2.2 y p q r).1
  · split
    · exact (h.2.2 y p q r).2.1
    · exact (h.2.2 y p q r).2.2
theorem lstS_s (f : Nat → Nat) (R k : Nat) : lstS f R (k + 1) = lstS f R k + (if R &&& bt (k + 1) = 0 then 0 else if leastB f (k + 1) then 1 else 0) := rfl
theorem lstS_le (f : Nat → Nat) (R k : Nat) : lstS f R k ≤ k := sumN_le1 (fun x => by split; omega; split <;> omega) k
theorem prtN_s (s a : Nat → Nat) (k : Nat) : prtN s a (k + 1) = prtN s a k + (if lowN (reachN s a (k + 1)) = k + 1 then 1 else 0) := rfl
def sumW (s a : Nat → Nat) (n R : Nat) : Nat → Nat
  | 0 => 0
  | j + 1 => sumW s a n R j + lstS (trF s a (j : Int)) R n
theorem sumW_le (s a : Nat → Nat) (n R : Nat) : ∀ j, sumW s a n R j ≤ n * j
  | 0 => Nat.le_refl _
  | j + 1 => by have := sumW_le s a n R j; have := lstS_le (trF s a (j : Int)) R n; simp only [sumW]; rw [Nat.mul_succ]; omega
theorem sumW_3 {n R : Nat} {s a : Nat → Nat} (h7 : n ≤ 7) (hs : Pm n s) (ha : Pm n a) (h : isf n s a R) : genusI s a R = ((popc R : Int) + 2 - (sumW s a n R 3 : Int)).tdiv 2 := by
  have e1 := rings_lst hs h7 h.1 h.2.1 (fun y p q r => (h.2.2 y p q r).1)
  have e2 := rings_lst ha h7 h.1 h.2.1 (fun y p q r => (h.2.2 y p q r).2.1)
  have e3 := rings_lst (Pm.face h7 hs ha) h7 h.1 h.2.1 (fun y p q r => (h.2.2 y p q r).2.2)
  unfold genusI
  rw [e1, e2, e3]
  have : sumW s a n R 3 = lstS s R n + lstS a R n + lstS (pface s a) R n := by
    show 0 + lstS (trF s a ((0 : Nat) : Int)) R n + lstS (trF s a ((1 : Nat) : Int)) R n + lstS (trF s a ((2 : Nat) : Int)) R n = _
    rw [trF_0 (k := ((0 : Nat) : Int)) rfl, trF_1 (k := ((1 : Nat) : Int)) rfl, trF_2 (k := ((2 : Nat) : Int)) rfl]; omega
  rw [this]
  congr 1
set_option maxHeartbeats 4000000 in
set_option maxRecDepth 100000 in
theorem c_partM (l : Launch) (G : Gx) {d what : Int} (hd : rg d) (hwt : rg what) {n : Nat} {s a : Nat → Nat} (hV : MapV n s a) (w : Wd) (hM : RMW w n s a) (hR : RTab w n) : Sp l G 4 mX11_part [aR 63, aI (d), aI (what)] w (fun z w' => Scr w w' ∧ z = if 1 ≤ d ∧ d ≤ (n : Int) then partI s a d what else -1) := by
  obtain ⟨⟨hn1, hn7⟩, hs, ha⟩ := id hV
  obtain ⟨r0, r1, r2⟩ := id hM
  obtain ⟨r3, r4, rPK, rTK⟩ := id hR
  have hfc := fac_le hn1 hn7
  have hk15 := kmany_le n hn7
  refine Sp_of RX11 rfl (by decide +kernel) rfl (Nat.le_of_ble_eq_true rfl) ?_
  refine v_aload_n 0 (pc' := 1) rfl dX11_part_0 rfl rfl ?_
  refine v_iload_n 1 (pc' := 2) rfl dX11_part_1 rfl rfl ?_
  refine v_cVP (pc' := 5) rfl dX11_part_2 lk_RX11_129 ly_63 rfl (c_isDart l G hd hn7 w r0) rfl rfl rfl ?_
  refine v_nm (fun isDart1 hisDart1 => ?_)
  refine v_if_eq (pc' := 8) (tgt := 17) rfl dX11_part_5 (by decide) (inB_r hisDart1) (fun c0 => ?_) (fun c0 => ?_)
  ·
    have q1 := inB_0 hisDart1 (by omega)
    refine v_iconst (pc' := 18) rfl dX11_part_17 ?_
    refine v_iret dX11_part_18 (by decide) (rfl) ?_
    first | exact ⟨Scr.rf _, by rw [if_neg q1]⟩ | exact ⟨Scr.rf _, by rw [if_pos q1]; unfold partI; rw [if_neg (by omega), if_neg (by omega), if_neg (by omega)]⟩ | exact ⟨Scr.of f3 (by decide), by rw [if_pos q1]; unfold partI; rw [if_pos (by omega), ← hjl]; exact hl⟩ | exact ⟨Scr.of f3 (by decide), by rw [if_pos q1]; unfold partI; rw [if_neg (by omega), if_pos (by omega), ← hp2]; exact hbits1⟩ | exact ⟨hsc, by rw [if_pos q1]; unfold partI; rw [if_neg (by omega), if_neg (by omega), if_pos (by omega)]⟩
  ·
    have q1 := inB_1 hisDart1 (by omega)
    refine v_iload_n 2 (pc' := 9) rfl dX11_part_8 rfl rfl ?_
    refine v_iconst (pc' := 10) rfl dX11_part_9 ?_
    refine v_iconst (pc' := 11) rfl dX11_part_10 ?_
    refine v_cSP (pc' := 14) rfl dX11_part_11 lk_RX11_121 rfl (c_in l G hwt (by decide) (by decide) w) rfl rfl rfl ?_
    refine v_nm (fun in1 hin1 => ?_)
    refine v_if_ne (pc' := 17) (tgt := 19) rfl dX11_part_14 (by decide) (inB_r hin1) (fun c1 => ?_) (fun c1 => ?_)
    ·
      have q2 := inB_1 hin1 (by omega)
      refine v_aload_n 0 (pc' := 20) rfl dX11_part_19 rfl rfl ?_
      refine v_aload_n 0 (pc' := 21) rfl dX11_part_20 rfl rfl ?_
      refine v_get (z := ((cdk s n : Nat) : Int)) (pc' := 24) rfl dX11_part_21 fk_RX11_149 ly_63 rfl (r1) ?_
      refine v_aload_n 0 (pc' := 25) rfl dX11_part_24 rfl rfl ?_
      refine v_get (z := ((cdk a n : Nat) : Int)) (pc' := 28) rfl dX11_part_25 fk_RX11_152 ly_63 rfl (r2) ?_
      refine v_iload_n 1 (pc' := 29) rfl dX11_part_28 rfl rfl ?_
      refine v_cVi (pc' := 32) rfl dX11_part_29 lk_RX11_276 ly_63 rfl (c_partOf l G (x0 := d.toNat) rfl rfl (by omega) (by omega) (by omega) hs ha hn1 hn7 w r0) rfl rfl rfl (fun partOf1 w3 hq3 => ?_)
      obtain ⟨f3, z3⟩ := hq3
      have hI := reach_isf hn7 hs ha (x := d.toNat) (by omega) (by omega)
      have hRl := hI.1
      have hRx := (reach_spec (hs.b7 hn7) (ha.b7 hn7) (x := d.toNat) (by omega) (by omega)).1
      have hRn := hasb_nz hRx
      have hlw := low_in (reachN s a d.toNat) hRl hRn
      have hlh := low_has (reachN s a d.toNat) hRl hRn
      have hp2 := popc_2 (reachN s a d.toNat) hRl
      have hp7 := popc_le (reachN s a d.toNat) hRl
      have r0 : w3 63 0 = (n : Int) := (f3 63 0 (by decide)).trans r0
      have r1 : w3 63 1 = ((cdk s n : Nat) : Int) := (f3 63 1 (by decide)).trans r1
      have r2 : w3 63 2 = ((cdk a n : Nat) : Int) := (f3 63 2 (by decide)).trans r2
      have r3 : w3 63 3 = ((facN n : Nat) : Int) := (f3 63 3 (by decide)).trans r3
      have r4 : w3 63 4 = ((kmany n : Nat) : Int) := (f3 63 4 (by decide)).trans r4
      refine v_istore_n (ls' := [(3, _), (0, _), (1, _), (2, _)]) (pc' := 33) rfl dX11_part_32 rfl rfl rfl ?_
      refine v_iconst (pc' := 34) rfl dX11_part_33 ?_
      refine v_istore (ls' := [(4, _), (3, _), (0, _), (1, _), (2, _)]) (pc' := 36) rfl dX11_part_34 rfl rfl ?_
      refine v_ls [2, 3, 4, 1, 0] rfl ?_
      refine v_loop1 36 (fun (least : Int) => ∃ j : Nat, least = j ∧ 1 ≤ j ∧ j ≤ lowN (reachN s a d.toNat)) (fun (least : Int) => (8 - least).toNat) (fun (least : Int) => [(0, aR 63), (1, aI (d)), (2, aI (what)), (3, aI (partOf1)), (4, aI (least))]) (fun (least : Int) => []) (fun (least : Int) => w3) (fun least hI0 ih0 => ?_) (1) (⟨1, rfl, by omega, by omega⟩)
      obtain ⟨j, hl, hj1, hj⟩ := hI0
      have hbh := bit_has (x := j) hRl hj1 (by omega)
      refine v_iload_n 3 (pc' := 37) rfl dX11_part_36 rfl rfl ?_
      refine v_iload 4 (pc' := 39) rfl dX11_part_37 rfl ?_
      refine v_ishr (z := ((2 * (reachN s a d.toNat) / 2 ^ j : Nat) : Int)) (pc' := 40) rfl dX11_part_39 (iz_shrE z3 hl (by omega) (by omega)) ?_
      refine v_iconst (pc' := 41) rfl dX11_part_40 ?_
      refine v_iand (z := ((2 * (reachN s a d.toNat) / 2 ^ j % 2 : Nat) : Int)) (pc' := 42) rfl dX11_part_41 (iz_and1 rfl) ?_
      refine v_if_ne (pc' := 45) (tgt := 54) rfl dX11_part_42 (by decide) (by have := Nat.mod_lt (2 * (reachN s a d.toNat) / 2 ^ j) (show 0 < 2 by decide); omega) (fun c2 => ?_) (fun c2 => ?_)
      ·
        have hmm := Nat.mod_lt (2 * (reachN s a d.toNat) / 2 ^ j) (show 0 < 2 by decide)
        have hjl : j = lowN (reachN s a d.toNat) := by
          have h := hbh.mp (by omega)
          have := low_min hRl hj1 (by omega) h
          omega
        refine v_iload_n 2 (pc' := 55) rfl dX11_part_54 rfl rfl ?_
        refine v_iconst (pc' := 56) rfl dX11_part_55 ?_
        refine v_icmp_ge (pc' := 59) (tgt := 73) rfl dX11_part_56 (by decide) (by omega) (by omega) (fun c3 => ?_) (fun c3 => ?_)
        ·
          refine v_iload_n 3 (pc' := 74) rfl dX11_part_73 rfl rfl ?_
          refine v_cSP (pc' := 77) rfl dX11_part_74 lk_RX11_283 rfl (c_bits l G (S := 2 * (reachN s a d.toNat)) z3 (by omega) w3) rfl rfl rfl ?_
          refine v_nm (fun bits2 hbits2 => ?_)
          refine v_iconst (pc' := 78) rfl dX11_part_77 ?_
          refine v_iadd (pc' := 79) rfl dX11_part_78 ?_
          refine v_nm (fun k' hk' => ?_)
          refine v_istore (ls' := [(5, _), (0, _), (1, _), (2, _), (3, _), (4, _)]) (pc' := 81) rfl dX11_part_79 rfl rfl ?_
          refine v_iconst (pc' := 82) rfl dX11_part_81 ?_
          refine v_istore (ls' := [(6, _), (5, _), (0, _), (1, _), (2, _), (3, _), (4, _)]) (pc' := 84) rfl dX11_part_82 rfl rfl ?_
          refine v_ls [2, 3, 4, 5, 6, 1, 0] rfl ?_
          refine v_loop3 84 (fun (k : Int) (wh : Int) (wl : Wd) => ∃ j : Nat, wh = j ∧ j ≤ 3 ∧ k = (popc (reachN s a d.toNat) : Int) + 2 - (sumW s a n (reachN s a d.toNat) j : Int) ∧ Scr w wl) (fun (k : Int) (wh : Int) (wl : Wd) => (3 - wh).toNat) (fun (k : Int) (wh : Int) (wl : Wd) => [(0, aR 63), (1, aI (d)), (2, aI (what)), (3, aI (partOf1)), (4, aI (least)), (5, aI (k)), (6, aI (wh))]) (fun (k : Int) (wh : Int) (wl : Wd) => []) (fun (k : Int) (wh : Int) (wl : Wd) => wl) (fun k wh wl hI1 ih1 => ?_) (k') (0) w3 (⟨0, rfl, by omega, by rw [hk', hbits2, hp2]; show _ = (popc (reachN s a d.toNat) : Int) + 2 - ((0 : Nat) : Int); omega, Scr.of f3 (by decide)⟩)
          obtain ⟨j, hwh, hj, hk, hsc⟩ := hI1
          have g0 := (hsc 63 0 (by decide)).trans hM.1
          have hsl := sumW_le s a n (reachN s a d.toNat) j
          have hft := trF_pm hV (j : Int)
          have hn21 : n * j ≤ 21 := Nat.le_trans (Nat.mul_le_mul hn7 hj) (by decide)
          refine v_iload 6 (pc' := 86) rfl dX11_part_84 rfl ?_
          refine v_iconst (pc' := 87) rfl dX11_part_86 ?_
          refine v_icmp_ge (pc' := 90) (tgt := 153) rfl dX11_part_87 (by decide) (by omega) (by omega) (fun c5 => ?_) (fun c5 => ?_)
          ·
            have hje : j = 3 := by omega
            have hs3 : sumW s a n (reachN s a d.toNat) 3 ≤ 21 := by rw [← hje]; omega
            refine v_iload 5 (pc' := 155) rfl dX11_part_153 rfl ?_
            refine v_iconst (pc' := 156) rfl dX11_part_155 ?_
            refine v_idiv (z := (genusI s a (reachN s a d.toNat))) (pc' := 157) rfl dX11_part_156 (iz_ne (by decide) (by decide)) (by rw [sumW_3 hn7 hs ha hI, hk, hje]; exact iz_div ⟨by omega, by omega⟩ (by decide) (by decide) (by omega)) ?_
            refine v_iret dX11_part_157 (by decide) (rfl) ?_
            first | exact ⟨Scr.rf _, by rw [if_neg q1]⟩ | exact ⟨Scr.rf _, by rw [if_pos q1]; unfold partI; rw [if_neg (by omega), if_neg (by omega), if_neg (by omega)]⟩ | exact ⟨Scr.of f3 (by decide), by rw [if_pos q1]; unfold partI; rw [if_pos (by omega), ← hjl]; exact hl⟩ | exact ⟨Scr.of f3 (by decide), by rw [if_pos q1]; unfold partI; rw [if_neg (by omega), if_pos (by omega), ← hp2]; exact hbits1⟩ | exact ⟨hsc, by rw [if_pos q1]; unfold partI; rw [if_neg (by omega), if_neg (by omega), if_pos (by omega)]⟩
          ·
            refine v_aload_n 0 (pc' := 91) rfl dX11_part_90 rfl rfl ?_
            refine v_iload 6 (pc' := 93) rfl dX11_part_91 rfl ?_
            refine v_cVi (pc' := 96) rfl dX11_part_93 lk_RX11_200 ly_63 rfl (c_codeOf l G (wh := wh) (by omega) hV wl (hM.s hsc)) rfl rfl rfl (fun codeOf1 w6 hq6 => ?_)
            obtain ⟨fc, zc⟩ := hq6
            rw [hwh] at zc
            have g0 : w6 63 0 = (n : Int) := (fc 63 0 (by decide)).trans g0
            refine v_istore (ls' := [(7, _), (0, _), (1, _), (2, _), (3, _), (4, _), (5, _), (6, _)]) (pc' := 98) rfl dX11_part_96 rfl rfl ?_
            refine v_iconst (pc' := 99) rfl dX11_part_98 ?_
            refine v_istore (ls' := [(8, _), (7, _), (0, _), (1, _), (2, _), (3, _), (4, _), (5, _), (6, _)]) (pc' := 101) rfl dX11_part_99 rfl rfl ?_
            refine v_ls [2, 3, 4, 5, 6, 7, 8, 1, 0] rfl ?_
            refine v_loop3 101 (fun (k : Int) (x : Int) (wm : Wd) => ∃ m : Nat, x = ((m + 1 : Nat) : Int) ∧ m ≤ n ∧ k = (popc (reachN s a d.toNat) : Int) + 2 - (sumW s a n (reachN s a d.toNat) j : Int) - (lstS (trF s a (j : Int)) (reachN s a d.toNat) m : Int) ∧ Scr w wm) (fun (k : Int) (x : Int) (wm : Wd) => (8 - x).toNat) (fun (k : Int) (x : Int) (wm : Wd) => [(0, aR 63), (1, aI (d)), (2, aI (what)), (3, aI (partOf1)), (4, aI (least)), (5, aI (k)), (6, aI (wh)), (7, aI (codeOf1)), (8, aI (x))]) (fun (k : Int) (x : Int) (wm : Wd) => []) (fun (k : Int) (x : Int) (wm : Wd) => wm) (fun k x wm hI2 ih2 => ?_) (k) (1) w6 (⟨0, rfl, by omega, by rw [hk]; show _ = _ - ((0 : Nat) : Int); omega, hsc.tr (Scr.of fc (by decide))⟩)
            obtain ⟨m, hx, hm, hk2, hsc2⟩ := hI2
            have g0 := (hsc2 63 0 (by decide)).trans hM.1
            refine v_iload 8 (pc' := 103) rfl dX11_part_101 rfl ?_
            refine v_aload_n 0 (pc' := 104) rfl dX11_part_103 rfl rfl ?_
            refine v_get (z := (n : Int)) (pc' := 107) rfl dX11_part_104 fk_RX11_125 ly_63 rfl (g0) ?_
            refine v_icmp_gt (pc' := 110) (tgt := 147) rfl dX11_part_107 (by decide) (by omega) (by omega) (fun c6 => ?_) (fun c6 => ?_)
            ·
              have hme : m = n := by omega
              refine v_iinc (ls' := [(6, _), (0, _), (1, _), (2, _), (3, _), (4, _), (5, _), (7, _), (8, _)]) 6 (pc' := 150) rfl dX11_part_147 rfl rfl rfl ?_
              refine v_nl (fun wh' hwh' => ?_)
              refine v_goto (tgt := 84) dX11_part_150 (by decide) ?_
              refine v_ls [1, 2, 3, 4, 5, 6, 0] rfl ?_
              exact ih1 (k) (wh') wm (⟨j + 1, by omega, by omega, by rw [hk2, hme]; simp only [sumW]; omega, hsc2⟩) (by omega)
            ·
              have hbm := bit_has (x := m + 1) hRl (by omega) (by omega)
              have hmm2 := Nat.mod_lt (2 * (reachN s a d.toNat) / 2 ^ (m + 1)) (show 0 < 2 by decide)
              refine v_iload 5 (pc' := 112) rfl dX11_part_110 rfl ?_
              refine v_iload_n 3 (pc' := 113) rfl dX11_part_112 rfl rfl ?_
              refine v_iload 8 (pc' := 115) rfl dX11_part_113 rfl ?_
              refine v_ishr (z := ((2 * (reachN s a d.toNat) / 2 ^ (m + 1) : Nat) : Int)) (pc' := 116) rfl dX11_part_115 (iz_shrE z3 hx (by omega) (by omega)) ?_
              refine v_iconst (pc' := 117) rfl dX11_part_116 ?_
              refine v_iand (z := ((2 * (reachN s a d.toNat) / 2 ^ (m + 1) % 2 : Nat) : Int)) (pc' := 118) rfl dX11_part_117 (iz_and1 rfl) ?_
              refine v_iconst (pc' := 119) rfl dX11_part_118 ?_
              refine v_icmp_ne (pc' := 122) (tgt := 137) rfl dX11_part_119 (by decide) (by omega) (by omega) (fun c7 => ?_) (fun c7 => ?_)
              ·
                have hnb : (reachN s a d.toNat) &&& bt (m + 1) = 0 := Classical.byContradiction (fun q => by have := hbm.mpr q; omega)
                refine v_iconst (pc' := 138) rfl dX11_part_137 ?_
                refine v_isub (pc' := 139) rfl dX11_part_138 ?_
                refine v_nm (fun k' hk' => ?_)
                refine v_istore (ls' := [(5, _), (0, _), (1, _), (2, _), (3, _), (4, _), (6, _), (7, _), (8, _)]) (pc' := 141) rfl dX11_part_139 rfl rfl ?_
                refine v_iinc (ls' := [(8, _), (5, _), (0, _), (1, _), (2, _), (3, _), (4, _), (6, _), (7, _)]) 8 (pc' := 144) rfl dX11_part_141 rfl rfl rfl ?_
                refine v_nl (fun x' hx' => ?_)
                refine v_goto (tgt := 101) dX11_part_144 (by decide) ?_
                refine v_ls [2, 3, 4, 5, 6, 1, 7, 8, 0] rfl ?_
                exact ih2 (k') (x') wm (⟨m + 1, by omega, by omega, by rw [lstS_s, if_pos hnb]; omega, hsc2⟩) (by omega)
              ·
                have hyb : ¬ (reachN s a d.toNat) &&& bt (m + 1) = 0 := hbm.mp (by omega)
                refine v_aload_n 0 (pc' := 123) rfl dX11_part_122 rfl rfl ?_
                refine v_iload 7 (pc' := 125) rfl dX11_part_123 rfl ?_
                refine v_iload 8 (pc' := 127) rfl dX11_part_125 rfl ?_
                refine v_cVi (pc' := 130) rfl dX11_part_127 lk_RX11_158 ly_63 rfl (c_isLeast l G (x := m + 1) zc hft hn1 hn7 hx (by omega) (by omega) wm g0) rfl rfl rfl (fun isLeast1 w7 hq7 => ?_)
                obtain ⟨f7, z7⟩ := hq7
                have g0 : w7 63 0 = (n : Int) := (f7 63 0 (by decide)).trans g0
                refine v_if_eq (pc' := 133) (tgt := 137) rfl dX11_part_130 (by decide) (jn_r z7) (fun c8 => ?_) (fun c8 => ?_)
                ·
                  have hL := jn_0 z7 (by omega)
                  refine v_iconst (pc' := 138) rfl dX11_part_137 ?_
                  refine v_isub (pc' := 139) rfl dX11_part_138 ?_
                  refine v_nm (fun k' hk' => ?_)
                  refine v_istore (ls' := [(5, _), (0, _), (1, _), (2, _), (3, _), (4, _), (6, _), (7, _), (8, _)]) (pc' := 141) rfl dX11_part_139 rfl rfl ?_
                  refine v_iinc (ls' := [(8, _), (5, _), (0, _), (1, _), (2, _), (3, _), (4, _), (6, _), (7, _)]) 8 (pc' := 144) rfl dX11_part_141 rfl rfl rfl ?_
                  refine v_nl (fun x' hx' => ?_)
                  refine v_goto (tgt := 101) dX11_part_144 (by decide) ?_
                  refine v_ls [2, 3, 4, 5, 6, 1, 7, 8, 0] rfl ?_
                  exact ih2 (k') (x') w7 (⟨m + 1, by omega, by omega, by rw [lstS_s, if_neg hyb, hL]; simp; omega, hsc2.tr (Scr.of f7 (by decide))⟩) (by omega)
                ·
                  have hL := jn_1 z7 (by omega)
                  refine v_iconst (pc' := 134) rfl dX11_part_133 ?_
                  refine v_goto (tgt := 138) dX11_part_134 (by decide) ?_
                  refine v_isub (pc' := 139) rfl dX11_part_138 ?_
                  refine v_nm (fun k' hk' => ?_)
                  refine v_istore (ls' := [(5, _), (0, _), (1, _), (2, _), (3, _), (4, _), (6, _), (7, _), (8, _)]) (pc' := 141) rfl dX11_part_139 rfl rfl ?_
                  refine v_iinc (ls' := [(8, _), (5, _), (0, _), (1, _), (2, _), (3, _), (4, _), (6, _), (7, _)]) 8 (pc' := 144) rfl dX11_part_141 rfl rfl rfl ?_
                  refine v_nl (fun x' hx' => ?_)
                  refine v_goto (tgt := 101) dX11_part_144 (by decide) ?_
                  refine v_ls [2, 3, 4, 5, 6, 1, 7, 8, 0] rfl ?_
                  exact ih2 (k') (x') w7 (⟨m + 1, by omega, by omega, by rw [lstS_s, if_neg hyb, hL]; simp; omega, hsc2.tr (Scr.of f7 (by decide))⟩) (by omega)
        ·
          refine v_iload_n 2 (pc' := 60) rfl dX11_part_59 rfl rfl ?_
          refine v_if_ne (pc' := 63) (tgt := 68) rfl dX11_part_60 (by decide) (by omega) (fun c4 => ?_) (fun c4 => ?_)
          ·
            refine v_iload_n 3 (pc' := 69) rfl dX11_part_68 rfl rfl ?_
            refine v_cSP (pc' := 72) rfl dX11_part_69 lk_RX11_283 rfl (c_bits l G (S := 2 * (reachN s a d.toNat)) z3 (by omega) w3) rfl rfl rfl ?_
            refine v_nm (fun bits1 hbits1 => ?_)
            refine v_iret dX11_part_72 (by decide) (rfl) ?_
            first | exact ⟨Scr.rf _, by rw [if_neg q1]⟩ | exact ⟨Scr.rf _, by rw [if_pos q1]; unfold partI; rw [if_neg (by omega), if_neg (by omega), if_neg (by omega)]⟩ | exact ⟨Scr.of f3 (by decide), by rw [if_pos q1]; unfold partI; rw [if_pos (by omega), ← hjl]; exact hl⟩ | exact ⟨Scr.of f3 (by decide), by rw [if_pos q1]; unfold partI; rw [if_neg (by omega), if_pos (by omega), ← hp2]; exact hbits1⟩ | exact ⟨hsc, by rw [if_pos q1]; unfold partI; rw [if_neg (by omega), if_neg (by omega), if_pos (by omega)]⟩
          ·
            refine v_iload 4 (pc' := 65) rfl dX11_part_63 rfl ?_
            refine v_goto (tgt := 72) dX11_part_65 (by decide) ?_
            refine v_iret dX11_part_72 (by decide) (rfl) ?_
            first | exact ⟨Scr.rf _, by rw [if_neg q1]⟩ | exact ⟨Scr.rf _, by rw [if_pos q1]; unfold partI; rw [if_neg (by omega), if_neg (by omega), if_neg (by omega)]⟩ | exact ⟨Scr.of f3 (by decide), by rw [if_pos q1]; unfold partI; rw [if_pos (by omega), ← hjl]; exact hl⟩ | exact ⟨Scr.of f3 (by decide), by rw [if_pos q1]; unfold partI; rw [if_neg (by omega), if_pos (by omega), ← hp2]; exact hbits1⟩ | exact ⟨hsc, by rw [if_pos q1]; unfold partI; rw [if_neg (by omega), if_neg (by omega), if_pos (by omega)]⟩
      ·
        have hjn : j ≠ lowN (reachN s a d.toNat) := fun e => by
          have := hbh.mpr (by rw [e]; exact hlh)
          omega
        refine v_iload 4 (pc' := 47) rfl dX11_part_45 rfl ?_
        refine v_iconst (pc' := 48) rfl dX11_part_47 ?_
        refine v_iadd (pc' := 49) rfl dX11_part_48 ?_
        refine v_nm (fun least' hleast' => ?_)
        refine v_istore (ls' := [(4, _), (0, _), (1, _), (2, _), (3, _)]) (pc' := 51) rfl dX11_part_49 rfl rfl ?_
        refine v_goto (tgt := 36) dX11_part_51 (by decide) ?_
        refine v_ls [1, 2, 3, 4, 0] rfl ?_
        exact ih0 (least') (⟨j + 1, by omega, by omega, by omega⟩) (by omega)
    ·
      have q2 := inB_0 hin1 (by omega)
      refine v_iconst (pc' := 18) rfl dX11_part_17 ?_
      refine v_iret dX11_part_18 (by decide) (rfl) ?_
      first | exact ⟨Scr.rf _, by rw [if_neg q1]⟩ | exact ⟨Scr.rf _, by rw [if_pos q1]; unfold partI; rw [if_neg (by omega), if_neg (by omega), if_neg (by omega)]⟩ | exact ⟨Scr.of f3 (by decide), by rw [if_pos q1]; unfold partI; rw [if_pos (by omega), ← hjl]; exact hl⟩ | exact ⟨Scr.of f3 (by decide), by rw [if_pos q1]; unfold partI; rw [if_neg (by omega), if_pos (by omega), ← hp2]; exact hbits1⟩ | exact ⟨hsc, by rw [if_pos q1]; unfold partI; rw [if_neg (by omega), if_neg (by omega), if_pos (by omega)]⟩
set_option maxHeartbeats 4000000 in
set_option maxRecDepth 100000 in
theorem c_partsM (l : Launch) (G : Gx) {n : Nat} {s a : Nat → Nat} (hV : MapV n s a) (w : Wd) (hM : RMW w n s a) (hR : RTab w n) : Sp l G 2 mX11_parts [aR 63] w (fun z w' => Scr w w' ∧ z = (partsN s a n : Nat)) := by
  obtain ⟨⟨hn1, hn7⟩, hs, ha⟩ := id hV
  obtain ⟨r0, r1, r2⟩ := id hM
  obtain ⟨r3, r4, rPK, rTK⟩ := id hR
  have hfc := fac_le hn1 hn7
  have hk15 := kmany_le n hn7
  refine Sp_of RX11 rfl (by decide +kernel) rfl (Nat.le_of_ble_eq_true rfl) ?_
  refine v_iconst (pc' := 1) rfl dX11_parts_0 ?_
  refine v_istore_n (ls' := [(1, _), (0, _)]) (pc' := 2) rfl dX11_parts_1 rfl rfl rfl ?_
  refine v_iconst (pc' := 3) rfl dX11_parts_2 ?_
  refine v_istore_n (ls' := [(2, _), (1, _), (0, _)]) (pc' := 4) rfl dX11_parts_3 rfl rfl rfl ?_
  refine v_ls [2, 1, 0] rfl ?_
  refine v_loop3 4 (fun (k : Int) (x : Int) (wl : Wd) => ∃ m : Nat, x = ((m + 1 : Nat) : Int) ∧ m ≤ n ∧ k = (prtN s a m : Nat) ∧ Scr w wl) (fun (k : Int) (x : Int) (wl : Wd) => (8 - x).toNat) (fun (k : Int) (x : Int) (wl : Wd) => [(0, aR 63), (1, aI (k)), (2, aI (x))]) (fun (k : Int) (x : Int) (wl : Wd) => []) (fun (k : Int) (x : Int) (wl : Wd) => wl) (fun k x wl hI0 ih0 => ?_) (0) (1) w (⟨0, rfl, by omega, rfl, Scr.rf _⟩)
  obtain ⟨m, hx, hm, hk, hsc⟩ := hI0
  have g0 := (hsc 63 0 (by decide)).trans hM.1
  have g1 := (hsc 63 1 (by decide)).trans hM.2.1
  have g2 := (hsc 63 2 (by decide)).trans hM.2.2
  refine v_iload_n 2 (pc' := 5) rfl dX11_parts_4 rfl rfl ?_
  refine v_aload_n 0 (pc' := 6) rfl dX11_parts_5 rfl rfl ?_
  refine v_get (z := (n : Int)) (pc' := 9) rfl dX11_parts_6 fk_RX11_125 ly_63 rfl (g0) ?_
  refine v_icmp_gt (pc' := 12) (tgt := 48) rfl dX11_parts_9 (by decide) (by omega) (by omega) (fun c0 => ?_) (fun c0 => ?_)
  ·
    have hme : m = n := by omega
    refine v_iload_n 1 (pc' := 49) rfl dX11_parts_48 rfl rfl ?_
    refine v_iret dX11_parts_49 (by decide) (rfl) ?_
    exact ⟨hsc, by rw [hk, hme, parts_prt hn7 hs ha]⟩
  ·
    refine v_iload_n 1 (pc' := 13) rfl dX11_parts_12 rfl rfl ?_
    refine v_aload_n 0 (pc' := 14) rfl dX11_parts_13 rfl rfl ?_
    refine v_aload_n 0 (pc' := 15) rfl dX11_parts_14 rfl rfl ?_
    refine v_get (z := ((cdk s n : Nat) : Int)) (pc' := 18) rfl dX11_parts_15 fk_RX11_149 ly_63 rfl (g1) ?_
    refine v_aload_n 0 (pc' := 19) rfl dX11_parts_18 rfl rfl ?_
    refine v_get (z := ((cdk a n : Nat) : Int)) (pc' := 22) rfl dX11_parts_19 fk_RX11_152 ly_63 rfl (g2) ?_
    refine v_iload_n 2 (pc' := 23) rfl dX11_parts_22 rfl rfl ?_
    refine v_cVi (pc' := 26) rfl dX11_parts_23 lk_RX11_276 ly_63 rfl (c_partOf l G (x0 := m + 1) rfl rfl hx (by omega) (by omega) hs ha hn1 hn7 wl g0) rfl rfl rfl (fun partOf1 w1 hq1 => ?_)
    obtain ⟨f1, z1⟩ := hq1
    have hRl := reachN_lt (x := m + 1) (hs.b7 hn7) (ha.b7 hn7) (by omega) (by omega)
    have hRx := (reach_spec (hs.b7 hn7) (ha.b7 hn7) (x := m + 1) (by omega) (by omega)).1
    have hlm := low_mask7 (reachN s a (m + 1)) hRl m (by omega) hRx
    have hal : 2 * reachN s a (m + 1) &&& (2 ^ (m + 1) - 1) ≤ 2 * reachN s a (m + 1) := Nat.and_le_left
    have hpw : 1 ≤ 2 ^ (m + 1) := Nat.one_le_two_pow
    refine v_iconst (pc' := 27) rfl dX11_parts_26 ?_
    refine v_iload_n 2 (pc' := 28) rfl dX11_parts_27 rfl rfl ?_
    refine v_ishl (z := ((2 ^ (m + 1) : Nat) : Int)) (pc' := 29) rfl dX11_parts_28 (iz_one_shl hx (by omega)) ?_
    refine v_iconst (pc' := 30) rfl dX11_parts_29 ?_
    refine v_isub (pc' := 31) rfl dX11_parts_30 ?_
    refine v_iand (z := ((2 * reachN s a (m + 1) &&& (2 ^ (m + 1) - 1) : Nat) : Int)) (pc' := 32) rfl dX11_parts_31 (iz_andE z1 (by omega)) ?_
    refine v_if_ne (pc' := 35) (tgt := 39) rfl dX11_parts_32 (by decide) (by omega) (fun c1 => ?_) (fun c1 => ?_)
    ·
      have hnl : ¬ lowN (reachN s a (m + 1)) = m + 1 := fun e => by
        rw [e, beq_self_eq_true, beq_iff_eq] at hlm
        omega
      refine v_iconst (pc' := 40) rfl dX11_parts_39 ?_
      refine v_iadd (pc' := 41) rfl dX11_parts_40 ?_
      refine v_nm (fun k' hk' => ?_)
      refine v_istore_n (ls' := [(1, _), (0, _), (2, _)]) (pc' := 42) rfl dX11_parts_41 rfl rfl rfl ?_
      refine v_iinc (ls' := [(2, _), (1, _), (0, _)]) 2 (pc' := 45) rfl dX11_parts_42 rfl rfl rfl ?_
      refine v_nl (fun x' hx' => ?_)
      refine v_goto (tgt := 4) dX11_parts_45 (by decide) ?_
      refine v_ls [2, 1, 0] rfl ?_
      exact ih0 (k') (x') w1 (⟨m + 1, by omega, by omega, by rw [prtN_s, if_neg hnl]; omega, hsc.tr (Scr.of f1 (by decide))⟩) (by omega)
    ·
      have hyl : lowN (reachN s a (m + 1)) = m + 1 := by
        rw [show 2 * reachN s a (m + 1) &&& (2 ^ (m + 1) - 1) = 0 by omega] at hlm
        exact beq_iff_eq.mp hlm.symm
      refine v_iconst (pc' := 36) rfl dX11_parts_35 ?_
      refine v_goto (tgt := 40) dX11_parts_36 (by decide) ?_
      refine v_iadd (pc' := 41) rfl dX11_parts_40 ?_
      refine v_nm (fun k' hk' => ?_)
      refine v_istore_n (ls' := [(1, _), (0, _), (2, _)]) (pc' := 42) rfl dX11_parts_41 rfl rfl rfl ?_
      refine v_iinc (ls' := [(2, _), (1, _), (0, _)]) 2 (pc' := 45) rfl dX11_parts_42 rfl rfl rfl ?_
      refine v_nl (fun x' hx' => ?_)
      refine v_goto (tgt := 4) dX11_parts_45 (by decide) ?_
      refine v_ls [2, 1, 0] rfl ?_
      exact ih0 (k') (x') w1 (⟨m + 1, by omega, by omega, by rw [prtN_s, if_pos hyl]; omega, hsc.tr (Scr.of f1 (by decide))⟩) (by omega)
set_option maxHeartbeats 4000000 in
set_option maxRecDepth 100000 in
theorem c_kindsM (l : Launch) (G : Gx) {i : Int} (hi : rg i) {n : Nat} {s a : Nat → Nat} (hV : MapV n s a) (w : Wd) (hM : RMW w n s a) (hR : RTab w n) : SpP l G 0 mX11_kinds [aR 63, aI (i)] w ((if i < -1 then -1 else if i = -1 then (kmany n : Int) else if (kmany n : Int) ≤ i then -2 else (kT n i.toNat : Int))) := by
  obtain ⟨⟨hn1, hn7⟩, hs, ha⟩ := id hV
  obtain ⟨r0, r1, r2⟩ := id hM
  obtain ⟨r3, r4, rPK, rTK⟩ := id hR
  have hfc := fac_le hn1 hn7
  have hk15 := kmany_le n hn7
  refine Sp_of RX11 rfl (by decide +kernel) rfl (Nat.le_of_ble_eq_true rfl) ?_
  refine v_iload_n 1 (pc' := 1) rfl dX11_kinds_0 rfl rfl ?_
  refine v_iconst (pc' := 2) rfl dX11_kinds_1 ?_
  refine v_icmp_ge (pc' := 5) (tgt := 7) rfl dX11_kinds_2 (by decide) (by omega) (by omega) (fun c0 => ?_) (fun c0 => ?_)
  ·
    refine v_iload_n 1 (pc' := 8) rfl dX11_kinds_7 rfl rfl ?_
    refine v_iconst (pc' := 9) rfl dX11_kinds_8 ?_
    refine v_icmp_ne (pc' := 12) (tgt := 19) rfl dX11_kinds_9 (by decide) (by omega) (by omega) (fun c1 => ?_) (fun c1 => ?_)
    ·
      refine v_iload_n 1 (pc' := 20) rfl dX11_kinds_19 rfl rfl ?_
      refine v_aload_n 0 (pc' := 21) rfl dX11_kinds_20 rfl rfl ?_
      refine v_get (z := ((kmany n : Nat) : Int)) (pc' := 24) rfl dX11_kinds_21 fk_RX11_168 ly_63 rfl (r4) ?_
      refine v_icmp_ge (pc' := 27) (tgt := 36) rfl dX11_kinds_24 (by decide) (by omega) (by omega) (fun c2 => ?_) (fun c2 => ?_)
      ·
        refine v_bipush (pc' := 38) rfl dX11_kinds_36 rfl ?_
        refine v_iret dX11_kinds_38 (by decide) (rfl) ?_
        first | exact ⟨by rw [if_pos (by omega)], rfl⟩ | exact ⟨by rw [if_neg (by omega), if_pos (by omega)], rfl⟩ | exact ⟨by rw [if_neg (by omega), if_neg (by omega), if_pos (by omega)], rfl⟩ | exact ⟨by rw [if_neg (by omega), if_neg (by omega), if_neg (by omega)], rfl⟩
      ·
        refine v_aload_n 0 (pc' := 28) rfl dX11_kinds_27 rfl rfl ?_
        refine v_getR (pc' := 31) rfl dX11_kinds_28 fk_RX11_16 ly_63 rfl ?_
        refine v_iload_n 1 (pc' := 32) rfl dX11_kinds_31 rfl rfl ?_
        refine v_iald (z := ((kT n i.toNat : Nat) : Int)) (pc' := 33) rfl dX11_kinds_32 ly_66 (by omega) (by omega) rfl ((rTK i.toNat (by omega)).1) ?_
        refine v_goto (tgt := 38) dX11_kinds_33 (by decide) ?_
        refine v_iret dX11_kinds_38 (by decide) (rfl) ?_
        first | exact ⟨by rw [if_pos (by omega)], rfl⟩ | exact ⟨by rw [if_neg (by omega), if_pos (by omega)], rfl⟩ | exact ⟨by rw [if_neg (by omega), if_neg (by omega), if_pos (by omega)], rfl⟩ | exact ⟨by rw [if_neg (by omega), if_neg (by omega), if_neg (by omega)], rfl⟩
    ·
      refine v_aload_n 0 (pc' := 13) rfl dX11_kinds_12 rfl rfl ?_
      refine v_get (z := ((kmany n : Nat) : Int)) (pc' := 16) rfl dX11_kinds_13 fk_RX11_168 ly_63 rfl (r4) ?_
      refine v_goto (tgt := 38) dX11_kinds_16 (by decide) ?_
      refine v_iret dX11_kinds_38 (by decide) (rfl) ?_
      first | exact ⟨by rw [if_pos (by omega)], rfl⟩ | exact ⟨by rw [if_neg (by omega), if_pos (by omega)], rfl⟩ | exact ⟨by rw [if_neg (by omega), if_neg (by omega), if_pos (by omega)], rfl⟩ | exact ⟨by rw [if_neg (by omega), if_neg (by omega), if_neg (by omega)], rfl⟩
  ·
    refine v_iconst (pc' := 6) rfl dX11_kinds_5 ?_
    refine v_iret dX11_kinds_6 (by decide) (rfl) ?_
    first | exact ⟨by rw [if_pos (by omega)], rfl⟩ | exact ⟨by rw [if_neg (by omega), if_pos (by omega)], rfl⟩ | exact ⟨by rw [if_neg (by omega), if_neg (by omega), if_pos (by omega)], rfl⟩ | exact ⟨by rw [if_neg (by omega), if_neg (by omega), if_neg (by omega)], rfl⟩
def OPSZ : Prop := ∀ n k : Nat, 1 ≤ n → n ≤ 7 → k < kmany n → szN n k = membersN (kT n k) n
theorem KX_at {n : Nat} {t z : Int} (h : KX n t z) (hz : z ≠ -1) : ∃ k : Nat, z = k ∧ k < kmany n ∧ (kT n k : Int) = t := by
  rcases h with ⟨h, -⟩ | ⟨k, a, b, c, -⟩
  · exact absurd h hz
  · exact ⟨k, a, b, c⟩
theorem KX_no {n : Nat} {t z : Int} (h : KX n t z) (hz : z = -1) : ¬ kndB n t = true := KX_z h (by omega)
set_option maxHeartbeats 4000000 in
set_option maxRecDepth 100000 in
theorem c_sizeM (l : Launch) (G : Gx) {t : Int} (ht : rg t) (hsz : OPSZ) {n : Nat} {s a : Nat → Nat} (hV : MapV n s a) (w : Wd) (hM : RMW w n s a) (hR : RTab w n) : SpP l G 1 mX11_size [aR 63, aI (t)] w ((if kndB n t = true then (membersN t.toNat n : Int) else -1)) := by
  obtain ⟨⟨hn1, hn7⟩, hs, ha⟩ := id hV
  obtain ⟨r0, r1, r2⟩ := id hM
  obtain ⟨r3, r4, rPK, rTK⟩ := id hR
  have hfc := fac_le hn1 hn7
  have hk15 := kmany_le n hn7
  refine Sp_of RX11 rfl (by decide +kernel) rfl (Nat.le_of_ble_eq_true rfl) ?_
  refine v_aload_n 0 (pc' := 1) rfl dX11_size_0 rfl rfl ?_
  refine v_iload_n 1 (pc' := 2) rfl dX11_size_1 rfl rfl ?_
  refine v_cVR (pc' := 5) rfl dX11_size_2 lk_RX11_178 ly_63 rfl (c_kindOf l G (n := n) ht hn1 hn7 w r4 (fun k hk => (rTK k hk).1)) rfl rfl rfl (fun kindOf1 hkindOf1 => ?_)
  refine v_istore_n (ls' := [(2, _), (0, _), (1, _)]) (pc' := 6) rfl dX11_size_5 rfl rfl rfl ?_
  refine v_iload_n 0 (pc' := 7) rfl dX11_size_6 rfl rfl ?_
  refine v_iconst (pc' := 8) rfl dX11_size_7 ?_
  refine v_icmp_ne (pc' := 11) (tgt := 15) rfl dX11_size_8 (by decide) (KX_r hn7 hkindOf1) (by decide) (fun c0 => ?_) (fun c0 => ?_)
  ·
    obtain ⟨kI, hkz, hkI, hkt⟩ := KX_at hkindOf1 (by omega)
    have hy : kndB n t = true := kndB_iff.mpr ⟨kI, hkI, hkt⟩
    refine v_aload_n 1 (pc' := 16) rfl dX11_size_15 rfl rfl ?_
    refine v_getR (pc' := 19) rfl dX11_size_16 fk_RX11_19 ly_63 rfl ?_
    refine v_iload_n 0 (pc' := 20) rfl dX11_size_19 rfl rfl ?_
    refine v_iald (z := ((membersN (kT n kI) n : Nat) : Int)) (pc' := 21) rfl dX11_size_20 ly_67 (by omega) (by omega) rfl (by rw [show kindOf1.toNat = kI by omega, (rTK kI hkI).2.1, hsz n kI hn1 hn7 hkI]) ?_
    refine v_iret dX11_size_21 (by decide) (rfl) ?_
    first | exact ⟨by rw [if_neg hno], rfl⟩ | exact ⟨by rw [if_pos hy, show t.toNat = kT n kI by omega], rfl⟩
  ·
    have hno := KX_no hkindOf1 (by omega)
    refine v_iconst (pc' := 12) rfl dX11_size_11 ?_
    refine v_goto (tgt := 21) dX11_size_12 (by decide) ?_
    refine v_iret dX11_size_21 (by decide) (rfl) ?_
    first | exact ⟨by rw [if_neg hno], rfl⟩ | exact ⟨by rw [if_pos hy, show t.toNat = kT n kI by omega], rfl⟩
theorem comm_iff {n : Nat} {f g : Nat → Nat} (h7 : n ≤ 7) (hf : Pm n f) (hg : Pm n g) : commB f g 7 = true ↔ pcomp f g = pcomp g f := by
  have key : ∀ k, commB f g k = true ↔ ∀ x, 1 ≤ x → x ≤ k → g (f x) = f (g x) := fun k => by
    induction k with
    | zero => exact ⟨fun _ x a b => by omega, fun _ => rfl⟩
    | succ k ih =>
      simp only [commB, Bool.and_eq_true, beq_iff_eq]
      rw [ih]
      constructor
      · rintro ⟨h, e⟩ x a b
        by_cases q : x = k + 1
        · rw [q]; exact e
        · exact h x a (by omega)
      · intro h
        exact ⟨fun x a b => h x a (by omega), h (k + 1) (by omega) (Nat.le_refl _)⟩
  rw [key 7]
  constructor
  · intro h
    exact (hf.comp hg).ext7 (hg.comp hf) h7 h7 (fun x a b => h x a b)
  · intro h x _ _
    exact congrFun h x
set_option maxHeartbeats 4000000 in
set_option maxRecDepth 100000 in
theorem c_reckonM (l : Launch) (G : Gx) {op p q : Int} (ho : rg op) (hp : rg p) (hq : rg q) {n : Nat} {s a : Nat → Nat} (hV : MapV n s a) (w : Wd) (hM : RMW w n s a) (hR : RTab w n) : Sp l G 3 mX11_reckon [aR 63, aI (op), aI (p), aI (q)] w (fun z w' => Scr w w' ∧ RK n op p q z) := by
  obtain ⟨⟨hn1, hn7⟩, hs, ha⟩ := id hV
  obtain ⟨r0, r1, r2⟩ := id hM
  obtain ⟨r3, r4, rPK, rTK⟩ := id hR
  have hfc := fac_le hn1 hn7
  have hk15 := kmany_le n hn7
  refine Sp_of RX11 rfl (by decide +kernel) rfl (Nat.le_of_ble_eq_true rfl) ?_
  refine v_iload_n 1 (pc' := 1) rfl dX11_reckon_0 rfl rfl ?_
  refine v_iconst (pc' := 2) rfl dX11_reckon_1 ?_
  refine v_iconst (pc' := 3) rfl dX11_reckon_2 ?_
  refine v_cSP (pc' := 6) rfl dX11_reckon_3 lk_RX11_121 rfl (c_in l G ho (by decide) (by decide) w) rfl rfl rfl ?_
  refine v_nm (fun in1 hin1 => ?_)
  refine v_if_eq (pc' := 9) (tgt := 25) rfl dX11_reckon_6 (by decide) (inB_r hin1) (fun c0 => ?_) (fun c0 => ?_)
  ·
    have nq := inB_0 hin1 (by omega)
    have hz : RK n op p q (-1) := by
      by_cases h : ∃ f g, Pm n f ∧ Pm n g ∧ (cdk f n : Int) = p ∧ (cdk g n : Int) = q
      · obtain ⟨f, g, a1, a2, a3, a4⟩ := h
        exact Or.inr ⟨f, g, a1, a2, a3, a4, by unfold rkI; rw [if_neg (by omega), if_neg (by omega), if_neg (by omega), if_neg (by omega)]⟩
      · exact Or.inl ⟨rfl, h⟩
    refine v_iconst (pc' := 26) rfl dX11_reckon_25 ?_
    refine v_iret dX11_reckon_26 (by decide) (rfl) ?_
    first | exact ⟨Scr.rf _, hz⟩ | exact ⟨Scr.of f4 (by decide), Or.inr ⟨f, g, hf, hg, hfp, hgp, by rw [hr]; exact z4⟩⟩ | exact ⟨Scr.of f5 (by decide), Or.inr ⟨f, g, hf, hg, hfp, hgp, by rw [hr]; exact z5⟩⟩ | exact ⟨Scr.of ((((f6.trs f7).trs f8).trs f9).trs f10) (by decide), Or.inr ⟨f, g, hf, hg, hfp, hgp, by rw [hr]; exact z10⟩⟩ | exact ⟨Scr.of (f11.trs f12) (by decide), Or.inr ⟨f, g, hf, hg, hfp, hgp, by rw [hr, if_neg hb]⟩⟩ | exact ⟨Scr.of (f11.trs f12) (by decide), Or.inr ⟨f, g, hf, hg, hfp, hgp, by rw [hr, if_pos hb]⟩⟩
  ·
    have yq := inB_1 hin1 (by omega)
    refine v_aload_n 0 (pc' := 10) rfl dX11_reckon_9 rfl rfl ?_
    refine v_iload_n 2 (pc' := 11) rfl dX11_reckon_10 rfl rfl ?_
    refine v_cVR (pc' := 14) rfl dX11_reckon_11 lk_RX11_197 ly_63 rfl (c_isCode l G hp hn1 hn7 w r0) rfl rfl rfl (fun isCode1 hisCode1 => ?_)
    refine v_if_eq (pc' := 17) (tgt := 25) rfl dX11_reckon_14 (by decide) (IsP_r hisCode1) (fun c1 => ?_) (fun c1 => ?_)
    ·
      have h0 := IsP_0 hisCode1 (by omega)
      have hz : RK n op p q (-1) := Or.inl ⟨rfl, fun ⟨f, g, a1, a2, a3, a4⟩ => h0 f a1 a3⟩
      refine v_iconst (pc' := 26) rfl dX11_reckon_25 ?_
      refine v_iret dX11_reckon_26 (by decide) (rfl) ?_
      first | exact ⟨Scr.rf _, hz⟩ | exact ⟨Scr.of f4 (by decide), Or.inr ⟨f, g, hf, hg, hfp, hgp, by rw [hr]; exact z4⟩⟩ | exact ⟨Scr.of f5 (by decide), Or.inr ⟨f, g, hf, hg, hfp, hgp, by rw [hr]; exact z5⟩⟩ | exact ⟨Scr.of ((((f6.trs f7).trs f8).trs f9).trs f10) (by decide), Or.inr ⟨f, g, hf, hg, hfp, hgp, by rw [hr]; exact z10⟩⟩ | exact ⟨Scr.of (f11.trs f12) (by decide), Or.inr ⟨f, g, hf, hg, hfp, hgp, by rw [hr, if_neg hb]⟩⟩ | exact ⟨Scr.of (f11.trs f12) (by decide), Or.inr ⟨f, g, hf, hg, hfp, hgp, by rw [hr, if_pos hb]⟩⟩
    ·
      obtain ⟨f, hf, hfp⟩ := IsP_1 hisCode1 (by omega)
      refine v_aload_n 0 (pc' := 18) rfl dX11_reckon_17 rfl rfl ?_
      refine v_iload_n 3 (pc' := 19) rfl dX11_reckon_18 rfl rfl ?_
      refine v_cVR (pc' := 22) rfl dX11_reckon_19 lk_RX11_197 ly_63 rfl (c_isCode l G hq hn1 hn7 w r0) rfl rfl rfl (fun isCode2 hisCode2 => ?_)
      refine v_if_ne (pc' := 25) (tgt := 27) rfl dX11_reckon_22 (by decide) (IsP_r hisCode2) (fun c2 => ?_) (fun c2 => ?_)
      ·
        obtain ⟨g, hg, hgp⟩ := IsP_1 hisCode2 (by omega)
        refine v_iload_n 1 (pc' := 28) rfl dX11_reckon_27 rfl rfl ?_
        rcases (show op = 0 ∨ op = 1 ∨ op = 2 ∨ (op < 0 ∨ 2 < op) by omega) with sw0 | sw0 | sw0 | sw0
        ·
          refine v_tin (tgt := 56) 0 dX11_reckon_28 sw0 (by decide) (by decide) (by decide) rfl (by decide) ?_
          have hr : rkI n op f g = (cdk (pcomp f g) n : Int) := by unfold rkI; rw [if_pos sw0]
          refine v_aload_n 0 (pc' := 57) rfl dX11_reckon_56 rfl rfl ?_
          refine v_iload_n 2 (pc' := 58) rfl dX11_reckon_57 rfl rfl ?_
          refine v_iload_n 3 (pc' := 59) rfl dX11_reckon_58 rfl rfl ?_
          refine v_cVi (pc' := 62) rfl dX11_reckon_59 lk_RX11_141 ly_63 rfl (c_thenM l G hfp.symm hgp.symm hf hg hn1 hn7 w r0) rfl rfl rfl (fun then1 w4 hq4 => ?_)
          obtain ⟨f4, z4⟩ := hq4
          have r0 : w4 63 0 = (n : Int) := (f4 63 0 (by decide)).trans r0
          have r1 : w4 63 1 = ((cdk s n : Nat) : Int) := (f4 63 1 (by decide)).trans r1
          have r2 : w4 63 2 = ((cdk a n : Nat) : Int) := (f4 63 2 (by decide)).trans r2
          have r3 : w4 63 3 = ((facN n : Nat) : Int) := (f4 63 3 (by decide)).trans r3
          have r4 : w4 63 4 = ((kmany n : Nat) : Int) := (f4 63 4 (by decide)).trans r4
          refine v_iret dX11_reckon_62 (by decide) (rfl) ?_
          first | exact ⟨Scr.rf _, hz⟩ | exact ⟨Scr.of f4 (by decide), Or.inr ⟨f, g, hf, hg, hfp, hgp, by rw [hr]; exact z4⟩⟩ | exact ⟨Scr.of f5 (by decide), Or.inr ⟨f, g, hf, hg, hfp, hgp, by rw [hr]; exact z5⟩⟩ | exact ⟨Scr.of ((((f6.trs f7).trs f8).trs f9).trs f10) (by decide), Or.inr ⟨f, g, hf, hg, hfp, hgp, by rw [hr]; exact z10⟩⟩ | exact ⟨Scr.of (f11.trs f12) (by decide), Or.inr ⟨f, g, hf, hg, hfp, hgp, by rw [hr, if_neg hb]⟩⟩ | exact ⟨Scr.of (f11.trs f12) (by decide), Or.inr ⟨f, g, hf, hg, hfp, hgp, by rw [hr, if_pos hb]⟩⟩
        ·
          refine v_tin (tgt := 63) 1 dX11_reckon_28 sw0 (by decide) (by decide) (by decide) rfl (by decide) ?_
          have hr : rkI n op f g = (cdk (pconj f g) n : Int) := by unfold rkI; rw [if_neg (by omega), if_pos sw0]
          refine v_aload_n 0 (pc' := 64) rfl dX11_reckon_63 rfl rfl ?_
          refine v_iload_n 2 (pc' := 65) rfl dX11_reckon_64 rfl rfl ?_
          refine v_iload_n 3 (pc' := 66) rfl dX11_reckon_65 rfl rfl ?_
          refine v_cVi (pc' := 69) rfl dX11_reckon_66 lk_RX11_252 ly_63 rfl (c_relabelledM l G hfp.symm hgp.symm hf hg hn1 hn7 w r0) rfl rfl rfl (fun relabelled1 w5 hq5 => ?_)
          obtain ⟨f5, z5⟩ := hq5
          refine v_iret dX11_reckon_69 (by decide) (rfl) ?_
          first | exact ⟨Scr.rf _, hz⟩ | exact ⟨Scr.of f4 (by decide), Or.inr ⟨f, g, hf, hg, hfp, hgp, by rw [hr]; exact z4⟩⟩ | exact ⟨Scr.of f5 (by decide), Or.inr ⟨f, g, hf, hg, hfp, hgp, by rw [hr]; exact z5⟩⟩ | exact ⟨Scr.of ((((f6.trs f7).trs f8).trs f9).trs f10) (by decide), Or.inr ⟨f, g, hf, hg, hfp, hgp, by rw [hr]; exact z10⟩⟩ | exact ⟨Scr.of (f11.trs f12) (by decide), Or.inr ⟨f, g, hf, hg, hfp, hgp, by rw [hr, if_neg hb]⟩⟩ | exact ⟨Scr.of (f11.trs f12) (by decide), Or.inr ⟨f, g, hf, hg, hfp, hgp, by rw [hr, if_pos hb]⟩⟩
        ·
          refine v_tin (tgt := 70) 2 dX11_reckon_28 sw0 (by decide) (by decide) (by decide) rfl (by decide) ?_
          have hr : rkI n op f g = (cdk (pcomp (pcomp (pinv f) (pinv g)) (pcomp f g)) n : Int) := by unfold rkI; rw [if_neg (by omega), if_neg (by omega), if_pos sw0]
          refine v_aload_n 0 (pc' := 71) rfl dX11_reckon_70 rfl rfl ?_
          refine v_aload_n 0 (pc' := 72) rfl dX11_reckon_71 rfl rfl ?_
          refine v_aload_n 0 (pc' := 73) rfl dX11_reckon_72 rfl rfl ?_
          refine v_iload_n 2 (pc' := 74) rfl dX11_reckon_73 rfl rfl ?_
          refine v_cVi (pc' := 77) rfl dX11_reckon_74 lk_RX11_145 ly_63 rfl (c_backM l G hfp.symm hf hn1 hn7 w r0) rfl rfl rfl (fun back1 w6 hq6 => ?_)
          obtain ⟨f6, z6⟩ := hq6
          have r0 : w6 63 0 = (n : Int) := (f6 63 0 (by decide)).trans r0
          have r1 : w6 63 1 = ((cdk s n : Nat) : Int) := (f6 63 1 (by decide)).trans r1
          have r2 : w6 63 2 = ((cdk a n : Nat) : Int) := (f6 63 2 (by decide)).trans r2
          have r3 : w6 63 3 = ((facN n : Nat) : Int) := (f6 63 3 (by decide)).trans r3
          have r4 : w6 63 4 = ((kmany n : Nat) : Int) := (f6 63 4 (by decide)).trans r4
          refine v_aload_n 0 (pc' := 78) rfl dX11_reckon_77 rfl rfl ?_
          refine v_iload_n 3 (pc' := 79) rfl dX11_reckon_78 rfl rfl ?_
          refine v_cVi (pc' := 82) rfl dX11_reckon_79 lk_RX11_145 ly_63 rfl (c_backM l G hgp.symm hg hn1 hn7 w6 r0) rfl rfl rfl (fun back2 w7 hq7 => ?_)
          obtain ⟨f7, z7⟩ := hq7
          have r0 : w7 63 0 = (n : Int) := (f7 63 0 (by decide)).trans r0
          have r1 : w7 63 1 = ((cdk s n : Nat) : Int) := (f7 63 1 (by decide)).trans r1
          have r2 : w7 63 2 = ((cdk a n : Nat) : Int) := (f7 63 2 (by decide)).trans r2
          have r3 : w7 63 3 = ((facN n : Nat) : Int) := (f7 63 3 (by decide)).trans r3
          have r4 : w7 63 4 = ((kmany n : Nat) : Int) := (f7 63 4 (by decide)).trans r4
          refine v_cVi (pc' := 85) rfl dX11_reckon_82 lk_RX11_141 ly_63 rfl (c_thenM l G z6 z7 (hf.inv hn7) (hg.inv hn7) hn1 hn7 w7 r0) rfl rfl rfl (fun then2 w8 hq8 => ?_)
          obtain ⟨f8, z8⟩ := hq8
          have r0 : w8 63 0 = (n : Int) := (f8 63 0 (by decide)).trans r0
          have r1 : w8 63 1 = ((cdk s n : Nat) : Int) := (f8 63 1 (by decide)).trans r1
          have r2 : w8 63 2 = ((cdk a n : Nat) : Int) := (f8 63 2 (by decide)).trans r2
          have r3 : w8 63 3 = ((facN n : Nat) : Int) := (f8 63 3 (by decide)).trans r3
          have r4 : w8 63 4 = ((kmany n : Nat) : Int) := (f8 63 4 (by decide)).trans r4
          refine v_aload_n 0 (pc' := 86) rfl dX11_reckon_85 rfl rfl ?_
          refine v_iload_n 2 (pc' := 87) rfl dX11_reckon_86 rfl rfl ?_
          refine v_iload_n 3 (pc' := 88) rfl dX11_reckon_87 rfl rfl ?_
          refine v_cVi (pc' := 91) rfl dX11_reckon_88 lk_RX11_141 ly_63 rfl (c_thenM l G hfp.symm hgp.symm hf hg hn1 hn7 w8 r0) rfl rfl rfl (fun then3 w9 hq9 => ?_)
          obtain ⟨f9, z9⟩ := hq9
          have r0 : w9 63 0 = (n : Int) := (f9 63 0 (by decide)).trans r0
          have r1 : w9 63 1 = ((cdk s n : Nat) : Int) := (f9 63 1 (by decide)).trans r1
          have r2 : w9 63 2 = ((cdk a n : Nat) : Int) := (f9 63 2 (by decide)).trans r2
          have r3 : w9 63 3 = ((facN n : Nat) : Int) := (f9 63 3 (by decide)).trans r3
          have r4 : w9 63 4 = ((kmany n : Nat) : Int) := (f9 63 4 (by decide)).trans r4
          refine v_cVi (pc' := 94) rfl dX11_reckon_91 lk_RX11_141 ly_63 rfl (c_thenM l G z8 z9 ((hf.inv hn7).comp (hg.inv hn7)) (hf.comp hg) hn1 hn7 w9 r0) rfl rfl rfl (fun then4 w10 hq10 => ?_)
          obtain ⟨f10, z10⟩ := hq10
          have r0 : w10 63 0 = (n : Int) := (f10 63 0 (by decide)).trans r0
          have r1 : w10 63 1 = ((cdk s n : Nat) : Int) := (f10 63 1 (by decide)).trans r1
          have r2 : w10 63 2 = ((cdk a n : Nat) : Int) := (f10 63 2 (by decide)).trans r2
          have r3 : w10 63 3 = ((facN n : Nat) : Int) := (f10 63 3 (by decide)).trans r3
          have r4 : w10 63 4 = ((kmany n : Nat) : Int) := (f10 63 4 (by decide)).trans r4
          refine v_iret dX11_reckon_94 (by decide) (rfl) ?_
          first | exact ⟨Scr.rf _, hz⟩ | exact ⟨Scr.of f4 (by decide), Or.inr ⟨f, g, hf, hg, hfp, hgp, by rw [hr]; exact z4⟩⟩ | exact ⟨Scr.of f5 (by decide), Or.inr ⟨f, g, hf, hg, hfp, hgp, by rw [hr]; exact z5⟩⟩ | exact ⟨Scr.of ((((f6.trs f7).trs f8).trs f9).trs f10) (by decide), Or.inr ⟨f, g, hf, hg, hfp, hgp, by rw [hr]; exact z10⟩⟩ | exact ⟨Scr.of (f11.trs f12) (by decide), Or.inr ⟨f, g, hf, hg, hfp, hgp, by rw [hr, if_neg hb]⟩⟩ | exact ⟨Scr.of (f11.trs f12) (by decide), Or.inr ⟨f, g, hf, hg, hfp, hgp, by rw [hr, if_pos hb]⟩⟩
        ·
          refine v_tout (tgt := 95) dX11_reckon_28 (by omega) sw0 (by decide) ?_
          have hr : rkI n op f g = (if commB f g 7 then 1 else 0) := by unfold rkI; rw [if_neg (by omega), if_neg (by omega), if_neg (by omega), if_pos (by omega)]
          refine v_aload_n 0 (pc' := 96) rfl dX11_reckon_95 rfl rfl ?_
          refine v_iload_n 2 (pc' := 97) rfl dX11_reckon_96 rfl rfl ?_
          refine v_iload_n 3 (pc' := 98) rfl dX11_reckon_97 rfl rfl ?_
          refine v_cVi (pc' := 101) rfl dX11_reckon_98 lk_RX11_141 ly_63 rfl (c_thenM l G hfp.symm hgp.symm hf hg hn1 hn7 w r0) rfl rfl rfl (fun then5 w11 hq11 => ?_)
          obtain ⟨f11, z11⟩ := hq11
          have r0 : w11 63 0 = (n : Int) := (f11 63 0 (by decide)).trans r0
          have r1 : w11 63 1 = ((cdk s n : Nat) : Int) := (f11 63 1 (by decide)).trans r1
          have r2 : w11 63 2 = ((cdk a n : Nat) : Int) := (f11 63 2 (by decide)).trans r2
          have r3 : w11 63 3 = ((facN n : Nat) : Int) := (f11 63 3 (by decide)).trans r3
          have r4 : w11 63 4 = ((kmany n : Nat) : Int) := (f11 63 4 (by decide)).trans r4
          refine v_aload_n 0 (pc' := 102) rfl dX11_reckon_101 rfl rfl ?_
          refine v_iload_n 3 (pc' := 103) rfl dX11_reckon_102 rfl rfl ?_
          refine v_iload_n 2 (pc' := 104) rfl dX11_reckon_103 rfl rfl ?_
          refine v_cVi (pc' := 107) rfl dX11_reckon_104 lk_RX11_141 ly_63 rfl (c_thenM l G hgp.symm hfp.symm hg hf hn1 hn7 w11 r0) rfl rfl rfl (fun then6 w12 hq12 => ?_)
          obtain ⟨f12, z12⟩ := hq12
          have r0 : w12 63 0 = (n : Int) := (f12 63 0 (by decide)).trans r0
          have r1 : w12 63 1 = ((cdk s n : Nat) : Int) := (f12 63 1 (by decide)).trans r1
          have r2 : w12 63 2 = ((cdk a n : Nat) : Int) := (f12 63 2 (by decide)).trans r2
          have r3 : w12 63 3 = ((facN n : Nat) : Int) := (f12 63 3 (by decide)).trans r3
          have r4 : w12 63 4 = ((kmany n : Nat) : Int) := (f12 63 4 (by decide)).trans r4
          refine v_icmp_ne (pc' := 110) (tgt := 114) rfl dX11_reckon_107 (by decide) (by have := cd_le (hf.comp hg) hn7 (Nat.le_refl n); omega) (by have := cd_le (hg.comp hf) hn7 (Nat.le_refl n); omega) (fun c3 => ?_) (fun c3 => ?_)
          ·
            have hb : ¬ commB f g 7 = true := fun e => by
              have := (comm_iff hn7 hf hg).mp e
              rw [this] at z11; omega
            refine v_iconst (pc' := 115) rfl dX11_reckon_114 ?_
            refine v_iret dX11_reckon_115 (by decide) (rfl) ?_
            first | exact ⟨Scr.rf _, hz⟩ | exact ⟨Scr.of f4 (by decide), Or.inr ⟨f, g, hf, hg, hfp, hgp, by rw [hr]; exact z4⟩⟩ | exact ⟨Scr.of f5 (by decide), Or.inr ⟨f, g, hf, hg, hfp, hgp, by rw [hr]; exact z5⟩⟩ | exact ⟨Scr.of ((((f6.trs f7).trs f8).trs f9).trs f10) (by decide), Or.inr ⟨f, g, hf, hg, hfp, hgp, by rw [hr]; exact z10⟩⟩ | exact ⟨Scr.of (f11.trs f12) (by decide), Or.inr ⟨f, g, hf, hg, hfp, hgp, by rw [hr, if_neg hb]⟩⟩ | exact ⟨Scr.of (f11.trs f12) (by decide), Or.inr ⟨f, g, hf, hg, hfp, hgp, by rw [hr, if_pos hb]⟩⟩
          ·
            have hb : commB f g 7 = true := (comm_iff hn7 hf hg).mpr ((cd_inj (hf.comp hg) (hg.comp hf) hn7).mp (by omega))
            refine v_iconst (pc' := 111) rfl dX11_reckon_110 ?_
            refine v_goto (tgt := 115) dX11_reckon_111 (by decide) ?_
            refine v_iret dX11_reckon_115 (by decide) (rfl) ?_
            first | exact ⟨Scr.rf _, hz⟩ | exact ⟨Scr.of f4 (by decide), Or.inr ⟨f, g, hf, hg, hfp, hgp, by rw [hr]; exact z4⟩⟩ | exact ⟨Scr.of f5 (by decide), Or.inr ⟨f, g, hf, hg, hfp, hgp, by rw [hr]; exact z5⟩⟩ | exact ⟨Scr.of ((((f6.trs f7).trs f8).trs f9).trs f10) (by decide), Or.inr ⟨f, g, hf, hg, hfp, hgp, by rw [hr]; exact z10⟩⟩ | exact ⟨Scr.of (f11.trs f12) (by decide), Or.inr ⟨f, g, hf, hg, hfp, hgp, by rw [hr, if_neg hb]⟩⟩ | exact ⟨Scr.of (f11.trs f12) (by decide), Or.inr ⟨f, g, hf, hg, hfp, hgp, by rw [hr, if_pos hb]⟩⟩
      ·
        have h0 := IsP_0 hisCode2 (by omega)
        have hz : RK n op p q (-1) := Or.inl ⟨rfl, fun ⟨f, g, a1, a2, a3, a4⟩ => h0 g a2 a4⟩
        refine v_iconst (pc' := 26) rfl dX11_reckon_25 ?_
        refine v_iret dX11_reckon_26 (by decide) (rfl) ?_
        first | exact ⟨Scr.rf _, hz⟩ | exact ⟨Scr.of f4 (by decide), Or.inr ⟨f, g, hf, hg, hfp, hgp, by rw [hr]; exact z4⟩⟩ | exact ⟨Scr.of f5 (by decide), Or.inr ⟨f, g, hf, hg, hfp, hgp, by rw [hr]; exact z5⟩⟩ | exact ⟨Scr.of ((((f6.trs f7).trs f8).trs f9).trs f10) (by decide), Or.inr ⟨f, g, hf, hg, hfp, hgp, by rw [hr]; exact z10⟩⟩ | exact ⟨Scr.of (f11.trs f12) (by decide), Or.inr ⟨f, g, hf, hg, hfp, hgp, by rw [hr, if_neg hb]⟩⟩ | exact ⟨Scr.of (f11.trs f12) (by decide), Or.inr ⟨f, g, hf, hg, hfp, hgp, by rw [hr, if_pos hb]⟩⟩

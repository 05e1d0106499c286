/-! ===== Census: tally ===== -/
theorem c_prepare (l : Launch) (G : Gx) {n0 : Int} {n : Nat} (hn : n0 = n) (hn1 : 1 ≤ n) (hn7 : n ≤ 7) (w : Wd) (hr : rg (w 19 2)) : Sp l G 3 mX1_prepare [aR 19, aI n0] w (fun _ w' => (w 19 2 = n ∧ w' = w) ∨ (w 19 2 ≠ n ∧ CP w' n ∧ w' 19 6 = 0 ∧ w' 19 11 = 0 ∧ Fr [19, 20, 21] w w')) := by
  by_cases h : w 19 2 = n
  · exact (c_prepHit l G hn hn7 w h).mono (fun z w' e => Or.inl ⟨h, e⟩)
  · exact (c_prepMiss l G hn hn1 hn7 w hr h).mono (fun z w' e => Or.inr ⟨h, e⟩)
theorem tPA_no {n t2 t3 i : Nat} {s : Nat → Nat} (h : ¬ kindN (pn n i) n = t2) : tPA n s t2 t3 i = false := by unfold tPA; rw [beq_false_of_ne h]; rfl
theorem tPC_no {n t2 t3 i : Nat} {s : Nat → Nat} (h : ¬ kindN (pn n i) n = t2) : tPC n s t2 t3 i = false := by unfold tPC; rw [tPA_no h]; rfl
theorem tPA_yes {n t2 t3 i : Nat} {s : Nat → Nat} (h : kindN (pn n i) n = t2) : tPA n s t2 t3 i = (kindN (pcomp s (pn n i)) n == t3) := by unfold tPA; rw [h, beq_self_eq_true, Bool.true_and]
theorem tPC_yes {n t2 t3 i : Nat} {s : Nat → Nat} (h : kindN (pn n i) n = t2) : tPC n s t2 t3 i = ((kindN (pcomp s (pn n i)) n == t3) && joinB s (pn n i) n) := by unfold tPC; rw [tPA_yes h]
def opnB (n : Nat) (s : Nat → Nat) (t2 t3 i : Nat) : Bool := (kindN (pn n i) n == t2 && (joinB s (pn n i) n && kindN (pcomp s (pn n i)) n == t3)) && (gathL n s s).all (fun r => Nat.ble i (rankN (pconj (pn n i) r) n))
def opnL (n : Nat) (s : Nat → Nat) (t2 t3 k : Nat) : List Nat := (List.range k).filter (opnB n s t2 t3)
def autN (n : Nat) (s a : Nat → Nat) : Nat := cntG (fun r => hx (pconj a r) == hx a) (gathL n s s) (gathL n s s).length
def CLW (w : Wd) (n i1 i2 i3 k : Nat) : Prop := w 19 14 = ((opnL n (leastF (kT n i1) n) (kT n i2) (kT n i3) k).length : Nat) ∧ w 19 15 = (hx (leastF (kT n i1) n) : Nat) ∧ ∀ j, j < (opnL n (leastF (kT n i1) n) (kT n i2) (kT n i3) k).length → w 25 j = (hx (pn n ((opnL n (leastF (kT n i1) n) (kT n i2) (kT n i3) k).getD j 0)) : Nat) ∧ w 26 j = (autN n (leastF (kT n i1) n) (pn n ((opnL n (leastF (kT n i1) n) (kT n i2) (kT n i3) k).getD j 0)) : Nat)
def TalOK (w : Wd) (n : Nat) : Prop := w 19 6 = 0 ∨ ∃ i1 i2, (i1 < kmany n ∧ i2 < kmany n) ∧ w 19 6 = (kT n i1 : Nat) ∧ w 19 7 = (kT n i2 : Nat) ∧ CT w n i1 i2 (facN n)
def LisOK (w : Wd) (n : Nat) : Prop := w 19 11 = 0 ∨ ∃ i1 i2 i3, (i1 < kmany n ∧ i2 < kmany n ∧ i3 < kmany n) ∧ w 19 11 = (kT n i1 : Nat) ∧ w 19 12 = (kT n i2 : Nat) ∧ w 19 13 = (kT n i3 : Nat) ∧ CLW w n i1 i2 i3 (facN n)
def CInv (w : Wd) : Prop := w 19 2 = 0 ∨ ∃ n, (1 ≤ n ∧ n ≤ 7) ∧ CP w n ∧ TalOK w n ∧ LisOK w n
theorem CInv.rg {w : Wd} (h : CInv w) : rg (w 19 2) := by
  rcases h with h | ⟨n, hn, hc, -⟩
  · omega
  · have := hc.1; omega
theorem CInv.prep {w w' : Wd} {n : Nat} (hn1 : 1 ≤ n) (h : CInv w) (h2 : (w 19 2 = n ∧ w' = w) ∨ (w 19 2 ≠ n ∧ CP w' n ∧ w' 19 6 = 0 ∧ w' 19 11 = 0 ∧ Fr [19, 20, 21] w w')) : CP w' n ∧ TalOK w' n ∧ LisOK w' n ∧ Fr [19, 20, 21] w w' := by
  rcases h2 with ⟨e, rfl⟩ | ⟨-, a, b, c, d⟩
  · rcases h with h | ⟨m, hm, hc, ht, hl⟩
    · omega
    · have : m = n := by have := hc.1; omega
      subst this
      exact ⟨hc, ht, hl, Fr.rf _ _⟩
  · exact ⟨a, Or.inl b, Or.inl c, d⟩
theorem CP.fr {w w' : Wd} {n : Nat} (h : CP w n) (h1 : w' 19 2 = w 19 2) (h2 : w' 19 3 = w 19 3) (h3 : ∀ j, w' 20 j = w 20 j ∧ w' 21 j = w 21 j) : CP w' n := ⟨by rw [h1]; exact h.1, by rw [h2]; exact h.2.1, fun i hi => by rw [(h3 i).1, (h3 i).2]; exact h.2.2 i hi⟩
theorem LisOK.fr {w w' : Wd} {n : Nat} (h : LisOK w n) (h1 : ∀ j, 11 ≤ j → w' 19 j = w 19 j) (h3 : ∀ j, w' 25 j = w 25 j ∧ w' 26 j = w 26 j) : LisOK w' n := by
  unfold LisOK CLW at *
  rw [h1 11 (by omega), h1 12 (by omega), h1 13 (by omega), h1 14 (by omega), h1 15 (by omega)]
  simp only [h3]
  exact h
set_option maxHeartbeats 4000000 in
set_option maxRecDepth 100000 in
theorem c_tally (l : Launch) (G : Gx) {n0 t1 t2 : Int} {n i1 i2 : Nat} (hn : n0 = n) (hn1 : 1 ≤ n) (hn7 : n ≤ 7) (h1 : i1 < kmany n) (h2 : i2 < kmany n) (ht1 : t1 = (kT n i1 : Nat)) (ht2 : t2 = (kT n i2 : Nat)) (w : Wd) (hI : CInv w) : Sp l G 5 mX1_tally [aR 19, aI (n0), aI (t1), aI (t2)] w (fun _ w' => CP w' n ∧ (w' 19 6 = (kT n i1 : Nat) ∧ w' 19 7 = (kT n i2 : Nat)) ∧ CT w' n i1 i2 (facN n) ∧ LisOK w' n ∧ Fr [19, 20, 21, 22, 23] w w') := by
  have hk1 := kT_le hn7 h1
  have hk2 := kT_le hn7 h2
  have hmk := ((frst_ok n (by omega)).2.2 hn1).2
  have hfl := fac_le hn1 hn7
  have hs := lp_pm hn7 h1
  refine Sp_of RX1 rfl (by decide +kernel) rfl (Nat.le_of_ble_eq_true rfl) ?_
  refine v_aload_n 0 (pc' := 1) rfl dX1_tally_0 rfl rfl ?_
  refine v_iload_n 1 (pc' := 2) rfl dX1_tally_1 rfl rfl ?_
  refine v_cVv (pc' := 5) rfl dX1_tally_2 lk_RX1_63 ly_19 rfl (c_prepare l G hn hn1 hn7 w hI.rg) rfl rfl rfl (fun prepare1 w1 hq1 => ?_)
  obtain ⟨hP1, hT1, hL1, hf1⟩ := hI.prep hn1 hq1
  have hr6 : rg (w1 19 6) := by
    rcases hT1 with h | ⟨j1, j2, ⟨a, b⟩, c, -⟩
    · omega
    · have := kT_le hn7 a; omega
  have hr7 : w1 19 6 = t1 → rg (w1 19 7) := fun e => by
    rcases hT1 with h | ⟨j1, j2, ⟨a, b⟩, c, d, -⟩
    · omega
    · have := kT_le hn7 b; omega
  refine v_aload_n 0 (pc' := 6) rfl dX1_tally_5 rfl rfl ?_
  refine v_get (pc' := 9) rfl dX1_tally_6 fk_RX1_47 ly_19 rfl rfl ?_
  refine v_iload_n 2 (pc' := 10) rfl dX1_tally_9 rfl rfl ?_
  refine v_icmp_ne (pc' := 13) (tgt := 22) rfl dX1_tally_10 (by decide) (hr6) (by omega) (fun c0 => ?_) (fun c0 => ?_)
  ·
    refine v_aload_n 0 (pc' := 23) rfl dX1_tally_22 rfl rfl ?_
    refine v_iload_n 2 (pc' := 24) rfl dX1_tally_23 rfl rfl ?_
    refine v_put (pc' := 27) rfl dX1_tally_24 fi_RX1_47 ly_19 rfl ?_
    refine v_nmw (fun w2 hw2 => ?_)
    refine v_aload_n 0 (pc' := 28) rfl dX1_tally_27 rfl rfl ?_
    refine v_iload_n 3 (pc' := 29) rfl dX1_tally_28 rfl rfl ?_
    refine v_put (pc' := 32) rfl dX1_tally_29 fi_RX1_67 ly_19 rfl ?_
    refine v_nmw (fun w3 hw3 => ?_)
    refine v_iconst (pc' := 33) rfl dX1_tally_32 ?_
    refine v_istore (ls' := [(4, _), (0, _), (1, _), (2, _), (3, _)]) (pc' := 35) rfl dX1_tally_33 rfl rfl ?_
    refine v_ls [1, 2, 3, 4, 0] rfl ?_
    refine v_loop2 35 (fun (i : Int) (wl : Wd) => ∃ k : Nat, i = k ∧ k ≤ 15 ∧ (∀ j, j < k → wl 22 j = 0 ∧ wl 23 j = 0) ∧ (wl 19 6 = (kT n i1 : Nat) ∧ wl 19 7 = (kT n i2 : Nat)) ∧ (∀ j, j ≠ 6 → j ≠ 7 → wl 19 j = w1 19 j) ∧ Fr [19, 22, 23] w1 wl) (fun (i : Int) (wl : Wd) => (15 - i).toNat) (fun (i : Int) (wl : Wd) => [(0, aR 19), (1, aI (n0)), (2, aI (t1)), (3, aI (t2)), (4, aI (i))]) (fun (i : Int) (wl : Wd) => []) (fun (i : Int) (wl : Wd) => wl) (fun i wl hI0 ih0 => ?_) (0) w3 (⟨0, rfl, by omega, fun j h => by omega, by simp [hw3, hw2, up_at, ht1, ht2], fun j a b => by rw [hw3, up_ne _ _ (by omega), hw2, up_ne _ _ (by omega)], by rw [hw3, hw2]; exact ((Fr.rf _ _).up rfl).up rfl⟩)
    obtain ⟨k, hi, hk, hA, hF, hU, hfl2⟩ := hI0
    have hik : i.toNat = k := by omega
    have g2 : wl 19 2 = n := by rw [hU 2 (by decide) (by decide)]; exact hP1.1
    refine v_iload 4 (pc' := 37) rfl dX1_tally_35 rfl ?_
    refine v_bipush (pc' := 39) rfl dX1_tally_37 rfl ?_
    refine v_icmp_ge (pc' := 42) (tgt := 64) rfl dX1_tally_39 (by decide) (by omega) (by omega) (fun c2 => ?_) (fun c2 => ?_)
    ·
      refine v_iload_n 2 (pc' := 65) rfl dX1_tally_64 rfl rfl ?_
      refine v_aload_n 0 (pc' := 66) rfl dX1_tally_65 rfl rfl ?_
      refine v_get (z := (n : Int)) (pc' := 69) rfl dX1_tally_66 fk_RX1_36 ly_19 rfl (g2) ?_
      refine v_cSP (pc' := 72) rfl dX1_tally_69 lk_RX1_70 rfl (c_least l G ht1 (by omega) (n := n) rfl hn1 hn7 (kt_ok n (by omega) i1 h1).1.2 wl) rfl rfl rfl ?_
      refine v_nm (fun least1 hleast1 => ?_)
      refine v_istore (ls' := [(4, _), (0, _), (1, _), (2, _), (3, _)]) (pc' := 74) rfl dX1_tally_72 rfl rfl ?_
      refine v_iconst (pc' := 75) rfl dX1_tally_74 ?_
      refine v_istore (ls' := [(5, _), (4, _), (0, _), (1, _), (2, _), (3, _)]) (pc' := 77) rfl dX1_tally_75 rfl rfl ?_
      refine v_ls [2, 3, 4, 5, 1, 0] rfl ?_
      refine v_loop2 77 (fun (i : Int) (wm : Wd) => ∃ k : Nat, i = k ∧ k ≤ facN n ∧ CT wm n i1 i2 k ∧ (wm 19 6 = (kT n i1 : Nat) ∧ wm 19 7 = (kT n i2 : Nat)) ∧ (∀ j, j ≠ 6 → j ≠ 7 → wm 19 j = w1 19 j) ∧ Fr [19, 22, 23] w1 wm) (fun (i : Int) (wm : Wd) => ((facN n : Int) - i).toNat) (fun (i : Int) (wm : Wd) => [(0, aR 19), (1, aI (n0)), (2, aI (t1)), (3, aI (t2)), (4, aI (least1)), (5, aI (i))]) (fun (i : Int) (wm : Wd) => []) (fun (i : Int) (wm : Wd) => wm) (fun i wm hI1 ih1 => ?_) (0) wl (⟨0, rfl, by omega, fun j hj => by have := hA j (by omega); rw [this.1, this.2]; exact ⟨rfl, rfl⟩, hF, hU, hfl2⟩)
      clear hA hF hU hfl2 g2 hik hk hi
      obtain ⟨k, hi, hk, hCT, hF, hU, hfl2⟩ := hI1
      have g2 : wm 19 2 = n := by rw [hU 2 (by decide) (by decide)]; exact hP1.1
      have g3 : wm 19 3 = (facN n : Nat) := by rw [hU 3 (by decide) (by decide)]; exact hP1.2.1
      refine v_iload 5 (pc' := 79) rfl dX1_tally_77 rfl ?_
      refine v_aload_n 0 (pc' := 80) rfl dX1_tally_79 rfl rfl ?_
      refine v_get (z := ((facN n : Nat) : Int)) (pc' := 83) rfl dX1_tally_80 fk_RX1_44 ly_19 rfl (g3) ?_
      refine v_icmp_ge (pc' := 86) (tgt := 124) rfl dX1_tally_83 (by decide) (by omega) (by omega) (fun c3 => ?_) (fun c3 => ?_)
      ·
        refine v_vret dX1_tally_124 ?_
        have e : k = facN n := by omega
        rw [e] at hCT
        exact ⟨hP1.fr (hU 2 (by decide) (by decide)) (hU 3 (by decide) (by decide)) (fun j => ⟨hfl2 20 j rfl, hfl2 21 j rfl⟩), hF, hCT, hL1.fr (fun j hj => hU j (by omega) (by omega)) (fun j => ⟨hfl2 25 j rfl, hfl2 26 j rfl⟩), (hf1.mono (by decide)).trs (hfl2.mono (by decide))⟩
      ·
        refine v_iload 5 (pc' := 88) rfl dX1_tally_86 rfl ?_
        refine v_sipush (pc' := 91) rfl dX1_tally_88 rfl ?_
        refine v_icmp_ge (pc' := 94) (tgt := 124) rfl dX1_tally_91 (by decide) (by omega) (by omega) (fun c4 => ?_) (fun c4 => ?_)
        ·
          refine v_vret dX1_tally_124 ?_
          have e : k = facN n := by omega
          rw [e] at hCT
          exact ⟨hP1.fr (hU 2 (by decide) (by decide)) (hU 3 (by decide) (by decide)) (fun j => ⟨hfl2 20 j rfl, hfl2 21 j rfl⟩), hF, hCT, hL1.fr (fun j hj => hU j (by omega) (by omega)) (fun j => ⟨hfl2 25 j rfl, hfl2 26 j rfl⟩), (hf1.mono (by decide)).trs (hfl2.mono (by decide))⟩
        ·
          have hpk := pn_at hn1 hn7 (show k < facN n by omega)
          obtain ⟨it, hit, hkt⟩ := kf_type hn1 hn7 hpk.1
          refine v_aload_n 0 (pc' := 95) rfl dX1_tally_94 rfl rfl ?_
          refine v_getR (pc' := 98) rfl dX1_tally_95 fk_RX1_15 ly_19 rfl ?_
          refine v_iload 5 (pc' := 100) rfl dX1_tally_98 rfl ?_
          refine v_iald (z := ((kindN (pn n k) n : Nat) : Int)) (pc' := 101) rfl dX1_tally_100 ly_21 (by omega) (by omega) rfl (by rw [show i.toNat = k by omega, hfl2 21 k rfl]; exact (hP1.2.2 k (by omega)).2) ?_
          refine v_iload_n 3 (pc' := 102) rfl dX1_tally_101 rfl rfl ?_
          refine v_icmp_ne (pc' := 105) (tgt := 118) rfl dX1_tally_102 (by decide) (by have := kT_le hn7 hit; omega) (by omega) (fun c5 => ?_) (fun c5 => ?_)
          ·
            have hne : ¬ kindN (pn n k) n = kT n i2 := by omega
            refine v_iinc (ls' := [(5, _), (0, _), (1, _), (2, _), (3, _), (4, _)]) 5 (pc' := 121) rfl dX1_tally_118 rfl rfl rfl ?_
            refine v_nl (fun i' hi' => ?_)
            refine v_goto (tgt := 77) dX1_tally_121 (by decide) ?_
            refine v_ls [1, 2, 3, 4, 5, 0] rfl ?_
            exact ih1 (i') wm (⟨k + 1, by omega, by omega, fun x hx => by simp only [cntI]; rw [tPA_no hne, tPC_no hne]; simp; exact hCT x hx, hF, hU, hfl2⟩) (by omega)
          ·
            have heq : kindN (pn n k) n = kT n i2 := by omega
            obtain ⟨j, hj, hkj⟩ := kf_type hn1 hn7 (hs.comp hpk.1)
            have c2m := g2
            refine v_aload_n 0 (pc' := 106) rfl dX1_tally_105 rfl rfl ?_
            refine v_iload 4 (pc' := 108) rfl dX1_tally_106 rfl ?_
            refine v_aload_n 0 (pc' := 109) rfl dX1_tally_108 rfl rfl ?_
            refine v_getR (pc' := 112) rfl dX1_tally_109 fk_RX1_9 ly_19 rfl ?_
            refine v_iload 5 (pc' := 114) rfl dX1_tally_112 rfl ?_
            refine v_iald (z := ((hx (pn n k) : Nat) : Int)) (pc' := 115) rfl dX1_tally_114 ly_20 (by omega) (by omega) rfl (by rw [show i.toNat = k by omega, hfl2 20 k rfl]; exact (hP1.2.2 k (by omega)).1) ?_
            refine v_cVv (pc' := 118) rfl dX1_tally_115 lk_RX1_73 ly_19 rfl (c_tell l G hn1 hn7 hs hpk.1 hleast1 rfl hj hkj wm c2m) rfl rfl rfl (fun tell1 w7 hq7 => ?_)
            obtain ⟨hq8a, hq8b⟩ := hq7
            refine v_iinc (ls' := [(5, _), (0, _), (1, _), (2, _), (3, _), (4, _)]) 5 (pc' := 121) rfl dX1_tally_118 rfl rfl rfl ?_
            refine v_nl (fun i' hi' => ?_)
            refine v_goto (tgt := 77) dX1_tally_121 (by decide) ?_
            refine v_ls [1, 2, 3, 4, 5, 0] rfl ?_
            exact ih1 (i') w7 (⟨k + 1, by omega, by omega, fun x hx => by rw [(hq8a x).1, (hq8a x).2, (hCT x hx).1, (hCT x hx).2]; simp only [cntI]; rw [tPA_yes heq, tPC_yes heq, hkj]; by_cases e : x = j; (subst e; cases joinB (leastF (kT n i1) n) (pn n k) n <;> simp); (have : ¬ kT n j = kT n x := fun q => e (kT_inj n (by omega) j hj x hx q).symm; simp [e, this]), by rw [hq8b 19 6 rfl, hq8b 19 7 rfl]; exact hF, fun j a b => by rw [hq8b 19 j rfl]; exact hU j a b, hfl2.trs (hq8b.mono (by decide))⟩) (by omega)
    ·
      refine v_aload_n 0 (pc' := 43) rfl dX1_tally_42 rfl rfl ?_
      refine v_getR (pc' := 46) rfl dX1_tally_43 fk_RX1_20 ly_19 rfl ?_
      refine v_iload 4 (pc' := 48) rfl dX1_tally_46 rfl ?_
      refine v_iconst (pc' := 49) rfl dX1_tally_48 ?_
      refine v_iast (pc' := 50) rfl dX1_tally_49 ly_22 (by omega) (by omega) rfl ?_
      refine v_nmw (fun w4 hw4 => ?_)
      have g2 : w4 19 2 = (n : Int) := by rw [hw4, up_ne _ _ (by omega)]; exact g2
      refine v_aload_n 0 (pc' := 51) rfl dX1_tally_50 rfl rfl ?_
      refine v_getR (pc' := 54) rfl dX1_tally_51 fk_RX1_23 ly_19 rfl ?_
      refine v_iload 4 (pc' := 56) rfl dX1_tally_54 rfl ?_
      refine v_iconst (pc' := 57) rfl dX1_tally_56 ?_
      refine v_iast (pc' := 58) rfl dX1_tally_57 ly_23 (by omega) (by omega) rfl ?_
      refine v_nmw (fun w5 hw5 => ?_)
      have g2 : w5 19 2 = (n : Int) := by rw [hw5, up_ne _ _ (by omega)]; exact g2
      refine v_iinc (ls' := [(4, _), (0, _), (1, _), (2, _), (3, _)]) 4 (pc' := 61) rfl dX1_tally_58 rfl rfl rfl ?_
      refine v_nl (fun i' hi' => ?_)
      refine v_goto (tgt := 35) dX1_tally_61 (by decide) ?_
      refine v_ls [1, 2, 3, 4, 0] rfl ?_
      exact ih0 (i') w5 (⟨k + 1, by omega, by omega, fun j h => by
          simp only [hw5, hw4, up_at, hik]
          by_cases q : j = k
          · subst q; simp
          · have := hA j (by omega); simp [q, this], by simp [hw5, hw4, up_at, hF], fun j a b => by rw [hw5, up_ne _ _ (by omega), hw4, up_ne _ _ (by omega)]; exact hU j a b, by rw [hw5, hw4]; exact (hfl2.up rfl).up rfl⟩) (by omega)
  ·
    refine v_aload_n 0 (pc' := 14) rfl dX1_tally_13 rfl rfl ?_
    refine v_get (pc' := 17) rfl dX1_tally_14 fk_RX1_67 ly_19 rfl rfl ?_
    refine v_iload_n 3 (pc' := 18) rfl dX1_tally_17 rfl rfl ?_
    refine v_icmp_ne (pc' := 21) (tgt := 22) rfl dX1_tally_18 (by decide) (hr7 (by omega)) (by omega) (fun c1 => ?_) (fun c1 => ?_)
    ·
      refine v_aload_n 0 (pc' := 23) rfl dX1_tally_22 rfl rfl ?_
      refine v_iload_n 2 (pc' := 24) rfl dX1_tally_23 rfl rfl ?_
      refine v_put (pc' := 27) rfl dX1_tally_24 fi_RX1_47 ly_19 rfl ?_
      refine v_nmw (fun w2 hw2 => ?_)
      refine v_aload_n 0 (pc' := 28) rfl dX1_tally_27 rfl rfl ?_
      refine v_iload_n 3 (pc' := 29) rfl dX1_tally_28 rfl rfl ?_
      refine v_put (pc' := 32) rfl dX1_tally_29 fi_RX1_67 ly_19 rfl ?_
      refine v_nmw (fun w3 hw3 => ?_)
      refine v_iconst (pc' := 33) rfl dX1_tally_32 ?_
      refine v_istore (ls' := [(4, _), (0, _), (1, _), (2, _), (3, _)]) (pc' := 35) rfl dX1_tally_33 rfl rfl ?_
      refine v_ls [1, 2, 3, 4, 0] rfl ?_
      refine v_loop2 35 (fun (i : Int) (wl : Wd) => ∃ k : Nat, i = k ∧ k ≤ 15 ∧ (∀ j, j < k → wl 22 j = 0 ∧ wl 23 j = 0) ∧ (wl 19 6 = (kT n i1 : Nat) ∧ wl 19 7 = (kT n i2 : Nat)) ∧ (∀ j, j ≠ 6 → j ≠ 7 → wl 19 j = w1 19 j) ∧ Fr [19, 22, 23] w1 wl) (fun (i : Int) (wl : Wd) => (15 - i).toNat) (fun (i : Int) (wl : Wd) => [(0, aR 19), (1, aI (n0)), (2, aI (t1)), (3, aI (t2)), (4, aI (i))]) (fun (i : Int) (wl : Wd) => []) (fun (i : Int) (wl : Wd) => wl) (fun i wl hI0 ih0 => ?_) (0) w3 (⟨0, rfl, by omega, fun j h => by omega, by simp [hw3, hw2, up_at, ht1, ht2], fun j a b => by rw [hw3, up_ne _ _ (by omega), hw2, up_ne _ _ (by omega)], by rw [hw3, hw2]; exact ((Fr.rf _ _).up rfl).up rfl⟩)
      obtain ⟨k, hi, hk, hA, hF, hU, hfl2⟩ := hI0
      have hik : i.toNat = k := by omega
      have g2 : wl 19 2 = n := by rw [hU 2 (by decide) (by decide)]; exact hP1.1
      refine v_iload 4 (pc' := 37) rfl dX1_tally_35 rfl ?_
      refine v_bipush (pc' := 39) rfl dX1_tally_37 rfl ?_
      refine v_icmp_ge (pc' := 42) (tgt := 64) rfl dX1_tally_39 (by decide) (by omega) (by omega) (fun c2 => ?_) (fun c2 => ?_)
      ·
        refine v_iload_n 2 (pc' := 65) rfl dX1_tally_64 rfl rfl ?_
        refine v_aload_n 0 (pc' := 66) rfl dX1_tally_65 rfl rfl ?_
        refine v_get (z := (n : Int)) (pc' := 69) rfl dX1_tally_66 fk_RX1_36 ly_19 rfl (g2) ?_
        refine v_cSP (pc' := 72) rfl dX1_tally_69 lk_RX1_70 rfl (c_least l G ht1 (by omega) (n := n) rfl hn1 hn7 (kt_ok n (by omega) i1 h1).1.2 wl) rfl rfl rfl ?_
        refine v_nm (fun least1 hleast1 => ?_)
        refine v_istore (ls' := [(4, _), (0, _), (1, _), (2, _), (3, _)]) (pc' := 74) rfl dX1_tally_72 rfl rfl ?_
        refine v_iconst (pc' := 75) rfl dX1_tally_74 ?_
        refine v_istore (ls' := [(5, _), (4, _), (0, _), (1, _), (2, _), (3, _)]) (pc' := 77) rfl dX1_tally_75 rfl rfl ?_
        refine v_ls [2, 3, 4, 5, 1, 0] rfl ?_
        refine v_loop2 77 (fun (i : Int) (wm : Wd) => ∃ k : Nat, i = k ∧ k ≤ facN n ∧ CT wm n i1 i2 k ∧ (wm 19 6 = (kT n i1 : Nat) ∧ wm 19 7 = (kT n i2 : Nat)) ∧ (∀ j, j ≠ 6 → j ≠ 7 → wm 19 j = w1 19 j) ∧ Fr [19, 22, 23] w1 wm) (fun (i : Int) (wm : Wd) => ((facN n : Int) - i).toNat) (fun (i : Int) (wm : Wd) => [(0, aR 19), (1, aI (n0)), (2, aI (t1)), (3, aI (t2)), (4, aI (least1)), (5, aI (i))]) (fun (i : Int) (wm : Wd) => []) (fun (i : Int) (wm : Wd) => wm) (fun i wm hI1 ih1 => ?_) (0) wl (⟨0, rfl, by omega, fun j hj => by have := hA j (by omega); rw [this.1, this.2]; exact ⟨rfl, rfl⟩, hF, hU, hfl2⟩)
        clear hA hF hU hfl2 g2 hik hk hi
        obtain ⟨k, hi, hk, hCT, hF, hU, hfl2⟩ := hI1
        have g2 : wm 19 2 = n := by rw [hU 2 (by decide) (by decide)]; exact hP1.1
        have g3 : wm 19 3 = (facN n : Nat) := by rw [hU 3 (by decide) (by decide)]; exact hP1.2.1
        refine v_iload 5 (pc' := 79) rfl dX1_tally_77 rfl ?_
        refine v_aload_n 0 (pc' := 80) rfl dX1_tally_79 rfl rfl ?_
        refine v_get (z := ((facN n : Nat) : Int)) (pc' := 83) rfl dX1_tally_80 fk_RX1_44 ly_19 rfl (g3) ?_
        refine v_icmp_ge (pc' := 86) (tgt := 124) rfl dX1_tally_83 (by decide) (by omega) (by omega) (fun c3 => ?_) (fun c3 => ?_)
        ·
          refine v_vret dX1_tally_124 ?_
          have e : k = facN n := by omega
          rw [e] at hCT
          exact ⟨hP1.fr (hU 2 (by decide) (by decide)) (hU 3 (by decide) (by decide)) (fun j => ⟨hfl2 20 j rfl, hfl2 21 j rfl⟩), hF, hCT, hL1.fr (fun j hj => hU j (by omega) (by omega)) (fun j => ⟨hfl2 25 j rfl, hfl2 26 j rfl⟩), (hf1.mono (by decide)).trs (hfl2.mono (by decide))⟩
        ·
          refine v_iload 5 (pc' := 88) rfl dX1_tally_86 rfl ?_
          refine v_sipush (pc' := 91) rfl dX1_tally_88 rfl ?_
          refine v_icmp_ge (pc' := 94) (tgt := 124) rfl dX1_tally_91 (by decide) (by omega) (by omega) (fun c4 => ?_) (fun c4 => ?_)
          ·
            refine v_vret dX1_tally_124 ?_
            have e : k = facN n := by omega
            rw [e] at hCT
            exact ⟨hP1.fr (hU 2 (by decide) (by decide)) (hU 3 (by decide) (by decide)) (fun j => ⟨hfl2 20 j rfl, hfl2 21 j rfl⟩), hF, hCT, hL1.fr (fun j hj => hU j (by omega) (by omega)) (fun j => ⟨hfl2 25 j rfl, hfl2 26 j rfl⟩), (hf1.mono (by decide)).trs (hfl2.mono (by decide))⟩
          ·
            have hpk := pn_at hn1 hn7 (show k < facN n by omega)
            obtain ⟨it, hit, hkt⟩ := kf_type hn1 hn7 hpk.1
            refine v_aload_n 0 (pc' := 95) rfl dX1_tally_94 rfl rfl ?_
            refine v_getR (pc' := 98) rfl dX1_tally_95 fk_RX1_15 ly_19 rfl ?_
            refine v_iload 5 (pc' := 100) rfl dX1_tally_98 rfl ?_
            refine v_iald (z := ((kindN (pn n k) n : Nat) : Int)) (pc' := 101) rfl dX1_tally_100 ly_21 (by omega) (by omega) rfl (by rw [show i.toNat = k by omega, hfl2 21 k rfl]; exact (hP1.2.2 k (by omega)).2) ?_
            refine v_iload_n 3 (pc' := 102) rfl dX1_tally_101 rfl rfl ?_
            refine v_icmp_ne (pc' := 105) (tgt := 118) rfl dX1_tally_102 (by decide) (by have := kT_le hn7 hit; omega) (by omega) (fun c5 => ?_) (fun c5 => ?_)
            ·
              have hne : ¬ kindN (pn n k) n = kT n i2 := by omega
              refine v_iinc (ls' := [(5, _), (0, _), (1, _), (2, _), (3, _), (4, _)]) 5 (pc' := 121) rfl dX1_tally_118 rfl rfl rfl ?_
              refine v_nl (fun i' hi' => ?_)
              refine v_goto (tgt := 77) dX1_tally_121 (by decide) ?_
              refine v_ls [1, 2, 3, 4, 5, 0] rfl ?_
              exact ih1 (i') wm (⟨k + 1, by omega, by omega, fun x hx => by simp only [cntI]; rw [tPA_no hne, tPC_no hne]; simp; exact hCT x hx, hF, hU, hfl2⟩) (by omega)
            ·
              have heq : kindN (pn n k) n = kT n i2 := by omega
              obtain ⟨j, hj, hkj⟩ := kf_type hn1 hn7 (hs.comp hpk.1)
              have c2m := g2
              refine v_aload_n 0 (pc' := 106) rfl dX1_tally_105 rfl rfl ?_
              refine v_iload 4 (pc' := 108) rfl dX1_tally_106 rfl ?_
              refine v_aload_n 0 (pc' := 109) rfl dX1_tally_108 rfl rfl ?_
              refine v_getR (pc' := 112) rfl dX1_tally_109 fk_RX1_9 ly_19 rfl ?_
              refine v_iload 5 (pc' := 114) rfl dX1_tally_112 rfl ?_
              refine v_iald (z := ((hx (pn n k) : Nat) : Int)) (pc' := 115) rfl dX1_tally_114 ly_20 (by omega) (by omega) rfl (by rw [show i.toNat = k by omega, hfl2 20 k rfl]; exact (hP1.2.2 k (by omega)).1) ?_
              refine v_cVv (pc' := 118) rfl dX1_tally_115 lk_RX1_73 ly_19 rfl (c_tell l G hn1 hn7 hs hpk.1 hleast1 rfl hj hkj wm c2m) rfl rfl rfl (fun tell1 w7 hq7 => ?_)
              obtain ⟨hq8a, hq8b⟩ := hq7
              refine v_iinc (ls' := [(5, _), (0, _), (1, _), (2, _), (3, _), (4, _)]) 5 (pc' := 121) rfl dX1_tally_118 rfl rfl rfl ?_
              refine v_nl (fun i' hi' => ?_)
              refine v_goto (tgt := 77) dX1_tally_121 (by decide) ?_
              refine v_ls [1, 2, 3, 4, 5, 0] rfl ?_
              exact ih1 (i') w7 (⟨k + 1, by omega, by omega, fun x hx => by rw [(hq8a x).1, (hq8a x).2, (hCT x hx).1, (hCT x hx).2]; simp only [cntI]; rw [tPA_yes heq, tPC_yes heq, hkj]; by_cases e : x = j; (subst e; cases joinB (leastF (kT n i1) n) (pn n k) n <;> simp); (have : ¬ kT n j = kT n x := fun q => e (kT_inj n (by omega) j hj x hx q).symm; simp [e, this]), by rw [hq8b 19 6 rfl, hq8b 19 7 rfl]; exact hF, fun j a b => by rw [hq8b 19 j rfl]; exact hU j a b, hfl2.trs (hq8b.mono (by decide))⟩) (by omega)
      ·
        refine v_aload_n 0 (pc' := 43) rfl dX1_tally_42 rfl rfl ?_
        refine v_getR (pc' := 46) rfl dX1_tally_43 fk_RX1_20 ly_19 rfl ?_
        refine v_iload 4 (pc' := 48) rfl dX1_tally_46 rfl ?_
        refine v_iconst (pc' := 49) rfl dX1_tally_48 ?_
        refine v_iast (pc' := 50) rfl dX1_tally_49 ly_22 (by omega) (by omega) rfl ?_
        refine v_nmw (fun w4 hw4 => ?_)
        have g2 : w4 19 2 = (n : Int) := by rw [hw4, up_ne _ _ (by omega)]; exact g2
        refine v_aload_n 0 (pc' := 51) rfl dX1_tally_50 rfl rfl ?_
        refine v_getR (pc' := 54) rfl dX1_tally_51 fk_RX1_23 ly_19 rfl ?_
        refine v_iload 4 (pc' := 56) rfl dX1_tally_54 rfl ?_
        refine v_iconst (pc' := 57) rfl dX1_tally_56 ?_
        refine v_iast (pc' := 58) rfl dX1_tally_57 ly_23 (by omega) (by omega) rfl ?_
        refine v_nmw (fun w5 hw5 => ?_)
        have g2 : w5 19 2 = (n : Int) := by rw [hw5, up_ne _ _ (by omega)]; exact g2
        refine v_iinc (ls' := [(4, _), (0, _), (1, _), (2, _), (3, _)]) 4 (pc' := 61) rfl dX1_tally_58 rfl rfl rfl ?_
        refine v_nl (fun i' hi' => ?_)
        refine v_goto (tgt := 35) dX1_tally_61 (by decide) ?_
        refine v_ls [1, 2, 3, 4, 0] rfl ?_
        exact ih0 (i') w5 (⟨k + 1, by omega, by omega, fun j h => by
            simp only [hw5, hw4, up_at, hik]
            by_cases q : j = k
            · subst q; simp
            · have := hA j (by omega); simp [q, this], by simp [hw5, hw4, up_at, hF], fun j a b => by rw [hw5, up_ne _ _ (by omega), hw4, up_ne _ _ (by omega)]; exact hU j a b, by rw [hw5, hw4]; exact (hfl2.up rfl).up rfl⟩) (by omega)
    ·
      refine v_vret dX1_tally_21 ?_
      rcases hT1 with h | ⟨j1, j2, ⟨a, b⟩, c, d, e⟩
      · omega
      · have e1 : j1 = i1 := kT_inj n (by omega) j1 a i1 h1 (by omega)
        have e2 : j2 = i2 := kT_inj n (by omega) j2 b i2 h2 (by omega)
        subst e1; subst e2
        exact ⟨hP1, ⟨c, d⟩, e, hL1, hf1.mono (by decide)⟩
set_option maxHeartbeats 4000000 in
set_option maxRecDepth 100000 in
theorem c_found1 (l : Launch) (G : Gx) {t3 : Int} {n i1 i2 i3 : Nat} (hn1 : 1 ≤ n) (hn7 : n ≤ 7) (h3 : i3 < kmany n) (ht3 : t3 = (kT n i3 : Nat)) (w : Wd) (g2 : w 19 2 = n) (hC : CT w n i1 i2 (facN n)) : SpP l G 3 mX1_found [aR 19, aI (t3)] w (((cntI (tPA n (leastF (kT n i1) n) (kT n i2) (kT n i3)) (facN n) : Nat) : Int)) := by
  have hk3 := kT_le hn7 h3
  have hmk := ((frst_ok n (by omega)).2.2 hn1).2
  refine Sp_of RX1 rfl (by decide +kernel) rfl (Nat.le_of_ble_eq_true rfl) ?_
  refine v_iload_n 1 (pc' := 1) rfl dX1_found_0 rfl rfl ?_
  refine v_aload_n 0 (pc' := 2) rfl dX1_found_1 rfl rfl ?_
  refine v_get (z := (n : Int)) (pc' := 5) rfl dX1_found_2 fk_RX1_36 ly_19 rfl (g2) ?_
  refine v_cSR (pc' := 8) rfl dX1_found_5 lk_RX1_80 rfl (c_index l G (n := n) (by omega) rfl hn1 hn7 w ) rfl rfl rfl (fun index1 hindex1 => ?_)
  have hat : index1 = (i3 : Int) := by
    rcases hindex1 with ⟨-, h⟩ | ⟨i, a, b, c, d⟩
    · exact absurd ht3.symm (h i3 h3)
    · rw [a, kT_inj n (by omega) i b i3 h3 (by omega)]
  refine v_istore_n (ls' := [(2, _), (0, _), (1, _)]) (pc' := 9) rfl dX1_found_8 rfl rfl rfl ?_
  refine v_iload_n 0 (pc' := 10) rfl dX1_found_9 rfl rfl ?_
  refine v_if_lt (pc' := 13) (tgt := 19) rfl dX1_found_10 (by decide) (by omega) (fun c0 => absurd c0 (by omega)) (fun c0 => ?_)
  refine v_iload_n 0 (pc' := 14) rfl dX1_found_13 rfl rfl ?_
  refine v_bipush (pc' := 16) rfl dX1_found_14 rfl ?_
  refine v_icmp_lt (pc' := 19) (tgt := 23) rfl dX1_found_16 (by decide) (by omega) (by omega) (fun c1 => ?_) (fun c1 => absurd c1 (by omega))
  refine v_aload_n 1 (pc' := 24) rfl dX1_found_23 rfl rfl ?_
  refine v_getR (pc' := 27) rfl dX1_found_24 fk_RX1_20 ly_19 rfl ?_
  refine v_iload_n 0 (pc' := 28) rfl dX1_found_27 rfl rfl ?_
  refine v_iald (z := ((cntI (tPA n (leastF (kT n i1) n) (kT n i2) (kT n i3)) (facN n) : Nat) : Int)) (pc' := 29) rfl dX1_found_28 ly_22 (by omega) (by omega) rfl (by rw [show index1.toNat = i3 by omega]; exact (hC i3 h3).1) ?_
  refine v_iret dX1_found_29 (by decide) (rfl) ?_
  exact ⟨rfl, rfl⟩
set_option maxHeartbeats 4000000 in
set_option maxRecDepth 100000 in
theorem c_foundConnected (l : Launch) (G : Gx) {t3 : Int} {n i1 i2 i3 : Nat} (hn1 : 1 ≤ n) (hn7 : n ≤ 7) (h3 : i3 < kmany n) (ht3 : t3 = (kT n i3 : Nat)) (w : Wd) (g2 : w 19 2 = n) (hC : CT w n i1 i2 (facN n)) : SpP l G 3 mX1_foundConnected [aR 19, aI (t3)] w (((cntI (tPC n (leastF (kT n i1) n) (kT n i2) (kT n i3)) (facN n) : Nat) : Int)) := by
  have hk3 := kT_le hn7 h3
  have hmk := ((frst_ok n (by omega)).2.2 hn1).2
  refine Sp_of RX1 rfl (by decide +kernel) rfl (Nat.le_of_ble_eq_true rfl) ?_
  refine v_iload_n 1 (pc' := 1) rfl dX1_foundConnected_0 rfl rfl ?_
  refine v_aload_n 0 (pc' := 2) rfl dX1_foundConnected_1 rfl rfl ?_
  refine v_get (z := (n : Int)) (pc' := 5) rfl dX1_foundConnected_2 fk_RX1_36 ly_19 rfl (g2) ?_
  refine v_cSR (pc' := 8) rfl dX1_foundConnected_5 lk_RX1_80 rfl (c_index l G (n := n) (by omega) rfl hn1 hn7 w ) rfl rfl rfl (fun index1 hindex1 => ?_)
  have hat : index1 = (i3 : Int) := by
    rcases hindex1 with ⟨-, h⟩ | ⟨i, a, b, c, d⟩
    · exact absurd ht3.symm (h i3 h3)
    · rw [a, kT_inj n (by omega) i b i3 h3 (by omega)]
  refine v_istore_n (ls' := [(2, _), (0, _), (1, _)]) (pc' := 9) rfl dX1_foundConnected_8 rfl rfl rfl ?_
  refine v_iload_n 0 (pc' := 10) rfl dX1_foundConnected_9 rfl rfl ?_
  refine v_if_lt (pc' := 13) (tgt := 19) rfl dX1_foundConnected_10 (by decide) (by omega) (fun c0 => absurd c0 (by omega)) (fun c0 => ?_)
  refine v_iload_n 0 (pc' := 14) rfl dX1_foundConnected_13 rfl rfl ?_
  refine v_bipush (pc' := 16) rfl dX1_foundConnected_14 rfl ?_
  refine v_icmp_lt (pc' := 19) (tgt := 23) rfl dX1_foundConnected_16 (by decide) (by omega) (by omega) (fun c1 => ?_) (fun c1 => absurd c1 (by omega))
  refine v_aload_n 1 (pc' := 24) rfl dX1_foundConnected_23 rfl rfl ?_
  refine v_getR (pc' := 27) rfl dX1_foundConnected_24 fk_RX1_23 ly_19 rfl ?_
  refine v_iload_n 0 (pc' := 28) rfl dX1_foundConnected_27 rfl rfl ?_
  refine v_iald (z := ((cntI (tPC n (leastF (kT n i1) n) (kT n i2) (kT n i3)) (facN n) : Nat) : Int)) (pc' := 29) rfl dX1_foundConnected_28 ly_23 (by omega) (by omega) rfl (by rw [show index1.toNat = i3 by omega]; exact (hC i3 h3).2) ?_
  refine v_iret dX1_foundConnected_29 (by decide) (rfl) ?_
  exact ⟨rfl, rfl⟩

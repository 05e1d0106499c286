/-! ===== the reference: the list of classes ===== -/
theorem sorted_eq {α : Type} {key : α → Nat} : ∀ {L M : List α}, L.Pairwise (fun a b => key a < key b) → M.Pairwise (fun a b => key a < key b) → (∀ x, x ∈ L ↔ x ∈ M) → L = M
  | [], [], _, _, _ => rfl
  | [], b :: M, _, _, h => absurd ((h b).mpr List.mem_cons_self) List.not_mem_nil
  | a :: L, [], _, _, h => absurd ((h a).mp List.mem_cons_self) List.not_mem_nil
  | a :: L, b :: M, h1, h2, h => by
    rw [List.pairwise_cons] at h1 h2
    have hab : a = b := by
      rcases List.mem_cons.mp ((h a).mp List.mem_cons_self) with q | q
      · exact q
      · rcases List.mem_cons.mp ((h b).mpr List.mem_cons_self) with r | r
        · exact r.symm
        · have e1 := h2.1 a q
          have e2 := h1.1 b r
          omega
    subst hab
    congr 1
    refine sorted_eq h1.2 h2.2 (fun x => ⟨fun q => ?_, fun q => ?_⟩)
    · rcases List.mem_cons.mp ((h x).mp (List.mem_cons_of_mem _ q)) with r | r
      · have := h1.1 x q; rw [r] at this; omega
      · exact r
    · rcases List.mem_cons.mp ((h x).mpr (List.mem_cons_of_mem _ q)) with r | r
      · have := h2.1 x q; rw [r] at this; omega
      · exact r
theorem fil_mem {P : Nat → Bool} {m x : Nat} : x ∈ fil P m ↔ x < m ∧ P x = true := by
  unfold fil; rw [List.mem_filter, List.mem_range]
theorem fil_sorted (P : Nat → Bool) (m : Nat) : (fil P m).Pairwise (· < ·) := by
  unfold fil; exact List.Pairwise.filter _ List.pairwise_lt_range
def cenB (n : Nat) (s : Nat → Nat) (j : Nat) : Bool := hx (pconj s (pn n j)) == hx s
theorem cen_list {n : Nat} {s : Nat → Nat} (h1 : 1 ≤ n) (h7 : n ≤ 7) (hs : Pm n s) : (fil (cenB n s) (facN n)).map (pn n) = gathL n s s := by
  refine sorted_eq (key := hx) ?_ (gathL_sorted h7 hs hs) (fun x => ?_)
  · rw [List.pairwise_map]
    have : (fil (cenB n s) (facN n)).Pairwise (fun a b => a < b ∧ b < facN n) := by
      have a := fil_sorted (cenB n s) (facN n)
      refine (List.Pairwise.and_mem.mp a).imp ?_
      intro x y h
      exact ⟨h.2.2, (fil_mem.mp h.2.1).1⟩
    exact this.imp (fun h => pn_lt h1 h7 h.2 h.1)
  · rw [List.mem_map, cen_mem h7 hs]
    constructor
    · rintro ⟨j, hj, rfl⟩
      have := fil_mem.mp hj
      have hp := pn_at h1 h7 this.1
      refine ⟨hp.1, ?_⟩
      exact (hx_inj (Pm.conj h7 hs hp.1) hs h7 h7).mp (beq_iff_eq.mp this.2)
    · rintro ⟨hx1, hx2⟩
      have hr := pn_rank h1 h7 hx1
      refine ⟨rankN x n, fil_mem.mpr ⟨hr.1, ?_⟩, hr.2⟩
      unfold cenB; rw [hr.2, hx2]; exact beq_self_eq_true _
theorem rk_cd {n : Nat} {f g : Nat → Nat} (h1 : 1 ≤ n) (h7 : n ≤ 7) (hf : Pm n f) (hg : Pm n g) : rankN f n ≤ rankN g n ↔ cdk f n ≤ cdk g n := by
  have a := pn_rank h1 h7 hf
  have b := pn_rank h1 h7 hg
  constructor
  · intro h
    by_cases e : rankN f n = rankN g n
    · rw [rank_inj h1 h7 hf hg e]; exact Nat.le_refl _
    · have := pn_lt h1 h7 b.1 (show rankN f n < rankN g n by omega)
      rw [a.2, b.2] at this
      exact Nat.le_of_lt ((cd_hx hf hg h7).1.mpr this)
  · intro h
    apply Nat.le_of_not_lt
    intro q
    have := pn_lt h1 h7 a.1 q
    rw [a.2, b.2] at this
    have := (cd_hx hg hf h7).1.mpr this
    omega
def CLM (w : Wd) (n i1 i2 i3 k : Nat) : Prop := w 63 46 = ((opnL n (leastF (kT n i1) n) (kT n i2) (kT n i3) k).length : Nat) ∧ ∀ j, j < (opnL n (leastF (kT n i1) n) (kT n i2) (kT n i3) k).length →
  w 88 j = (cdk (pn n ((opnL n (leastF (kT n i1) n) (kT n i2) (kT n i3) k).getD j 0)) n : Nat) ∧ w 89 j = (autN n (leastF (kT n i1) n) (pn n ((opnL n (leastF (kT n i1) n) (kT n i2) (kT n i3) k).getD j 0)) : Nat)
theorem CLM.fr {w w' : Wd} {n i1 i2 i3 k : Nat} (h : CLM w n i1 i2 i3 k) (h1 : w' 63 46 = w 63 46) (h2 : ∀ j, w' 88 j = w 88 j) (h3 : ∀ j, w' 89 j = w 89 j) : CLM w' n i1 i2 i3 k := ⟨by rw [h1]; exact h.1, fun j hj => by rw [h2, h3]; exact h.2 j hj⟩
theorem CLM.no {w : Wd} {n i1 i2 i3 k : Nat} (h : CLM w n i1 i2 i3 k) (hn : ¬ opnB n (leastF (kT n i1) n) (kT n i2) (kT n i3) k = true) : CLM w n i1 i2 i3 (k + 1) := by
  unfold CLM
  rw [opnL_s, if_neg hn]; exact h
theorem CLM.yes {w w' : Wd} {n i1 i2 i3 k : Nat} (h : CLM w n i1 i2 i3 k) (hy : opnB n (leastF (kT n i1) n) (kT n i2) (kT n i3) k = true) {m : Nat} (hm : m = (opnL n (leastF (kT n i1) n) (kT n i2) (kT n i3) k).length)
    (e : w' = up (up (up w 88 m (cdk (pn n k) n : Nat)) 89 m (autN n (leastF (kT n i1) n) (pn n k) : Nat)) 63 46 ((m : Int) + 1)) : CLM w' n i1 i2 i3 (k + 1) := by
  subst e
  unfold CLM
  rw [opnL_s, if_pos hy, List.length_append, ← hm]
  refine ⟨by rw [up_eq]; simp, fun j hj => ?_⟩
  have hj' : j < m + 1 := hj
  have e88 : ∀ A B C : Int, (up (up (up w 88 m A) 89 m B) 63 46 C) 88 j = if j = m then A else w 88 j := fun A B C => by
    rw [up_ne _ _ (by omega), up_ne _ _ (by omega), up_at]
    by_cases q : j = m
    · rw [if_pos ⟨rfl, q⟩, if_pos q]
    · rw [if_neg (fun e => q e.2), if_neg q]
  have e89 : ∀ A B C : Int, (up (up (up w 88 m A) 89 m B) 63 46 C) 89 j = if j = m then B else w 89 j := fun A B C => by
    rw [up_ne _ _ (by omega), up_at]
    by_cases q : j = m
    · rw [if_pos ⟨rfl, q⟩, if_pos q]
    · rw [if_neg (fun e => q e.2), if_neg q, up_ne _ _ (by omega)]
  rw [e88, e89, List.getD_eq_getElem?_getD]
  by_cases q : j = m
  · rw [if_pos q, if_pos q, List.getElem?_append_right (by omega), show j - _ = 0 by rw [← hm]; omega]
    exact ⟨rfl, rfl⟩
  · rw [if_neg q, if_neg q, List.getElem?_append_left (by omega), ← List.getD_eq_getElem?_getD]
    exact h.2 j (by omega)
theorem opnB_m {n : Nat} {s : Nat → Nat} {t2 t3 i : Nat} (h1 : kindN (pn n i) n = t2) (h2 : joinB s (pn n i) n = true) (h3 : kindN (pcomp s (pn n i)) n = t3) (h4 : ∀ x, x < (gathL n s s).length → i ≤ rankN (pconj (pn n i) ((gathL n s s).getD x pid)) n) : opnB n s t2 t3 i = true := by
  unfold opnB
  rw [h1, h2, h3, beq_self_eq_true, beq_self_eq_true, List.all_eq_true.mpr]
  · rfl
  · intro r hr
    obtain ⟨x, hx, e⟩ := mem_getD (d := pid) hr
    rw [← e]
    exact Nat.ble_eq.mpr (h4 x hx)
theorem opnB_at {n : Nat} {s : Nat → Nat} {t2 t3 i : Nat} (h : opnB n s t2 t3 i = true) : kindN (pn n i) n = t2 ∧ joinB s (pn n i) n = true ∧ kindN (pcomp s (pn n i)) n = t3 ∧ ∀ x, x < (gathL n s s).length → i ≤ rankN (pconj (pn n i) ((gathL n s s).getD x pid)) n := by
  unfold opnB at h
  simp only [Bool.and_eq_true, beq_iff_eq, List.all_eq_true] at h
  exact ⟨h.1.1, h.1.2.1, h.1.2.2, fun x hx => Nat.le_of_ble_eq_true (h.2 _ (getD_mem hx))⟩
set_option maxHeartbeats 4000000 in
set_option maxRecDepth 100000 in
theorem c_laysClasses (l : Launch) (G : Gx) {k1 k2 k3 : Int} {n i1 i2 i3 : Nat} (hn1 : 1 ≤ n) (hn7 : n ≤ 7) (h1 : i1 < kmany n) (h2 : i2 < kmany n) (h3 : i3 < kmany n) (hk1 : k1 = (i1 : Nat)) (hk2 : k2 = (i2 : Nat)) (hk3 : k3 = (i3 : Nat)) (h64 : OP64) (w : Wd) (h00 : w 63 0 = n) (hR : RTab w n) : Sp l G 3 mX11_laysClasses [aR 63, aI (k1), aI (k2), aI (k3)] w (fun _ w' => Scr w w' ∧ CLM w' n i1 i2 i3 (facN n)) := by
  have r0 := h00
  obtain ⟨r3, r4, rPK, rTK⟩ := id hR
  have hfc := fac_le hn1 hn7
  have hk15 := kmany_le n hn7
  have hS := lp_pm hn7 h1
  have hcl := cen_list hn1 hn7 hS
  have hGl := gathL_len hn1 hn7 hS hS
  have hO64 := h64 n i1 i2 i3 hn1 hn7 h1 h2 h3
  refine Sp_of RX11 rfl (by decide +kernel) rfl (Nat.le_of_ble_eq_true rfl) ?_
  refine v_aload_n 0 (pc' := 1) rfl dX11_laysClasses_0 rfl rfl ?_
  refine v_getR (pc' := 4) rfl dX11_laysClasses_1 fk_RX11_22 ly_63 rfl ?_
  refine v_iload_n 1 (pc' := 5) rfl dX11_laysClasses_4 rfl rfl ?_
  refine v_iald (z := ((cdk (leastF (kT n i1) n) n : Nat) : Int)) (pc' := 6) rfl dX11_laysClasses_5 ly_68 (by omega) (by omega) rfl (by rw [show k1.toNat = i1 by omega]; exact (rTK i1 h1).2.2) ?_
  refine v_nm (fun s4' hs4' => ?_)
  refine v_istore (ls' := [(4, _), (0, _), (1, _), (2, _), (3, _)]) (pc' := 8) rfl dX11_laysClasses_6 rfl rfl ?_
  refine v_iconst (pc' := 9) rfl dX11_laysClasses_8 ?_
  refine v_istore (ls' := [(5, _), (4, _), (0, _), (1, _), (2, _), (3, _)]) (pc' := 11) rfl dX11_laysClasses_9 rfl rfl ?_
  refine v_iconst (pc' := 12) rfl dX11_laysClasses_11 ?_
  refine v_istore (ls' := [(6, _), (5, _), (4, _), (0, _), (1, _), (2, _), (3, _)]) (pc' := 14) rfl dX11_laysClasses_12 rfl rfl ?_
  refine v_ls [3, 4, 5, 6, 2, 1, 0] rfl ?_
  refine v_loop3 14 (fun (many : Int) (i : Int) (wl : Wd) => ∃ j : Nat, i = j ∧ j ≤ facN n ∧ many = ((fil (cenB n (leastF (kT n i1) n)) j).length : Nat) ∧ (∀ x, x < (fil (cenB n (leastF (kT n i1) n)) j).length → wl 87 x = (cdk (pn n ((fil (cenB n (leastF (kT n i1) n)) j).getD x 0)) n : Nat)) ∧ Scr w wl) (fun (many : Int) (i : Int) (wl : Wd) => (5040 - i).toNat) (fun (many : Int) (i : Int) (wl : Wd) => [(0, aR 63), (1, aI (k1)), (2, aI (k2)), (3, aI (k3)), (4, aI (s4')), (5, aI (many)), (6, aI (i))]) (fun (many : Int) (i : Int) (wl : Wd) => []) (fun (many : Int) (i : Int) (wl : Wd) => wl) (fun many i wl hI0 ih0 => ?_) (0) (0) w (⟨0, rfl, by omega, rfl, fun x hx => absurd hx (Nat.not_lt_zero _), Scr.rf _⟩)
  obtain ⟨j, hi, hj, hmany, hC, hsc⟩ := hI0
  have g0 := (hsc 63 0 (by decide)).trans h00
  have g3 := (hsc 63 3 (by decide)).trans r3
  have hfl := fil_len (cenB n (leastF (kT n i1) n)) j
  refine v_iload 6 (pc' := 16) rfl dX11_laysClasses_14 rfl ?_
  refine v_aload_n 0 (pc' := 17) rfl dX11_laysClasses_16 rfl rfl ?_
  refine v_get (z := ((facN n : Nat) : Int)) (pc' := 20) rfl dX11_laysClasses_17 fk_RX11_165 ly_63 rfl (g3) ?_
  refine v_icmp_ge (pc' := 23) (tgt := 70) rfl dX11_laysClasses_20 (by decide) (by omega) (by omega) (fun c0 => ?_) (fun c0 => ?_)
  ·
    have hje : j = facN n := by omega
    refine v_aload_n 0 (pc' := 71) rfl dX11_laysClasses_70 rfl rfl ?_
    refine v_iconst (pc' := 72) rfl dX11_laysClasses_71 ?_
    refine v_put (pc' := 75) rfl dX11_laysClasses_72 fi_RX11_371 ly_63 rfl ?_
    refine v_nmw (fun w3 hw3 => ?_)
    have g0 : w3 63 0 = (n : Int) := by rw [hw3, up_ne _ _ (by omega)]; exact g0
    have g3 : w3 63 3 = ((facN n : Nat) : Int) := by rw [hw3, up_ne _ _ (by omega)]; exact g3
    refine v_iconst (pc' := 76) rfl dX11_laysClasses_75 ?_
    refine v_istore (ls' := [(6, _), (0, _), (1, _), (2, _), (3, _), (4, _), (5, _)]) (pc' := 78) rfl dX11_laysClasses_76 rfl rfl ?_
    have hmG : many = ((gathL n (leastF (kT n i1) n) (leastF (kT n i1) n)).length : Nat) := by rw [← hcl, List.length_map, hmany, hje]
    have hCE0 : (∀ x, x < (gathL n (leastF (kT n i1) n) (leastF (kT n i1) n)).length → w3 87 x = (cdk ((gathL n (leastF (kT n i1) n) (leastF (kT n i1) n)).getD x pid) n : Nat)) := fun x hx => by
      rw [hw3, up_ne _ _ (by omega)]
      rw [← hcl] at hx ⊢
      rw [List.length_map, ← hje] at hx
      rw [hC x hx, hje, List.getD_eq_getElem?_getD, List.getD_eq_getElem?_getD, List.getElem?_map, List.getElem?_eq_getElem (by rw [← hje]; exact hx)]; rfl
    refine v_ls [1, 2, 3, 4, 5, 6, 0] rfl ?_
    refine v_loop2 78 (fun (iB : Int) (wm : Wd) => ∃ k : Nat, iB = k ∧ k ≤ facN n ∧ CLM wm n i1 i2 i3 k ∧ (∀ x, x < (gathL n (leastF (kT n i1) n) (leastF (kT n i1) n)).length → wm 87 x = (cdk ((gathL n (leastF (kT n i1) n) (leastF (kT n i1) n)).getD x pid) n : Nat)) ∧ Scr w wm) (fun (iB : Int) (wm : Wd) => (5040 - iB).toNat) (fun (iB : Int) (wm : Wd) => [(0, aR 63), (1, aI (k1)), (2, aI (k2)), (3, aI (k3)), (4, aI (s4')), (5, aI (many)), (6, aI (iB))]) (fun (iB : Int) (wm : Wd) => []) (fun (iB : Int) (wm : Wd) => wm) (fun iB wm hI1 ih1 => ?_) (0) w3 (⟨0, rfl, by omega, ⟨by rw [hw3, up_eq]; rfl, fun j hj => absurd hj (Nat.not_lt_zero _)⟩, hCE0, by rw [hw3]; exact hsc.up (by decide)⟩)
    clear hCE0
    obtain ⟨k, hi2, hk, hCL, hCE, hsm⟩ := hI1
    have g0 := (hsm 63 0 (by decide)).trans h00
    have g3 := (hsm 63 3 (by decide)).trans r3
    have hm := hCL.1
    have hm64 : (opnL n (leastF (kT n i1) n) (kT n i2) (kT n i3) k).length ≤ 64 := Nat.le_trans (opnL_mono (n := n) (s := (leastF (kT n i1) n)) (kT n i2) (kT n i3) hk) hO64
    refine v_iload 6 (pc' := 80) rfl dX11_laysClasses_78 rfl ?_
    refine v_aload_n 0 (pc' := 81) rfl dX11_laysClasses_80 rfl rfl ?_
    refine v_get (z := ((facN n : Nat) : Int)) (pc' := 84) rfl dX11_laysClasses_81 fk_RX11_165 ly_63 rfl (g3) ?_
    refine v_icmp_ge (pc' := 87) (tgt := 256) rfl dX11_laysClasses_84 (by decide) (by omega) (by omega) (fun c2 => ?_) (fun c2 => ?_)
    ·
      have hke : k = facN n := by omega
      refine v_vret dX11_laysClasses_256 ?_
      exact ⟨hsm, by rw [← hke]; exact hCL⟩
    ·
      have hpk := pn_at hn1 hn7 (show k < facN n by omega)
      obtain ⟨kJ, hkJ1, hkJ2, hkJ3⟩ := (rPK k (by omega)).2
      have hkx : KIx n (pn n k) (kJ : Int) := ⟨kJ, rfl, hkJ1, hkJ2⟩
      have hk2i := hkx.iff hn7 hk2 h2
      refine v_aload_n 0 (pc' := 88) rfl dX11_laysClasses_87 rfl rfl ?_
      refine v_getR (pc' := 91) rfl dX11_laysClasses_88 fk_RX11_7 ly_63 rfl ?_
      refine v_iload 6 (pc' := 93) rfl dX11_laysClasses_91 rfl ?_
      refine v_iald (z := ((cdk (pn n k) n : Nat) : Int)) (pc' := 94) rfl dX11_laysClasses_93 ly_64 (by omega) (by omega) rfl (by rw [show iB.toNat = k by omega, hsm 64 k rfl]; exact (rPK k (by omega)).1) ?_
      refine v_nm (fun v7' hv7' => ?_)
      refine v_istore (ls' := [(7, _), (0, _), (1, _), (2, _), (3, _), (4, _), (5, _), (6, _)]) (pc' := 96) rfl dX11_laysClasses_94 rfl rfl ?_
      refine v_aload_n 1 (pc' := 97) rfl dX11_laysClasses_96 rfl rfl ?_
      refine v_getR (pc' := 100) rfl dX11_laysClasses_97 fk_RX11_13 ly_63 rfl ?_
      refine v_iload 7 (pc' := 102) rfl dX11_laysClasses_100 rfl ?_
      refine v_iald (z := ((kJ : Nat) : Int)) (pc' := 103) rfl dX11_laysClasses_102 ly_65 (by omega) (by omega) rfl (by rw [show iB.toNat = k by omega, hsm 65 k rfl]; exact hkJ3) ?_
      refine v_iload_n 3 (pc' := 104) rfl dX11_laysClasses_103 rfl rfl ?_
      refine v_icmp_ne (pc' := 107) (tgt := 250) rfl dX11_laysClasses_104 (by decide) (by omega) (by omega) (fun c3 => ?_) (fun c3 => ?_)
      ·
        have hno : ¬ opnB n (leastF (kT n i1) n) (kT n i2) (kT n i3) k = true := fun q => by
          have q := opnB_at q
          exact c3 (hk2i.mpr q.1)
        refine v_iinc (ls' := [(6, _), (7, _), (0, _), (1, _), (2, _), (3, _), (4, _), (5, _)]) 7 (pc' := 253) rfl dX11_laysClasses_250 rfl rfl rfl ?_
        refine v_nl (fun i2' hi2' => ?_)
        refine v_goto (tgt := 78) dX11_laysClasses_253 (by decide) ?_
        refine v_ls [2, 3, 4, 5, 6, 7, 0] rfl ?_
        exact ih1 (i2') wm (⟨k + 1, by omega, by omega, hCL.no hno, hCE, hsm⟩) (by omega)
      ·
        have heq2 := hk2i.mp (by omega)
        refine v_aload_n 1 (pc' := 108) rfl dX11_laysClasses_107 rfl rfl ?_
        refine v_aload_n 1 (pc' := 109) rfl dX11_laysClasses_108 rfl rfl ?_
        refine v_iload 5 (pc' := 111) rfl dX11_laysClasses_109 rfl ?_
        refine v_iload 0 (pc' := 113) rfl dX11_laysClasses_111 rfl ?_
        refine v_cVi (pc' := 116) rfl dX11_laysClasses_113 lk_RX11_155 ly_63 rfl (c_facesOfM l G hs4' hv7' hS hpk.1 hn1 hn7 wm g0) rfl rfl rfl (fun facesOf1 w4 hq4 => ?_)
        obtain ⟨f4, z4⟩ := hq4
        have g0 : w4 63 0 = (n : Int) := (f4 63 0 (by decide)).trans g0
        have g3 : w4 63 3 = ((facN n : Nat) : Int) := (f4 63 3 (by decide)).trans g3
        have hm : w4 63 46 = (((opnL n (leastF (kT n i1) n) (kT n i2) (kT n i3) k).length : Nat) : Int) := (f4 63 46 (by decide)).trans hm
        refine v_cVR (pc' := 119) rfl dX11_laysClasses_116 lk_RX11_355 ly_63 rfl (c_kindOfCode l G z4 (Pm.face hn7 hS hpk.1) hn1 hn7 w4 g3 (fun i hi => by rw [f4 64 i rfl, f4 65 i rfl, hsm 64 i rfl, hsm 65 i rfl]; exact rPK i hi)) rfl rfl rfl (fun kindOfCode1 hkindOfCode1 => ?_)
        have hki := hkindOfCode1.iff hn7 hk3 h3
        rw [kind_face hn1 hn7 hS hpk.1] at hki
        refine v_iload_n 4 (pc' := 120) rfl dX11_laysClasses_119 rfl rfl ?_
        refine v_icmp_ne (pc' := 123) (tgt := 250) rfl dX11_laysClasses_120 (by decide) (hkindOfCode1.rg hn7) (by omega) (fun c4 => ?_) (fun c4 => ?_)
        ·
          have hno : ¬ opnB n (leastF (kT n i1) n) (kT n i2) (kT n i3) k = true := fun q => by
            have q := opnB_at q
            exact c4 (hki.mpr q.2.2.1)
          refine v_iinc (ls' := [(6, _), (7, _), (0, _), (1, _), (2, _), (3, _), (4, _), (5, _)]) 7 (pc' := 253) rfl dX11_laysClasses_250 rfl rfl rfl ?_
          refine v_nl (fun i2' hi2' => ?_)
          refine v_goto (tgt := 78) dX11_laysClasses_253 (by decide) ?_
          refine v_ls [2, 3, 4, 5, 6, 7, 0] rfl ?_
          exact ih1 (i2') w4 (⟨k + 1, by omega, by omega, (hCL.fr (by exact f4 63 46 rfl) (fun j => f4 88 j rfl) (fun j => f4 89 j rfl)).no hno, fun x hx => by rw [f4 87 x rfl]; exact hCE x hx, hsm.tr (Scr.of f4 (by decide))⟩) (by omega)
        ·
          have heq3 := hki.mp (by omega)
          refine v_aload_n 1 (pc' := 124) rfl dX11_laysClasses_123 rfl rfl ?_
          refine v_iload 5 (pc' := 126) rfl dX11_laysClasses_124 rfl ?_
          refine v_iload 0 (pc' := 128) rfl dX11_laysClasses_126 rfl ?_
          refine v_cVi (pc' := 131) rfl dX11_laysClasses_128 lk_RX11_280 ly_63 rfl (c_isConnected l G hs4' hv7' hS hpk.1 hn1 hn7 w4 g0) rfl rfl rfl (fun isConnected1 w6 hq6 => ?_)
          obtain ⟨f6, z6⟩ := hq6
          have g0 : w6 63 0 = (n : Int) := (f6 63 0 (by decide)).trans g0
          have g3 : w6 63 3 = ((facN n : Nat) : Int) := (f6 63 3 (by decide)).trans g3
          have hm : w6 63 46 = (((opnL n (leastF (kT n i1) n) (kT n i2) (kT n i3) k).length : Nat) : Int) := (f6 63 46 (by decide)).trans hm
          refine v_if_ne (pc' := 134) (tgt := 137) rfl dX11_laysClasses_131 (by decide) (jn_r z6) (fun c5 => ?_) (fun c5 => ?_)
          ·
            have hjy := jn_1 z6 (by omega)
            refine v_iconst (pc' := 138) rfl dX11_laysClasses_137 ?_
            refine v_istore (ls' := [(8, _), (7, _), (0, _), (1, _), (2, _), (3, _), (4, _), (5, _), (6, _)]) (pc' := 140) rfl dX11_laysClasses_138 rfl rfl ?_
            refine v_iconst (pc' := 141) rfl dX11_laysClasses_140 ?_
            refine v_istore (ls' := [(9, _), (8, _), (7, _), (0, _), (1, _), (2, _), (3, _), (4, _), (5, _), (6, _)]) (pc' := 143) rfl dX11_laysClasses_141 rfl rfl ?_
            refine v_iconst (pc' := 144) rfl dX11_laysClasses_143 ?_
            refine v_istore (ls' := [(10, _), (9, _), (8, _), (7, _), (0, _), (1, _), (2, _), (3, _), (4, _), (5, _), (6, _)]) (pc' := 146) rfl dX11_laysClasses_144 rfl rfl ?_
            refine v_ls [4, 5, 6, 7, 8, 9, 10, 3, 2, 1, 0] rfl ?_
            refine v_loop4 146 (fun (auts : Int) (least : Int) (at_ : Int) (wn : Wd) => ∃ x : Nat, at_ = x ∧ x ≤ (gathL n (leastF (kT n i1) n) (leastF (kT n i1) n)).length ∧ ((least = 1 ∧ ∀ y, y < x → k ≤ rankN (pconj (pn n k) ((gathL n (leastF (kT n i1) n) (leastF (kT n i1) n)).getD y pid)) n) ∨ (least = 0 ∧ ∃ y, y < (gathL n (leastF (kT n i1) n) (leastF (kT n i1) n)).length ∧ ¬ k ≤ rankN (pconj (pn n k) ((gathL n (leastF (kT n i1) n) (leastF (kT n i1) n)).getD y pid)) n)) ∧ auts = (cntG (fun r => hx (pconj (pn n k) r) == hx (pn n k)) (gathL n (leastF (kT n i1) n) (leastF (kT n i1) n)) x : Nat) ∧ CLM wn n i1 i2 i3 k ∧ (∀ x, x < (gathL n (leastF (kT n i1) n) (leastF (kT n i1) n)).length → wn 87 x = (cdk ((gathL n (leastF (kT n i1) n) (leastF (kT n i1) n)).getD x pid) n : Nat)) ∧ Scr w wn) (fun (auts : Int) (least : Int) (at_ : Int) (wn : Wd) => (5040 - at_).toNat) (fun (auts : Int) (least : Int) (at_ : Int) (wn : Wd) => [(0, aR 63), (1, aI (k1)), (2, aI (k2)), (3, aI (k3)), (4, aI (s4')), (5, aI (many)), (6, aI (iB)), (7, aI (v7')), (8, aI (auts)), (9, aI (least)), (10, aI (at_))]) (fun (auts : Int) (least : Int) (at_ : Int) (wn : Wd) => []) (fun (auts : Int) (least : Int) (at_ : Int) (wn : Wd) => wn) (fun auts least at_ wn hI2 ih2 => ?_) (0) (1) (0) w6 (⟨0, rfl, by omega, Or.inl ⟨rfl, fun y hy => absurd hy (Nat.not_lt_zero _)⟩, rfl, (hCL.fr (by exact f4 63 46 rfl) (fun j => f4 88 j rfl) (fun j => f4 89 j rfl)).fr (by exact f6 63 46 rfl) (fun j => f6 88 j rfl) (fun j => f6 89 j rfl), fun x hx => by rw [f6 87 x rfl, f4 87 x rfl]; exact hCE x hx, (hsm.tr (Scr.of f4 (by decide))).tr (Scr.of f6 (by decide))⟩)
            obtain ⟨x, hat, hxG, hL, hauts, hCLn, hCEn, hsn⟩ := hI2
            have g0 := (hsn 63 0 (by decide)).trans h00
            have g3 := (hsn 63 3 (by decide)).trans r3
            have hm := hCLn.1
            have hlb : least = 1 ∨ least = 0 := by rcases hL with q | q <;> simp [q.1]
            refine v_iload 10 (pc' := 148) rfl dX11_laysClasses_146 rfl ?_
            refine v_iload 5 (pc' := 150) rfl dX11_laysClasses_148 rfl ?_
            refine v_icmp_ge (pc' := 153) (tgt := 210) rfl dX11_laysClasses_150 (by decide) (by omega) (by omega) (fun c6 => ?_) (fun c6 => ?_)
            ·
              refine v_iload 9 (pc' := 212) rfl dX11_laysClasses_210 rfl ?_
              refine v_if_ne (pc' := 215) (tgt := 218) rfl dX11_laysClasses_212 (by decide) (by omega) (fun c10 => ?_) (fun c10 => ?_)
              ·
                have hL1 : ∀ y, y < (gathL n (leastF (kT n i1) n) (leastF (kT n i1) n)).length → k ≤ rankN (pconj (pn n k) ((gathL n (leastF (kT n i1) n) (leastF (kT n i1) n)).getD y pid)) n := by
                  rcases hL with q | q
                  · have hxe : x = (gathL n (leastF (kT n i1) n) (leastF (kT n i1) n)).length := by omega
                    rw [← hxe]; exact q.2
                  · omega
                have hyes : opnB n (leastF (kT n i1) n) (kT n i2) (kT n i3) k = true := opnB_m heq2 hjy heq3 hL1
                have hxe : x = (gathL n (leastF (kT n i1) n) (leastF (kT n i1) n)).length := by omega
                have hml : (opnL n (leastF (kT n i1) n) (kT n i2) (kT n i3) k).length < 64 := by
                  have := opnL_mono (n := n) (s := (leastF (kT n i1) n)) (kT n i2) (kT n i3) (show k + 1 ≤ facN n by omega)
                  rw [opnL_s, if_pos hyes, List.length_append] at this
                  have e1 : ([k] : List Nat).length = 1 := rfl
                  omega
                refine v_aload_n 0 (pc' := 219) rfl dX11_laysClasses_218 rfl rfl ?_
                refine v_getR (pc' := 222) rfl dX11_laysClasses_219 fk_RX11_83 ly_63 rfl ?_
                refine v_aload_n 0 (pc' := 223) rfl dX11_laysClasses_222 rfl rfl ?_
                refine v_get (z := (((opnL n (leastF (kT n i1) n) (kT n i2) (kT n i3) k).length : Nat) : Int)) (pc' := 226) rfl dX11_laysClasses_223 fk_RX11_371 ly_63 rfl (hm) ?_
                refine v_iload 7 (pc' := 228) rfl dX11_laysClasses_226 rfl ?_
                refine v_iast (pc' := 229) rfl dX11_laysClasses_228 ly_88 (by omega) (by omega) rfl ?_
                refine v_nmw (fun w8 hw8 => ?_)
                have g0 : w8 63 0 = (n : Int) := by rw [hw8, up_ne _ _ (by omega)]; exact g0
                have g3 : w8 63 3 = ((facN n : Nat) : Int) := by rw [hw8, up_ne _ _ (by omega)]; exact g3
                have hm : w8 63 46 = (((opnL n (leastF (kT n i1) n) (kT n i2) (kT n i3) k).length : Nat) : Int) := by rw [hw8, up_ne _ _ (by omega)]; exact hm
                refine v_aload_n 0 (pc' := 230) rfl dX11_laysClasses_229 rfl rfl ?_
                refine v_getR (pc' := 233) rfl dX11_laysClasses_230 fk_RX11_86 ly_63 rfl ?_
                refine v_aload_n 0 (pc' := 234) rfl dX11_laysClasses_233 rfl rfl ?_
                refine v_get (z := (((opnL n (leastF (kT n i1) n) (kT n i2) (kT n i3) k).length : Nat) : Int)) (pc' := 237) rfl dX11_laysClasses_234 fk_RX11_371 ly_63 rfl (hm) ?_
                refine v_iload 8 (pc' := 239) rfl dX11_laysClasses_237 rfl ?_
                refine v_iast (pc' := 240) rfl dX11_laysClasses_239 ly_89 (by omega) (by omega) rfl ?_
                refine v_nmw (fun w9 hw9 => ?_)
                have g0 : w9 63 0 = (n : Int) := by rw [hw9, up_ne _ _ (by omega)]; exact g0
                have g3 : w9 63 3 = ((facN n : Nat) : Int) := by rw [hw9, up_ne _ _ (by omega)]; exact g3
                have hm : w9 63 46 = (((opnL n (leastF (kT n i1) n) (kT n i2) (kT n i3) k).length : Nat) : Int) := by rw [hw9, up_ne _ _ (by omega)]; exact hm
                refine v_aload_n 0 (pc' := 241) rfl dX11_laysClasses_240 rfl rfl ?_
                refine v_aload_n 0 (pc' := 242) rfl dX11_laysClasses_241 rfl rfl ?_
                refine v_get (z := (((opnL n (leastF (kT n i1) n) (kT n i2) (kT n i3) k).length : Nat) : Int)) (pc' := 245) rfl dX11_laysClasses_242 fk_RX11_371 ly_63 rfl (hm) ?_
                refine v_iconst (pc' := 246) rfl dX11_laysClasses_245 ?_
                refine v_iadd (pc' := 247) rfl dX11_laysClasses_246 ?_
                refine v_put (pc' := 250) rfl dX11_laysClasses_247 fi_RX11_371 ly_63 rfl ?_
                refine v_nmw (fun w10 hw10 => ?_)
                have g0 : w10 63 0 = (n : Int) := by rw [hw10, up_ne _ _ (by omega)]; exact g0
                have g3 : w10 63 3 = ((facN n : Nat) : Int) := by rw [hw10, up_ne _ _ (by omega)]; exact g3
                refine v_iinc (ls' := [(6, _), (0, _), (1, _), (2, _), (3, _), (4, _), (5, _), (7, _), (8, _), (9, _), (10, _)]) 6 (pc' := 253) rfl dX11_laysClasses_250 rfl rfl rfl ?_
                refine v_nl (fun i2' hi2' => ?_)
                refine v_goto (tgt := 78) dX11_laysClasses_253 (by decide) ?_
                refine v_ls [1, 2, 3, 4, 5, 6, 0] rfl ?_
                exact ih1 (i2') w10 (⟨k + 1, by omega, by omega, hCLn.yes hyes (m := (opnL n (leastF (kT n i1) n) (kT n i2) (kT n i3) k).length) rfl (by rw [hw10, hw9, hw8, hv7', hauts, hxe]; rfl), fun x hx => by rw [hw10, up_ne _ _ (by omega), hw9, up_ne _ _ (by omega), hw8, up_ne _ _ (by omega)]; exact hCEn x hx, by rw [hw10, hw9, hw8]; exact ((hsn.up (keepB_ne (by decide) _ 0)).up (keepB_ne (by decide) _ 0)).up (by decide)⟩) (by omega)
              ·
                have hno : ¬ opnB n (leastF (kT n i1) n) (kT n i2) (kT n i3) k = true := fun q => by
                  have q := opnB_at q
                  rcases hL with r | r
                  · omega
                  · obtain ⟨y, hy, r⟩ := r.2
                    exact r (q.2.2.2 y hy)
                refine v_goto (tgt := 250) dX11_laysClasses_215 (by decide) ?_
                refine v_iinc (ls' := [(6, _), (0, _), (1, _), (2, _), (3, _), (4, _), (5, _), (7, _), (8, _), (9, _), (10, _)]) 6 (pc' := 253) rfl dX11_laysClasses_250 rfl rfl rfl ?_
                refine v_nl (fun i2' hi2' => ?_)
                refine v_goto (tgt := 78) dX11_laysClasses_253 (by decide) ?_
                refine v_ls [1, 2, 3, 4, 5, 6, 0] rfl ?_
                exact ih1 (i2') wn (⟨k + 1, by omega, by omega, hCLn.no hno, hCEn, hsn⟩) (by omega)
            ·
              refine v_iload 9 (pc' := 155) rfl dX11_laysClasses_153 rfl ?_
              refine v_if_eq (pc' := 158) (tgt := 210) rfl dX11_laysClasses_155 (by decide) (by omega) (fun c7 => ?_) (fun c7 => ?_)
              ·
                refine v_iload 9 (pc' := 212) rfl dX11_laysClasses_210 rfl ?_
                refine v_if_ne (pc' := 215) (tgt := 218) rfl dX11_laysClasses_212 (by decide) (by omega) (fun c10 => ?_) (fun c10 => ?_)
                ·
                  have hL1 : ∀ y, y < (gathL n (leastF (kT n i1) n) (leastF (kT n i1) n)).length → k ≤ rankN (pconj (pn n k) ((gathL n (leastF (kT n i1) n) (leastF (kT n i1) n)).getD y pid)) n := by
                    rcases hL with q | q
                    · have hxe : x = (gathL n (leastF (kT n i1) n) (leastF (kT n i1) n)).length := by omega
                      rw [← hxe]; exact q.2
                    · omega
                  have hyes : opnB n (leastF (kT n i1) n) (kT n i2) (kT n i3) k = true := opnB_m heq2 hjy heq3 hL1
                  have hxe : x = (gathL n (leastF (kT n i1) n) (leastF (kT n i1) n)).length := by omega
                  have hml : (opnL n (leastF (kT n i1) n) (kT n i2) (kT n i3) k).length < 64 := by
                    have := opnL_mono (n := n) (s := (leastF (kT n i1) n)) (kT n i2) (kT n i3) (show k + 1 ≤ facN n by omega)
                    rw [opnL_s, if_pos hyes, List.length_append] at this
                    have e1 : ([k] : List Nat).length = 1 := rfl
                    omega
                  refine v_aload_n 0 (pc' := 219) rfl dX11_laysClasses_218 rfl rfl ?_
                  refine v_getR (pc' := 222) rfl dX11_laysClasses_219 fk_RX11_83 ly_63 rfl ?_
                  refine v_aload_n 0 (pc' := 223) rfl dX11_laysClasses_222 rfl rfl ?_
                  refine v_get (z := (((opnL n (leastF (kT n i1) n) (kT n i2) (kT n i3) k).length : Nat) : Int)) (pc' := 226) rfl dX11_laysClasses_223 fk_RX11_371 ly_63 rfl (hm) ?_
                  refine v_iload 7 (pc' := 228) rfl dX11_laysClasses_226 rfl ?_
                  refine v_iast (pc' := 229) rfl dX11_laysClasses_228 ly_88 (by omega) (by omega) rfl ?_
                  refine v_nmw (fun w8 hw8 => ?_)
                  have g0 : w8 63 0 = (n : Int) := by rw [hw8, up_ne _ _ (by omega)]; exact g0
                  have g3 : w8 63 3 = ((facN n : Nat) : Int) := by rw [hw8, up_ne _ _ (by omega)]; exact g3
                  have hm : w8 63 46 = (((opnL n (leastF (kT n i1) n) (kT n i2) (kT n i3) k).length : Nat) : Int) := by rw [hw8, up_ne _ _ (by omega)]; exact hm
                  refine v_aload_n 0 (pc' := 230) rfl dX11_laysClasses_229 rfl rfl ?_
                  refine v_getR (pc' := 233) rfl dX11_laysClasses_230 fk_RX11_86 ly_63 rfl ?_
                  refine v_aload_n 0 (pc' := 234) rfl dX11_laysClasses_233 rfl rfl ?_
                  refine v_get (z := (((opnL n (leastF (kT n i1) n) (kT n i2) (kT n i3) k).length : Nat) : Int)) (pc' := 237) rfl dX11_laysClasses_234 fk_RX11_371 ly_63 rfl (hm) ?_
                  refine v_iload 8 (pc' := 239) rfl dX11_laysClasses_237 rfl ?_
                  refine v_iast (pc' := 240) rfl dX11_laysClasses_239 ly_89 (by omega) (by omega) rfl ?_
                  refine v_nmw (fun w9 hw9 => ?_)
                  have g0 : w9 63 0 = (n : Int) := by rw [hw9, up_ne _ _ (by omega)]; exact g0
                  have g3 : w9 63 3 = ((facN n : Nat) : Int) := by rw [hw9, up_ne _ _ (by omega)]; exact g3
                  have hm : w9 63 46 = (((opnL n (leastF (kT n i1) n) (kT n i2) (kT n i3) k).length : Nat) : Int) := by rw [hw9, up_ne _ _ (by omega)]; exact hm
                  refine v_aload_n 0 (pc' := 241) rfl dX11_laysClasses_240 rfl rfl ?_
                  refine v_aload_n 0 (pc' := 242) rfl dX11_laysClasses_241 rfl rfl ?_
                  refine v_get (z := (((opnL n (leastF (kT n i1) n) (kT n i2) (kT n i3) k).length : Nat) : Int)) (pc' := 245) rfl dX11_laysClasses_242 fk_RX11_371 ly_63 rfl (hm) ?_
                  refine v_iconst (pc' := 246) rfl dX11_laysClasses_245 ?_
                  refine v_iadd (pc' := 247) rfl dX11_laysClasses_246 ?_
                  refine v_put (pc' := 250) rfl dX11_laysClasses_247 fi_RX11_371 ly_63 rfl ?_
                  refine v_nmw (fun w10 hw10 => ?_)
                  have g0 : w10 63 0 = (n : Int) := by rw [hw10, up_ne _ _ (by omega)]; exact g0
                  have g3 : w10 63 3 = ((facN n : Nat) : Int) := by rw [hw10, up_ne _ _ (by omega)]; exact g3
                  refine v_iinc (ls' := [(6, _), (0, _), (1, _), (2, _), (3, _), (4, _), (5, _), (7, _), (8, _), (9, _), (10, _)]) 6 (pc' := 253) rfl dX11_laysClasses_250 rfl rfl rfl ?_
                  refine v_nl (fun i2' hi2' => ?_)
                  refine v_goto (tgt := 78) dX11_laysClasses_253 (by decide) ?_
                  refine v_ls [1, 2, 3, 4, 5, 6, 0] rfl ?_
                  exact ih1 (i2') w10 (⟨k + 1, by omega, by omega, hCLn.yes hyes (m := (opnL n (leastF (kT n i1) n) (kT n i2) (kT n i3) k).length) rfl (by rw [hw10, hw9, hw8, hv7', hauts, hxe]; rfl), fun x hx => by rw [hw10, up_ne _ _ (by omega), hw9, up_ne _ _ (by omega), hw8, up_ne _ _ (by omega)]; exact hCEn x hx, by rw [hw10, hw9, hw8]; exact ((hsn.up (keepB_ne (by decide) _ 0)).up (keepB_ne (by decide) _ 0)).up (by decide)⟩) (by omega)
                ·
                  have hno : ¬ opnB n (leastF (kT n i1) n) (kT n i2) (kT n i3) k = true := fun q => by
                    have q := opnB_at q
                    rcases hL with r | r
                    · omega
                    · obtain ⟨y, hy, r⟩ := r.2
                      exact r (q.2.2.2 y hy)
                  refine v_goto (tgt := 250) dX11_laysClasses_215 (by decide) ?_
                  refine v_iinc (ls' := [(6, _), (0, _), (1, _), (2, _), (3, _), (4, _), (5, _), (7, _), (8, _), (9, _), (10, _)]) 6 (pc' := 253) rfl dX11_laysClasses_250 rfl rfl rfl ?_
                  refine v_nl (fun i2' hi2' => ?_)
                  refine v_goto (tgt := 78) dX11_laysClasses_253 (by decide) ?_
                  refine v_ls [1, 2, 3, 4, 5, 6, 0] rfl ?_
                  exact ih1 (i2') wn (⟨k + 1, by omega, by omega, hCLn.no hno, hCEn, hsn⟩) (by omega)
              ·
                have hxl : x < (gathL n (leastF (kT n i1) n) (leastF (kT n i1) n)).length := by omega
                have hpx := ((gathL_mem hn7 hS hS _).mp (getD_mem (d := pid) hxl)).1
                have hL1 : ∀ y, y < x → k ≤ rankN (pconj (pn n k) ((gathL n (leastF (kT n i1) n) (leastF (kT n i1) n)).getD y pid)) n := by
                  rcases hL with q | q
                  · exact q.2
                  · omega
                refine v_aload_n 0 (pc' := 159) rfl dX11_laysClasses_158 rfl rfl ?_
                refine v_iload 7 (pc' := 161) rfl dX11_laysClasses_159 rfl ?_
                refine v_aload_n 0 (pc' := 162) rfl dX11_laysClasses_161 rfl rfl ?_
                refine v_getR (pc' := 165) rfl dX11_laysClasses_162 fk_RX11_80 ly_63 rfl ?_
                refine v_iload 10 (pc' := 167) rfl dX11_laysClasses_165 rfl ?_
                refine v_iald (z := ((cdk ((gathL n (leastF (kT n i1) n) (leastF (kT n i1) n)).getD x pid) n : Nat) : Int)) (pc' := 168) rfl dX11_laysClasses_167 ly_87 (by omega) (by omega) rfl (by rw [show at_.toNat = x by omega]; exact hCEn x hxl) ?_
                refine v_cVi (pc' := 171) rfl dX11_laysClasses_168 lk_RX11_252 ly_63 rfl (c_relabelledM l G hv7' rfl hpk.1 hpx hn1 hn7 wn g0) rfl rfl rfl (fun relabelled2 w7 hq7 => ?_)
                obtain ⟨f7, z7⟩ := hq7
                have hcl1 := cd_le (Pm.conj hn7 hpk.1 hpx) hn7 (Nat.le_refl n)
                have hcl2 := cd_le hpk.1 hn7 (Nat.le_refl n)
                have hrk := rk_cd hn1 hn7 hpk.1 (Pm.conj hn7 hpk.1 hpx)
                rw [hpk.2] at hrk
                have hce := (cd_hx (Pm.conj hn7 hpk.1 hpx) hpk.1 hn7).2
                have g0 : w7 63 0 = (n : Int) := (f7 63 0 (by decide)).trans g0
                have g3 : w7 63 3 = ((facN n : Nat) : Int) := (f7 63 3 (by decide)).trans g3
                have hm : w7 63 46 = (((opnL n (leastF (kT n i1) n) (kT n i2) (kT n i3) k).length : Nat) : Int) := (f7 63 46 (by decide)).trans hm
                refine v_istore (ls' := [(11, _), (0, _), (1, _), (2, _), (3, _), (4, _), (5, _), (6, _), (7, _), (8, _), (9, _), (10, _)]) (pc' := 173) rfl dX11_laysClasses_171 rfl rfl ?_
                have J185 : ∀ (lv : Int) (hJ : ((lv = 1 ∧ ∀ y, y < x + 1 → k ≤ rankN (pconj (pn n k) ((gathL n (leastF (kT n i1) n) (leastF (kT n i1) n)).getD y pid)) n) ∨ (lv = 0 ∧ ∃ y, y < (gathL n (leastF (kT n i1) n) (leastF (kT n i1) n)).length ∧ ¬ k ≤ rankN (pconj (pn n k) ((gathL n (leastF (kT n i1) n) (leastF (kT n i1) n)).getD y pid)) n))), V (mX l G 3 12 none (fun _ w' => Scr w w' ∧ CLM w' n i1 i2 i3 (facN n))) RX11 cX11_laysClasses 185 [(0, aR 63), (1, aI (k1)), (2, aI (k2)), (3, aI (k3)), (4, aI (s4')), (5, aI (many)), (6, aI (iB)), (7, aI (v7')), (8, aI (auts)), (9, aI (least)), (10, aI (at_)), (11, aI (relabelled2))] [aI (lv)] w7 := by
                  intro lv hJ
                  have hJ185 := hJ
                  refine v_istore (ls' := [(9, _), (0, _), (1, _), (2, _), (3, _), (4, _), (5, _), (6, _), (7, _), (8, _), (10, _), (11, _)]) (pc' := 187) rfl dX11_laysClasses_185 rfl rfl ?_
                  refine v_iload 9 (pc' := 189) rfl dX11_laysClasses_187 rfl ?_
                  have J201 : ∀ (av : Int) (hJ : av = if (hx (pconj (pn n k) ((gathL n (leastF (kT n i1) n) (leastF (kT n i1) n)).getD x pid)) == hx (pn n k)) = true then 1 else 0), V (mX l G 3 12 none (fun _ w' => Scr w w' ∧ CLM w' n i1 i2 i3 (facN n))) RX11 cX11_laysClasses 201 [(0, aR 63), (1, aI (k1)), (2, aI (k2)), (3, aI (k3)), (4, aI (s4')), (5, aI (many)), (6, aI (iB)), (7, aI (v7')), (8, aI (auts)), (9, aI (lv)), (10, aI (at_)), (11, aI (relabelled2))] [aI (av), aI (auts)] w7 := by
                    intro av hJ
                    have hJ201 := hJ
                    have hauts2 : auts + av = ((cntG (fun r => hx (pconj (pn n k) r) == hx (pn n k)) (gathL n (leastF (kT n i1) n) (leastF (kT n i1) n)) (x + 1) : Nat) : Int) := by
                      rw [cntG_s, hJ201, hauts]
                      by_cases q : (hx (pconj (pn n k) ((gathL n (leastF (kT n i1) n) (leastF (kT n i1) n)).getD x pid)) == hx (pn n k)) = true
                      · simp only [q, if_true]; rfl
                      · simp only [q, if_false]; rfl
                    refine v_iadd (pc' := 202) rfl dX11_laysClasses_201 ?_
                    refine v_nm (fun auts' hauts' => ?_)
                    refine v_istore (ls' := [(8, _), (0, _), (1, _), (2, _), (3, _), (4, _), (5, _), (6, _), (7, _), (9, _), (10, _), (11, _)]) (pc' := 204) rfl dX11_laysClasses_202 rfl rfl ?_
                    refine v_iinc (ls' := [(10, _), (8, _), (0, _), (1, _), (2, _), (3, _), (4, _), (5, _), (6, _), (7, _), (9, _), (11, _)]) 10 (pc' := 207) rfl dX11_laysClasses_204 rfl rfl rfl ?_
                    refine v_nl (fun at_' hat_' => ?_)
                    refine v_goto (tgt := 146) dX11_laysClasses_207 (by decide) ?_
                    refine v_ls [2, 3, 4, 5, 6, 7, 8, 9, 1, 10, 0] rfl ?_
                    exact ih2 (auts') (lv) (at_') w7 (⟨x + 1, by omega, by omega, hJ185, hauts'.trans hauts2, hCLn.fr (by exact f7 63 46 rfl) (fun j => f7 88 j rfl) (fun j => f7 89 j rfl), fun y hy => by rw [f7 87 y rfl]; exact hCEn y hy, hsn.tr (Scr.of f7 (by decide))⟩) (by omega)
                  refine v_iload 11 (pc' := 191) rfl dX11_laysClasses_189 rfl ?_
                  refine v_iload 8 (pc' := 193) rfl dX11_laysClasses_191 rfl ?_
                  refine v_icmp_ne (pc' := 196) (tgt := 200) rfl dX11_laysClasses_193 (by decide) (by omega) (by omega) (fun c9 => ?_) (fun c9 => ?_)
                  ·
                    refine v_iconst (pc' := 201) rfl dX11_laysClasses_200 ?_
                    refine v_ls [1, 2, 3, 4, 5, 6, 7, 8, 9, 0, 10, 11] rfl ?_
                    exact J201 (0) (by first | rw [if_neg (fun q => by rw [beq_iff_eq] at q; have := hce.mpr q; omega)] | rw [if_pos (by rw [beq_iff_eq]; exact hce.mp (by omega))])
                  ·
                    refine v_iconst (pc' := 197) rfl dX11_laysClasses_196 ?_
                    refine v_goto (tgt := 201) dX11_laysClasses_197 (by decide) ?_
                    refine v_ls [1, 2, 3, 4, 5, 6, 7, 8, 9, 0, 10, 11] rfl ?_
                    exact J201 (1) (by first | rw [if_neg (fun q => by rw [beq_iff_eq] at q; have := hce.mpr q; omega)] | rw [if_pos (by rw [beq_iff_eq]; exact hce.mp (by omega))])
                refine v_iload 0 (pc' := 175) rfl dX11_laysClasses_173 rfl ?_
                refine v_iload 8 (pc' := 177) rfl dX11_laysClasses_175 rfl ?_
                refine v_icmp_lt (pc' := 180) (tgt := 184) rfl dX11_laysClasses_177 (by decide) (by omega) (by omega) (fun c8 => ?_) (fun c8 => ?_)
                ·
                  refine v_iconst (pc' := 185) rfl dX11_laysClasses_184 ?_
                  refine v_ls [1, 2, 3, 4, 5, 6, 7, 8, 9, 10, 11, 0] rfl ?_
                  exact J185 (0) (by first
                  | exact Or.inl ⟨rfl, fun y hy => by
                      by_cases q : y = x
                      · rw [q]; exact hrk.mpr (by omega)
                      · exact hL1 y (by omega)⟩
                  | exact Or.inr ⟨rfl, x, hxl, fun q => by have := hrk.mp q; omega⟩)
                ·
                  refine v_iconst (pc' := 181) rfl dX11_laysClasses_180 ?_
                  refine v_goto (tgt := 185) dX11_laysClasses_181 (by decide) ?_
                  refine v_ls [1, 2, 3, 4, 5, 6, 7, 8, 9, 10, 11, 0] rfl ?_
                  exact J185 (1) (by first
                  | exact Or.inl ⟨rfl, fun y hy => by
                      by_cases q : y = x
                      · rw [q]; exact hrk.mpr (by omega)
                      · exact hL1 y (by omega)⟩
                  | exact Or.inr ⟨rfl, x, hxl, fun q => by have := hrk.mp q; omega⟩)
          ·
            have hno : ¬ opnB n (leastF (kT n i1) n) (kT n i2) (kT n i3) k = true := fun q => by
              have q := opnB_at q
              have e := jn_0 z6 (by omega)
              rw [e] at q
              exact absurd q.2.1 (by decide)
            refine v_goto (tgt := 250) dX11_laysClasses_134 (by decide) ?_
            refine v_iinc (ls' := [(6, _), (7, _), (0, _), (1, _), (2, _), (3, _), (4, _), (5, _)]) 7 (pc' := 253) rfl dX11_laysClasses_250 rfl rfl rfl ?_
            refine v_nl (fun i2' hi2' => ?_)
            refine v_goto (tgt := 78) dX11_laysClasses_253 (by decide) ?_
            refine v_ls [2, 3, 4, 5, 6, 7, 0] rfl ?_
            exact ih1 (i2') w6 (⟨k + 1, by omega, by omega, ((hCL.fr (by exact f4 63 46 rfl) (fun j => f4 88 j rfl) (fun j => f4 89 j rfl)).fr (by exact f6 63 46 rfl) (fun j => f6 88 j rfl) (fun j => f6 89 j rfl)).no hno, fun x hx => by rw [f6 87 x rfl, f4 87 x rfl]; exact hCE x hx, (hsm.tr (Scr.of f4 (by decide))).tr (Scr.of f6 (by decide))⟩) (by omega)
  ·
    have hpj := pn_at hn1 hn7 (show j < facN n by omega)
    refine v_aload_n 0 (pc' := 24) rfl dX11_laysClasses_23 rfl rfl ?_
    refine v_iload 4 (pc' := 26) rfl dX11_laysClasses_24 rfl ?_
    refine v_aload_n 0 (pc' := 27) rfl dX11_laysClasses_26 rfl rfl ?_
    refine v_getR (pc' := 30) rfl dX11_laysClasses_27 fk_RX11_7 ly_63 rfl ?_
    refine v_iload 6 (pc' := 32) rfl dX11_laysClasses_30 rfl ?_
    refine v_iald (z := ((cdk (pn n j) n : Nat) : Int)) (pc' := 33) rfl dX11_laysClasses_32 ly_64 (by omega) (by omega) rfl (by rw [show i.toNat = j by omega, hsc 64 j rfl]; exact (rPK j (by omega)).1) ?_
    refine v_cVi (pc' := 36) rfl dX11_laysClasses_33 lk_RX11_252 ly_63 rfl (c_relabelledM l G hs4' rfl hS hpj.1 hn1 hn7 wl g0) rfl rfl rfl (fun relabelled1 w1 hq1 => ?_)
    obtain ⟨f1, z1⟩ := hq1
    have hcl1 := cd_le (Pm.conj hn7 hS hpj.1) hn7 (Nat.le_refl n)
    have hcl2 := cd_le hS hn7 (Nat.le_refl n)
    have g0 : w1 63 0 = (n : Int) := (f1 63 0 (by decide)).trans g0
    have g3 : w1 63 3 = ((facN n : Nat) : Int) := (f1 63 3 (by decide)).trans g3
    refine v_iload 4 (pc' := 38) rfl dX11_laysClasses_36 rfl ?_
    refine v_icmp_eq (pc' := 41) (tgt := 44) rfl dX11_laysClasses_38 (by decide) (by omega) (by omega) (fun c1 => ?_) (fun c1 => ?_)
    ·
      have hyes : (cenB n (leastF (kT n i1) n)) j = true := by
        unfold cenB; rw [beq_iff_eq]; exact (cd_hx (Pm.conj hn7 hS hpj.1) hS hn7).2.mp (by omega)
      refine v_aload_n 0 (pc' := 45) rfl dX11_laysClasses_44 rfl rfl ?_
      refine v_getR (pc' := 48) rfl dX11_laysClasses_45 fk_RX11_80 ly_63 rfl ?_
      refine v_iload 5 (pc' := 50) rfl dX11_laysClasses_48 rfl ?_
      refine v_aload_n 0 (pc' := 51) rfl dX11_laysClasses_50 rfl rfl ?_
      refine v_getR (pc' := 54) rfl dX11_laysClasses_51 fk_RX11_7 ly_63 rfl ?_
      refine v_iload 6 (pc' := 56) rfl dX11_laysClasses_54 rfl ?_
      refine v_iald (z := ((cdk (pn n j) n : Nat) : Int)) (pc' := 57) rfl dX11_laysClasses_56 ly_64 (by omega) (by omega) rfl (by rw [show i.toNat = j by omega, f1 64 j rfl, hsc 64 j rfl]; exact (rPK j (by omega)).1) ?_
      refine v_iast (pc' := 58) rfl dX11_laysClasses_57 ly_87 (by omega) (by omega) rfl ?_
      refine v_nmw (fun w2 hw2 => ?_)
      have g0 : w2 63 0 = (n : Int) := by rw [hw2, up_ne _ _ (by omega)]; exact g0
      have g3 : w2 63 3 = ((facN n : Nat) : Int) := by rw [hw2, up_ne _ _ (by omega)]; exact g3
      refine v_iload 5 (pc' := 60) rfl dX11_laysClasses_58 rfl ?_
      refine v_iconst (pc' := 61) rfl dX11_laysClasses_60 ?_
      refine v_iadd (pc' := 62) rfl dX11_laysClasses_61 ?_
      refine v_nm (fun many' hmany' => ?_)
      refine v_istore (ls' := [(5, _), (0, _), (1, _), (2, _), (3, _), (4, _), (6, _)]) (pc' := 64) rfl dX11_laysClasses_62 rfl rfl ?_
      refine v_iinc (ls' := [(6, _), (5, _), (0, _), (1, _), (2, _), (3, _), (4, _)]) 6 (pc' := 67) rfl dX11_laysClasses_64 rfl rfl rfl ?_
      refine v_nl (fun i' hi' => ?_)
      refine v_goto (tgt := 14) dX11_laysClasses_67 (by decide) ?_
      refine v_ls [2, 3, 4, 5, 6, 1, 0] rfl ?_
      exact ih0 (many') (i') w2 (⟨j + 1, by omega, by omega, by rw [fil_s, if_pos hyes, List.length_append]; simp; omega, by
          rw [fil_s, if_pos hyes, List.length_append]
          intro x hx
          have hx' : x < (fil (cenB n (leastF (kT n i1) n)) j).length + 1 := hx
          rw [hw2, up_at, List.getD_eq_getElem?_getD]
          by_cases q : x = (fil (cenB n (leastF (kT n i1) n)) j).length
          · rw [if_pos ⟨rfl, by omega⟩, List.getElem?_append_right (by omega), q, Nat.sub_self]; rfl
          · rw [if_neg (fun e => q (by omega)), List.getElem?_append_left (by omega), ← List.getD_eq_getElem?_getD, f1 87 x rfl]; exact hC x (by omega), by rw [hw2]; exact (hsc.tr (Scr.of f1 (by decide))).up (keepB_ne (by decide) _ 0)⟩) (by omega)
    ·
      have hno : ¬ (cenB n (leastF (kT n i1) n)) j = true := fun q => by
        unfold cenB at q; rw [beq_iff_eq] at q
        have := (cd_hx (Pm.conj hn7 hS hpj.1) hS hn7).2.mpr q
        omega
      refine v_goto (tgt := 64) dX11_laysClasses_41 (by decide) ?_
      refine v_iinc (ls' := [(6, _), (0, _), (1, _), (2, _), (3, _), (4, _), (5, _)]) 6 (pc' := 67) rfl dX11_laysClasses_64 rfl rfl rfl ?_
      refine v_nl (fun i' hi' => ?_)
      refine v_goto (tgt := 14) dX11_laysClasses_67 (by decide) ?_
      refine v_ls [1, 2, 3, 4, 5, 6, 0] rfl ?_
      exact ih0 (many) (i') w1 (⟨j + 1, by omega, by omega, by rw [fil_s, if_neg hno]; exact hmany, by rw [fil_s, if_neg hno]; exact fun x hx => by rw [f1 87 x rfl]; exact hC x hx, hsc.tr (Scr.of f1 (by decide))⟩) (by omega)
def ORD : Prop := ∀ (n : Nat) (S A : Nat → Nat), 1 ≤ n → n ≤ 7 → Pm n S → Pm n A → chnN n S A = (bfs n S A).1.length
theorem ClsP_in {n i1 i2 i3 : Nat} {t1 t2 t3 i what z : Int} (h1 : i1 < kmany n) (h2 : i2 < kmany n) (h3 : i3 < kmany n) (ht1 : t1 = (kT n i1 : Nat)) (ht2 : t2 = (kT n i2 : Nat)) (ht3 : t3 = (kT n i3 : Nat)) (hi : -1 ≤ i) (hw : 0 ≤ what ∧ what ≤ 4)
    (hz : z = if i = -1 then ((clL n i1 i2 i3).length : Int) else if ((clL n i1 i2 i3).length : Int) ≤ i then -2 else clsV n (leastF (kT n i1) n) (pn n ((clL n i1 i2 i3).getD i.toNat 0)) what) : ClsP n t1 t2 t3 i what z :=
  Or.inr ⟨i1, i2, i3, ⟨h1, h2, h3⟩, ⟨ht1, ht2, ht3⟩, ⟨hi, hw⟩, hz⟩
set_option maxHeartbeats 4000000 in
set_option maxRecDepth 100000 in
theorem c_classesM (l : Launch) (G : Gx) {t1 t2 t3 i what : Int} (hr1 : rg t1) (hr2 : rg t2) (hr3 : rg t3) (hri : rg i) (hwt : rg what) (h64 : OP64) (hord : ORD) {n : Nat} {s a : Nat → Nat} (hV : MapV n s a) (w : Wd) (hM : RMW w n s a) (hR : RTab w n) : Sp l G 5 mX11_classes [aR 63, aI (t1), aI (t2), aI (t3), aI (i), aI (what)] w (fun z w' => Scr w w' ∧ ClsP n t1 t2 t3 i what z) := by
  obtain ⟨⟨hn1, hn7⟩, hs, ha⟩ := id hV
  obtain ⟨r0, r1, r2⟩ := id hM
  obtain ⟨r3, r4, rPK, rTK⟩ := id hR
  have hfc := fac_le hn1 hn7
  have hk15 := kmany_le n hn7
  refine Sp_of RX11 rfl (by decide +kernel) rfl (Nat.le_of_ble_eq_true rfl) ?_
  refine v_aload_n 0 (pc' := 1) rfl dX11_classes_0 rfl rfl ?_
  refine v_iload_n 1 (pc' := 2) rfl dX11_classes_1 rfl rfl ?_
  refine v_iload_n 2 (pc' := 3) rfl dX11_classes_2 rfl rfl ?_
  refine v_iload_n 3 (pc' := 4) rfl dX11_classes_3 rfl rfl ?_
  refine v_cVR (pc' := 7) rfl dX11_classes_4 lk_RX11_358 ly_63 rfl (c_areKinds l G hr1 hr2 hr3 hV w hM hR) rfl rfl rfl (fun areKinds1 hareKinds1 => ?_)
  refine v_if_eq (pc' := 10) (tgt := 26) rfl dX11_classes_7 (by decide) (ak_r hareKinds1) (fun c0 => ?_) (fun c0 => ?_)
  ·
    have hno := ak_0 hareKinds1 (by omega)
    refine v_iconst (pc' := 27) rfl dX11_classes_26 ?_
    refine v_iret dX11_classes_27 (by decide) (rfl) ?_
    first
    | exact ⟨Scr.rf _, Or.inl ⟨fun q => hno q.1, rfl⟩⟩
    | exact ⟨Scr.rf _, Or.inl ⟨fun q => hn2 q.2, rfl⟩⟩
    | exact ⟨hsc, ClsP_in h1 h2 h3 ht1 ht2 ht3 (by omega) hy2 (by rw [if_pos (by omega)])⟩
    | exact ⟨hsc, ClsP_in h1 h2 h3 ht1 ht2 ht3 (by omega) hy2 (by rw [if_neg (by omega), if_pos (by omega)])⟩
    | exact ⟨hsc, ClsP_in h1 h2 h3 ht1 ht2 ht3 (by omega) hy2 (by rw [if_neg e0, if_neg e1]; unfold clsV; first | (rw [if_pos (by omega)]; exact hsv') | rw [if_neg (by omega), if_pos (by omega)] | rw [if_neg (by omega), if_neg (by omega), if_pos (by omega)])⟩
    | exact ⟨hsc.tr hsg, ClsP_in h1 h2 h3 ht1 ht2 ht3 (by omega) hy2 (by rw [if_neg e0, if_neg e1]; unfold clsV; rw [if_neg (by omega), if_neg (by omega), if_neg (by omega), if_pos (by omega), hord n _ _ hn1 hn7 hSp hAp]; exact zg)⟩
    | exact ⟨hsc.tr hsg, ClsP_in h1 h2 h3 ht1 ht2 ht3 (by omega) hy2 (by rw [if_neg e0, if_neg e1]; unfold clsV; rw [if_neg (by omega), if_neg (by omega), if_neg (by omega), if_neg (by omega)]; exact zg)⟩
  ·
    obtain ⟨i1, i2, i3, ⟨h1, h2, h3⟩, ht1, ht2, ht3⟩ := ak_1 hareKinds1 (by omega)
    refine v_iload 4 (pc' := 12) rfl dX11_classes_10 rfl ?_
    refine v_iconst (pc' := 13) rfl dX11_classes_12 ?_
    refine v_icmp_lt (pc' := 16) (tgt := 26) rfl dX11_classes_13 (by decide) (by omega) (by omega) (fun c1 => ?_) (fun c1 => ?_)
    ·
      have hn2 : ¬ (-1 ≤ i ∧ 0 ≤ what ∧ what ≤ 4) := fun q => by omega
      refine v_iconst (pc' := 27) rfl dX11_classes_26 ?_
      refine v_iret dX11_classes_27 (by decide) (rfl) ?_
      first
      | exact ⟨Scr.rf _, Or.inl ⟨fun q => hno q.1, rfl⟩⟩
      | exact ⟨Scr.rf _, Or.inl ⟨fun q => hn2 q.2, rfl⟩⟩
      | exact ⟨hsc, ClsP_in h1 h2 h3 ht1 ht2 ht3 (by omega) hy2 (by rw [if_pos (by omega)])⟩
      | exact ⟨hsc, ClsP_in h1 h2 h3 ht1 ht2 ht3 (by omega) hy2 (by rw [if_neg (by omega), if_pos (by omega)])⟩
      | exact ⟨hsc, ClsP_in h1 h2 h3 ht1 ht2 ht3 (by omega) hy2 (by rw [if_neg e0, if_neg e1]; unfold clsV; first | (rw [if_pos (by omega)]; exact hsv') | rw [if_neg (by omega), if_pos (by omega)] | rw [if_neg (by omega), if_neg (by omega), if_pos (by omega)])⟩
      | exact ⟨hsc.tr hsg, ClsP_in h1 h2 h3 ht1 ht2 ht3 (by omega) hy2 (by rw [if_neg e0, if_neg e1]; unfold clsV; rw [if_neg (by omega), if_neg (by omega), if_neg (by omega), if_pos (by omega), hord n _ _ hn1 hn7 hSp hAp]; exact zg)⟩
      | exact ⟨hsc.tr hsg, ClsP_in h1 h2 h3 ht1 ht2 ht3 (by omega) hy2 (by rw [if_neg e0, if_neg e1]; unfold clsV; rw [if_neg (by omega), if_neg (by omega), if_neg (by omega), if_neg (by omega)]; exact zg)⟩
    ·
      refine v_iload 5 (pc' := 18) rfl dX11_classes_16 rfl ?_
      refine v_iconst (pc' := 19) rfl dX11_classes_18 ?_
      refine v_iconst (pc' := 20) rfl dX11_classes_19 ?_
      refine v_cSP (pc' := 23) rfl dX11_classes_20 lk_RX11_121 rfl (c_in l G hwt (by decide) (by decide) w) rfl rfl rfl ?_
      refine v_nm (fun in1 hin1 => ?_)
      refine v_if_ne (pc' := 26) (tgt := 28) rfl dX11_classes_23 (by decide) (in_r hin1) (fun c2 => ?_) (fun c2 => ?_)
      ·
        have hy2 := in_1 hin1 (by omega)
        refine v_aload_n 0 (pc' := 29) rfl dX11_classes_28 rfl rfl ?_
        refine v_aload_n 0 (pc' := 30) rfl dX11_classes_29 rfl rfl ?_
        refine v_iload_n 1 (pc' := 31) rfl dX11_classes_30 rfl rfl ?_
        refine v_cVR (pc' := 34) rfl dX11_classes_31 lk_RX11_178 ly_63 rfl (c_kindOf l G (n := n) (t := t1) hr1 hn1 hn7 w r4 (fun k hk => (rTK k hk).1)) rfl rfl rfl (fun kindOf1 hkindOf1 => ?_)
        have hkz1 := KX_is hn7 hkindOf1 h1 ht1
        refine v_aload_n 0 (pc' := 35) rfl dX11_classes_34 rfl rfl ?_
        refine v_iload_n 2 (pc' := 36) rfl dX11_classes_35 rfl rfl ?_
        refine v_cVR (pc' := 39) rfl dX11_classes_36 lk_RX11_178 ly_63 rfl (c_kindOf l G (n := n) (t := t2) hr2 hn1 hn7 w r4 (fun k hk => (rTK k hk).1)) rfl rfl rfl (fun kindOf2 hkindOf2 => ?_)
        have hkz2 := KX_is hn7 hkindOf2 h2 ht2
        refine v_aload_n 0 (pc' := 40) rfl dX11_classes_39 rfl rfl ?_
        refine v_iload_n 3 (pc' := 41) rfl dX11_classes_40 rfl rfl ?_
        refine v_cVR (pc' := 44) rfl dX11_classes_41 lk_RX11_178 ly_63 rfl (c_kindOf l G (n := n) (t := t3) hr3 hn1 hn7 w r4 (fun k hk => (rTK k hk).1)) rfl rfl rfl (fun kindOf3 hkindOf3 => ?_)
        have hkz3 := KX_is hn7 hkindOf3 h3 ht3
        refine v_cVv (pc' := 47) rfl dX11_classes_44 lk_RX11_374 ly_63 rfl (c_laysClasses l G hn1 hn7 h1 h2 h3 hkz1 hkz2 hkz3 h64 w hM.1 hR) rfl rfl rfl (fun laysClasses1 w6 hq6 => ?_)
        obtain ⟨hsc, hCL⟩ := hq6
        have hcm : w6 63 46 = ((clL n i1 i2 i3).length : Nat) := hCL.1
        have hl64 : (clL n i1 i2 i3).length ≤ 64 := h64 n i1 i2 i3 hn1 hn7 h1 h2 h3
        refine v_iload 4 (pc' := 49) rfl dX11_classes_47 rfl ?_
        refine v_iconst (pc' := 50) rfl dX11_classes_49 ?_
        refine v_icmp_ne (pc' := 53) (tgt := 58) rfl dX11_classes_50 (by decide) (by omega) (by omega) (fun c3 => ?_) (fun c3 => ?_)
        ·
          refine v_iload 4 (pc' := 60) rfl dX11_classes_58 rfl ?_
          refine v_aload_n 0 (pc' := 61) rfl dX11_classes_60 rfl rfl ?_
          refine v_get (z := (((clL n i1 i2 i3).length : Nat) : Int)) (pc' := 64) rfl dX11_classes_61 fk_RX11_371 ly_63 rfl (hcm) ?_
          refine v_icmp_lt (pc' := 67) (tgt := 70) rfl dX11_classes_64 (by decide) (by omega) (by omega) (fun c4 => ?_) (fun c4 => ?_)
          ·
            have hil : i.toNat < (clL n i1 i2 i3).length := by omega
            have hSp := lp_pm hn7 h1
            have hAp := (pn_at hn1 hn7 (clL_lt hil)).1
            have hau5 := autN_le hn1 hn7 hSp (pn n ((clL n i1 i2 i3).getD i.toNat 0))
            have e0 : ¬ i = -1 := by omega
            have e1 : ¬ ((clL n i1 i2 i3).length : Int) ≤ i := by omega
            refine v_aload_n 0 (pc' := 71) rfl dX11_classes_70 rfl rfl ?_
            refine v_getR (pc' := 74) rfl dX11_classes_71 fk_RX11_22 ly_63 rfl ?_
            refine v_aload_n 0 (pc' := 75) rfl dX11_classes_74 rfl rfl ?_
            refine v_iload_n 1 (pc' := 76) rfl dX11_classes_75 rfl rfl ?_
            refine v_cVR (pc' := 79) rfl dX11_classes_76 lk_RX11_178 ly_63 rfl (c_kindOf l G (n := n) (t := t1) hr1 hn1 hn7 w6 ((hsc 63 4 (by decide)).trans r4) (fun k hk => (hsc 66 k rfl).trans (rTK k hk).1)) rfl rfl rfl (fun kindOf4 hkindOf4 => ?_)
            have hkz4 := KX_is hn7 hkindOf4 h1 ht1
            refine v_iald (z := ((cdk (leastF (kT n i1) n) n : Nat) : Int)) (pc' := 80) rfl dX11_classes_79 ly_68 (by omega) (by omega) rfl (by rw [show kindOf4.toNat = i1 by omega, hsc 68 i1 rfl]; exact (rTK i1 h1).2.2) ?_
            refine v_nm (fun sv' hsv' => ?_)
            refine v_istore (ls' := [(6, _), (0, _), (1, _), (2, _), (3, _), (4, _), (5, _)]) (pc' := 82) rfl dX11_classes_80 rfl rfl ?_
            refine v_iload 6 (pc' := 84) rfl dX11_classes_82 rfl ?_
            rcases (show what = 0 ∨ what = 1 ∨ what = 2 ∨ what = 3 ∨ (what < 0 ∨ 3 < what) by omega) with sw0 | sw0 | sw0 | sw0 | sw0
            ·
              refine v_tin (tgt := 116) 0 dX11_classes_84 sw0 (by decide) (by decide) (by decide) rfl (by decide) ?_
              refine v_iload 0 (pc' := 118) rfl dX11_classes_116 rfl ?_
              refine v_iret dX11_classes_118 (by decide) (rfl) ?_
              first
              | exact ⟨Scr.rf _, Or.inl ⟨fun q => hno q.1, rfl⟩⟩
              | exact ⟨Scr.rf _, Or.inl ⟨fun q => hn2 q.2, rfl⟩⟩
              | exact ⟨hsc, ClsP_in h1 h2 h3 ht1 ht2 ht3 (by omega) hy2 (by rw [if_pos (by omega)])⟩
              | exact ⟨hsc, ClsP_in h1 h2 h3 ht1 ht2 ht3 (by omega) hy2 (by rw [if_neg (by omega), if_pos (by omega)])⟩
              | exact ⟨hsc, ClsP_in h1 h2 h3 ht1 ht2 ht3 (by omega) hy2 (by rw [if_neg e0, if_neg e1]; unfold clsV; first | (rw [if_pos (by omega)]; exact hsv') | rw [if_neg (by omega), if_pos (by omega)] | rw [if_neg (by omega), if_neg (by omega), if_pos (by omega)])⟩
              | exact ⟨hsc.tr hsg, ClsP_in h1 h2 h3 ht1 ht2 ht3 (by omega) hy2 (by rw [if_neg e0, if_neg e1]; unfold clsV; rw [if_neg (by omega), if_neg (by omega), if_neg (by omega), if_pos (by omega), hord n _ _ hn1 hn7 hSp hAp]; exact zg)⟩
              | exact ⟨hsc.tr hsg, ClsP_in h1 h2 h3 ht1 ht2 ht3 (by omega) hy2 (by rw [if_neg e0, if_neg e1]; unfold clsV; rw [if_neg (by omega), if_neg (by omega), if_neg (by omega), if_neg (by omega)]; exact zg)⟩
            ·
              refine v_tin (tgt := 119) 1 dX11_classes_84 sw0 (by decide) (by decide) (by decide) rfl (by decide) ?_
              refine v_aload_n 1 (pc' := 120) rfl dX11_classes_119 rfl rfl ?_
              refine v_getR (pc' := 123) rfl dX11_classes_120 fk_RX11_83 ly_63 rfl ?_
              refine v_iload 5 (pc' := 125) rfl dX11_classes_123 rfl ?_
              refine v_iald (z := ((cdk (pn n ((clL n i1 i2 i3).getD i.toNat 0)) n : Nat) : Int)) (pc' := 126) rfl dX11_classes_125 ly_88 (by omega) (by omega) rfl ((hCL.2 _ hil).1) ?_
              refine v_iret dX11_classes_126 (by decide) (rfl) ?_
              first
              | exact ⟨Scr.rf _, Or.inl ⟨fun q => hno q.1, rfl⟩⟩
              | exact ⟨Scr.rf _, Or.inl ⟨fun q => hn2 q.2, rfl⟩⟩
              | exact ⟨hsc, ClsP_in h1 h2 h3 ht1 ht2 ht3 (by omega) hy2 (by rw [if_pos (by omega)])⟩
              | exact ⟨hsc, ClsP_in h1 h2 h3 ht1 ht2 ht3 (by omega) hy2 (by rw [if_neg (by omega), if_pos (by omega)])⟩
              | exact ⟨hsc, ClsP_in h1 h2 h3 ht1 ht2 ht3 (by omega) hy2 (by rw [if_neg e0, if_neg e1]; unfold clsV; first | (rw [if_pos (by omega)]; exact hsv') | rw [if_neg (by omega), if_pos (by omega)] | rw [if_neg (by omega), if_neg (by omega), if_pos (by omega)])⟩
              | exact ⟨hsc.tr hsg, ClsP_in h1 h2 h3 ht1 ht2 ht3 (by omega) hy2 (by rw [if_neg e0, if_neg e1]; unfold clsV; rw [if_neg (by omega), if_neg (by omega), if_neg (by omega), if_pos (by omega), hord n _ _ hn1 hn7 hSp hAp]; exact zg)⟩
              | exact ⟨hsc.tr hsg, ClsP_in h1 h2 h3 ht1 ht2 ht3 (by omega) hy2 (by rw [if_neg e0, if_neg e1]; unfold clsV; rw [if_neg (by omega), if_neg (by omega), if_neg (by omega), if_neg (by omega)]; exact zg)⟩
            ·
              refine v_tin (tgt := 127) 2 dX11_classes_84 sw0 (by decide) (by decide) (by decide) rfl (by decide) ?_
              refine v_aload_n 1 (pc' := 128) rfl dX11_classes_127 rfl rfl ?_
              refine v_getR (pc' := 131) rfl dX11_classes_128 fk_RX11_86 ly_63 rfl ?_
              refine v_iload 5 (pc' := 133) rfl dX11_classes_131 rfl ?_
              refine v_iald (z := ((autN n (leastF (kT n i1) n) (pn n ((clL n i1 i2 i3).getD i.toNat 0)) : Nat) : Int)) (pc' := 134) rfl dX11_classes_133 ly_89 (by omega) (by omega) rfl ((hCL.2 _ hil).2) ?_
              refine v_iret dX11_classes_134 (by decide) (rfl) ?_
              first
              | exact ⟨Scr.rf _, Or.inl ⟨fun q => hno q.1, rfl⟩⟩
              | exact ⟨Scr.rf _, Or.inl ⟨fun q => hn2 q.2, rfl⟩⟩
              | exact ⟨hsc, ClsP_in h1 h2 h3 ht1 ht2 ht3 (by omega) hy2 (by rw [if_pos (by omega)])⟩
              | exact ⟨hsc, ClsP_in h1 h2 h3 ht1 ht2 ht3 (by omega) hy2 (by rw [if_neg (by omega), if_pos (by omega)])⟩
              | exact ⟨hsc, ClsP_in h1 h2 h3 ht1 ht2 ht3 (by omega) hy2 (by rw [if_neg e0, if_neg e1]; unfold clsV; first | (rw [if_pos (by omega)]; exact hsv') | rw [if_neg (by omega), if_pos (by omega)] | rw [if_neg (by omega), if_neg (by omega), if_pos (by omega)])⟩
              | exact ⟨hsc.tr hsg, ClsP_in h1 h2 h3 ht1 ht2 ht3 (by omega) hy2 (by rw [if_neg e0, if_neg e1]; unfold clsV; rw [if_neg (by omega), if_neg (by omega), if_neg (by omega), if_pos (by omega), hord n _ _ hn1 hn7 hSp hAp]; exact zg)⟩
              | exact ⟨hsc.tr hsg, ClsP_in h1 h2 h3 ht1 ht2 ht3 (by omega) hy2 (by rw [if_neg e0, if_neg e1]; unfold clsV; rw [if_neg (by omega), if_neg (by omega), if_neg (by omega), if_neg (by omega)]; exact zg)⟩
            ·
              refine v_tin (tgt := 135) 3 dX11_classes_84 sw0 (by decide) (by decide) (by decide) rfl (by decide) ?_
              refine v_aload_n 1 (pc' := 136) rfl dX11_classes_135 rfl rfl ?_
              refine v_iload 0 (pc' := 138) rfl dX11_classes_136 rfl ?_
              refine v_aload_n 1 (pc' := 139) rfl dX11_classes_138 rfl rfl ?_
              refine v_getR (pc' := 142) rfl dX11_classes_139 fk_RX11_83 ly_63 rfl ?_
              refine v_iload 5 (pc' := 144) rfl dX11_classes_142 rfl ?_
              refine v_iald (z := ((cdk (pn n ((clL n i1 i2 i3).getD i.toNat 0)) n : Nat) : Int)) (pc' := 145) rfl dX11_classes_144 ly_88 (by omega) (by omega) rfl ((hCL.2 _ hil).1) ?_
              refine v_cVi (pc' := 148) rfl dX11_classes_145 lk_RX11_295 ly_63 rfl (c_laysGroup l G hsv' rfl hSp hAp hn1 hn7 w6 ((hsc 63 0 (by decide)).trans hM.1) (hR.s hsc)) rfl rfl rfl (fun laysGroup1 w8 hq8 => ?_)
              obtain ⟨hsg, hGg, zg⟩ := hq8
              refine v_iret dX11_classes_148 (by decide) (rfl) ?_
              first
              | exact ⟨Scr.rf _, Or.inl ⟨fun q => hno q.1, rfl⟩⟩
              | exact ⟨Scr.rf _, Or.inl ⟨fun q => hn2 q.2, rfl⟩⟩
              | exact ⟨hsc, ClsP_in h1 h2 h3 ht1 ht2 ht3 (by omega) hy2 (by rw [if_pos (by omega)])⟩
              | exact ⟨hsc, ClsP_in h1 h2 h3 ht1 ht2 ht3 (by omega) hy2 (by rw [if_neg (by omega), if_pos (by omega)])⟩
              | exact ⟨hsc, ClsP_in h1 h2 h3 ht1 ht2 ht3 (by omega) hy2 (by rw [if_neg e0, if_neg e1]; unfold clsV; first | (rw [if_pos (by omega)]; exact hsv') | rw [if_neg (by omega), if_pos (by omega)] | rw [if_neg (by omega), if_neg (by omega), if_pos (by omega)])⟩
              | exact ⟨hsc.tr hsg, ClsP_in h1 h2 h3 ht1 ht2 ht3 (by omega) hy2 (by rw [if_neg e0, if_neg e1]; unfold clsV; rw [if_neg (by omega), if_neg (by omega), if_neg (by omega), if_pos (by omega), hord n _ _ hn1 hn7 hSp hAp]; exact zg)⟩
              | exact ⟨hsc.tr hsg, ClsP_in h1 h2 h3 ht1 ht2 ht3 (by omega) hy2 (by rw [if_neg e0, if_neg e1]; unfold clsV; rw [if_neg (by omega), if_neg (by omega), if_neg (by omega), if_neg (by omega)]; exact zg)⟩
            ·
              refine v_tout (tgt := 149) dX11_classes_84 (by omega) sw0 (by decide) ?_
              refine v_aload_n 1 (pc' := 150) rfl dX11_classes_149 rfl rfl ?_
              refine v_iload 0 (pc' := 152) rfl dX11_classes_150 rfl ?_
              refine v_aload_n 1 (pc' := 153) rfl dX11_classes_152 rfl rfl ?_
              refine v_getR (pc' := 156) rfl dX11_classes_153 fk_RX11_83 ly_63 rfl ?_
              refine v_iload 5 (pc' := 158) rfl dX11_classes_156 rfl ?_
              refine v_iald (z := ((cdk (pn n ((clL n i1 i2 i3).getD i.toNat 0)) n : Nat) : Int)) (pc' := 159) rfl dX11_classes_158 ly_88 (by omega) (by omega) rfl ((hCL.2 _ hil).1) ?_
              refine v_cVi (pc' := 162) rfl dX11_classes_159 lk_RX11_377 ly_63 rfl (c_symmetric l G hsv' rfl hSp hAp hn1 hn7 w6 ((hsc 63 0 (by decide)).trans hM.1) (hR.s hsc)) rfl rfl rfl (fun symmetric1 w9 hq9 => ?_)
              obtain ⟨hsg, zg⟩ := hq9
              refine v_iret dX11_classes_162 (by decide) (rfl) ?_
              first
              | exact ⟨Scr.rf _, Or.inl ⟨fun q => hno q.1, rfl⟩⟩
              | exact ⟨Scr.rf _, Or.inl ⟨fun q => hn2 q.2, rfl⟩⟩
              | exact ⟨hsc, ClsP_in h1 h2 h3 ht1 ht2 ht3 (by omega) hy2 (by rw [if_pos (by omega)])⟩
              | exact ⟨hsc, ClsP_in h1 h2 h3 ht1 ht2 ht3 (by omega) hy2 (by rw [if_neg (by omega), if_pos (by omega)])⟩
              | exact ⟨hsc, ClsP_in h1 h2 h3 ht1 ht2 ht3 (by omega) hy2 (by rw [if_neg e0, if_neg e1]; unfold clsV; first | (rw [if_pos (by omega)]; exact hsv') | rw [if_neg (by omega), if_pos (by omega)] | rw [if_neg (by omega), if_neg (by omega), if_pos (by omega)])⟩
              | exact ⟨hsc.tr hsg, ClsP_in h1 h2 h3 ht1 ht2 ht3 (by omega) hy2 (by rw [if_neg e0, if_neg e1]; unfold clsV; rw [if_neg (by omega), if_neg (by omega), if_neg (by omega), if_pos (by omega), hord n _ _ hn1 hn7 hSp hAp]; exact zg)⟩
              | exact ⟨hsc.tr hsg, ClsP_in h1 h2 h3 ht1 ht2 ht3 (by omega) hy2 (by rw [if_neg e0, if_neg e1]; unfold clsV; rw [if_neg (by omega), if_neg (by omega), if_neg (by omega), if_neg (by omega)]; exact zg)⟩
          ·
            refine v_bipush (pc' := 69) rfl dX11_classes_67 rfl ?_
            refine v_iret dX11_classes_69 (by decide) (rfl) ?_
            first
            | exact ⟨Scr.rf _, Or.inl ⟨fun q => hno q.1, rfl⟩⟩
            | exact ⟨Scr.rf _, Or.inl ⟨fun q => hn2 q.2, rfl⟩⟩
            | exact ⟨hsc, ClsP_in h1 h2 h3 ht1 ht2 ht3 (by omega) hy2 (by rw [if_pos (by omega)])⟩
            | exact ⟨hsc, ClsP_in h1 h2 h3 ht1 ht2 ht3 (by omega) hy2 (by rw [if_neg (by omega), if_pos (by omega)])⟩
            | exact ⟨hsc, ClsP_in h1 h2 h3 ht1 ht2 ht3 (by omega) hy2 (by rw [if_neg e0, if_neg e1]; unfold clsV; first | (rw [if_pos (by omega)]; exact hsv') | rw [if_neg (by omega), if_pos (by omega)] | rw [if_neg (by omega), if_neg (by omega), if_pos (by omega)])⟩
            | exact ⟨hsc.tr hsg, ClsP_in h1 h2 h3 ht1 ht2 ht3 (by omega) hy2 (by rw [if_neg e0, if_neg e1]; unfold clsV; rw [if_neg (by omega), if_neg (by omega), if_neg (by omega), if_pos (by omega), hord n _ _ hn1 hn7 hSp hAp]; exact zg)⟩
            | exact ⟨hsc.tr hsg, ClsP_in h1 h2 h3 ht1 ht2 ht3 (by omega) hy2 (by rw [if_neg e0, if_neg e1]; unfold clsV; rw [if_neg (by omega), if_neg (by omega), if_neg (by omega), if_neg (by omega)]; exact zg)⟩
        ·
          refine v_aload_n 0 (pc' := 54) rfl dX11_classes_53 rfl rfl ?_
          refine v_get (z := (((clL n i1 i2 i3).length : Nat) : Int)) (pc' := 57) rfl dX11_classes_54 fk_RX11_371 ly_63 rfl (hcm) ?_
          refine v_iret dX11_classes_57 (by decide) (rfl) ?_
          first
          | exact ⟨Scr.rf _, Or.inl ⟨fun q => hno q.1, rfl⟩⟩
          | exact ⟨Scr.rf _, Or.inl ⟨fun q => hn2 q.2, rfl⟩⟩
          | exact ⟨hsc, ClsP_in h1 h2 h3 ht1 ht2 ht3 (by omega) hy2 (by rw [if_pos (by omega)])⟩
          | exact ⟨hsc, ClsP_in h1 h2 h3 ht1 ht2 ht3 (by omega) hy2 (by rw [if_neg (by omega), if_pos (by omega)])⟩
          | exact ⟨hsc, ClsP_in h1 h2 h3 ht1 ht2 ht3 (by omega) hy2 (by rw [if_neg e0, if_neg e1]; unfold clsV; first | (rw [if_pos (by omega)]; exact hsv') | rw [if_neg (by omega), if_pos (by omega)] | rw [if_neg (by omega), if_neg (by omega), if_pos (by omega)])⟩
          | exact ⟨hsc.tr hsg, ClsP_in h1 h2 h3 ht1 ht2 ht3 (by omega) hy2 (by rw [if_neg e0, if_neg e1]; unfold clsV; rw [if_neg (by omega), if_neg (by omega), if_neg (by omega), if_pos (by omega), hord n _ _ hn1 hn7 hSp hAp]; exact zg)⟩
          | exact ⟨hsc.tr hsg, ClsP_in h1 h2 h3 ht1 ht2 ht3 (by omega) hy2 (by rw [if_neg e0, if_neg e1]; unfold clsV; rw [if_neg (by omega), if_neg (by omega), if_neg (by omega), if_neg (by omega)]; exact zg)⟩
      ·
        have hn2 : ¬ (-1 ≤ i ∧ 0 ≤ what ∧ what ≤ 4) := fun q => in_0 hin1 (by omega) q.2
        refine v_iconst (pc' := 27) rfl dX11_classes_26 ?_
        refine v_iret dX11_classes_27 (by decide) (rfl) ?_
        first
        | exact ⟨Scr.rf _, Or.inl ⟨fun q => hno q.1, rfl⟩⟩
        | exact ⟨Scr.rf _, Or.inl ⟨fun q => hn2 q.2, rfl⟩⟩
        | exact ⟨hsc, ClsP_in h1 h2 h3 ht1 ht2 ht3 (by omega) hy2 (by rw [if_pos (by omega)])⟩
        | exact ⟨hsc, ClsP_in h1 h2 h3 ht1 ht2 ht3 (by omega) hy2 (by rw [if_neg (by omega), if_pos (by omega)])⟩
        | exact ⟨hsc, ClsP_in h1 h2 h3 ht1 ht2 ht3 (by omega) hy2 (by rw [if_neg e0, if_neg e1]; unfold clsV; first | (rw [if_pos (by omega)]; exact hsv') | rw [if_neg (by omega), if_pos (by omega)] | rw [if_neg (by omega), if_neg (by omega), if_pos (by omega)])⟩
        | exact ⟨hsc.tr hsg, ClsP_in h1 h2 h3 ht1 ht2 ht3 (by omega) hy2 (by rw [if_neg e0, if_neg e1]; unfold clsV; rw [if_neg (by omega), if_neg (by omega), if_neg (by omega), if_pos (by omega), hord n _ _ hn1 hn7 hSp hAp]; exact zg)⟩
        | exact ⟨hsc.tr hsg, ClsP_in h1 h2 h3 ht1 ht2 ht3 (by omega) hy2 (by rw [if_neg e0, if_neg e1]; unfold clsV; rw [if_neg (by omega), if_neg (by omega), if_neg (by omega), if_neg (by omega)]; exact zg)⟩

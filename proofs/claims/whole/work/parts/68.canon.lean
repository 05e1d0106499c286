/-! ===== the reference: canon, auts, symmetric, label, same ===== -/
theorem canA_min {n : Nat} {s a : Nat → Nat} (h1 : 1 ≤ n) (h7 : n ≤ 7) (hs : Pm n s) (ha : Pm n a) : ∃ r, Pm n r ∧ pconj s r = canS n s ∧ pconj a r = canA n s a ∧ ∀ q, Pm n q → pconj s q = canS n s → hx (canA n s a) ≤ hx (pconj a q) := by
  obtain ⟨r, hr, e1, e2, hm⟩ := canA_ok h1 h7 hs ha
  have hp := canA_pm h1 h7 hs ha
  refine ⟨r, hr, e1, ?_, fun q hq hc => by rw [hp.2, e2]; exact hm q hq hc⟩
  exact (hx_inj (Pm.conj h7 ha hr) hp.1 h7 h7).mp (by rw [hp.2, e2])
theorem conj_back {n : Nat} {p r : Nat → Nat} (h7 : n ≤ 7) (hr : Pm n r) : pconj (pconj p r) (pinv r) = p := by
  rw [conj_conj h7 hr (hr.inv h7), pinv_comp_id h7 hr, conj_id h7]
theorem can_same {n : Nat} {s a s2 a2 : Nat → Nat} (h1 : 1 ≤ n) (h7 : n ≤ 7) (hs : Pm n s) (ha : Pm n a) (hs2 : Pm n s2) (ha2 : Pm n a2) : (canS n s2 = canS n s ∧ canA n s2 a2 = canA n s a) ↔ ∃ r, Pm n r ∧ pconj s r = s2 ∧ pconj a r = a2 := by
  constructor
  · rintro ⟨e1, e2⟩
    obtain ⟨r, hr, p1, p2, -⟩ := canA_min h1 h7 hs ha
    obtain ⟨q, hq, q1, q2, -⟩ := canA_min h1 h7 hs2 ha2
    refine ⟨pcomp r (pinv q), hr.comp (hq.inv h7), ?_, ?_⟩
    · rw [← conj_conj h7 hr (hq.inv h7), p1, ← e1, ← q1, conj_back h7 hq]
    · rw [← conj_conj h7 hr (hq.inv h7), p2, ← e2, ← q2, conj_back h7 hq]
  · rintro ⟨r, hr, p1, p2⟩
    have eS : canS n s2 = canS n s := by unfold canS; rw [← p1, kind_conj h1 h7 hs hr]
    refine ⟨eS, ?_⟩
    obtain ⟨x, hx', x1, x2, xm⟩ := canA_min h1 h7 hs ha
    obtain ⟨y, hy, y1, y2, ym⟩ := canA_min h1 h7 hs2 ha2
    have v1 := xm (pcomp r y) (hr.comp hy) (by rw [← conj_conj h7 hr hy, p1, y1, eS])
    rw [← conj_conj h7 hr hy, p2, y2] at v1
    have v2 := ym (pcomp (pinv r) x) ((hr.inv h7).comp hx') (by rw [← conj_conj h7 (hr.inv h7) hx', ← p1, conj_back h7 hr, x1, ← eS, p1])
    rw [← conj_conj h7 (hr.inv h7) hx', ← p2, conj_back h7 hr, x2] at v2
    rw [p2] at v2
    exact (hx_inj (canA_pm h1 h7 hs2 ha2).1 (canA_pm h1 h7 hs ha).1 h7 h7).mp (by omega)
/-- the least of all relabellings so far, of s, then of a -/
def LexI (n : Nat) (f g : Nat → Nat) (j : Nat) (cS cA : Int) : Prop := (j = 0 ∧ cS = 0) ∨
  (0 < cS ∧ ∃ r, r < j ∧ cS = (cdk (pconj f (pn n r)) n : Nat) ∧ cA = (cdk (pconj g (pn n r)) n : Nat) ∧ ∀ i, i < j → cS < (cdk (pconj f (pn n i)) n : Nat) ∨ (cS = (cdk (pconj f (pn n i)) n : Nat) ∧ cA ≤ (cdk (pconj g (pn n i)) n : Nat)))
theorem LexI.next {n j : Nat} {f g : Nat → Nat} {cS cA cS' cA' : Int} (h : LexI n f g j cS cA) (h0 : 0 < (cdk (pconj f (pn n j)) n : Int))
    (hst : (cS' = (cdk (pconj f (pn n j)) n : Nat) ∧ cA' = (cdk (pconj g (pn n j)) n : Nat) ∧ (cS ≤ 0 ∨ cS' < cS ∨ (cS' = cS ∧ cA' < cA))) ∨ (cS' = cS ∧ cA' = cA ∧ 0 < cS ∧ (cS < (cdk (pconj f (pn n j)) n : Nat) ∨ (cS = (cdk (pconj f (pn n j)) n : Nat) ∧ cA ≤ (cdk (pconj g (pn n j)) n : Nat))))) : LexI n f g (j + 1) cS' cA' := by
  right
  rcases hst with ⟨e1, e2, e3⟩ | ⟨e1, e2, e3, e4⟩
  · refine ⟨by omega, j, by omega, e1, e2, fun i hi => ?_⟩
    by_cases q : i = j
    · subst q; exact Or.inr ⟨e1, by omega⟩
    · rcases h with ⟨hj, -⟩ | ⟨hc, r, hr, -, -, hall⟩
      · omega
      · have := hall i (by omega); omega
  · rcases h with ⟨hj, hc⟩ | ⟨hc, r, hr, a, b, hall⟩
    · omega
    · refine ⟨by omega, r, by omega, by omega, by omega, fun i hi => ?_⟩
      by_cases q : i = j
      · subst q; omega
      · have := hall i (by omega); omega
theorem LexI.rg {n j : Nat} {f g : Nat → Nat} {cS cA : Int} (hn : n ≤ 7) (hn1 : 1 ≤ n) (hf : Pm n f) (hg : Pm n g) (hj : j ≤ facN n) (h : LexI n f g j cS cA) : (0 ≤ cS ∧ cS ≤ 10000000) ∧ (0 < cS → 0 ≤ cA ∧ cA ≤ 10000000) := by
  rcases h with ⟨-, h⟩ | ⟨h0, r, hr, a, b, -⟩
  · exact ⟨by omega, fun q => by omega⟩
  · have hp := (pn_at hn1 hn (show r < facN n by omega)).1
    have u := cd_le (Pm.conj hn hf hp) hn (Nat.le_refl n)
    have v := cd_le (Pm.conj hn hg hp) hn (Nat.le_refl n)
    exact ⟨by omega, fun _ => by omega⟩
theorem LexI.can {n : Nat} {f g : Nat → Nat} {cS cA : Int} (hn : n ≤ 7) (hn1 : 1 ≤ n) (hf : Pm n f) (hg : Pm n g) (h : LexI n f g (facN n) cS cA) : cS = (cdk (canS n f) n : Nat) ∧ cA = (cdk (canA n f g) n : Nat) := by
  have hfc := fac_le hn1 hn
  rcases h with ⟨h, -⟩ | ⟨-, r, hr, a, b, hall⟩
  · omega
  · have hp := (pn_at hn1 hn hr).1
    obtain ⟨x, hx', x1, x2, xm⟩ := canA_min hn1 hn hf hg
    have hxr := pn_rank hn1 hn hx'
    have hS := canS_pm hn1 hn hf
    have hA := (canA_pm hn1 hn hf hg).1
    have hc := Pm.conj hn hf hp
    have hcg := Pm.conj hn hg hp
    have hl := (least_conj hn1 hn _ (pconj f (pn n r)) (Nat.le_refl _) hc).2
    rw [kind_conj hn1 hn hf hp] at hl
    have hle : cdk (canS n f) n ≤ cdk (pconj f (pn n r)) n := by
      rcases Nat.lt_or_ge (cdk (pconj f (pn n r)) n) (cdk (canS n f) n) with q | q
      · have := (cd_hx hc hS hn).1.mp q
        unfold canS at this; omega
      · exact q
    have hx2 := hall _ hxr.1
    rw [hxr.2, x1, x2] at hx2
    have eS : cdk (pconj f (pn n r)) n = cdk (canS n f) n := by omega
    have eS2 := (cd_inj hc hS hn).mp eS
    have hm := xm _ hp eS2
    have hle2 : cdk (canA n f g) n ≤ cdk (pconj g (pn n r)) n := by
      rcases Nat.lt_or_ge (cdk (pconj g (pn n r)) n) (cdk (canA n f g) n) with q | q
      · have := (cd_hx hcg hA hn).1.mp q
        omega
      · exact q
    omega
set_option maxHeartbeats 4000000 in
set_option maxRecDepth 100000 in
theorem c_laysCanonK (l : Launch) (G : Gx) {p q : Int} {n : Nat} {f g : Nat → Nat} (hp : p = (cdk f n : Nat)) (hq : q = (cdk g n : Nat)) (hf : Pm n f) (hg : Pm n g) (hn1 : 1 ≤ n) (hn7 : n ≤ 7) (w : Wd) (h00 : w 63 0 = n) (hR : RTab w n) : Sp l G 2 mX11_laysCanon [aR 63, aI (p), aI (q)] w (fun _ w' => w' 63 24 = (cdk (canS n f) n : Nat) ∧ w' 63 25 = (cdk (canA n f g) n : Nat) ∧ Mid w w') := by
  have r0 := h00
  obtain ⟨r3, r4, rPK, rTK⟩ := id hR
  have hfc := fac_le hn1 hn7
  refine Sp_of RX11 rfl (by decide +kernel) rfl (Nat.le_of_ble_eq_true rfl) ?_
  refine v_aload_n 0 (pc' := 1) rfl dX11_laysCanon_0 rfl rfl ?_
  refine v_iconst (pc' := 2) rfl dX11_laysCanon_1 ?_
  refine v_put (pc' := 5) rfl dX11_laysCanon_2 fi_RX11_249 ly_63 rfl ?_
  refine v_nmw (fun w1 hw1 => ?_)
  have r0 : w1 63 0 = (n : Int) := by rw [hw1, up_ne _ _ (by omega)]; exact r0
  have r3 : w1 63 3 = ((facN n : Nat) : Int) := by rw [hw1, up_ne _ _ (by omega)]; exact r3
  have F63_24 : w1 63 24 = 0 := by rw [hw1, up_eq]
  refine v_iconst (pc' := 6) rfl dX11_laysCanon_5 ?_
  refine v_istore_n (ls' := [(3, _), (0, _), (1, _), (2, _)]) (pc' := 7) rfl dX11_laysCanon_6 rfl rfl rfl ?_
  refine v_ls [1, 2, 3, 0] rfl ?_
  refine v_loop2 7 (fun (k : Int) (wl : Wd) => ∃ j : Nat, k = j ∧ j ≤ facN n ∧ LexI n f g j (wl 63 24) (wl 63 25) ∧ Mid w wl) (fun (k : Int) (wl : Wd) => (5040 - k).toNat) (fun (k : Int) (wl : Wd) => [(0, aR 63), (1, aI (p)), (2, aI (q)), (3, aI (k))]) (fun (k : Int) (wl : Wd) => []) (fun (k : Int) (wl : Wd) => wl) (fun k wl hI0 ih0 => ?_) (0) w1 (⟨0, rfl, by omega, Or.inl ⟨rfl, F63_24⟩, by rw [hw1]; exact (Mid.rf _).up (by decide)⟩)
  obtain ⟨j, hk, hj, hlex, hsc⟩ := hI0
  have g0 := (hsc 63 0 (by decide)).trans h00
  have g3 := (hsc 63 3 (by decide)).trans hR.1
  have hPl : ∀ i, i < facN n → wl 64 i = (cdk (pn n i) n : Nat) := fun i hi => (hsc 64 i rfl).trans (rPK i hi).1
  have hlr := hlex.rg hn7 hn1 hf hg hj
  obtain ⟨cS, hcS⟩ : ∃ v : Int, wl 63 24 = v := ⟨_, rfl⟩
  obtain ⟨cA, hcA⟩ : ∃ v : Int, wl 63 25 = v := ⟨_, rfl⟩
  rw [hcS, hcA] at hlex hlr
  refine v_iload_n 3 (pc' := 8) rfl dX11_laysCanon_7 rfl rfl ?_
  refine v_aload_n 0 (pc' := 9) rfl dX11_laysCanon_8 rfl rfl ?_
  refine v_get (z := ((facN n : Nat) : Int)) (pc' := 12) rfl dX11_laysCanon_9 fk_RX11_165 ly_63 rfl (g3) ?_
  refine v_icmp_ge (pc' := 15) (tgt := 106) rfl dX11_laysCanon_12 (by decide) (by omega) (by omega) (fun c0 => ?_) (fun c0 => ?_)
  ·
    have hje : j = facN n := by omega
    refine v_vret dX11_laysCanon_106 ?_
    rw [hje] at hlex
    have := hlex.can hn7 hn1 hf hg
    exact ⟨hcS.trans this.1, hcA.trans this.2, hsc⟩
  ·
    have hpj := pn_at hn1 hn7 (show j < facN n by omega)
    refine v_aload_n 0 (pc' := 16) rfl dX11_laysCanon_15 rfl rfl ?_
    refine v_iload_n 1 (pc' := 17) rfl dX11_laysCanon_16 rfl rfl ?_
    refine v_aload_n 0 (pc' := 18) rfl dX11_laysCanon_17 rfl rfl ?_
    refine v_getR (pc' := 21) rfl dX11_laysCanon_18 fk_RX11_7 ly_63 rfl ?_
    refine v_iload_n 3 (pc' := 22) rfl dX11_laysCanon_21 rfl rfl ?_
    refine v_iald (z := ((cdk (pn n j) n : Nat) : Int)) (pc' := 23) rfl dX11_laysCanon_22 ly_64 (by omega) (by omega) rfl (by rw [show k.toNat = j by omega]; exact hPl j (by omega)) ?_
    refine v_cVi (pc' := 26) rfl dX11_laysCanon_23 lk_RX11_252 ly_63 rfl (c_relabelledM l G hp rfl hf hpj.1 hn1 hn7 wl g0) rfl rfl rfl (fun relabelled1 w2 hq2 => ?_)
    obtain ⟨fx, zx⟩ := hq2
    have hcf := Pm.conj hn7 hf hpj.1
    have hcl := cd_le hcf hn7 (Nat.le_refl n)
    have hcp := cd_pos hcf hn1
    have g0 : w2 63 0 = (n : Int) := (fx 63 0 (by decide)).trans g0
    have g3 : w2 63 3 = ((facN n : Nat) : Int) := (fx 63 3 (by decide)).trans g3
    have hcS : w2 63 24 = cS := (fx 63 24 (by decide)).trans hcS
    have hcA : w2 63 25 = cA := (fx 63 25 (by decide)).trans hcA
    refine v_istore (ls' := [(4, _), (0, _), (1, _), (2, _), (3, _)]) (pc' := 28) rfl dX11_laysCanon_26 rfl rfl ?_
    refine v_aload_n 1 (pc' := 29) rfl dX11_laysCanon_28 rfl rfl ?_
    refine v_get (z := cS) (pc' := 32) rfl dX11_laysCanon_29 fk_RX11_249 ly_63 rfl (hcS) ?_
    refine v_if_le (pc' := 35) (tgt := 47) rfl dX11_laysCanon_32 (by decide) (by omega) (fun c1 => ?_) (fun c1 => ?_)
    ·
      refine v_aload_n 1 (pc' := 48) rfl dX11_laysCanon_47 rfl rfl ?_
      refine v_iload_n 3 (pc' := 49) rfl dX11_laysCanon_48 rfl rfl ?_
      refine v_aload_n 1 (pc' := 50) rfl dX11_laysCanon_49 rfl rfl ?_
      refine v_getR (pc' := 53) rfl dX11_laysCanon_50 fk_RX11_7 ly_63 rfl ?_
      refine v_iload_n 4 (pc' := 54) rfl dX11_laysCanon_53 rfl rfl ?_
      refine v_iald (z := ((cdk (pn n j) n : Nat) : Int)) (pc' := 55) rfl dX11_laysCanon_54 ly_64 (by omega) (by omega) rfl (by rw [show k.toNat = j by omega, fx 64 j rfl]; exact hPl j (by omega)) ?_
      refine v_cVi (pc' := 58) rfl dX11_laysCanon_55 lk_RX11_252 ly_63 rfl (c_relabelledM l G hq rfl hg hpj.1 hn1 hn7 w2 g0) rfl rfl rfl (fun relabelled2 w3 hq3 => ?_)
      obtain ⟨fy, zy⟩ := hq3
      have hcl2 := cd_le (Pm.conj hn7 hg hpj.1) hn7 (Nat.le_refl n)
      have g0 : w3 63 0 = (n : Int) := (fy 63 0 (by decide)).trans g0
      have g3 : w3 63 3 = ((facN n : Nat) : Int) := (fy 63 3 (by decide)).trans g3
      have hcS : w3 63 24 = cS := (fy 63 24 (by decide)).trans hcS
      have hcA : w3 63 25 = cA := (fy 63 25 (by decide)).trans hcA
      refine v_istore (ls' := [(5, _), (4, _), (0, _), (1, _), (2, _), (3, _)]) (pc' := 60) rfl dX11_laysCanon_58 rfl rfl ?_
      refine v_aload_n 2 (pc' := 61) rfl dX11_laysCanon_60 rfl rfl ?_
      refine v_get (z := cS) (pc' := 64) rfl dX11_laysCanon_61 fk_RX11_249 ly_63 rfl (hcS) ?_
      refine v_if_le (pc' := 67) (tgt := 88) rfl dX11_laysCanon_64 (by decide) (by omega) (fun c3 => ?_) (fun c3 => ?_)
      ·
        refine v_aload_n 2 (pc' := 89) rfl dX11_laysCanon_88 rfl rfl ?_
        refine v_iload 1 (pc' := 91) rfl dX11_laysCanon_89 rfl ?_
        refine v_put (pc' := 94) rfl dX11_laysCanon_91 fi_RX11_249 ly_63 rfl ?_
        refine v_nmw (fun w4 hw4 => ?_)
        have g0 : w4 63 0 = (n : Int) := by rw [hw4, up_ne _ _ (by omega)]; exact g0
        have g3 : w4 63 3 = ((facN n : Nat) : Int) := by rw [hw4, up_ne _ _ (by omega)]; exact g3
        have hcA : w4 63 25 = cA := by rw [hw4, up_ne _ _ (by omega)]; exact hcA
        have F63_24 : w4 63 24 = relabelled1 := by rw [hw4, up_eq]
        refine v_aload_n 2 (pc' := 95) rfl dX11_laysCanon_94 rfl rfl ?_
        refine v_iload 0 (pc' := 97) rfl dX11_laysCanon_95 rfl ?_
        refine v_put (pc' := 100) rfl dX11_laysCanon_97 fi_RX11_255 ly_63 rfl ?_
        refine v_nmw (fun w5 hw5 => ?_)
        have g0 : w5 63 0 = (n : Int) := by rw [hw5, up_ne _ _ (by omega)]; exact g0
        have g3 : w5 63 3 = ((facN n : Nat) : Int) := by rw [hw5, up_ne _ _ (by omega)]; exact g3
        have F63_24 : w5 63 24 = relabelled1 := by rw [hw5, up_ne _ _ (by omega)]; exact F63_24
        have F63_25 : w5 63 25 = relabelled2 := by rw [hw5, up_eq]
        refine v_iinc (ls' := [(3, _), (5, _), (4, _), (0, _), (1, _), (2, _)]) 5 (pc' := 103) rfl dX11_laysCanon_100 rfl rfl rfl ?_
        refine v_nl (fun k' hk' => ?_)
        refine v_goto (tgt := 7) dX11_laysCanon_103 (by decide) ?_
        refine v_ls [3, 4, 5, 0] rfl ?_
        exact ih0 (k') w5 (⟨j + 1, by omega, by omega, by rw [F63_24, F63_25]; exact hlex.next (by omega) (Or.inl ⟨zx, zy, by omega⟩), by rw [hw5, hw4]; exact (((hsc.tr (Mid.of fx (by decide))).tr (Mid.of fy (by decide))).up (by decide)).up (by decide)⟩) (by omega)
      ·
        refine v_iload 1 (pc' := 69) rfl dX11_laysCanon_67 rfl ?_
        refine v_aload_n 2 (pc' := 70) rfl dX11_laysCanon_69 rfl rfl ?_
        refine v_get (z := cS) (pc' := 73) rfl dX11_laysCanon_70 fk_RX11_249 ly_63 rfl (hcS) ?_
        refine v_icmp_ne (pc' := 76) (tgt := 88) rfl dX11_laysCanon_73 (by decide) (by omega) (by omega) (fun c4 => ?_) (fun c4 => ?_)
        ·
          refine v_aload_n 2 (pc' := 89) rfl dX11_laysCanon_88 rfl rfl ?_
          refine v_iload 1 (pc' := 91) rfl dX11_laysCanon_89 rfl ?_
          refine v_put (pc' := 94) rfl dX11_laysCanon_91 fi_RX11_249 ly_63 rfl ?_
          refine v_nmw (fun w4 hw4 => ?_)
          have g0 : w4 63 0 = (n : Int) := by rw [hw4, up_ne _ _ (by omega)]; exact g0
          have g3 : w4 63 3 = ((facN n : Nat) : Int) := by rw [hw4, up_ne _ _ (by omega)]; exact g3
          have hcA : w4 63 25 = cA := by rw [hw4, up_ne _ _ (by omega)]; exact hcA
          have F63_24 : w4 63 24 = relabelled1 := by rw [hw4, up_eq]
          refine v_aload_n 2 (pc' := 95) rfl dX11_laysCanon_94 rfl rfl ?_
          refine v_iload 0 (pc' := 97) rfl dX11_laysCanon_95 rfl ?_
          refine v_put (pc' := 100) rfl dX11_laysCanon_97 fi_RX11_255 ly_63 rfl ?_
          refine v_nmw (fun w5 hw5 => ?_)
          have g0 : w5 63 0 = (n : Int) := by rw [hw5, up_ne _ _ (by omega)]; exact g0
          have g3 : w5 63 3 = ((facN n : Nat) : Int) := by rw [hw5, up_ne _ _ (by omega)]; exact g3
          have F63_24 : w5 63 24 = relabelled1 := by rw [hw5, up_ne _ _ (by omega)]; exact F63_24
          have F63_25 : w5 63 25 = relabelled2 := by rw [hw5, up_eq]
          refine v_iinc (ls' := [(3, _), (5, _), (4, _), (0, _), (1, _), (2, _)]) 5 (pc' := 103) rfl dX11_laysCanon_100 rfl rfl rfl ?_
          refine v_nl (fun k' hk' => ?_)
          refine v_goto (tgt := 7) dX11_laysCanon_103 (by decide) ?_
          refine v_ls [3, 4, 5, 0] rfl ?_
          exact ih0 (k') w5 (⟨j + 1, by omega, by omega, by rw [F63_24, F63_25]; exact hlex.next (by omega) (Or.inl ⟨zx, zy, by omega⟩), by rw [hw5, hw4]; exact (((hsc.tr (Mid.of fx (by decide))).tr (Mid.of fy (by decide))).up (by decide)).up (by decide)⟩) (by omega)
        ·
          refine v_iload 0 (pc' := 78) rfl dX11_laysCanon_76 rfl ?_
          refine v_aload_n 2 (pc' := 79) rfl dX11_laysCanon_78 rfl rfl ?_
          refine v_get (z := cA) (pc' := 82) rfl dX11_laysCanon_79 fk_RX11_255 ly_63 rfl (hcA) ?_
          refine v_icmp_lt (pc' := 85) (tgt := 88) rfl dX11_laysCanon_82 (by decide) (by omega) (by omega) (fun c5 => ?_) (fun c5 => ?_)
          ·
            refine v_aload_n 2 (pc' := 89) rfl dX11_laysCanon_88 rfl rfl ?_
            refine v_iload 1 (pc' := 91) rfl dX11_laysCanon_89 rfl ?_
            refine v_put (pc' := 94) rfl dX11_laysCanon_91 fi_RX11_249 ly_63 rfl ?_
            refine v_nmw (fun w4 hw4 => ?_)
            have g0 : w4 63 0 = (n : Int) := by rw [hw4, up_ne _ _ (by omega)]; exact g0
            have g3 : w4 63 3 = ((facN n : Nat) : Int) := by rw [hw4, up_ne _ _ (by omega)]; exact g3
            have hcA : w4 63 25 = cA := by rw [hw4, up_ne _ _ (by omega)]; exact hcA
            have F63_24 : w4 63 24 = relabelled1 := by rw [hw4, up_eq]
            refine v_aload_n 2 (pc' := 95) rfl dX11_laysCanon_94 rfl rfl ?_
            refine v_iload 0 (pc' := 97) rfl dX11_laysCanon_95 rfl ?_
            refine v_put (pc' := 100) rfl dX11_laysCanon_97 fi_RX11_255 ly_63 rfl ?_
            refine v_nmw (fun w5 hw5 => ?_)
            have g0 : w5 63 0 = (n : Int) := by rw [hw5, up_ne _ _ (by omega)]; exact g0
            have g3 : w5 63 3 = ((facN n : Nat) : Int) := by rw [hw5, up_ne _ _ (by omega)]; exact g3
            have F63_24 : w5 63 24 = relabelled1 := by rw [hw5, up_ne _ _ (by omega)]; exact F63_24
            have F63_25 : w5 63 25 = relabelled2 := by rw [hw5, up_eq]
            refine v_iinc (ls' := [(3, _), (5, _), (4, _), (0, _), (1, _), (2, _)]) 5 (pc' := 103) rfl dX11_laysCanon_100 rfl rfl rfl ?_
            refine v_nl (fun k' hk' => ?_)
            refine v_goto (tgt := 7) dX11_laysCanon_103 (by decide) ?_
            refine v_ls [3, 4, 5, 0] rfl ?_
            exact ih0 (k') w5 (⟨j + 1, by omega, by omega, by rw [F63_24, F63_25]; exact hlex.next (by omega) (Or.inl ⟨zx, zy, by omega⟩), by rw [hw5, hw4]; exact (((hsc.tr (Mid.of fx (by decide))).tr (Mid.of fy (by decide))).up (by decide)).up (by decide)⟩) (by omega)
          ·
            refine v_goto (tgt := 100) dX11_laysCanon_85 (by decide) ?_
            refine v_iinc (ls' := [(3, _), (5, _), (4, _), (0, _), (1, _), (2, _)]) 5 (pc' := 103) rfl dX11_laysCanon_100 rfl rfl rfl ?_
            refine v_nl (fun k' hk' => ?_)
            refine v_goto (tgt := 7) dX11_laysCanon_103 (by decide) ?_
            refine v_ls [3, 4, 5, 0] rfl ?_
            exact ih0 (k') w3 (⟨j + 1, by omega, by omega, by rw [hcS, hcA]; exact hlex.next (by omega) (Or.inr ⟨rfl, rfl, by omega, by omega⟩), (hsc.tr (Mid.of fx (by decide))).tr (Mid.of fy (by decide))⟩) (by omega)
    ·
      refine v_iload 0 (pc' := 37) rfl dX11_laysCanon_35 rfl ?_
      refine v_aload_n 1 (pc' := 38) rfl dX11_laysCanon_37 rfl rfl ?_
      refine v_get (z := cS) (pc' := 41) rfl dX11_laysCanon_38 fk_RX11_249 ly_63 rfl (hcS) ?_
      refine v_icmp_le (pc' := 44) (tgt := 47) rfl dX11_laysCanon_41 (by decide) (by omega) (by omega) (fun c2 => ?_) (fun c2 => ?_)
      ·
        refine v_aload_n 1 (pc' := 48) rfl dX11_laysCanon_47 rfl rfl ?_
        refine v_iload_n 3 (pc' := 49) rfl dX11_laysCanon_48 rfl rfl ?_
        refine v_aload_n 1 (pc' := 50) rfl dX11_laysCanon_49 rfl rfl ?_
        refine v_getR (pc' := 53) rfl dX11_laysCanon_50 fk_RX11_7 ly_63 rfl ?_
        refine v_iload_n 4 (pc' := 54) rfl dX11_laysCanon_53 rfl rfl ?_
        refine v_iald (z := ((cdk (pn n j) n : Nat) : Int)) (pc' := 55) rfl dX11_laysCanon_54 ly_64 (by omega) (by omega) rfl (by rw [show k.toNat = j by omega, fx 64 j rfl]; exact hPl j (by omega)) ?_
        refine v_cVi (pc' := 58) rfl dX11_laysCanon_55 lk_RX11_252 ly_63 rfl (c_relabelledM l G hq rfl hg hpj.1 hn1 hn7 w2 g0) rfl rfl rfl (fun relabelled2 w3 hq3 => ?_)
        obtain ⟨fy, zy⟩ := hq3
        have hcl2 := cd_le (Pm.conj hn7 hg hpj.1) hn7 (Nat.le_refl n)
        have g0 : w3 63 0 = (n : Int) := (fy 63 0 (by decide)).trans g0
        have g3 : w3 63 3 = ((facN n : Nat) : Int) := (fy 63 3 (by decide)).trans g3
        have hcS : w3 63 24 = cS := (fy 63 24 (by decide)).trans hcS
        have hcA : w3 63 25 = cA := (fy 63 25 (by decide)).trans hcA
        refine v_istore (ls' := [(5, _), (4, _), (0, _), (1, _), (2, _), (3, _)]) (pc' := 60) rfl dX11_laysCanon_58 rfl rfl ?_
        refine v_aload_n 2 (pc' := 61) rfl dX11_laysCanon_60 rfl rfl ?_
        refine v_get (z := cS) (pc' := 64) rfl dX11_laysCanon_61 fk_RX11_249 ly_63 rfl (hcS) ?_
        refine v_if_le (pc' := 67) (tgt := 88) rfl dX11_laysCanon_64 (by decide) (by omega) (fun c3 => ?_) (fun c3 => ?_)
        ·
          refine v_aload_n 2 (pc' := 89) rfl dX11_laysCanon_88 rfl rfl ?_
          refine v_iload 1 (pc' := 91) rfl dX11_laysCanon_89 rfl ?_
          refine v_put (pc' := 94) rfl dX11_laysCanon_91 fi_RX11_249 ly_63 rfl ?_
          refine v_nmw (fun w4 hw4 => ?_)
          have g0 : w4 63 0 = (n : Int) := by rw [hw4, up_ne _ _ (by omega)]; exact g0
          have g3 : w4 63 3 = ((facN n : Nat) : Int) := by rw [hw4, up_ne _ _ (by omega)]; exact g3
          have hcA : w4 63 25 = cA := by rw [hw4, up_ne _ _ (by omega)]; exact hcA
          have F63_24 : w4 63 24 = relabelled1 := by rw [hw4, up_eq]
          refine v_aload_n 2 (pc' := 95) rfl dX11_laysCanon_94 rfl rfl ?_
          refine v_iload 0 (pc' := 97) rfl dX11_laysCanon_95 rfl ?_
          refine v_put (pc' := 100) rfl dX11_laysCanon_97 fi_RX11_255 ly_63 rfl ?_
          refine v_nmw (fun w5 hw5 => ?_)
          have g0 : w5 63 0 = (n : Int) := by rw [hw5, up_ne _ _ (by omega)]; exact g0
          have g3 : w5 63 3 = ((facN n : Nat) : Int) := by rw [hw5, up_ne _ _ (by omega)]; exact g3
          have F63_24 : w5 63 24 = relabelled1 := by rw [hw5, up_ne _ _ (by omega)]; exact F63_24
          have F63_25 : w5 63 25 = relabelled2 := by rw [hw5, up_eq]
          refine v_iinc (ls' := [(3, _), (5, _), (4, _), (0, _), (1, _), (2, _)]) 5 (pc' := 103) rfl dX11_laysCanon_100 rfl rfl rfl ?_
          refine v_nl (fun k' hk' => ?_)
          refine v_goto (tgt := 7) dX11_laysCanon_103 (by decide) ?_
          refine v_ls [3, 4, 5, 0] rfl ?_
          exact ih0 (k') w5 (⟨j + 1, by omega, by omega, by rw [F63_24, F63_25]; exact hlex.next (by omega) (Or.inl ⟨zx, zy, by omega⟩), by rw [hw5, hw4]; exact (((hsc.tr (Mid.of fx (by decide))).tr (Mid.of fy (by decide))).up (by decide)).up (by decide)⟩) (by omega)
        ·
          refine v_iload 1 (pc' := 69) rfl dX11_laysCanon_67 rfl ?_
          refine v_aload_n 2 (pc' := 70) rfl dX11_laysCanon_69 rfl rfl ?_
          refine v_get (z := cS) (pc' := 73) rfl dX11_laysCanon_70 fk_RX11_249 ly_63 rfl (hcS) ?_
          refine v_icmp_ne (pc' := 76) (tgt := 88) rfl dX11_laysCanon_73 (by decide) (by omega) (by omega) (fun c4 => ?_) (fun c4 => ?_)
          ·
            refine v_aload_n 2 (pc' := 89) rfl dX11_laysCanon_88 rfl rfl ?_
            refine v_iload 1 (pc' := 91) rfl dX11_laysCanon_89 rfl ?_
            refine v_put (pc' := 94) rfl dX11_laysCanon_91 fi_RX11_249 ly_63 rfl ?_
            refine v_nmw (fun w4 hw4 => ?_)
            have g0 : w4 63 0 = (n : Int) := by rw [hw4, up_ne _ _ (by omega)]; exact g0
            have g3 : w4 63 3 = ((facN n : Nat) : Int) := by rw [hw4, up_ne _ _ (by omega)]; exact g3
            have hcA : w4 63 25 = cA := by rw [hw4, up_ne _ _ (by omega)]; exact hcA
            have F63_24 : w4 63 24 = relabelled1 := by rw [hw4, up_eq]
            refine v_aload_n 2 (pc' := 95) rfl dX11_laysCanon_94 rfl rfl ?_
            refine v_iload 0 (pc' := 97) rfl dX11_laysCanon_95 rfl ?_
            refine v_put (pc' := 100) rfl dX11_laysCanon_97 fi_RX11_255 ly_63 rfl ?_
            refine v_nmw (fun w5 hw5 => ?_)
            have g0 : w5 63 0 = (n : Int) := by rw [hw5, up_ne _ _ (by omega)]; exact g0
            have g3 : w5 63 3 = ((facN n : Nat) : Int) := by rw [hw5, up_ne _ _ (by omega)]; exact g3
            have F63_24 : w5 63 24 = relabelled1 := by rw [hw5, up_ne _ _ (by omega)]; exact F63_24
            have F63_25 : w5 63 25 = relabelled2 := by rw [hw5, up_eq]
            refine v_iinc (ls' := [(3, _), (5, _), (4, _), (0, _), (1, _), (2, _)]) 5 (pc' := 103) rfl dX11_laysCanon_100 rfl rfl rfl ?_
            refine v_nl (fun k' hk' => ?_)
            refine v_goto (tgt := 7) dX11_laysCanon_103 (by decide) ?_
            refine v_ls [3, 4, 5, 0] rfl ?_
            exact ih0 (k') w5 (⟨j + 1, by omega, by omega, by rw [F63_24, F63_25]; exact hlex.next (by omega) (Or.inl ⟨zx, zy, by omega⟩), by rw [hw5, hw4]; exact (((hsc.tr (Mid.of fx (by decide))).tr (Mid.of fy (by decide))).up (by decide)).up (by decide)⟩) (by omega)
          ·
            refine v_iload 0 (pc' := 78) rfl dX11_laysCanon_76 rfl ?_
            refine v_aload_n 2 (pc' := 79) rfl dX11_laysCanon_78 rfl rfl ?_
            refine v_get (z := cA) (pc' := 82) rfl dX11_laysCanon_79 fk_RX11_255 ly_63 rfl (hcA) ?_
            refine v_icmp_lt (pc' := 85) (tgt := 88) rfl dX11_laysCanon_82 (by decide) (by omega) (by omega) (fun c5 => ?_) (fun c5 => ?_)
            ·
              refine v_aload_n 2 (pc' := 89) rfl dX11_laysCanon_88 rfl rfl ?_
              refine v_iload 1 (pc' := 91) rfl dX11_laysCanon_89 rfl ?_
              refine v_put (pc' := 94) rfl dX11_laysCanon_91 fi_RX11_249 ly_63 rfl ?_
              refine v_nmw (fun w4 hw4 => ?_)
              have g0 : w4 63 0 = (n : Int) := by rw [hw4, up_ne _ _ (by omega)]; exact g0
              have g3 : w4 63 3 = ((facN n : Nat) : Int) := by rw [hw4, up_ne _ _ (by omega)]; exact g3
              have hcA : w4 63 25 = cA := by rw [hw4, up_ne _ _ (by omega)]; exact hcA
              have F63_24 : w4 63 24 = relabelled1 := by rw [hw4, up_eq]
              refine v_aload_n 2 (pc' := 95) rfl dX11_laysCanon_94 rfl rfl ?_
              refine v_iload 0 (pc' := 97) rfl dX11_laysCanon_95 rfl ?_
              refine v_put (pc' := 100) rfl dX11_laysCanon_97 fi_RX11_255 ly_63 rfl ?_
              refine v_nmw (fun w5 hw5 => ?_)
              have g0 : w5 63 0 = (n : Int) := by rw [hw5, up_ne _ _ (by omega)]; exact g0
              have g3 : w5 63 3 = ((facN n : Nat) : Int) := by rw [hw5, up_ne _ _ (by omega)]; exact g3
              have F63_24 : w5 63 24 = relabelled1 := by rw [hw5, up_ne _ _ (by omega)]; exact F63_24
              have F63_25 : w5 63 25 = relabelled2 := by rw [hw5, up_eq]
              refine v_iinc (ls' := [(3, _), (5, _), (4, _), (0, _), (1, _), (2, _)]) 5 (pc' := 103) rfl dX11_laysCanon_100 rfl rfl rfl ?_
              refine v_nl (fun k' hk' => ?_)
              refine v_goto (tgt := 7) dX11_laysCanon_103 (by decide) ?_
              refine v_ls [3, 4, 5, 0] rfl ?_
              exact ih0 (k') w5 (⟨j + 1, by omega, by omega, by rw [F63_24, F63_25]; exact hlex.next (by omega) (Or.inl ⟨zx, zy, by omega⟩), by rw [hw5, hw4]; exact (((hsc.tr (Mid.of fx (by decide))).tr (Mid.of fy (by decide))).up (by decide)).up (by decide)⟩) (by omega)
            ·
              refine v_goto (tgt := 100) dX11_laysCanon_85 (by decide) ?_
              refine v_iinc (ls' := [(3, _), (5, _), (4, _), (0, _), (1, _), (2, _)]) 5 (pc' := 103) rfl dX11_laysCanon_100 rfl rfl rfl ?_
              refine v_nl (fun k' hk' => ?_)
              refine v_goto (tgt := 7) dX11_laysCanon_103 (by decide) ?_
              refine v_ls [3, 4, 5, 0] rfl ?_
              exact ih0 (k') w3 (⟨j + 1, by omega, by omega, by rw [hcS, hcA]; exact hlex.next (by omega) (Or.inr ⟨rfl, rfl, by omega, by omega⟩), (hsc.tr (Mid.of fx (by decide))).tr (Mid.of fy (by decide))⟩) (by omega)
      ·
        refine v_goto (tgt := 100) dX11_laysCanon_44 (by decide) ?_
        refine v_iinc (ls' := [(3, _), (4, _), (0, _), (1, _), (2, _)]) 4 (pc' := 103) rfl dX11_laysCanon_100 rfl rfl rfl ?_
        refine v_nl (fun k' hk' => ?_)
        refine v_goto (tgt := 7) dX11_laysCanon_103 (by decide) ?_
        refine v_ls [2, 3, 4, 0] rfl ?_
        exact ih0 (k') w2 (⟨j + 1, by omega, by omega, by rw [hcS, hcA]; exact hlex.next (by omega) (Or.inr ⟨rfl, rfl, by omega, by omega⟩), hsc.tr (Mid.of fx (by decide))⟩) (by omega)
theorem c_laysCanon (l : Launch) (G : Gx) {p q : Int} {n : Nat} {f g : Nat → Nat} (hp : p = (cdk f n : Nat)) (hq : q = (cdk g n : Nat)) (hf : Pm n f) (hg : Pm n g) (hn1 : 1 ≤ n) (hn7 : n ≤ 7) (w : Wd) (h00 : w 63 0 = n) (hR : RTab w n) : Sp l G 2 mX11_laysCanon [aR 63, aI (p), aI (q)] w (fun _ w' => w' 63 24 = (cdk (canS n f) n : Nat) ∧ w' 63 25 = (cdk (canA n f g) n : Nat) ∧ Scr w w') :=
  (c_laysCanonK l G hp hq hf hg hn1 hn7 w h00 hR).mono (fun _ _ h => ⟨h.1, h.2.1, h.2.2.scr⟩)
set_option maxHeartbeats 4000000 in
set_option maxRecDepth 100000 in
theorem c_tidyM (l : Launch) (G : Gx) {n : Nat} {s a : Nat → Nat} (hV : MapV n s a) (w : Wd) (hM : RMW w n s a) (hR : RTab w n) : Sp l G 3 mX11_tidy [aR 63] w (fun z w' => Tld w w' ∧ RMW w' n (canS n s) (canA n s a) ∧ RTab w' n ∧ z = (cdk (canS n s) n : Nat)) := by
  obtain ⟨⟨hn1, hn7⟩, hs, ha⟩ := id hV
  obtain ⟨r0, r1, r2⟩ := id hM
  obtain ⟨r3, r4, rPK, rTK⟩ := id hR
  have hfc := fac_le hn1 hn7
  have hk15 := kmany_le n hn7
  refine Sp_of RX11 rfl (by decide +kernel) rfl (Nat.le_of_ble_eq_true rfl) ?_
  refine v_aload_n 0 (pc' := 1) rfl dX11_tidy_0 rfl rfl ?_
  refine v_aload_n 0 (pc' := 2) rfl dX11_tidy_1 rfl rfl ?_
  refine v_get (z := ((cdk s n : Nat) : Int)) (pc' := 5) rfl dX11_tidy_2 fk_RX11_149 ly_63 rfl (r1) ?_
  refine v_aload_n 0 (pc' := 6) rfl dX11_tidy_5 rfl rfl ?_
  refine v_get (z := ((cdk a n : Nat) : Int)) (pc' := 9) rfl dX11_tidy_6 fk_RX11_152 ly_63 rfl (r2) ?_
  refine v_cVv (pc' := 12) rfl dX11_tidy_9 lk_RX11_258 ly_63 rfl (c_laysCanon l G rfl rfl hs ha hn1 hn7 w r0 hR) rfl rfl rfl (fun laysCanon1 w1 hq1 => ?_)
  obtain ⟨s1, a1, h1⟩ := hq1
  have r0 : w1 63 0 = (n : Int) := (h1 63 0 (by decide)).trans r0
  have r1 : w1 63 1 = ((cdk s n : Nat) : Int) := (h1 63 1 (by decide)).trans r1
  have r2 : w1 63 2 = ((cdk a n : Nat) : Int) := (h1 63 2 (by decide)).trans r2
  have r3 : w1 63 3 = ((facN n : Nat) : Int) := (h1 63 3 (by decide)).trans r3
  have r4 : w1 63 4 = ((kmany n : Nat) : Int) := (h1 63 4 (by decide)).trans r4
  refine v_aload_n 0 (pc' := 13) rfl dX11_tidy_12 rfl rfl ?_
  refine v_aload_n 0 (pc' := 14) rfl dX11_tidy_13 rfl rfl ?_
  refine v_get (z := ((cdk (canS n s) n : Nat) : Int)) (pc' := 17) rfl dX11_tidy_14 fk_RX11_249 ly_63 rfl (s1) ?_
  refine v_put (pc' := 20) rfl dX11_tidy_17 fi_RX11_149 ly_63 rfl ?_
  refine v_nmw (fun w2 hw2 => ?_)
  have r0 : w2 63 0 = (n : Int) := by rw [hw2, up_ne _ _ (by omega)]; exact r0
  have r2 : w2 63 2 = ((cdk a n : Nat) : Int) := by rw [hw2, up_ne _ _ (by omega)]; exact r2
  have r3 : w2 63 3 = ((facN n : Nat) : Int) := by rw [hw2, up_ne _ _ (by omega)]; exact r3
  have r4 : w2 63 4 = ((kmany n : Nat) : Int) := by rw [hw2, up_ne _ _ (by omega)]; exact r4
  have s1 : w2 63 24 = ((cdk (canS n s) n : Nat) : Int) := by rw [hw2, up_ne _ _ (by omega)]; exact s1
  have a1 : w2 63 25 = ((cdk (canA n s a) n : Nat) : Int) := by rw [hw2, up_ne _ _ (by omega)]; exact a1
  have F63_1 : w2 63 1 = ((cdk (canS n s) n : Nat) : Int) := by rw [hw2, up_eq]
  refine v_aload_n 0 (pc' := 21) rfl dX11_tidy_20 rfl rfl ?_
  refine v_aload_n 0 (pc' := 22) rfl dX11_tidy_21 rfl rfl ?_
  refine v_get (z := ((cdk (canA n s a) n : Nat) : Int)) (pc' := 25) rfl dX11_tidy_22 fk_RX11_255 ly_63 rfl (a1) ?_
  refine v_put (pc' := 28) rfl dX11_tidy_25 fi_RX11_152 ly_63 rfl ?_
  refine v_nmw (fun w3 hw3 => ?_)
  have r0 : w3 63 0 = (n : Int) := by rw [hw3, up_ne _ _ (by omega)]; exact r0
  have r3 : w3 63 3 = ((facN n : Nat) : Int) := by rw [hw3, up_ne _ _ (by omega)]; exact r3
  have r4 : w3 63 4 = ((kmany n : Nat) : Int) := by rw [hw3, up_ne _ _ (by omega)]; exact r4
  have s1 : w3 63 24 = ((cdk (canS n s) n : Nat) : Int) := by rw [hw3, up_ne _ _ (by omega)]; exact s1
  have a1 : w3 63 25 = ((cdk (canA n s a) n : Nat) : Int) := by rw [hw3, up_ne _ _ (by omega)]; exact a1
  have F63_1 : w3 63 1 = ((cdk (canS n s) n : Nat) : Int) := by rw [hw3, up_ne _ _ (by omega)]; exact F63_1
  have F63_2 : w3 63 2 = ((cdk (canA n s a) n : Nat) : Int) := by rw [hw3, up_eq]
  refine v_aload_n 0 (pc' := 29) rfl dX11_tidy_28 rfl rfl ?_
  refine v_get (z := ((cdk (canS n s) n : Nat) : Int)) (pc' := 32) rfl dX11_tidy_29 fk_RX11_149 ly_63 rfl (F63_1) ?_
  refine v_iret dX11_tidy_32 (by decide) (rfl) ?_
  exact ⟨by rw [hw3, hw2]; exact (h1.tld.up (by decide)).up (by decide), ⟨by rw [hw3, hw2]; exact (h1 63 0 (by decide)).trans hM.1, by rw [hw3, up_ne _ _ (by omega), hw2, up_eq], by rw [hw3, up_eq]⟩, (hR.s h1).fr (by rw [hw3, hw2]; rfl) (by rw [hw3, hw2]; rfl) (fun o u1 u2 j => by rw [hw3, up_ne _ _ (by omega), hw2, up_ne _ _ (by omega)]), rfl⟩
set_option maxHeartbeats 4000000 in
set_option maxRecDepth 100000 in
theorem c_canonM (l : Launch) (G : Gx) {k : Int} (hk : rg k) {n : Nat} {s a : Nat → Nat} (hV : MapV n s a) (w : Wd) (hM : RMW w n s a) (hR : RTab w n) : Sp l G 3 mX11_canon [aR 63, aI (k)] w (fun z w' => Scr w w' ∧ z = canI n s a k) := by
  obtain ⟨⟨hn1, hn7⟩, hs, ha⟩ := id hV
  obtain ⟨r0, r1, r2⟩ := id hM
  obtain ⟨r3, r4, rPK, rTK⟩ := id hR
  have hfc := fac_le hn1 hn7
  have hk15 := kmany_le n hn7
  have hS := canS_pm hn1 hn7 hs
  have hA := (canA_pm hn1 hn7 hs ha).1
  refine Sp_of RX11 rfl (by decide +kernel) rfl (Nat.le_of_ble_eq_true rfl) ?_
  refine v_iload_n 1 (pc' := 1) rfl dX11_canon_0 rfl rfl ?_
  refine v_cSP (pc' := 4) rfl dX11_canon_1 lk_RX11_261 rfl (c_isThree l G hk w) rfl rfl rfl ?_
  refine v_nm (fun isThree1 hisThree1 => ?_)
  refine v_if_ne (pc' := 7) (tgt := 9) rfl dX11_canon_4 (by decide) (inB_r hisThree1) (fun c0 => ?_) (fun c0 => ?_)
  ·
    have q := inB_1 hisThree1 (by omega)
    refine v_aload_n 0 (pc' := 10) rfl dX11_canon_9 rfl rfl ?_
    refine v_aload_n 0 (pc' := 11) rfl dX11_canon_10 rfl rfl ?_
    refine v_get (z := ((cdk s n : Nat) : Int)) (pc' := 14) rfl dX11_canon_11 fk_RX11_149 ly_63 rfl (r1) ?_
    refine v_aload_n 0 (pc' := 15) rfl dX11_canon_14 rfl rfl ?_
    refine v_get (z := ((cdk a n : Nat) : Int)) (pc' := 18) rfl dX11_canon_15 fk_RX11_152 ly_63 rfl (r2) ?_
    refine v_cVv (pc' := 21) rfl dX11_canon_18 lk_RX11_258 ly_63 rfl (c_laysCanon l G rfl rfl hs ha hn1 hn7 w r0 hR) rfl rfl rfl (fun laysCanon1 w2 hq2 => ?_)
    obtain ⟨s1, a1, h1⟩ := hq2
    have r0b := (h1 63 0 (by decide)).trans hM.1
    refine v_iload_n 1 (pc' := 22) rfl dX11_canon_21 rfl rfl ?_
    refine v_if_ne (pc' := 25) (tgt := 32) rfl dX11_canon_22 (by decide) (by omega) (fun c1 => ?_) (fun c1 => ?_)
    ·
      refine v_iload_n 1 (pc' := 33) rfl dX11_canon_32 rfl rfl ?_
      refine v_iconst (pc' := 34) rfl dX11_canon_33 ?_
      refine v_icmp_ne (pc' := 37) (tgt := 44) rfl dX11_canon_34 (by decide) (by omega) (by omega) (fun c2 => ?_) (fun c2 => ?_)
      ·
        refine v_aload_n 0 (pc' := 45) rfl dX11_canon_44 rfl rfl ?_
        refine v_aload_n 0 (pc' := 46) rfl dX11_canon_45 rfl rfl ?_
        refine v_get (z := ((cdk (canS n s) n : Nat) : Int)) (pc' := 49) rfl dX11_canon_46 fk_RX11_249 ly_63 rfl (s1) ?_
        refine v_aload_n 0 (pc' := 50) rfl dX11_canon_49 rfl rfl ?_
        refine v_get (z := ((cdk (canA n s a) n : Nat) : Int)) (pc' := 53) rfl dX11_canon_50 fk_RX11_255 ly_63 rfl (a1) ?_
        refine v_cVi (pc' := 56) rfl dX11_canon_53 lk_RX11_155 ly_63 rfl (c_facesOfM l G rfl rfl hS hA hn1 hn7 w2 r0b) rfl rfl rfl (fun facesOf1 w3 hq3 => ?_)
        refine v_iret dX11_canon_56 (by decide) (rfl) ?_
        first | exact ⟨Scr.rf _, by unfold canI; rw [if_neg (by omega)]⟩ | exact ⟨h1, by unfold canI; rw [if_pos (by omega), trF_0 (by omega)]⟩ | exact ⟨h1, by unfold canI; rw [if_pos (by omega), trF_1 (by omega)]⟩ | exact ⟨h1.tr (Scr.of hq3.1 (by decide)), by unfold canI; rw [if_pos (by omega), trF_2 (by omega)]; exact hq3.2⟩
      ·
        refine v_aload_n 0 (pc' := 38) rfl dX11_canon_37 rfl rfl ?_
        refine v_get (z := ((cdk (canA n s a) n : Nat) : Int)) (pc' := 41) rfl dX11_canon_38 fk_RX11_255 ly_63 rfl (a1) ?_
        refine v_goto (tgt := 56) dX11_canon_41 (by decide) ?_
        refine v_iret dX11_canon_56 (by decide) (rfl) ?_
        first | exact ⟨Scr.rf _, by unfold canI; rw [if_neg (by omega)]⟩ | exact ⟨h1, by unfold canI; rw [if_pos (by omega), trF_0 (by omega)]⟩ | exact ⟨h1, by unfold canI; rw [if_pos (by omega), trF_1 (by omega)]⟩ | exact ⟨h1.tr (Scr.of hq3.1 (by decide)), by unfold canI; rw [if_pos (by omega), trF_2 (by omega)]; exact hq3.2⟩
    ·
      refine v_aload_n 0 (pc' := 26) rfl dX11_canon_25 rfl rfl ?_
      refine v_get (z := ((cdk (canS n s) n : Nat) : Int)) (pc' := 29) rfl dX11_canon_26 fk_RX11_249 ly_63 rfl (s1) ?_
      refine v_goto (tgt := 56) dX11_canon_29 (by decide) ?_
      refine v_iret dX11_canon_56 (by decide) (rfl) ?_
      first | exact ⟨Scr.rf _, by unfold canI; rw [if_neg (by omega)]⟩ | exact ⟨h1, by unfold canI; rw [if_pos (by omega), trF_0 (by omega)]⟩ | exact ⟨h1, by unfold canI; rw [if_pos (by omega), trF_1 (by omega)]⟩ | exact ⟨h1.tr (Scr.of hq3.1 (by decide)), by unfold canI; rw [if_pos (by omega), trF_2 (by omega)]; exact hq3.2⟩
  ·
    have q := inB_0 hisThree1 (by omega)
    refine v_iconst (pc' := 8) rfl dX11_canon_7 ?_
    refine v_iret dX11_canon_8 (by decide) (rfl) ?_
    first | exact ⟨Scr.rf _, by unfold canI; rw [if_neg (by omega)]⟩ | exact ⟨h1, by unfold canI; rw [if_pos (by omega), trF_0 (by omega)]⟩ | exact ⟨h1, by unfold canI; rw [if_pos (by omega), trF_1 (by omega)]⟩ | exact ⟨h1.tr (Scr.of hq3.1 (by decide)), by unfold canI; rw [if_pos (by omega), trF_2 (by omega)]; exact hq3.2⟩
def autB (n : Nat) (f g : Nat → Nat) (f2 g2 : Nat → Nat) (j : Nat) : Bool := hx (pconj f (pn n j)) == hx f2 && hx (pconj g (pn n j)) == hx g2
def autI (n : Nat) (f g : Nat → Nat) : Nat := cntI (autB n f g f g) (facN n)
theorem cd_conj {n : Nat} {f f2 r : Nat → Nat} (hn7 : n ≤ 7) (hf : Pm n f) (hf2 : Pm n f2) (hr : Pm n r) : cdk (pconj f r) n = cdk f2 n ↔ (hx (pconj f r) == hx f2) = true := by
  rw [beq_iff_eq]; exact (cd_hx (Pm.conj hn7 hf hr) hf2 hn7).2
set_option maxHeartbeats 4000000 in
set_option maxRecDepth 100000 in
theorem c_autsOf (l : Launch) (G : Gx) {p q : Int} {n : Nat} {f g : Nat → Nat} (hp : p = (cdk f n : Nat)) (hq : q = (cdk g n : Nat)) (hf : Pm n f) (hg : Pm n g) (hn1 : 1 ≤ n) (hn7 : n ≤ 7) (w : Wd) (h00 : w 63 0 = n) (hR : RTab w n) : Sp l G 2 mX11_autsOf [aR 63, aI (p), aI (q)] w (fun z w' => Scr w w' ∧ z = (autI n f g : Nat)) := by
  have r0 := h00
  obtain ⟨r3, r4, rPK, rTK⟩ := id hR
  have hfc := fac_le hn1 hn7
  have hpl := cd_le hf hn7 (Nat.le_refl n)
  have hql := cd_le hg hn7 (Nat.le_refl n)
  refine Sp_of RX11 rfl (by decide +kernel) rfl (Nat.le_of_ble_eq_true rfl) ?_
  refine v_iconst (pc' := 1) rfl dX11_autsOf_0 ?_
  refine v_istore_n (ls' := [(3, _), (0, _), (1, _), (2, _)]) (pc' := 2) rfl dX11_autsOf_1 rfl rfl rfl ?_
  refine v_iconst (pc' := 3) rfl dX11_autsOf_2 ?_
  refine v_istore (ls' := [(4, _), (3, _), (0, _), (1, _), (2, _)]) (pc' := 5) rfl dX11_autsOf_3 rfl rfl ?_
  refine v_ls [2, 3, 4, 1, 0] rfl ?_
  refine v_loop3 5 (fun (c : Int) (k : Int) (wl : Wd) => ∃ j : Nat, k = j ∧ j ≤ facN n ∧ c = (cntI (autB n f g f g) j : Nat) ∧ Scr w wl) (fun (c : Int) (k : Int) (wl : Wd) => (5040 - k).toNat) (fun (c : Int) (k : Int) (wl : Wd) => [(0, aR 63), (1, aI (p)), (2, aI (q)), (3, aI (c)), (4, aI (k))]) (fun (c : Int) (k : Int) (wl : Wd) => []) (fun (c : Int) (k : Int) (wl : Wd) => wl) (fun c k wl hI0 ih0 => ?_) (0) (0) w (⟨0, rfl, by omega, rfl, Scr.rf _⟩)
  obtain ⟨j, hk, hj, hc, hsc⟩ := hI0
  have g0 := (hsc 63 0 (by decide)).trans h00
  have g3 := (hsc 63 3 (by decide)).trans hR.1
  have hPl : ∀ i, i < facN n → wl 64 i = (cdk (pn n i) n : Nat) := fun i hi => (hsc 64 i rfl).trans (rPK i hi).1
  refine v_iload 4 (pc' := 7) rfl dX11_autsOf_5 rfl ?_
  refine v_aload_n 0 (pc' := 8) rfl dX11_autsOf_7 rfl rfl ?_
  refine v_get (z := ((facN n : Nat) : Int)) (pc' := 11) rfl dX11_autsOf_8 fk_RX11_165 ly_63 rfl (g3) ?_
  refine v_icmp_ge (pc' := 14) (tgt := 60) rfl dX11_autsOf_11 (by decide) (by omega) (by omega) (fun c0 => ?_) (fun c0 => ?_)
  ·
    have hje : j = facN n := by omega
    refine v_iload_n 3 (pc' := 61) rfl dX11_autsOf_60 rfl rfl ?_
    refine v_iret dX11_autsOf_61 (by decide) (rfl) ?_
    exact ⟨hsc, by rw [hc, hje]; rfl⟩
  ·
    have hpj := pn_at hn1 hn7 (show j < facN n by omega)
    refine v_iload_n 3 (pc' := 15) rfl dX11_autsOf_14 rfl rfl ?_
    refine v_aload_n 0 (pc' := 16) rfl dX11_autsOf_15 rfl rfl ?_
    refine v_iload_n 1 (pc' := 17) rfl dX11_autsOf_16 rfl rfl ?_
    refine v_aload_n 0 (pc' := 18) rfl dX11_autsOf_17 rfl rfl ?_
    refine v_getR (pc' := 21) rfl dX11_autsOf_18 fk_RX11_7 ly_63 rfl ?_
    refine v_iload 4 (pc' := 23) rfl dX11_autsOf_21 rfl ?_
    refine v_iald (z := ((cdk (pn n j) n : Nat) : Int)) (pc' := 24) rfl dX11_autsOf_23 ly_64 (by omega) (by omega) rfl (by rw [show k.toNat = j by omega]; exact hPl j (by omega)) ?_
    refine v_cVi (pc' := 27) rfl dX11_autsOf_24 lk_RX11_252 ly_63 rfl (c_relabelledM l G hp rfl hf hpj.1 hn1 hn7 wl g0) rfl rfl rfl (fun relabelled1 w1 hq1 => ?_)
    obtain ⟨fx, zx⟩ := hq1
    have hcl := cd_le (Pm.conj hn7 hf hpj.1) hn7 (Nat.le_refl n)
    have g0 : w1 63 0 = (n : Int) := (fx 63 0 (by decide)).trans g0
    have g3 : w1 63 3 = ((facN n : Nat) : Int) := (fx 63 3 (by decide)).trans g3
    refine v_iload_n 1 (pc' := 28) rfl dX11_autsOf_27 rfl rfl ?_
    refine v_icmp_ne (pc' := 31) (tgt := 51) rfl dX11_autsOf_28 (by decide) (by omega) (by omega) (fun c1 => ?_) (fun c1 => ?_)
    ·
      have hno : ¬ autB n f g f g j = true := fun e => by
        unfold autB at e
        rw [Bool.and_eq_true] at e
        have := (cd_conj hn7 hf hf hpj.1).mpr e.1
        omega
      refine v_iconst (pc' := 52) rfl dX11_autsOf_51 ?_
      refine v_iadd (pc' := 53) rfl dX11_autsOf_52 ?_
      refine v_nm (fun c' hc' => ?_)
      refine v_istore_n (ls' := [(3, _), (0, _), (1, _), (2, _), (4, _)]) (pc' := 54) rfl dX11_autsOf_53 rfl rfl rfl ?_
      refine v_iinc (ls' := [(4, _), (3, _), (0, _), (1, _), (2, _)]) 4 (pc' := 57) rfl dX11_autsOf_54 rfl rfl rfl ?_
      refine v_nl (fun k' hk' => ?_)
      refine v_goto (tgt := 5) dX11_autsOf_57 (by decide) ?_
      refine v_ls [2, 3, 4, 1, 0] rfl ?_
      exact ih0 (c') (k') w1 (⟨j + 1, by omega, by omega, by rw [cntI_s, if_neg hno]; omega, hsc.tr (Scr.of fx (by decide))⟩) (by omega)
    ·
      have ex := (cd_conj hn7 hf hf hpj.1).mp (by omega)
      refine v_aload_n 0 (pc' := 32) rfl dX11_autsOf_31 rfl rfl ?_
      refine v_iload_n 2 (pc' := 33) rfl dX11_autsOf_32 rfl rfl ?_
      refine v_aload_n 0 (pc' := 34) rfl dX11_autsOf_33 rfl rfl ?_
      refine v_getR (pc' := 37) rfl dX11_autsOf_34 fk_RX11_7 ly_63 rfl ?_
      refine v_iload 4 (pc' := 39) rfl dX11_autsOf_37 rfl ?_
      refine v_iald (z := ((cdk (pn n j) n : Nat) : Int)) (pc' := 40) rfl dX11_autsOf_39 ly_64 (by omega) (by omega) rfl (by rw [show k.toNat = j by omega, fx 64 j rfl]; exact hPl j (by omega)) ?_
      refine v_cVi (pc' := 43) rfl dX11_autsOf_40 lk_RX11_252 ly_63 rfl (c_relabelledM l G hq rfl hg hpj.1 hn1 hn7 w1 g0) rfl rfl rfl (fun relabelled2 w2 hq2 => ?_)
      obtain ⟨fy, zy⟩ := hq2
      have hcl2 := cd_le (Pm.conj hn7 hg hpj.1) hn7 (Nat.le_refl n)
      have g0 : w2 63 0 = (n : Int) := (fy 63 0 (by decide)).trans g0
      have g3 : w2 63 3 = ((facN n : Nat) : Int) := (fy 63 3 (by decide)).trans g3
      refine v_iload_n 2 (pc' := 44) rfl dX11_autsOf_43 rfl rfl ?_
      refine v_icmp_ne (pc' := 47) (tgt := 51) rfl dX11_autsOf_44 (by decide) (by omega) (by omega) (fun c2 => ?_) (fun c2 => ?_)
      ·
        have hno : ¬ autB n f g f g j = true := fun e => by
          unfold autB at e
          rw [Bool.and_eq_true] at e
          have := (cd_conj hn7 hg hg hpj.1).mpr e.2
          omega
        refine v_iconst (pc' := 52) rfl dX11_autsOf_51 ?_
        refine v_iadd (pc' := 53) rfl dX11_autsOf_52 ?_
        refine v_nm (fun c' hc' => ?_)
        refine v_istore_n (ls' := [(3, _), (0, _), (1, _), (2, _), (4, _)]) (pc' := 54) rfl dX11_autsOf_53 rfl rfl rfl ?_
        refine v_iinc (ls' := [(4, _), (3, _), (0, _), (1, _), (2, _)]) 4 (pc' := 57) rfl dX11_autsOf_54 rfl rfl rfl ?_
        refine v_nl (fun k' hk' => ?_)
        refine v_goto (tgt := 5) dX11_autsOf_57 (by decide) ?_
        refine v_ls [2, 3, 4, 1, 0] rfl ?_
        exact ih0 (c') (k') w2 (⟨j + 1, by omega, by omega, by rw [cntI_s, if_neg hno]; omega, (hsc.tr (Scr.of fx (by decide))).tr (Scr.of fy (by decide))⟩) (by omega)
      ·
        have ey := (cd_conj hn7 hg hg hpj.1).mp (by omega)
        have hyes : autB n f g f g j = true := by unfold autB; rw [ex, ey]; rfl
        refine v_iconst (pc' := 48) rfl dX11_autsOf_47 ?_
        refine v_goto (tgt := 52) dX11_autsOf_48 (by decide) ?_
        refine v_iadd (pc' := 53) rfl dX11_autsOf_52 ?_
        refine v_nm (fun c' hc' => ?_)
        refine v_istore_n (ls' := [(3, _), (0, _), (1, _), (2, _), (4, _)]) (pc' := 54) rfl dX11_autsOf_53 rfl rfl rfl ?_
        refine v_iinc (ls' := [(4, _), (3, _), (0, _), (1, _), (2, _)]) 4 (pc' := 57) rfl dX11_autsOf_54 rfl rfl rfl ?_
        refine v_nl (fun k' hk' => ?_)
        refine v_goto (tgt := 5) dX11_autsOf_57 (by decide) ?_
        refine v_ls [2, 3, 4, 1, 0] rfl ?_
        exact ih0 (c') (k') w2 (⟨j + 1, by omega, by omega, by rw [cntI_s, if_pos hyes]; omega, (hsc.tr (Scr.of fx (by decide))).tr (Scr.of fy (by decide))⟩) (by omega)
set_option maxHeartbeats 4000000 in
set_option maxRecDepth 100000 in
theorem c_labelOf (l : Launch) (G : Gx) {p q : Int} {f2 g2 : Nat → Nat} {n : Nat} {s a : Nat → Nat} (hV : MapV n s a) (hp2 : p = (cdk f2 n : Nat)) (hq2 : q = (cdk g2 n : Nat)) (hf2 : Pm n f2) (hg2 : Pm n g2) (w : Wd) (hM : RMW w n s a) (hR : RTab w n) : Sp l G 2 mX11_labelOf [aR 63, aI (p), aI (q)] w (fun z w' => Scr w w' ∧ ((z = -2 ∧ ¬ ∃ r, Pm n r ∧ pconj s r = f2 ∧ pconj a r = g2) ∨ ∃ r, Pm n r ∧ pconj s r = f2 ∧ pconj a r = g2 ∧ z = (cdk r n : Nat) ∧ ∀ r', Pm n r' → pconj s r' = f2 → pconj a r' = g2 → hx r ≤ hx r')) := by
  obtain ⟨⟨hn1, hn7⟩, hs, ha⟩ := id hV
  obtain ⟨r0, r1, r2⟩ := id hM
  obtain ⟨r3, r4, rPK, rTK⟩ := id hR
  have hfc := fac_le hn1 hn7
  have hk15 := kmany_le n hn7
  have hpl := cd_le hf2 hn7 (Nat.le_refl n)
  have hql := cd_le hg2 hn7 (Nat.le_refl n)
  refine Sp_of RX11 rfl (by decide +kernel) rfl (Nat.le_of_ble_eq_true rfl) ?_
  refine v_iconst (pc' := 1) rfl dX11_labelOf_0 ?_
  refine v_istore_n (ls' := [(3, _), (0, _), (1, _), (2, _)]) (pc' := 2) rfl dX11_labelOf_1 rfl rfl rfl ?_
  refine v_ls [1, 2, 3, 0] rfl ?_
  refine v_loop2 2 (fun (k : Int) (wl : Wd) => ∃ j : Nat, k = j ∧ j ≤ facN n ∧ (∀ i, i < j → ¬ autB n s a f2 g2 i = true) ∧ Scr w wl) (fun (k : Int) (wl : Wd) => (5040 - k).toNat) (fun (k : Int) (wl : Wd) => [(0, aR 63), (1, aI (p)), (2, aI (q)), (3, aI (k))]) (fun (k : Int) (wl : Wd) => []) (fun (k : Int) (wl : Wd) => wl) (fun k wl hI0 ih0 => ?_) (0) w (⟨0, rfl, by omega, fun i hi => by omega, Scr.rf _⟩)
  obtain ⟨j, hk, hj, hA, hsc⟩ := hI0
  have g0 := (hsc 63 0 (by decide)).trans hM.1
  have g3 := (hsc 63 3 (by decide)).trans hR.1
  have hPl : ∀ i, i < facN n → wl 64 i = (cdk (pn n i) n : Nat) := fun i hi => (hsc 64 i rfl).trans (rPK i hi).1
  have g1 := (hsc 63 1 (by decide)).trans hM.2.1
  have g2_ := (hsc 63 2 (by decide)).trans hM.2.2
  refine v_iload_n 3 (pc' := 3) rfl dX11_labelOf_2 rfl rfl ?_
  refine v_aload_n 0 (pc' := 4) rfl dX11_labelOf_3 rfl rfl ?_
  refine v_get (z := ((facN n : Nat) : Int)) (pc' := 7) rfl dX11_labelOf_4 fk_RX11_165 ly_63 rfl (g3) ?_
  refine v_icmp_ge (pc' := 10) (tgt := 59) rfl dX11_labelOf_7 (by decide) (by omega) (by omega) (fun c0 => ?_) (fun c0 => ?_)
  ·
    have hje : j = facN n := by omega
    refine v_bipush (pc' := 61) rfl dX11_labelOf_59 rfl ?_
    refine v_iret dX11_labelOf_61 (by decide) (rfl) ?_
    refine ⟨hsc, Or.inl ⟨rfl, fun ⟨r, hr, e1, e2⟩ => ?_⟩⟩
    have hr2 := pn_rank hn1 hn7 hr
    refine hA _ (by rw [hje]; exact hr2.1) ?_
    unfold autB
    rw [hr2.2, e1, e2]; simp
  ·
    have hpj := pn_at hn1 hn7 (show j < facN n by omega)
    refine v_aload_n 0 (pc' := 11) rfl dX11_labelOf_10 rfl rfl ?_
    refine v_aload_n 0 (pc' := 12) rfl dX11_labelOf_11 rfl rfl ?_
    refine v_get (z := ((cdk s n : Nat) : Int)) (pc' := 15) rfl dX11_labelOf_12 fk_RX11_149 ly_63 rfl (g1) ?_
    refine v_aload_n 0 (pc' := 16) rfl dX11_labelOf_15 rfl rfl ?_
    refine v_getR (pc' := 19) rfl dX11_labelOf_16 fk_RX11_7 ly_63 rfl ?_
    refine v_iload_n 3 (pc' := 20) rfl dX11_labelOf_19 rfl rfl ?_
    refine v_iald (z := ((cdk (pn n j) n : Nat) : Int)) (pc' := 21) rfl dX11_labelOf_20 ly_64 (by omega) (by omega) rfl (by rw [show k.toNat = j by omega]; exact hPl j (by omega)) ?_
    refine v_cVi (pc' := 24) rfl dX11_labelOf_21 lk_RX11_252 ly_63 rfl (c_relabelledM l G rfl rfl hs hpj.1 hn1 hn7 wl g0) rfl rfl rfl (fun relabelled1 w1 hq1 => ?_)
    obtain ⟨fx, zx⟩ := hq1
    have hcl := cd_le (Pm.conj hn7 hs hpj.1) hn7 (Nat.le_refl n)
    have g0 : w1 63 0 = (n : Int) := (fx 63 0 (by decide)).trans g0
    have g3 : w1 63 3 = ((facN n : Nat) : Int) := (fx 63 3 (by decide)).trans g3
    have g1 : w1 63 1 = ((cdk s n : Nat) : Int) := (fx 63 1 (by decide)).trans g1
    have g2_ : w1 63 2 = ((cdk a n : Nat) : Int) := (fx 63 2 (by decide)).trans g2_
    refine v_iload_n 1 (pc' := 25) rfl dX11_labelOf_24 rfl rfl ?_
    refine v_icmp_ne (pc' := 28) (tgt := 53) rfl dX11_labelOf_25 (by decide) (by omega) (by omega) (fun c1 => ?_) (fun c1 => ?_)
    ·
      have hno : ¬ autB n s a f2 g2 j = true := fun e => by
        unfold autB at e
        rw [Bool.and_eq_true] at e
        have := (cd_conj hn7 hs hf2 hpj.1).mpr e.1
        omega
      refine v_iinc (ls' := [(3, _), (0, _), (1, _), (2, _)]) 3 (pc' := 56) rfl dX11_labelOf_53 rfl rfl rfl ?_
      refine v_nl (fun k' hk' => ?_)
      refine v_goto (tgt := 2) dX11_labelOf_56 (by decide) ?_
      refine v_ls [1, 2, 3, 0] rfl ?_
      exact ih0 (k') w1 (⟨j + 1, by omega, by omega, fun i hi => by
          by_cases e : i = j
          · rw [e]; exact hno
          · exact hA i (by omega), hsc.tr (Scr.of fx (by decide))⟩) (by omega)
    ·
      have ex := (cd_conj hn7 hs hf2 hpj.1).mp (by omega)
      refine v_aload_n 0 (pc' := 29) rfl dX11_labelOf_28 rfl rfl ?_
      refine v_aload_n 0 (pc' := 30) rfl dX11_labelOf_29 rfl rfl ?_
      refine v_get (z := ((cdk a n : Nat) : Int)) (pc' := 33) rfl dX11_labelOf_30 fk_RX11_152 ly_63 rfl (g2_) ?_
      refine v_aload_n 0 (pc' := 34) rfl dX11_labelOf_33 rfl rfl ?_
      refine v_getR (pc' := 37) rfl dX11_labelOf_34 fk_RX11_7 ly_63 rfl ?_
      refine v_iload_n 3 (pc' := 38) rfl dX11_labelOf_37 rfl rfl ?_
      refine v_iald (z := ((cdk (pn n j) n : Nat) : Int)) (pc' := 39) rfl dX11_labelOf_38 ly_64 (by omega) (by omega) rfl (by rw [show k.toNat = j by omega, fx 64 j rfl]; exact hPl j (by omega)) ?_
      refine v_cVi (pc' := 42) rfl dX11_labelOf_39 lk_RX11_252 ly_63 rfl (c_relabelledM l G rfl rfl ha hpj.1 hn1 hn7 w1 g0) rfl rfl rfl (fun relabelled2 w2 hq2 => ?_)
      obtain ⟨fy, zy⟩ := hq2
      have hcl2 := cd_le (Pm.conj hn7 ha hpj.1) hn7 (Nat.le_refl n)
      have g0 : w2 63 0 = (n : Int) := (fy 63 0 (by decide)).trans g0
      have g3 : w2 63 3 = ((facN n : Nat) : Int) := (fy 63 3 (by decide)).trans g3
      have g1 : w2 63 1 = ((cdk s n : Nat) : Int) := (fy 63 1 (by decide)).trans g1
      have g2_ : w2 63 2 = ((cdk a n : Nat) : Int) := (fy 63 2 (by decide)).trans g2_
      refine v_iload_n 2 (pc' := 43) rfl dX11_labelOf_42 rfl rfl ?_
      refine v_icmp_ne (pc' := 46) (tgt := 53) rfl dX11_labelOf_43 (by decide) (by omega) (by omega) (fun c2 => ?_) (fun c2 => ?_)
      ·
        have hno : ¬ autB n s a f2 g2 j = true := fun e => by
          unfold autB at e
          rw [Bool.and_eq_true] at e
          have := (cd_conj hn7 ha hg2 hpj.1).mpr e.2
          omega
        refine v_iinc (ls' := [(3, _), (0, _), (1, _), (2, _)]) 3 (pc' := 56) rfl dX11_labelOf_53 rfl rfl rfl ?_
        refine v_nl (fun k' hk' => ?_)
        refine v_goto (tgt := 2) dX11_labelOf_56 (by decide) ?_
        refine v_ls [1, 2, 3, 0] rfl ?_
        exact ih0 (k') w2 (⟨j + 1, by omega, by omega, fun i hi => by
            by_cases e : i = j
            · rw [e]; exact hno
            · exact hA i (by omega), (hsc.tr (Scr.of fx (by decide))).tr (Scr.of fy (by decide))⟩) (by omega)
      ·
        have ey := (cd_conj hn7 ha hg2 hpj.1).mp (by omega)
        have hyes : autB n s a f2 g2 j = true := by unfold autB; rw [ex, ey]; rfl
        refine v_aload_n 0 (pc' := 47) rfl dX11_labelOf_46 rfl rfl ?_
        refine v_getR (pc' := 50) rfl dX11_labelOf_47 fk_RX11_7 ly_63 rfl ?_
        refine v_iload_n 3 (pc' := 51) rfl dX11_labelOf_50 rfl rfl ?_
        refine v_iald (z := ((cdk (pn n j) n : Nat) : Int)) (pc' := 52) rfl dX11_labelOf_51 ly_64 (by omega) (by omega) rfl (by rw [show k.toNat = j by omega, fy 64 j rfl, fx 64 j rfl]; exact hPl j (by omega)) ?_
        refine v_iret dX11_labelOf_52 (by decide) (rfl) ?_
        refine ⟨(hsc.tr (Scr.of fx (by decide))).tr (Scr.of fy (by decide)), Or.inr ⟨pn n j, hpj.1, ?_, ?_, rfl, fun r hr e1 e2 => ?_⟩⟩
        · exact (hx_inj (Pm.conj hn7 hs hpj.1) hf2 hn7 hn7).mp (beq_iff_eq.mp ex)
        · exact (hx_inj (Pm.conj hn7 ha hpj.1) hg2 hn7 hn7).mp (beq_iff_eq.mp ey)
        · have hr2 := pn_rank hn1 hn7 hr
          rcases Nat.lt_or_ge (rankN r n) j with u | u
          · exfalso
            refine hA _ u ?_
            unfold autB
            rw [hr2.2, e1, e2]; simp
          · rcases Nat.lt_or_ge j (rankN r n) with v | v
            · have := pn_lt hn1 hn7 hr2.1 v
              rw [hr2.2] at this; omega
            · have e : rankN r n = j := by omega
              rw [← e, hr2.2]; exact Nat.le_refl _

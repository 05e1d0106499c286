/-! ===== the reference: triples by search ===== -/
theorem pstep_inv {f : Nat → Nat} (hf : Pm 7 f) : ∀ i x, pstep f i (pstep (pinv f) i x) = x
  | 0, _ => rfl
  | i + 1, x => by
    rw [pstep_s (pinv f) i x]
    show pstep f i (f (pinv f (pstep (pinv f) i x))) = x
    rw [hf.f_inv (by decide)]; exact pstep_inv hf i x
theorem ring_inv1 {f : Nat → Nat} (hf : Pm 7 f) {x y : Nat} (h1 : 1 ≤ x) (h2 : x ≤ 7) (h3 : 1 ≤ y) (h4 : y ≤ 7) (h : hasb (ringN (pinv f) x) y) : hasb (ringN f x) y := by
  have hi := hf.inv (by decide)
  obtain ⟨i, -, e⟩ := (ring_has hi h1 h2 h3 h4).mp h
  have k := pstep_inv hf i x
  rw [e] at k
  have s := ring_step hf h3 h4 i
  rw [k] at s
  rw [ring_same hf h3 h4 h1 h2 s]; exact ring_self hf h3 h4
theorem ring_inv {f : Nat → Nat} (hf : Pm 7 f) {x : Nat} (h1 : 1 ≤ x) (h2 : x ≤ 7) : ringN (pinv f) x = ringN f x := by
  have hi := hf.inv (by decide)
  refine mask_eq (ringN_lt (hi.b7 (by decide)) h1 h2) (ringN_lt (hf.b7 (by decide)) h1 h2) (fun y a b => ⟨fun h => ring_inv1 hf h1 h2 a b h, fun h => ring_inv1 hi h1 h2 a b (by rw [inv_inv (by decide) hf]; exact h)⟩)
theorem kind_inv {n : Nat} {f : Nat → Nat} (h1 : 1 ≤ n) (h7 : n ≤ 7) (hf : Pm n f) : kindN (pinv f) n = kindN f n := by
  rw [kf_lst h1 h7 hf, kf_lst h1 h7 (hf.inv h7)]
  refine typL_congr n 0 (fun k _ _ => ?_)
  unfold lstC
  refine sumN_congr n (fun x a b => ?_)
  have e := ring_inv (hf.mono h7) a (show x ≤ 7 by omega)
  have e2 : leastB (pinv f) x = leastB f x := by unfold leastB; rw [e]
  rw [e, e2]
theorem kind_face {n : Nat} {f g : Nat → Nat} (h1 : 1 ≤ n) (h7 : n ≤ 7) (hf : Pm n f) (hg : Pm n g) : kindN (pface f g) n = kindN (pcomp f g) n := kind_inv h1 h7 (hf.comp hg)
set_option maxHeartbeats 4000000 in
set_option maxRecDepth 100000 in
theorem c_areKinds (l : Launch) (G : Gx) {t1 t2 t3 : Int} (hr1 : rg t1) (hr2 : rg t2) (hr3 : rg t3) {n : Nat} {s a : Nat → Nat} (hV : MapV n s a) (w : Wd) (hM : RMW w n s a) (hR : RTab w n) : SpR l G 1 mX11_areKinds [aR 63, aI (t1), aI (t2), aI (t3)] w (fun z => (z = 1 ∧ KN3 n t1 t2 t3) ∨ (z = 0 ∧ ¬ KN3 n t1 t2 t3)) := by
  obtain ⟨⟨hn1, hn7⟩, hs, ha⟩ := id hV
  obtain ⟨r0, r1, r2⟩ := id hM
  obtain ⟨r3, r4, rPK, rTK⟩ := id hR
  have hfc := fac_le hn1 hn7
  have hk15 := kmany_le n hn7
  refine Sp_of RX11 rfl (by decide +kernel) rfl (Nat.le_of_ble_eq_true rfl) ?_
  refine v_aload_n 0 (pc' := 1) rfl dX11_areKinds_0 rfl rfl ?_
  refine v_iload_n 1 (pc' := 2) rfl dX11_areKinds_1 rfl rfl ?_
  refine v_cVR (pc' := 5) rfl dX11_areKinds_2 lk_RX11_178 ly_63 rfl (c_kindOf l G (n := n) hr1 hn1 hn7 w r4 (fun k hk => (rTK k hk).1)) rfl rfl rfl (fun kindOf1 hkindOf1 => ?_)
  refine v_iconst (pc' := 6) rfl dX11_areKinds_5 ?_
  refine v_icmp_eq (pc' := 9) (tgt := 31) rfl dX11_areKinds_6 (by decide) (KX_r hn7 hkindOf1) (by decide) (fun c0 => ?_) (fun c0 => ?_)
  ·
    have no1 := KX_no hkindOf1 (by omega)
    have hz : ¬ KN3 n t1 t2 t3 := fun q => no1 q.1
    refine v_iconst (pc' := 32) rfl dX11_areKinds_31 ?_
    refine v_iret dX11_areKinds_32 (by decide) (rfl) ?_
    first | exact ⟨Or.inr ⟨rfl, hz⟩, rfl⟩ | exact ⟨Or.inl ⟨rfl, kndB_iff.mpr ⟨k1I, hk1l, hk1t⟩, kndB_iff.mpr ⟨k2I, hk2l, hk2t⟩, kndB_iff.mpr ⟨k3I, hk3l, hk3t⟩⟩, rfl⟩
  ·
    obtain ⟨k1I, hk1z, hk1l, hk1t⟩ := KX_at hkindOf1 (by omega)
    refine v_aload_n 0 (pc' := 10) rfl dX11_areKinds_9 rfl rfl ?_
    refine v_iload_n 2 (pc' := 11) rfl dX11_areKinds_10 rfl rfl ?_
    refine v_cVR (pc' := 14) rfl dX11_areKinds_11 lk_RX11_178 ly_63 rfl (c_kindOf l G (n := n) hr2 hn1 hn7 w r4 (fun k hk => (rTK k hk).1)) rfl rfl rfl (fun kindOf2 hkindOf2 => ?_)
    refine v_iconst (pc' := 15) rfl dX11_areKinds_14 ?_
    refine v_icmp_eq (pc' := 18) (tgt := 31) rfl dX11_areKinds_15 (by decide) (KX_r hn7 hkindOf2) (by decide) (fun c1 => ?_) (fun c1 => ?_)
    ·
      have no2 := KX_no hkindOf2 (by omega)
      have hz : ¬ KN3 n t1 t2 t3 := fun q => no2 q.2.1
      refine v_iconst (pc' := 32) rfl dX11_areKinds_31 ?_
      refine v_iret dX11_areKinds_32 (by decide) (rfl) ?_
      first | exact ⟨Or.inr ⟨rfl, hz⟩, rfl⟩ | exact ⟨Or.inl ⟨rfl, kndB_iff.mpr ⟨k1I, hk1l, hk1t⟩, kndB_iff.mpr ⟨k2I, hk2l, hk2t⟩, kndB_iff.mpr ⟨k3I, hk3l, hk3t⟩⟩, rfl⟩
    ·
      obtain ⟨k2I, hk2z, hk2l, hk2t⟩ := KX_at hkindOf2 (by omega)
      refine v_aload_n 0 (pc' := 19) rfl dX11_areKinds_18 rfl rfl ?_
      refine v_iload_n 3 (pc' := 20) rfl dX11_areKinds_19 rfl rfl ?_
      refine v_cVR (pc' := 23) rfl dX11_areKinds_20 lk_RX11_178 ly_63 rfl (c_kindOf l G (n := n) hr3 hn1 hn7 w r4 (fun k hk => (rTK k hk).1)) rfl rfl rfl (fun kindOf3 hkindOf3 => ?_)
      refine v_iconst (pc' := 24) rfl dX11_areKinds_23 ?_
      refine v_icmp_eq (pc' := 27) (tgt := 31) rfl dX11_areKinds_24 (by decide) (KX_r hn7 hkindOf3) (by decide) (fun c2 => ?_) (fun c2 => ?_)
      ·
        have no3 := KX_no hkindOf3 (by omega)
        have hz : ¬ KN3 n t1 t2 t3 := fun q => no3 q.2.2
        refine v_iconst (pc' := 32) rfl dX11_areKinds_31 ?_
        refine v_iret dX11_areKinds_32 (by decide) (rfl) ?_
        first | exact ⟨Or.inr ⟨rfl, hz⟩, rfl⟩ | exact ⟨Or.inl ⟨rfl, kndB_iff.mpr ⟨k1I, hk1l, hk1t⟩, kndB_iff.mpr ⟨k2I, hk2l, hk2t⟩, kndB_iff.mpr ⟨k3I, hk3l, hk3t⟩⟩, rfl⟩
      ·
        obtain ⟨k3I, hk3z, hk3l, hk3t⟩ := KX_at hkindOf3 (by omega)
        refine v_iconst (pc' := 28) rfl dX11_areKinds_27 ?_
        refine v_goto (tgt := 32) dX11_areKinds_28 (by decide) ?_
        refine v_iret dX11_areKinds_32 (by decide) (rfl) ?_
        first | exact ⟨Or.inr ⟨rfl, hz⟩, rfl⟩ | exact ⟨Or.inl ⟨rfl, kndB_iff.mpr ⟨k1I, hk1l, hk1t⟩, kndB_iff.mpr ⟨k2I, hk2l, hk2t⟩, kndB_iff.mpr ⟨k3I, hk3l, hk3t⟩⟩, rfl⟩
/-- a kind's number -/
def KIx (n : Nat) (f : Nat → Nat) (z : Int) : Prop := ∃ k : Nat, z = k ∧ k < kmany n ∧ kT n k = kindN f n
theorem KIx.rg {n : Nat} {f : Nat → Nat} {z : Int} (h7 : n ≤ 7) (h : KIx n f z) : rg z := by
  obtain ⟨k, a, b, -⟩ := h
  have := kmany_le n h7
  omega
theorem KIx.iff {n : Nat} {f : Nat → Nat} {z y : Int} {k : Nat} (h7 : n ≤ 7) (h : KIx n f z) (hy : y = (k : Nat)) (hk : k < kmany n) : z = y ↔ kindN f n = kT n k := by
  obtain ⟨j, a, b, c⟩ := h
  constructor
  · intro e
    have : j = k := by omega
    rw [← c, this]
  · intro e
    have : j = k := kT_inj n (by omega) j b k hk (by rw [c, e])
    omega
set_option maxHeartbeats 4000000 in
set_option maxRecDepth 100000 in
theorem c_kindOfCode (l : Launch) (G : Gx) {c : Int} {n : Nat} {f : Nat → Nat} (hc : c = (cdk f n : Nat)) (hf : Pm n f) (hn1 : 1 ≤ n) (hn7 : n ≤ 7) (w : Wd) (h3 : w 63 3 = (facN n : Nat)) (hPK : ∀ i, i < facN n → w 64 i = (cdk (pn n i) n : Nat) ∧ ∃ k, k < kmany n ∧ kT n k = kindN (pn n i) n ∧ w 65 i = (k : Nat)) : SpR l G 1 mX11_kindOfCode [aR 63, aI (c)] w (KIx n f) := by
  have hrk := pn_rank hn1 hn7 hf
  have hfl := fac_le hn1 hn7
  obtain ⟨kJ, hk1, hk2, hk3⟩ := (hPK _ hrk.1).2
  rw [hrk.2] at hk2
  refine Sp_of RX11 rfl (by decide +kernel) rfl (Nat.le_of_ble_eq_true rfl) ?_
  refine v_aload_n 0 (pc' := 1) rfl dX11_kindOfCode_0 rfl rfl ?_
  refine v_getR (pc' := 4) rfl dX11_kindOfCode_1 fk_RX11_13 ly_63 rfl ?_
  refine v_aload_n 0 (pc' := 5) rfl dX11_kindOfCode_4 rfl rfl ?_
  refine v_iload_n 1 (pc' := 6) rfl dX11_kindOfCode_5 rfl rfl ?_
  refine v_cVP (pc' := 9) rfl dX11_kindOfCode_6 lk_RX11_286 ly_63 rfl (c_placeOfM l G hc hf hn1 hn7 w h3 (fun i hi => (hPK i hi).1)) rfl rfl rfl ?_
  refine v_nm (fun placeOf1 hplaceOf1 => ?_)
  refine v_iald (z := ((kJ : Nat) : Int)) (pc' := 10) rfl dX11_kindOfCode_9 ly_65 (by omega) (by omega) rfl (by rw [show placeOf1.toNat = rankN f n by omega]; exact hk3) ?_
  refine v_iret dX11_kindOfCode_10 (by decide) (rfl) ?_
  exact ⟨⟨kJ, rfl, hk1, hk2⟩, rfl⟩
set_option maxHeartbeats 4000000 in
set_option maxRecDepth 100000 in
theorem c_bySearch (l : Launch) (G : Gx) {k1 k2 k3 one : Int} {n i1 i2 i3 : Nat} (hn1 : 1 ≤ n) (hn7 : n ≤ 7) (h1 : i1 < kmany n) (h2 : i2 < kmany n) (h3 : i3 < kmany n) (hk1 : k1 = (i1 : Nat)) (hk2 : k2 = (i2 : Nat)) (hk3 : k3 = (i3 : Nat)) (hone : one = 0 ∨ one = 1) (hsz : OPSZ) (w : Wd) (h00 : w 63 0 = n) (hR : RTab w n) : Sp l G 3 mX11_bySearch [aR 63, aI (k1), aI (k2), aI (k3), aI (one)] w (fun z w' => Scr w w' ∧ z = ((cntI (if one = 0 then tPA n (leastF (kT n i1) n) (kT n i2) (kT n i3) else tPC n (leastF (kT n i1) n) (kT n i2) (kT n i3)) (facN n) : Nat) : Int) * (membersN (kT n i1) n : Int)) := by
  have r0 := h00
  obtain ⟨r3, r4, rPK, rTK⟩ := id hR
  have hfc := fac_le hn1 hn7
  have hk15 := kmany_le n hn7
  have hS := lp_pm hn7 h1
  have hmb := (kt_ok n (by omega) i1 h1).2.2
  refine Sp_of RX11 rfl (by decide +kernel) rfl (Nat.le_of_ble_eq_true rfl) ?_
  refine v_aload_n 0 (pc' := 1) rfl dX11_bySearch_0 rfl rfl ?_
  refine v_getR (pc' := 4) rfl dX11_bySearch_1 fk_RX11_22 ly_63 rfl ?_
  refine v_iload_n 1 (pc' := 5) rfl dX11_bySearch_4 rfl rfl ?_
  refine v_iald (z := ((cdk (leastF (kT n i1) n) n : Nat) : Int)) (pc' := 6) rfl dX11_bySearch_5 ly_68 (by omega) (by omega) rfl (by rw [show k1.toNat = i1 by omega]; exact (rTK i1 h1).2.2) ?_
  refine v_nm (fun s' hs' => ?_)
  refine v_istore (ls' := [(5, _), (0, _), (1, _), (2, _), (3, _), (4, _)]) (pc' := 8) rfl dX11_bySearch_6 rfl rfl ?_
  refine v_lconst (z := 0) (pc' := 9) rfl dX11_bySearch_8 rfl ?_
  refine v_lstore (ls' := [(6, _), (5, _), (0, _), (1, _), (2, _), (3, _), (4, _)]) (pc' := 11) rfl dX11_bySearch_9 rfl rfl ?_
  refine v_iconst (pc' := 12) rfl dX11_bySearch_11 ?_
  refine v_istore (ls' := [(8, _), (6, _), (5, _), (0, _), (1, _), (2, _), (3, _), (4, _)]) (pc' := 14) rfl dX11_bySearch_12 rfl rfl ?_
  refine v_ls [3, 4, 5, 6, 7, 2, 1, 0] rfl ?_
  refine v_loop3 14 (fun (many : Int) (i : Int) (wl : Wd) => ∃ j : Nat, i = j ∧ j ≤ facN n ∧ many = ((cntI (if one = 0 then tPA n (leastF (kT n i1) n) (kT n i2) (kT n i3) else tPC n (leastF (kT n i1) n) (kT n i2) (kT n i3)) j : Nat) : Int) ∧ Scr w wl) (fun (many : Int) (i : Int) (wl : Wd) => (5040 - i).toNat) (fun (many : Int) (i : Int) (wl : Wd) => [(0, aR 63), (1, aI (k1)), (2, aI (k2)), (3, aI (k3)), (4, aI (one)), (5, aI (s')), (6, aL (many)), (8, aI (i))]) (fun (many : Int) (i : Int) (wl : Wd) => []) (fun (many : Int) (i : Int) (wl : Wd) => wl) (fun many i wl hI0 ih0 => ?_) (0) (0) w (⟨0, rfl, by omega, rfl, Scr.rf _⟩)
  obtain ⟨j, hi, hj, hm, hsc⟩ := hI0
  have g0 := (hsc 63 0 (by decide)).trans h00
  have g3 := (hsc 63 3 (by decide)).trans r3
  have hcl := cntI_le (if one = 0 then tPA n (leastF (kT n i1) n) (kT n i2) (kT n i3) else tPC n (leastF (kT n i1) n) (kT n i2) (kT n i3)) j
  refine v_iload 7 (pc' := 16) rfl dX11_bySearch_14 rfl ?_
  refine v_aload_n 0 (pc' := 17) rfl dX11_bySearch_16 rfl rfl ?_
  refine v_get (z := ((facN n : Nat) : Int)) (pc' := 20) rfl dX11_bySearch_17 fk_RX11_165 ly_63 rfl (g3) ?_
  refine v_icmp_ge (pc' := 23) (tgt := 96) rfl dX11_bySearch_20 (by decide) (by omega) (by omega) (fun c0 => ?_) (fun c0 => ?_)
  ·
    have hje : j = facN n := by omega
    refine v_lload 6 (pc' := 98) rfl dX11_bySearch_96 rfl ?_
    refine v_aload_n 0 (pc' := 99) rfl dX11_bySearch_98 rfl rfl ?_
    refine v_getR (pc' := 102) rfl dX11_bySearch_99 fk_RX11_19 ly_63 rfl ?_
    refine v_iload_n 1 (pc' := 103) rfl dX11_bySearch_102 rfl rfl ?_
    refine v_iald (z := ((membersN (kT n i1) n : Nat) : Int)) (pc' := 104) rfl dX11_bySearch_103 ly_67 (by omega) (by omega) rfl (by rw [show k1.toNat = i1 by omega, hsc 67 i1 rfl, (rTK i1 h1).2.1, hsz n i1 hn1 hn7 h1]) ?_
    refine v_i2l (pc' := 105) rfl dX11_bySearch_104 (by omega) ?_
    refine v_lmul (pc' := 106) rfl dX11_bySearch_105 ?_
    refine v_lret dX11_bySearch_106 ?_
    exact ⟨hsc, by rw [hm, hje]⟩
  ·
    have hpj := pn_at hn1 hn7 (show j < facN n by omega)
    obtain ⟨kJ, hkJ1, hkJ2, hkJ3⟩ := (rPK j (by omega)).2
    have hkx : KIx n (pn n j) (kJ : Int) := ⟨kJ, rfl, hkJ1, hkJ2⟩
    have hk2i := hkx.iff hn7 hk2 h2
    refine v_aload_n 0 (pc' := 24) rfl dX11_bySearch_23 rfl rfl ?_
    refine v_getR (pc' := 27) rfl dX11_bySearch_24 fk_RX11_13 ly_63 rfl ?_
    refine v_iload 7 (pc' := 29) rfl dX11_bySearch_27 rfl ?_
    refine v_iald (z := ((kJ : Nat) : Int)) (pc' := 30) rfl dX11_bySearch_29 ly_65 (by omega) (by omega) rfl (by rw [show i.toNat = j by omega, hsc 65 j rfl]; exact hkJ3) ?_
    refine v_iload_n 2 (pc' := 31) rfl dX11_bySearch_30 rfl rfl ?_
    refine v_icmp_ne (pc' := 34) (tgt := 90) rfl dX11_bySearch_31 (by decide) (by omega) (by omega) (fun c1 => ?_) (fun c1 => ?_)
    ·
      have hno : ¬ (if one = 0 then tPA n (leastF (kT n i1) n) (kT n i2) (kT n i3) else tPC n (leastF (kT n i1) n) (kT n i2) (kT n i3)) j = true := fun q => by
        have hne : ¬ kindN (pn n j) n = kT n i2 := fun e => c1 (hk2i.mpr e)
        split at q
        · rw [tPA_no hne] at q; exact absurd q (by decide)
        · rw [tPC_no hne] at q; exact absurd q (by decide)
      refine v_iinc (ls' := [(8, _), (0, _), (1, _), (2, _), (3, _), (4, _), (5, _), (6, _)]) 7 (pc' := 93) rfl dX11_bySearch_90 rfl rfl rfl ?_
      refine v_nl (fun i' hi' => ?_)
      refine v_goto (tgt := 14) dX11_bySearch_93 (by decide) ?_
      refine v_ls [1, 2, 3, 4, 5, 6, 7, 0] rfl ?_
      exact ih0 (many) (i') wl (⟨j + 1, by omega, by omega, by rw [cntI_s, if_neg hno]; omega, hsc⟩) (by omega)
    ·
      have heq := hk2i.mp (by omega)
      refine v_aload_n 0 (pc' := 35) rfl dX11_bySearch_34 rfl rfl ?_
      refine v_aload_n 0 (pc' := 36) rfl dX11_bySearch_35 rfl rfl ?_
      refine v_iload 5 (pc' := 38) rfl dX11_bySearch_36 rfl ?_
      refine v_aload_n 0 (pc' := 39) rfl dX11_bySearch_38 rfl rfl ?_
      refine v_getR (pc' := 42) rfl dX11_bySearch_39 fk_RX11_7 ly_63 rfl ?_
      refine v_iload 7 (pc' := 44) rfl dX11_bySearch_42 rfl ?_
      refine v_iald (z := ((cdk (pn n j) n : Nat) : Int)) (pc' := 45) rfl dX11_bySearch_44 ly_64 (by omega) (by omega) rfl (by rw [show i.toNat = j by omega, hsc 64 j rfl]; exact (rPK j (by omega)).1) ?_
      refine v_cVi (pc' := 48) rfl dX11_bySearch_45 lk_RX11_155 ly_63 rfl (c_facesOfM l G hs' rfl hS hpj.1 hn1 hn7 wl g0) rfl rfl rfl (fun facesOf1 w1 hq1 => ?_)
      obtain ⟨f1, z1⟩ := hq1
      have g0 : w1 63 0 = (n : Int) := (f1 63 0 (by decide)).trans g0
      have g3 : w1 63 3 = ((facN n : Nat) : Int) := (f1 63 3 (by decide)).trans g3
      refine v_cVR (pc' := 51) rfl dX11_bySearch_48 lk_RX11_355 ly_63 rfl (c_kindOfCode l G z1 (Pm.face hn7 hS hpj.1) hn1 hn7 w1 g3 (fun i hi => by rw [f1 64 i rfl, f1 65 i rfl, hsc 64 i rfl, hsc 65 i rfl]; exact rPK i hi)) rfl rfl rfl (fun kindOfCode1 hkindOfCode1 => ?_)
      have hki := hkindOfCode1.iff hn7 hk3 h3
      rw [kind_face hn1 hn7 hS hpj.1] at hki
      refine v_iload_n 3 (pc' := 52) rfl dX11_bySearch_51 rfl rfl ?_
      refine v_icmp_eq (pc' := 55) (tgt := 58) rfl dX11_bySearch_52 (by decide) (hkindOfCode1.rg hn7) (by omega) (fun c2 => ?_) (fun c2 => ?_)
      ·
        have heq3 := hki.mp (by omega)
        refine v_lload 6 (pc' := 60) rfl dX11_bySearch_58 rfl ?_
        refine v_iload 4 (pc' := 62) rfl dX11_bySearch_60 rfl ?_
        refine v_if_eq (pc' := 65) (tgt := 81) rfl dX11_bySearch_62 (by decide) (by omega) (fun c3 => ?_) (fun c3 => ?_)
        ·
          have hyes : (if one = 0 then tPA n (leastF (kT n i1) n) (kT n i2) (kT n i3) else tPC n (leastF (kT n i1) n) (kT n i2) (kT n i3)) j = true := by rw [if_pos (by omega), tPA_yes heq, heq3, beq_self_eq_true]
          refine v_iconst (pc' := 82) rfl dX11_bySearch_81 ?_
          refine v_goto (tgt := 86) dX11_bySearch_82 (by decide) ?_
          refine v_i2l (pc' := 87) rfl dX11_bySearch_86 (by omega) ?_
          refine v_ladd (pc' := 88) rfl dX11_bySearch_87 ?_
          refine v_nmL (fun many' hmany' => ?_)
          refine v_lstore (ls' := [(6, _), (0, _), (1, _), (2, _), (3, _), (4, _), (5, _), (8, _)]) (pc' := 90) rfl dX11_bySearch_88 rfl rfl ?_
          refine v_iinc (ls' := [(8, _), (6, _), (0, _), (1, _), (2, _), (3, _), (4, _), (5, _)]) 7 (pc' := 93) rfl dX11_bySearch_90 rfl rfl rfl ?_
          refine v_nl (fun i' hi' => ?_)
          refine v_goto (tgt := 14) dX11_bySearch_93 (by decide) ?_
          refine v_ls [2, 3, 4, 5, 6, 7, 1, 0] rfl ?_
          exact ih0 (many') (i') w1 (⟨j + 1, by omega, by omega, by rw [cntI_s, if_pos hyes]; omega, hsc.tr (Scr.of f1 (by decide))⟩) (by omega)
        ·
          refine v_aload_n 0 (pc' := 66) rfl dX11_bySearch_65 rfl rfl ?_
          refine v_iload 5 (pc' := 68) rfl dX11_bySearch_66 rfl ?_
          refine v_aload_n 0 (pc' := 69) rfl dX11_bySearch_68 rfl rfl ?_
          refine v_getR (pc' := 72) rfl dX11_bySearch_69 fk_RX11_7 ly_63 rfl ?_
          refine v_iload 7 (pc' := 74) rfl dX11_bySearch_72 rfl ?_
          refine v_iald (z := ((cdk (pn n j) n : Nat) : Int)) (pc' := 75) rfl dX11_bySearch_74 ly_64 (by omega) (by omega) rfl (by rw [show i.toNat = j by omega, f1 64 j rfl, hsc 64 j rfl]; exact (rPK j (by omega)).1) ?_
          refine v_cVi (pc' := 78) rfl dX11_bySearch_75 lk_RX11_280 ly_63 rfl (c_isConnected l G hs' rfl hS hpj.1 hn1 hn7 w1 g0) rfl rfl rfl (fun isConnected1 w3 hq3 => ?_)
          obtain ⟨f3, z3⟩ := hq3
          have g0 : w3 63 0 = (n : Int) := (f3 63 0 (by decide)).trans g0
          have g3 : w3 63 3 = ((facN n : Nat) : Int) := (f3 63 3 (by decide)).trans g3
          refine v_if_eq (pc' := 81) (tgt := 85) rfl dX11_bySearch_78 (by decide) (jn_r z3) (fun c4 => ?_) (fun c4 => ?_)
          ·
            have hno : ¬ (if one = 0 then tPA n (leastF (kT n i1) n) (kT n i2) (kT n i3) else tPC n (leastF (kT n i1) n) (kT n i2) (kT n i3)) j = true := by rw [if_neg (by omega), tPC_yes heq, jn_0 z3 (by omega)]; simp
            refine v_iconst (pc' := 86) rfl dX11_bySearch_85 ?_
            refine v_i2l (pc' := 87) rfl dX11_bySearch_86 (by omega) ?_
            refine v_ladd (pc' := 88) rfl dX11_bySearch_87 ?_
            refine v_nmL (fun many' hmany' => ?_)
            refine v_lstore (ls' := [(6, _), (0, _), (1, _), (2, _), (3, _), (4, _), (5, _), (8, _)]) (pc' := 90) rfl dX11_bySearch_88 rfl rfl ?_
            refine v_iinc (ls' := [(8, _), (6, _), (0, _), (1, _), (2, _), (3, _), (4, _), (5, _)]) 7 (pc' := 93) rfl dX11_bySearch_90 rfl rfl rfl ?_
            refine v_nl (fun i' hi' => ?_)
            refine v_goto (tgt := 14) dX11_bySearch_93 (by decide) ?_
            refine v_ls [2, 3, 4, 5, 6, 7, 1, 0] rfl ?_
            exact ih0 (many') (i') w3 (⟨j + 1, by omega, by omega, by rw [cntI_s, if_neg hno]; omega, (hsc.tr (Scr.of f1 (by decide))).tr (Scr.of f3 (by decide))⟩) (by omega)
          ·
            have hyes : (if one = 0 then tPA n (leastF (kT n i1) n) (kT n i2) (kT n i3) else tPC n (leastF (kT n i1) n) (kT n i2) (kT n i3)) j = true := by rw [if_neg (by omega), tPC_yes heq, heq3, jn_1 z3 (by omega), beq_self_eq_true]; rfl
            refine v_iconst (pc' := 82) rfl dX11_bySearch_81 ?_
            refine v_goto (tgt := 86) dX11_bySearch_82 (by decide) ?_
            refine v_i2l (pc' := 87) rfl dX11_bySearch_86 (by omega) ?_
            refine v_ladd (pc' := 88) rfl dX11_bySearch_87 ?_
            refine v_nmL (fun many' hmany' => ?_)
            refine v_lstore (ls' := [(6, _), (0, _), (1, _), (2, _), (3, _), (4, _), (5, _), (8, _)]) (pc' := 90) rfl dX11_bySearch_88 rfl rfl ?_
            refine v_iinc (ls' := [(8, _), (6, _), (0, _), (1, _), (2, _), (3, _), (4, _), (5, _)]) 7 (pc' := 93) rfl dX11_bySearch_90 rfl rfl rfl ?_
            refine v_nl (fun i' hi' => ?_)
            refine v_goto (tgt := 14) dX11_bySearch_93 (by decide) ?_
            refine v_ls [2, 3, 4, 5, 6, 7, 1, 0] rfl ?_
            exact ih0 (many') (i') w3 (⟨j + 1, by omega, by omega, by rw [cntI_s, if_pos hyes]; omega, (hsc.tr (Scr.of f1 (by decide))).tr (Scr.of f3 (by decide))⟩) (by omega)
      ·
        have hno : ¬ (if one = 0 then tPA n (leastF (kT n i1) n) (kT n i2) (kT n i3) else tPC n (leastF (kT n i1) n) (kT n i2) (kT n i3)) j = true := fun q => by
          have hne : ¬ kindN (pcomp (leastF (kT n i1) n) (pn n j)) n = kT n i3 := fun e => c2 (hki.mpr e)
          split at q
          · rw [tPA_yes heq, beq_false_of_ne hne] at q; exact absurd q (by decide)
          · rw [tPC_yes heq, beq_false_of_ne hne] at q; simp at q
        refine v_goto (tgt := 90) dX11_bySearch_55 (by decide) ?_
        refine v_iinc (ls' := [(8, _), (0, _), (1, _), (2, _), (3, _), (4, _), (5, _), (6, _)]) 7 (pc' := 93) rfl dX11_bySearch_90 rfl rfl rfl ?_
        refine v_nl (fun i' hi' => ?_)
        refine v_goto (tgt := 14) dX11_bySearch_93 (by decide) ?_
        refine v_ls [1, 2, 3, 4, 5, 6, 7, 0] rfl ?_
        exact ih0 (many) (i') w1 (⟨j + 1, by omega, by omega, by rw [cntI_s, if_neg hno]; omega, hsc.tr (Scr.of f1 (by decide))⟩) (by omega)

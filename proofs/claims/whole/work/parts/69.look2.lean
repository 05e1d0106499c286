/-! ===== the reference: symmetric, same, label, cycles, along, point, power, reckon ===== -/
theorem symM_s (n : Nat) (s a : Nat → Nat) (k : Nat) : symM n s a (k + 1) = @ite _ (symP n s a k) (Classical.propDecidable _) (symM n s a k ||| 2 ^ k) (symM n s a k) := rfl
theorem symM_lt (n : Nat) (s a : Nat → Nat) : ∀ k, symM n s a k < 2 ^ k
  | 0 => Nat.one_pos
  | k + 1 => by
    have ih := symM_lt n s a k
    have h2 : (2 : Nat) ^ k < 2 ^ (k + 1) := Nat.pow_lt_pow_right (by decide) (by omega)
    rw [symM_s]
    split
    · exact Nat.or_lt_two_pow (by omega) h2
    · omega
theorem pbw_of {n : Nat} {f g : Nat → Nat} (hn1 : 1 ≤ n) (hn7 : n ≤ 7) (hf : Pm n f) (hg : Pm n g) (k : Nat) : Pm n (pblack k f g) ∧ Pm n (pwhite k f g) := pbw_pm ⟨⟨hn1, hn7⟩, hf, hg⟩ k
set_option maxHeartbeats 4000000 in
set_option maxRecDepth 100000 in
theorem c_symmetric (l : Launch) (G : Gx) {p q : Int} {n : Nat} {f g : Nat → Nat} (hp : p = (cdk f n : Nat)) (hq : q = (cdk g n : Nat)) (hf : Pm n f) (hg : Pm n g) (hn1 : 1 ≤ n) (hn7 : n ≤ 7) (w : Wd) (h00 : w 63 0 = n) (hR : RTab w n) : Sp l G 4 mX11_symmetric [aR 63, aI (p), aI (q)] w (fun z w' => Scr w w' ∧ z = (symM n f g 4 : Nat)) := by
  have r0 := h00
  have hS := canS_pm hn1 hn7 hf
  have hA := (canA_pm hn1 hn7 hf hg).1
  have hSl := cd_le hS hn7 (Nat.le_refl n)
  have hAl := cd_le hA hn7 (Nat.le_refl n)
  refine Sp_of RX11 rfl (by decide +kernel) rfl (Nat.le_of_ble_eq_true rfl) ?_
  refine v_aload_n 0 (pc' := 1) rfl dX11_symmetric_0 rfl rfl ?_
  refine v_iload_n 1 (pc' := 2) rfl dX11_symmetric_1 rfl rfl ?_
  refine v_iload_n 2 (pc' := 3) rfl dX11_symmetric_2 rfl rfl ?_
  refine v_cVv (pc' := 6) rfl dX11_symmetric_3 lk_RX11_258 ly_63 rfl (c_laysCanon l G hp hq hf hg hn1 hn7 w h00 hR) rfl rfl rfl (fun laysCanon1 w1 hq1 => ?_)
  obtain ⟨s1, a1, h1⟩ := hq1
  refine v_aload_n 0 (pc' := 7) rfl dX11_symmetric_6 rfl rfl ?_
  refine v_get (z := ((cdk (canS n f) n : Nat) : Int)) (pc' := 10) rfl dX11_symmetric_7 fk_RX11_249 ly_63 rfl (s1) ?_
  refine v_nm (fun oS' hoS' => ?_)
  refine v_istore_n (ls' := [(3, _), (0, _), (1, _), (2, _)]) (pc' := 11) rfl dX11_symmetric_10 rfl rfl rfl ?_
  refine v_aload_n 1 (pc' := 12) rfl dX11_symmetric_11 rfl rfl ?_
  refine v_get (z := ((cdk (canA n f g) n : Nat) : Int)) (pc' := 15) rfl dX11_symmetric_12 fk_RX11_255 ly_63 rfl (a1) ?_
  refine v_nm (fun oA' hoA' => ?_)
  refine v_istore (ls' := [(4, _), (3, _), (0, _), (1, _), (2, _)]) (pc' := 17) rfl dX11_symmetric_15 rfl rfl ?_
  refine v_iconst (pc' := 18) rfl dX11_symmetric_17 ?_
  refine v_istore (ls' := [(5, _), (4, _), (3, _), (0, _), (1, _), (2, _)]) (pc' := 20) rfl dX11_symmetric_18 rfl rfl ?_
  refine v_iconst (pc' := 21) rfl dX11_symmetric_20 ?_
  refine v_istore (ls' := [(6, _), (5, _), (4, _), (3, _), (0, _), (1, _), (2, _)]) (pc' := 23) rfl dX11_symmetric_21 rfl rfl ?_
  refine v_ls [4, 5, 6, 3, 2, 1, 0] rfl ?_
  refine v_loop3 23 (fun (set : Int) (k : Int) (wl : Wd) => ∃ j : Nat, k = j ∧ j ≤ 4 ∧ set = (symM n f g j : Nat) ∧ Scr w wl) (fun (set : Int) (k : Int) (wl : Wd) => (4 - k).toNat) (fun (set : Int) (k : Int) (wl : Wd) => [(0, aR 63), (1, aI (p)), (2, aI (q)), (3, aI (oS')), (4, aI (oA')), (5, aI (set)), (6, aI (k))]) (fun (set : Int) (k : Int) (wl : Wd) => []) (fun (set : Int) (k : Int) (wl : Wd) => wl) (fun set k wl hI0 ih0 => ?_) (0) (0) w1 (⟨0, rfl, by omega, rfl, h1⟩)
  obtain ⟨j, hk, hj, hset, hsc⟩ := hI0
  have g0 := (hsc 63 0 (by decide)).trans h00
  have hb := pbw_of hn1 hn7 hf hg j
  have hsl := symM_lt n f g j
  refine v_iload 6 (pc' := 25) rfl dX11_symmetric_23 rfl ?_
  refine v_iconst (pc' := 26) rfl dX11_symmetric_25 ?_
  refine v_icmp_ge (pc' := 29) (tgt := 86) rfl dX11_symmetric_26 (by decide) (by omega) (by omega) (fun c0 => ?_) (fun c0 => ?_)
  ·
    have hj4 : j = 4 := by omega
    subst hj4
    refine v_iload 5 (pc' := 88) rfl dX11_symmetric_86 rfl ?_
    refine v_iret dX11_symmetric_88 (by decide) (rfl) ?_
    exact ⟨hsc, hset⟩
  ·
    refine v_aload_n 0 (pc' := 30) rfl dX11_symmetric_29 rfl rfl ?_
    refine v_iload_n 1 (pc' := 31) rfl dX11_symmetric_30 rfl rfl ?_
    refine v_iload_n 2 (pc' := 32) rfl dX11_symmetric_31 rfl rfl ?_
    refine v_iload 6 (pc' := 34) rfl dX11_symmetric_32 rfl ?_
    refine v_cVv (pc' := 37) rfl dX11_symmetric_34 lk_RX11_245 ly_63 rfl (c_operates l G (k := j) hp hq hk (by omega) hf hg hn1 hn7 wl g0) rfl rfl rfl (fun operates1 w2 hq2 => ?_)
    obtain ⟨b2, c2_, h2⟩ := hq2
    refine v_aload_n 0 (pc' := 38) rfl dX11_symmetric_37 rfl rfl ?_
    refine v_aload_n 0 (pc' := 39) rfl dX11_symmetric_38 rfl rfl ?_
    refine v_get (z := ((cdk (pblack j f g) n : Nat) : Int)) (pc' := 42) rfl dX11_symmetric_39 fk_RX11_239 ly_63 rfl (b2) ?_
    refine v_aload_n 0 (pc' := 43) rfl dX11_symmetric_42 rfl rfl ?_
    refine v_get (z := ((cdk (pwhite j f g) n : Nat) : Int)) (pc' := 46) rfl dX11_symmetric_43 fk_RX11_242 ly_63 rfl (c2_) ?_
    refine v_cVv (pc' := 49) rfl dX11_symmetric_46 lk_RX11_258 ly_63 rfl (c_laysCanon l G (f := pblack j f g) (g := pwhite j f g) rfl rfl hb.1 hb.2 hn1 hn7 w2 ((h2 63 0 (by decide)).trans g0) ((hR.s hsc).s h2)) rfl rfl rfl (fun laysCanon2 w3 hq3 => ?_)
    obtain ⟨s3, a3, h3⟩ := hq3
    have hbl := cd_le (canS_pm hn1 hn7 hb.1) hn7 (Nat.le_refl n)
    have hwl := cd_le (canA_pm hn1 hn7 hb.1 hb.2).1 hn7 (Nat.le_refl n)
    refine v_aload_n 0 (pc' := 50) rfl dX11_symmetric_49 rfl rfl ?_
    refine v_get (z := ((cdk (canS n (pblack j f g)) n : Nat) : Int)) (pc' := 53) rfl dX11_symmetric_50 fk_RX11_249 ly_63 rfl (s3) ?_
    refine v_iload_n 3 (pc' := 54) rfl dX11_symmetric_53 rfl rfl ?_
    refine v_icmp_ne (pc' := 57) (tgt := 76) rfl dX11_symmetric_54 (by decide) (by omega) (by omega) (fun c1 => ?_) (fun c1 => ?_)
    ·
      have hns : ¬ symP n f g j := fun q => by
        have := (can_same hn1 hn7 hf hg hb.1 hb.2).mpr q
        rw [this.1] at c1
        omega
      refine v_iload 5 (pc' := 78) rfl dX11_symmetric_76 rfl ?_
      refine v_istore (ls' := [(5, _), (0, _), (1, _), (2, _), (3, _), (4, _), (6, _)]) (pc' := 80) rfl dX11_symmetric_78 rfl rfl ?_
      refine v_iinc (ls' := [(6, _), (5, _), (0, _), (1, _), (2, _), (3, _), (4, _)]) 6 (pc' := 83) rfl dX11_symmetric_80 rfl rfl rfl ?_
      refine v_nl (fun k' hk' => ?_)
      refine v_goto (tgt := 23) dX11_symmetric_83 (by decide) ?_
      refine v_ls [2, 3, 4, 5, 6, 1, 0] rfl ?_
      exact ih0 (set) (k') w3 (⟨j + 1, by omega, by omega, by rw [symM_s, if_neg hns]; exact hset, (hsc.tr h2).tr h3⟩) (by omega)
    ·
      refine v_aload_n 0 (pc' := 58) rfl dX11_symmetric_57 rfl rfl ?_
      refine v_get (z := ((cdk (canA n (pblack j f g) (pwhite j f g)) n : Nat) : Int)) (pc' := 61) rfl dX11_symmetric_58 fk_RX11_255 ly_63 rfl (a3) ?_
      refine v_iload 4 (pc' := 63) rfl dX11_symmetric_61 rfl ?_
      refine v_icmp_ne (pc' := 66) (tgt := 76) rfl dX11_symmetric_63 (by decide) (by omega) (by omega) (fun c2 => ?_) (fun c2 => ?_)
      ·
        have hns : ¬ symP n f g j := fun q => by
          have := (can_same hn1 hn7 hf hg hb.1 hb.2).mpr q
          rw [this.2] at c2
          omega
        refine v_iload 5 (pc' := 78) rfl dX11_symmetric_76 rfl ?_
        refine v_istore (ls' := [(5, _), (0, _), (1, _), (2, _), (3, _), (4, _), (6, _)]) (pc' := 80) rfl dX11_symmetric_78 rfl rfl ?_
        refine v_iinc (ls' := [(6, _), (5, _), (0, _), (1, _), (2, _), (3, _), (4, _)]) 6 (pc' := 83) rfl dX11_symmetric_80 rfl rfl rfl ?_
        refine v_nl (fun k' hk' => ?_)
        refine v_goto (tgt := 23) dX11_symmetric_83 (by decide) ?_
        refine v_ls [2, 3, 4, 5, 6, 1, 0] rfl ?_
        exact ih0 (set) (k') w3 (⟨j + 1, by omega, by omega, by rw [symM_s, if_neg hns]; exact hset, (hsc.tr h2).tr h3⟩) (by omega)
      ·
        have hsy : symP n f g j := (can_same hn1 hn7 hf hg hb.1 hb.2).mp ⟨(cd_inj (canS_pm hn1 hn7 hb.1) hS hn7).mp (by omega), (cd_inj (canA_pm hn1 hn7 hb.1 hb.2).1 hA hn7).mp (by omega)⟩
        refine v_iload 5 (pc' := 68) rfl dX11_symmetric_66 rfl ?_
        refine v_iconst (pc' := 69) rfl dX11_symmetric_68 ?_
        refine v_iload 6 (pc' := 71) rfl dX11_symmetric_69 rfl ?_
        refine v_ishl (z := ((2 ^ j : Nat) : Int)) (pc' := 72) rfl dX11_symmetric_71 (iz_one_shl hk (by omega)) ?_
        refine v_ior (z := ((symM n f g j ||| 2 ^ j : Nat) : Int)) (pc' := 73) rfl dX11_symmetric_72 (iz_orE hset rfl) ?_
        refine v_goto (tgt := 78) dX11_symmetric_73 (by decide) ?_
        refine v_nm (fun set' hset' => ?_)
        refine v_istore (ls' := [(5, _), (0, _), (1, _), (2, _), (3, _), (4, _), (6, _)]) (pc' := 80) rfl dX11_symmetric_78 rfl rfl ?_
        refine v_iinc (ls' := [(6, _), (5, _), (0, _), (1, _), (2, _), (3, _), (4, _)]) 6 (pc' := 83) rfl dX11_symmetric_80 rfl rfl rfl ?_
        refine v_nl (fun k' hk' => ?_)
        refine v_goto (tgt := 23) dX11_symmetric_83 (by decide) ?_
        refine v_ls [2, 3, 4, 5, 6, 1, 0] rfl ?_
        exact ih0 (set') (k') w3 (⟨j + 1, by omega, by omega, by rw [symM_s, if_pos hsy]; exact hset', (hsc.tr h2).tr h3⟩) (by omega)
theorem IsP_r {n : Nat} {c z : Int} (h : IsP n c z) : rg z := by rcases h with ⟨h, -⟩ | ⟨h, -⟩ <;> omega
theorem IsP_1 {n : Nat} {c z : Int} (h : IsP n c z) (hz : z ≠ 0) : ∃ f, Pm n f ∧ (cdk f n : Int) = c := by
  rcases h with ⟨-, h⟩ | ⟨h, -⟩
  · exact h
  · exact absurd h hz
theorem IsP_0 {n : Nat} {c z : Int} (h : IsP n c z) (hz : z = 0) : ∀ f, Pm n f → (cdk f n : Int) ≠ c := by
  rcases h with ⟨h, -⟩ | ⟨-, h⟩
  · omega
  · exact h
set_option maxHeartbeats 4000000 in
set_option maxRecDepth 100000 in
theorem c_sameM (l : Launch) (G : Gx) {p q : Int} (hp : rg p) (hq : rg q) {n : Nat} {s a : Nat → Nat} (hV : MapV n s a) (w : Wd) (hM : RMW w n s a) (hR : RTab w n) : Sp l G 3 mX11_same [aR 63, aI (p), aI (q)] w (fun z w' => Scr w w' ∧ SamP n s a p q z) := by
  obtain ⟨⟨hn1, hn7⟩, hs, ha⟩ := id hV
  obtain ⟨r0, r1, r2⟩ := id hM
  obtain ⟨r3, r4, rPK, rTK⟩ := id hR
  have hfc := fac_le hn1 hn7
  have hk15 := kmany_le n hn7
  refine Sp_of RX11 rfl (by decide +kernel) rfl (Nat.le_of_ble_eq_true rfl) ?_
  refine v_aload_n 0 (pc' := 1) rfl dX11_same_0 rfl rfl ?_
  refine v_iload_n 1 (pc' := 2) rfl dX11_same_1 rfl rfl ?_
  refine v_cVR (pc' := 5) rfl dX11_same_2 lk_RX11_197 ly_63 rfl (c_isCode l G hp hn1 hn7 w r0) rfl rfl rfl (fun isCode1 hisCode1 => ?_)
  refine v_if_eq (pc' := 8) (tgt := 16) rfl dX11_same_5 (by decide) (IsP_r hisCode1) (fun c0 => ?_) (fun c0 => ?_)
  ·
    have h0 := IsP_0 hisCode1 (by omega)
    have hz : SamP n s a p q (-1) := Or.inl ⟨rfl, fun ⟨f, g, a1, a2, a3, a4⟩ => h0 f a1 a3⟩
    refine v_iconst (pc' := 17) rfl dX11_same_16 ?_
    refine v_iret dX11_same_17 (by decide) (rfl) ?_
    first | exact ⟨Scr.rf _, hz⟩ | exact ⟨h3, Or.inr ⟨f, g, hf, hg, hfc', hgc, by rcases z3 with ⟨h, h2⟩ | ⟨r, hr, e1, e2, h, -⟩; (exact Or.inl ⟨rfl, h2⟩); (exfalso; omega)⟩⟩ | exact ⟨h3, Or.inr ⟨f, g, hf, hg, hfc', hgc, by rcases z3 with ⟨h, h2⟩ | ⟨r, hr, e1, e2, h, -⟩; (exfalso; omega); (exact Or.inr ⟨rfl, r, hr, e1, e2⟩)⟩⟩
  ·
    obtain ⟨f, hf, hfc'⟩ := IsP_1 hisCode1 (by omega)
    refine v_aload_n 0 (pc' := 9) rfl dX11_same_8 rfl rfl ?_
    refine v_iload_n 2 (pc' := 10) rfl dX11_same_9 rfl rfl ?_
    refine v_cVR (pc' := 13) rfl dX11_same_10 lk_RX11_197 ly_63 rfl (c_isCode l G hq hn1 hn7 w r0) rfl rfl rfl (fun isCode2 hisCode2 => ?_)
    refine v_if_ne (pc' := 16) (tgt := 18) rfl dX11_same_13 (by decide) (IsP_r hisCode2) (fun c1 => ?_) (fun c1 => ?_)
    ·
      obtain ⟨g, hg, hgc⟩ := IsP_1 hisCode2 (by omega)
      refine v_aload_n 0 (pc' := 19) rfl dX11_same_18 rfl rfl ?_
      refine v_iload_n 1 (pc' := 20) rfl dX11_same_19 rfl rfl ?_
      refine v_iload_n 2 (pc' := 21) rfl dX11_same_20 rfl rfl ?_
      refine v_cVi (pc' := 24) rfl dX11_same_21 lk_RX11_264 ly_63 rfl (c_labelOf l G hV hfc'.symm hgc.symm hf hg w hM hR) rfl rfl rfl (fun labelOf1 w3 hq3 => ?_)
      obtain ⟨h3, z3⟩ := hq3
      refine v_bipush (pc' := 26) rfl dX11_same_24 rfl ?_
      refine v_icmp_ne (pc' := 29) (tgt := 33) rfl dX11_same_26 (by decide) (by rcases z3 with ⟨h, -⟩ | ⟨r, hr, -, -, h, -⟩; omega; have := cd_le hr hn7 (Nat.le_refl n); omega) (by rcases z3 with ⟨h, -⟩ | ⟨r, hr, -, -, h, -⟩; omega; have := cd_le hr hn7 (Nat.le_refl n); omega) (fun c2 => ?_) (fun c2 => ?_)
      ·
        refine v_iconst (pc' := 34) rfl dX11_same_33 ?_
        refine v_iret dX11_same_34 (by decide) (rfl) ?_
        first | exact ⟨Scr.rf _, hz⟩ | exact ⟨h3, Or.inr ⟨f, g, hf, hg, hfc', hgc, by rcases z3 with ⟨h, h2⟩ | ⟨r, hr, e1, e2, h, -⟩; (exact Or.inl ⟨rfl, h2⟩); (exfalso; omega)⟩⟩ | exact ⟨h3, Or.inr ⟨f, g, hf, hg, hfc', hgc, by rcases z3 with ⟨h, h2⟩ | ⟨r, hr, e1, e2, h, -⟩; (exfalso; omega); (exact Or.inr ⟨rfl, r, hr, e1, e2⟩)⟩⟩
      ·
        refine v_iconst (pc' := 30) rfl dX11_same_29 ?_
        refine v_goto (tgt := 34) dX11_same_30 (by decide) ?_
        refine v_iret dX11_same_34 (by decide) (rfl) ?_
        first | exact ⟨Scr.rf _, hz⟩ | exact ⟨h3, Or.inr ⟨f, g, hf, hg, hfc', hgc, by rcases z3 with ⟨h, h2⟩ | ⟨r, hr, e1, e2, h, -⟩; (exact Or.inl ⟨rfl, h2⟩); (exfalso; omega)⟩⟩ | exact ⟨h3, Or.inr ⟨f, g, hf, hg, hfc', hgc, by rcases z3 with ⟨h, h2⟩ | ⟨r, hr, e1, e2, h, -⟩; (exfalso; omega); (exact Or.inr ⟨rfl, r, hr, e1, e2⟩)⟩⟩
    ·
      have h0 := IsP_0 hisCode2 (by omega)
      have hz : SamP n s a p q (-1) := Or.inl ⟨rfl, fun ⟨f, g, a1, a2, a3, a4⟩ => h0 g a2 a4⟩
      refine v_iconst (pc' := 17) rfl dX11_same_16 ?_
      refine v_iret dX11_same_17 (by decide) (rfl) ?_
      first | exact ⟨Scr.rf _, hz⟩ | exact ⟨h3, Or.inr ⟨f, g, hf, hg, hfc', hgc, by rcases z3 with ⟨h, h2⟩ | ⟨r, hr, e1, e2, h, -⟩; (exact Or.inl ⟨rfl, h2⟩); (exfalso; omega)⟩⟩ | exact ⟨h3, Or.inr ⟨f, g, hf, hg, hfc', hgc, by rcases z3 with ⟨h, h2⟩ | ⟨r, hr, e1, e2, h, -⟩; (exfalso; omega); (exact Or.inr ⟨rfl, r, hr, e1, e2⟩)⟩⟩
set_option maxHeartbeats 4000000 in
set_option maxRecDepth 100000 in
theorem c_labelM (l : Launch) (G : Gx) {p q : Int} (hp : rg p) (hq : rg q) {n : Nat} {s a : Nat → Nat} (hV : MapV n s a) (w : Wd) (hM : RMW w n s a) (hR : RTab w n) : Sp l G 3 mX11_label [aR 63, aI (p), aI (q)] w (fun z w' => Scr w w' ∧ LabP n s a p q z) := by
  obtain ⟨⟨hn1, hn7⟩, hs, ha⟩ := id hV
  obtain ⟨r0, r1, r2⟩ := id hM
  obtain ⟨r3, r4, rPK, rTK⟩ := id hR
  have hfc := fac_le hn1 hn7
  have hk15 := kmany_le n hn7
  refine Sp_of RX11 rfl (by decide +kernel) rfl (Nat.le_of_ble_eq_true rfl) ?_
  refine v_aload_n 0 (pc' := 1) rfl dX11_label_0 rfl rfl ?_
  refine v_iload_n 1 (pc' := 2) rfl dX11_label_1 rfl rfl ?_
  refine v_cVR (pc' := 5) rfl dX11_label_2 lk_RX11_197 ly_63 rfl (c_isCode l G hp hn1 hn7 w r0) rfl rfl rfl (fun isCode1 hisCode1 => ?_)
  refine v_if_eq (pc' := 8) (tgt := 25) rfl dX11_label_5 (by decide) (IsP_r hisCode1) (fun c0 => ?_) (fun c0 => ?_)
  ·
    have h0 := IsP_0 hisCode1 (by omega)
    have hz : LabP n s a p q (-1) := Or.inl ⟨rfl, fun ⟨f, g, a1, a2, a3, a4⟩ => h0 f a1 a3⟩
    refine v_iconst (pc' := 26) rfl dX11_label_25 ?_
    refine v_iret dX11_label_26 (by decide) (rfl) ?_
    first | exact ⟨Scr.rf _, hz⟩ | exact ⟨h3, Or.inr ⟨f, g, hf, hg, hfc', hgc, z3⟩⟩
  ·
    obtain ⟨f, hf, hfc'⟩ := IsP_1 hisCode1 (by omega)
    refine v_aload_n 0 (pc' := 9) rfl dX11_label_8 rfl rfl ?_
    refine v_iload_n 2 (pc' := 10) rfl dX11_label_9 rfl rfl ?_
    refine v_cVR (pc' := 13) rfl dX11_label_10 lk_RX11_197 ly_63 rfl (c_isCode l G hq hn1 hn7 w r0) rfl rfl rfl (fun isCode2 hisCode2 => ?_)
    refine v_if_eq (pc' := 16) (tgt := 25) rfl dX11_label_13 (by decide) (IsP_r hisCode2) (fun c1 => ?_) (fun c1 => ?_)
    ·
      have h0 := IsP_0 hisCode2 (by omega)
      have hz : LabP n s a p q (-1) := Or.inl ⟨rfl, fun ⟨f, g, a1, a2, a3, a4⟩ => h0 g a2 a4⟩
      refine v_iconst (pc' := 26) rfl dX11_label_25 ?_
      refine v_iret dX11_label_26 (by decide) (rfl) ?_
      first | exact ⟨Scr.rf _, hz⟩ | exact ⟨h3, Or.inr ⟨f, g, hf, hg, hfc', hgc, z3⟩⟩
    ·
      obtain ⟨g, hg, hgc⟩ := IsP_1 hisCode2 (by omega)
      refine v_aload_n 0 (pc' := 17) rfl dX11_label_16 rfl rfl ?_
      refine v_iload_n 1 (pc' := 18) rfl dX11_label_17 rfl rfl ?_
      refine v_iload_n 2 (pc' := 19) rfl dX11_label_18 rfl rfl ?_
      refine v_cVi (pc' := 22) rfl dX11_label_19 lk_RX11_264 ly_63 rfl (c_labelOf l G hV hfc'.symm hgc.symm hf hg w hM hR) rfl rfl rfl (fun labelOf1 w3 hq3 => ?_)
      obtain ⟨h3, z3⟩ := hq3
      refine v_goto (tgt := 26) dX11_label_22 (by decide) ?_
      refine v_iret dX11_label_26 (by decide) (rfl) ?_
      first | exact ⟨Scr.rf _, hz⟩ | exact ⟨h3, Or.inr ⟨f, g, hf, hg, hfc', hgc, z3⟩⟩
def cycM (f : Nat → Nat) (n : Nat) (what : Int) : Int := if what = 0 then (lstN f n : Int) else if what = 1 then (restN f n : Int) else if what = 2 then (orderN f n : Int) else if what = 3 then ((evnN f n % 2 : Nat) : Int) else -1
theorem restN_s (f : Nat → Nat) (k : Nat) : restN f (k + 1) = restN f k + (if f (k + 1) = k + 1 then 1 else 0) := rfl
theorem evnN_s (f : Nat → Nat) (k : Nat) : evnN f (k + 1) = evnN f k + (if leastB f (k + 1) then (if popc (ringN f (k + 1)) % 2 = 0 then 1 else 0) else 0) := rfl
theorem evn_le (f : Nat → Nat) (k : Nat) : evnN f k ≤ k := sumN_le1 (fun x => by split; (split <;> omega); omega) k
theorem rest_le (f : Nat → Nat) : ∀ k, restN f k ≤ k
  | 0 => Nat.le_refl _
  | k + 1 => by have := rest_le f k; rw [restN_s]; split <;> omega
set_option maxHeartbeats 4000000 in
set_option maxRecDepth 100000 in
theorem c_cyclesM (l : Launch) (G : Gx) {wh what : Int} (hwh : rg wh) (hwt : rg what) {n : Nat} {s a : Nat → Nat} (hV : MapV n s a) (w : Wd) (hM : RMW w n s a) (hR : RTab w n) : Sp l G 4 mX11_cycles [aR 63, aI (wh), aI (what)] w (fun z w' => Scr w w' ∧ z = if tok wh then cycM (trF s a wh) n what else -1) := by
  obtain ⟨⟨hn1, hn7⟩, hs, ha⟩ := id hV
  obtain ⟨r0, r1, r2⟩ := id hM
  obtain ⟨r3, r4, rPK, rTK⟩ := id hR
  have hfc := fac_le hn1 hn7
  have hk15 := kmany_le n hn7
  have hft := trF_pm hV wh
  refine Sp_of RX11 rfl (by decide +kernel) rfl (Nat.le_of_ble_eq_true rfl) ?_
  refine v_iload_n 1 (pc' := 1) rfl dX11_cycles_0 rfl rfl ?_
  refine v_cSP (pc' := 4) rfl dX11_cycles_1 lk_RX11_261 rfl (c_isThree l G hwh w) rfl rfl rfl ?_
  refine v_nm (fun isThree1 hisThree1 => ?_)
  refine v_if_eq (pc' := 7) (tgt := 16) rfl dX11_cycles_4 (by decide) (inB_r hisThree1) (fun c0 => ?_) (fun c0 => ?_)
  ·
    have nt3 := inB_0 hisThree1 (by omega)
    have hz : (-1 : Int) = if tok wh then cycM (trF s a wh) n what else -1 := by rw [if_neg (by omega)]
    refine v_iconst (pc' := 17) rfl dX11_cycles_16 ?_
    refine v_iret dX11_cycles_17 (by decide) (rfl) ?_
    first | exact ⟨Scr.rf _, hz⟩ | exact ⟨(Scr.of fc (by decide)).tr (Scr.of hq4.1 (by decide)), by rw [if_pos hz1]; unfold cycM; rw [if_pos (by omega)]; exact hq4.2⟩ | exact ⟨(Scr.of fc (by decide)).tr (Scr.of hq5.1 (by decide)), by rw [if_pos hz1]; unfold cycM; rw [if_neg (by omega), if_neg (by omega), if_pos (by omega)]; exact hq5.2⟩ | exact ⟨Scr.of hfl (by decide), by rw [if_pos hz1]; unfold cycM; rw [if_neg (by omega), if_pos (by omega), hc, if_pos hw1', hke]⟩ | exact ⟨Scr.of hfl (by decide), by rw [if_pos hz1]; unfold cycM; rw [if_neg (by omega), if_neg (by omega), if_neg (by omega), if_pos (by omega)]⟩
  ·
    have q3 := inB_1 hisThree1 (by omega)
    have hz1 : tok wh := by omega
    refine v_iload_n 2 (pc' := 8) rfl dX11_cycles_7 rfl rfl ?_
    refine v_iconst (pc' := 9) rfl dX11_cycles_8 ?_
    refine v_iconst (pc' := 10) rfl dX11_cycles_9 ?_
    refine v_cSP (pc' := 13) rfl dX11_cycles_10 lk_RX11_121 rfl (c_in l G hwt (by decide) (by decide) w) rfl rfl rfl ?_
    refine v_nm (fun in1 hin1 => ?_)
    refine v_if_ne (pc' := 16) (tgt := 18) rfl dX11_cycles_13 (by decide) (inB_r hin1) (fun c1 => ?_) (fun c1 => ?_)
    ·
      have q4 := inB_1 hin1 (by omega)
      refine v_aload_n 0 (pc' := 19) rfl dX11_cycles_18 rfl rfl ?_
      refine v_iload_n 1 (pc' := 20) rfl dX11_cycles_19 rfl rfl ?_
      refine v_cVi (pc' := 23) rfl dX11_cycles_20 lk_RX11_200 ly_63 rfl (c_codeOf l G hwh hV w hM) rfl rfl rfl (fun codeOf1 w3 hq3 => ?_)
      obtain ⟨fc, zc⟩ := hq3
      have r0 : w3 63 0 = (n : Int) := (fc 63 0 (by decide)).trans r0
      have r1 : w3 63 1 = ((cdk s n : Nat) : Int) := (fc 63 1 (by decide)).trans r1
      have r2 : w3 63 2 = ((cdk a n : Nat) : Int) := (fc 63 2 (by decide)).trans r2
      have r3 : w3 63 3 = ((facN n : Nat) : Int) := (fc 63 3 (by decide)).trans r3
      have r4 : w3 63 4 = ((kmany n : Nat) : Int) := (fc 63 4 (by decide)).trans r4
      refine v_istore_n (ls' := [(3, _), (0, _), (1, _), (2, _)]) (pc' := 24) rfl dX11_cycles_23 rfl rfl rfl ?_
      refine v_iload_n 3 (pc' := 25) rfl dX11_cycles_24 rfl rfl ?_
      refine v_if_ne (pc' := 28) (tgt := 34) rfl dX11_cycles_25 (by decide) (by omega) (fun c2 => ?_) (fun c2 => ?_)
      ·
        refine v_iload_n 3 (pc' := 35) rfl dX11_cycles_34 rfl rfl ?_
        refine v_iconst (pc' := 36) rfl dX11_cycles_35 ?_
        refine v_icmp_ne (pc' := 39) (tgt := 45) rfl dX11_cycles_36 (by decide) (by omega) (by omega) (fun c3 => ?_) (fun c3 => ?_)
        ·
          refine v_iconst (pc' := 46) rfl dX11_cycles_45 ?_
          refine v_istore (ls' := [(4, _), (3, _), (0, _), (1, _), (2, _)]) (pc' := 48) rfl dX11_cycles_46 rfl rfl ?_
          refine v_iconst (pc' := 49) rfl dX11_cycles_48 ?_
          refine v_istore (ls' := [(5, _), (4, _), (3, _), (0, _), (1, _), (2, _)]) (pc' := 51) rfl dX11_cycles_49 rfl rfl ?_
          refine v_ls [3, 4, 5, 2, 1, 0] rfl ?_
          refine v_loop3 51 (fun (c : Int) (x : Int) (wl : Wd) => ∃ k : Nat, x = ((k + 1 : Nat) : Int) ∧ k ≤ n ∧ c = ((if what = 1 then restN (trF s a wh) k else evnN (trF s a wh) k : Nat) : Int) ∧ Fr [69, 70] w wl) (fun (c : Int) (x : Int) (wl : Wd) => (8 - x).toNat) (fun (c : Int) (x : Int) (wl : Wd) => [(0, aR 63), (1, aI (wh)), (2, aI (what)), (3, aI (codeOf1)), (4, aI (c)), (5, aI (x))]) (fun (c : Int) (x : Int) (wl : Wd) => []) (fun (c : Int) (x : Int) (wl : Wd) => wl) (fun c x wl hI0 ih0 => ?_) (0) (1) w3 (⟨0, rfl, by omega, by split <;> rfl, fc⟩)
          obtain ⟨k, hx, hk, hc, hfl⟩ := hI0
          have g0 := (hfl 63 0 rfl).trans hM.1
          refine v_iload 5 (pc' := 53) rfl dX11_cycles_51 rfl ?_
          refine v_aload_n 0 (pc' := 54) rfl dX11_cycles_53 rfl rfl ?_
          refine v_get (z := (n : Int)) (pc' := 57) rfl dX11_cycles_54 fk_RX11_125 ly_63 rfl (g0) ?_
          refine v_icmp_gt (pc' := 60) (tgt := 123) rfl dX11_cycles_57 (by decide) (by omega) (by omega) (fun c4 => ?_) (fun c4 => ?_)
          ·
            have hke : k = n := by omega
            refine v_iload_n 2 (pc' := 124) rfl dX11_cycles_123 rfl rfl ?_
            refine v_iconst (pc' := 125) rfl dX11_cycles_124 ?_
            refine v_icmp_ne (pc' := 128) (tgt := 133) rfl dX11_cycles_125 (by decide) (by omega) (by omega) (fun c9 => ?_) (fun c9 => ?_)
            ·
              have hw1' : ¬ what = 1 := by omega
              have hcE : c = ((evnN (trF s a wh) n : Nat) : Int) := by rw [hc, if_neg hw1', hke]
              have hel := evn_le (trF s a wh) n
              refine v_iload 4 (pc' := 135) rfl dX11_cycles_133 rfl ?_
              refine v_iconst (pc' := 136) rfl dX11_cycles_135 ?_
              refine v_irem (z := ((evnN (trF s a wh) n % 2 : Nat) : Int)) (pc' := 137) rfl dX11_cycles_136 (iz_ne (by decide) (by decide)) (by rw [hcE]; exact iz_remN (by omega) (by omega) (by decide) (by decide)) ?_
              refine v_iret dX11_cycles_137 (by decide) (rfl) ?_
              first | exact ⟨Scr.rf _, hz⟩ | exact ⟨(Scr.of fc (by decide)).tr (Scr.of hq4.1 (by decide)), by rw [if_pos hz1]; unfold cycM; rw [if_pos (by omega)]; exact hq4.2⟩ | exact ⟨(Scr.of fc (by decide)).tr (Scr.of hq5.1 (by decide)), by rw [if_pos hz1]; unfold cycM; rw [if_neg (by omega), if_neg (by omega), if_pos (by omega)]; exact hq5.2⟩ | exact ⟨Scr.of hfl (by decide), by rw [if_pos hz1]; unfold cycM; rw [if_neg (by omega), if_pos (by omega), hc, if_pos hw1', hke]⟩ | exact ⟨Scr.of hfl (by decide), by rw [if_pos hz1]; unfold cycM; rw [if_neg (by omega), if_neg (by omega), if_neg (by omega), if_pos (by omega)]⟩
            ·
              have hw1' : what = 1 := by omega
              refine v_iload 4 (pc' := 130) rfl dX11_cycles_128 rfl ?_
              refine v_goto (tgt := 137) dX11_cycles_130 (by decide) ?_
              refine v_iret dX11_cycles_137 (by decide) (rfl) ?_
              first | exact ⟨Scr.rf _, hz⟩ | exact ⟨(Scr.of fc (by decide)).tr (Scr.of hq4.1 (by decide)), by rw [if_pos hz1]; unfold cycM; rw [if_pos (by omega)]; exact hq4.2⟩ | exact ⟨(Scr.of fc (by decide)).tr (Scr.of hq5.1 (by decide)), by rw [if_pos hz1]; unfold cycM; rw [if_neg (by omega), if_neg (by omega), if_pos (by omega)]; exact hq5.2⟩ | exact ⟨Scr.of hfl (by decide), by rw [if_pos hz1]; unfold cycM; rw [if_neg (by omega), if_pos (by omega), hc, if_pos hw1', hke]⟩ | exact ⟨Scr.of hfl (by decide), by rw [if_pos hz1]; unfold cycM; rw [if_neg (by omega), if_neg (by omega), if_neg (by omega), if_pos (by omega)]⟩
          ·
            refine v_iload 4 (pc' := 62) rfl dX11_cycles_60 rfl ?_
            refine v_iload_n 2 (pc' := 63) rfl dX11_cycles_62 rfl rfl ?_
            refine v_iconst (pc' := 64) rfl dX11_cycles_63 ?_
            refine v_icmp_ne (pc' := 67) (tgt := 87) rfl dX11_cycles_64 (by decide) (by omega) (by omega) (fun c5 => ?_) (fun c5 => ?_)
            ·
              have hw1' : ¬ what = 1 := by omega
              refine v_aload_n 0 (pc' := 88) rfl dX11_cycles_87 rfl rfl ?_
              refine v_iload_n 3 (pc' := 89) rfl dX11_cycles_88 rfl rfl ?_
              refine v_iload 5 (pc' := 91) rfl dX11_cycles_89 rfl ?_
              refine v_cVi (pc' := 94) rfl dX11_cycles_91 lk_RX11_158 ly_63 rfl (c_isLeast l G (x := k + 1) zc hft hn1 hn7 hx (by omega) (by omega) wl g0) rfl rfl rfl (fun isLeast1 w7 hq7 => ?_)
              obtain ⟨f7, z7⟩ := hq7
              have g0 : w7 63 0 = (n : Int) := (f7 63 0 (by decide)).trans g0
              refine v_if_eq (pc' := 97) (tgt := 113) rfl dX11_cycles_94 (by decide) (jn_r z7) (fun c7 => ?_) (fun c7 => ?_)
              ·
                have hL := jn_0 z7 (by omega)
                refine v_iconst (pc' := 114) rfl dX11_cycles_113 ?_
                refine v_iadd (pc' := 115) rfl dX11_cycles_114 ?_
                refine v_nm (fun c' hc' => ?_)
                refine v_istore (ls' := [(4, _), (0, _), (1, _), (2, _), (3, _), (5, _)]) (pc' := 117) rfl dX11_cycles_115 rfl rfl ?_
                refine v_iinc (ls' := [(5, _), (4, _), (0, _), (1, _), (2, _), (3, _)]) 5 (pc' := 120) rfl dX11_cycles_117 rfl rfl rfl ?_
                refine v_nl (fun x' hx' => ?_)
                refine v_goto (tgt := 51) dX11_cycles_120 (by decide) ?_
                refine v_ls [2, 3, 4, 5, 1, 0] rfl ?_
                exact ih0 (c') (x') w7 (⟨k + 1, by omega, by omega, by rw [if_neg hw1'] at hc ⊢; rw [evnN_s, hL]; simp; omega, hfl.trs (f7.mono rfl)⟩) (by omega)
              ·
                have hL := jn_1 z7 (by omega)
                refine v_aload_n 0 (pc' := 98) rfl dX11_cycles_97 rfl rfl ?_
                refine v_iload_n 3 (pc' := 99) rfl dX11_cycles_98 rfl rfl ?_
                refine v_iload 5 (pc' := 101) rfl dX11_cycles_99 rfl ?_
                refine v_cVi (pc' := 104) rfl dX11_cycles_101 lk_RX11_162 ly_63 rfl (c_cycleLong l G (x := k + 1) zc hft hn1 hn7 hx (by omega) (by omega) w7 g0) rfl rfl rfl (fun cycleLong1 w8 hq8 => ?_)
                obtain ⟨f8, z8⟩ := hq8
                have hpp := popc_le14 (ringN (trF s a wh) (k + 1))
                refine v_iconst (pc' := 105) rfl dX11_cycles_104 ?_
                refine v_irem (z := ((popc (ringN (trF s a wh) (k + 1)) % 2 : Nat) : Int)) (pc' := 106) rfl dX11_cycles_105 (iz_ne (by decide) (by decide)) (by rw [z8]; exact iz_remN (by omega) (by omega) (by decide) (by decide)) ?_
                refine v_if_ne (pc' := 109) (tgt := 113) rfl dX11_cycles_106 (by decide) (by omega) (fun c8 => ?_) (fun c8 => ?_)
                ·
                  have he1 : ¬ popc (ringN (trF s a wh) (k + 1)) % 2 = 0 := by omega
                  refine v_iconst (pc' := 114) rfl dX11_cycles_113 ?_
                  refine v_iadd (pc' := 115) rfl dX11_cycles_114 ?_
                  refine v_nm (fun c' hc' => ?_)
                  refine v_istore (ls' := [(4, _), (0, _), (1, _), (2, _), (3, _), (5, _)]) (pc' := 117) rfl dX11_cycles_115 rfl rfl ?_
                  refine v_iinc (ls' := [(5, _), (4, _), (0, _), (1, _), (2, _), (3, _)]) 5 (pc' := 120) rfl dX11_cycles_117 rfl rfl rfl ?_
                  refine v_nl (fun x' hx' => ?_)
                  refine v_goto (tgt := 51) dX11_cycles_120 (by decide) ?_
                  refine v_ls [2, 3, 4, 5, 1, 0] rfl ?_
                  exact ih0 (c') (x') w8 (⟨k + 1, by omega, by omega, by rw [if_neg hw1'] at hc ⊢; rw [evnN_s, if_pos hL]; first | (rw [if_pos he1]; omega) | (rw [if_neg he1]; omega), (hfl.trs (f7.mono rfl)).trs (f8.mono rfl)⟩) (by omega)
                ·
                  have he1 : popc (ringN (trF s a wh) (k + 1)) % 2 = 0 := by omega
                  refine v_iconst (pc' := 110) rfl dX11_cycles_109 ?_
                  refine v_goto (tgt := 114) dX11_cycles_110 (by decide) ?_
                  refine v_iadd (pc' := 115) rfl dX11_cycles_114 ?_
                  refine v_nm (fun c' hc' => ?_)
                  refine v_istore (ls' := [(4, _), (0, _), (1, _), (2, _), (3, _), (5, _)]) (pc' := 117) rfl dX11_cycles_115 rfl rfl ?_
                  refine v_iinc (ls' := [(5, _), (4, _), (0, _), (1, _), (2, _), (3, _)]) 5 (pc' := 120) rfl dX11_cycles_117 rfl rfl rfl ?_
                  refine v_nl (fun x' hx' => ?_)
                  refine v_goto (tgt := 51) dX11_cycles_120 (by decide) ?_
                  refine v_ls [2, 3, 4, 5, 1, 0] rfl ?_
                  exact ih0 (c') (x') w8 (⟨k + 1, by omega, by omega, by rw [if_neg hw1'] at hc ⊢; rw [evnN_s, if_pos hL]; first | (rw [if_pos he1]; omega) | (rw [if_neg he1]; omega), (hfl.trs (f7.mono rfl)).trs (f8.mono rfl)⟩) (by omega)
            ·
              have hw1' : what = 1 := by omega
              refine v_aload_n 0 (pc' := 68) rfl dX11_cycles_67 rfl rfl ?_
              refine v_iload_n 3 (pc' := 69) rfl dX11_cycles_68 rfl rfl ?_
              refine v_iload 5 (pc' := 71) rfl dX11_cycles_69 rfl ?_
              refine v_cVi (pc' := 74) rfl dX11_cycles_71 lk_RX11_273 ly_63 rfl (c_bringsTo l G (x := k + 1) zc hft hn1 hn7 hx (by omega) (by omega) wl g0) rfl rfl rfl (fun bringsTo1 w6 hq6 => ?_)
              obtain ⟨f6, z6⟩ := hq6
              have hb6 := hft.1 (k + 1) (by omega) (by omega)
              refine v_iload 5 (pc' := 76) rfl dX11_cycles_74 rfl ?_
              refine v_icmp_ne (pc' := 79) (tgt := 83) rfl dX11_cycles_76 (by decide) (by omega) (by omega) (fun c6 => ?_) (fun c6 => ?_)
              ·
                have hs1 : ¬ (trF s a wh) (k + 1) = k + 1 := by omega
                refine v_iconst (pc' := 84) rfl dX11_cycles_83 ?_
                refine v_goto (tgt := 114) dX11_cycles_84 (by decide) ?_
                refine v_iadd (pc' := 115) rfl dX11_cycles_114 ?_
                refine v_nm (fun c' hc' => ?_)
                refine v_istore (ls' := [(4, _), (0, _), (1, _), (2, _), (3, _), (5, _)]) (pc' := 117) rfl dX11_cycles_115 rfl rfl ?_
                refine v_iinc (ls' := [(5, _), (4, _), (0, _), (1, _), (2, _), (3, _)]) 5 (pc' := 120) rfl dX11_cycles_117 rfl rfl rfl ?_
                refine v_nl (fun x' hx' => ?_)
                refine v_goto (tgt := 51) dX11_cycles_120 (by decide) ?_
                refine v_ls [2, 3, 4, 5, 1, 0] rfl ?_
                exact ih0 (c') (x') w6 (⟨k + 1, by omega, by omega, by rw [if_pos hw1'] at hc ⊢; rw [restN_s]; first | (rw [if_pos hs1]; omega) | (rw [if_neg hs1]; omega), hfl.trs (f6.mono rfl)⟩) (by omega)
              ·
                have hs1 : (trF s a wh) (k + 1) = k + 1 := by omega
                refine v_iconst (pc' := 80) rfl dX11_cycles_79 ?_
                refine v_goto (tgt := 114) dX11_cycles_80 (by decide) ?_
                refine v_iadd (pc' := 115) rfl dX11_cycles_114 ?_
                refine v_nm (fun c' hc' => ?_)
                refine v_istore (ls' := [(4, _), (0, _), (1, _), (2, _), (3, _), (5, _)]) (pc' := 117) rfl dX11_cycles_115 rfl rfl ?_
                refine v_iinc (ls' := [(5, _), (4, _), (0, _), (1, _), (2, _), (3, _)]) 5 (pc' := 120) rfl dX11_cycles_117 rfl rfl rfl ?_
                refine v_nl (fun x' hx' => ?_)
                refine v_goto (tgt := 51) dX11_cycles_120 (by decide) ?_
                refine v_ls [2, 3, 4, 5, 1, 0] rfl ?_
                exact ih0 (c') (x') w6 (⟨k + 1, by omega, by omega, by rw [if_pos hw1'] at hc ⊢; rw [restN_s]; first | (rw [if_pos hs1]; omega) | (rw [if_neg hs1]; omega), hfl.trs (f6.mono rfl)⟩) (by omega)
        ·
          refine v_aload_n 1 (pc' := 40) rfl dX11_cycles_39 rfl rfl ?_
          refine v_iload_n 0 (pc' := 41) rfl dX11_cycles_40 rfl rfl ?_
          refine v_cVi (pc' := 44) rfl dX11_cycles_41 lk_RX11_270 ly_63 rfl (c_orderOf l G zc hft hn1 hn7 w3 r0) rfl rfl rfl (fun orderOf1 w5 hq5 => ?_)
          refine v_iret dX11_cycles_44 (by decide) (rfl) ?_
          first | exact ⟨Scr.rf _, hz⟩ | exact ⟨(Scr.of fc (by decide)).tr (Scr.of hq4.1 (by decide)), by rw [if_pos hz1]; unfold cycM; rw [if_pos (by omega)]; exact hq4.2⟩ | exact ⟨(Scr.of fc (by decide)).tr (Scr.of hq5.1 (by decide)), by rw [if_pos hz1]; unfold cycM; rw [if_neg (by omega), if_neg (by omega), if_pos (by omega)]; exact hq5.2⟩ | exact ⟨Scr.of hfl (by decide), by rw [if_pos hz1]; unfold cycM; rw [if_neg (by omega), if_pos (by omega), hc, if_pos hw1', hke]⟩ | exact ⟨Scr.of hfl (by decide), by rw [if_pos hz1]; unfold cycM; rw [if_neg (by omega), if_neg (by omega), if_neg (by omega), if_pos (by omega)]⟩
      ·
        refine v_aload_n 1 (pc' := 29) rfl dX11_cycles_28 rfl rfl ?_
        refine v_iload_n 0 (pc' := 30) rfl dX11_cycles_29 rfl rfl ?_
        refine v_cVi (pc' := 33) rfl dX11_cycles_30 lk_RX11_267 ly_63 rfl (c_cyclesOf l G zc hft hn1 hn7 w3 r0) rfl rfl rfl (fun cyclesOf1 w4 hq4 => ?_)
        refine v_iret dX11_cycles_33 (by decide) (rfl) ?_
        first | exact ⟨Scr.rf _, hz⟩ | exact ⟨(Scr.of fc (by decide)).tr (Scr.of hq4.1 (by decide)), by rw [if_pos hz1]; unfold cycM; rw [if_pos (by omega)]; exact hq4.2⟩ | exact ⟨(Scr.of fc (by decide)).tr (Scr.of hq5.1 (by decide)), by rw [if_pos hz1]; unfold cycM; rw [if_neg (by omega), if_neg (by omega), if_pos (by omega)]; exact hq5.2⟩ | exact ⟨Scr.of hfl (by decide), by rw [if_pos hz1]; unfold cycM; rw [if_neg (by omega), if_pos (by omega), hc, if_pos hw1', hke]⟩ | exact ⟨Scr.of hfl (by decide), by rw [if_pos hz1]; unfold cycM; rw [if_neg (by omega), if_neg (by omega), if_neg (by omega), if_pos (by omega)]⟩
    ·
      have q4 := inB_0 hin1 (by omega)
      have hz : (-1 : Int) = if tok wh then cycM (trF s a wh) n what else -1 := by rw [if_pos hz1]; unfold cycM; rw [if_neg (by omega), if_neg (by omega), if_neg (by omega), if_neg (by omega)]
      refine v_iconst (pc' := 17) rfl dX11_cycles_16 ?_
      refine v_iret dX11_cycles_17 (by decide) (rfl) ?_
      first | exact ⟨Scr.rf _, hz⟩ | exact ⟨(Scr.of fc (by decide)).tr (Scr.of hq4.1 (by decide)), by rw [if_pos hz1]; unfold cycM; rw [if_pos (by omega)]; exact hq4.2⟩ | exact ⟨(Scr.of fc (by decide)).tr (Scr.of hq5.1 (by decide)), by rw [if_pos hz1]; unfold cycM; rw [if_neg (by omega), if_neg (by omega), if_pos (by omega)]; exact hq5.2⟩ | exact ⟨Scr.of hfl (by decide), by rw [if_pos hz1]; unfold cycM; rw [if_neg (by omega), if_pos (by omega), hc, if_pos hw1', hke]⟩ | exact ⟨Scr.of hfl (by decide), by rw [if_pos hz1]; unfold cycM; rw [if_neg (by omega), if_neg (by omega), if_neg (by omega), if_pos (by omega)]⟩
set_option maxHeartbeats 4000000 in
set_option maxRecDepth 100000 in
theorem c_alongM (l : Launch) (G : Gx) {wh d k : Int} (hwh : rg wh) (hd : rg d) (hk : rg k) {n : Nat} {s a : Nat → Nat} (hV : MapV n s a) (w : Wd) (hM : RMW w n s a) (hR : RTab w n) : Sp l G 4 mX11_along [aR 63, aI (wh), aI (d), aI (k)] w (fun z w' => Scr w w' ∧ z = if (tok wh ∧ (1 ≤ d ∧ d ≤ (n : Int)) ∧ 0 ≤ k) then alongI (trF s a wh) d k else -1) := by
  obtain ⟨⟨hn1, hn7⟩, hs, ha⟩ := id hV
  obtain ⟨r0, r1, r2⟩ := id hM
  obtain ⟨r3, r4, rPK, rTK⟩ := id hR
  have hfc := fac_le hn1 hn7
  have hk15 := kmany_le n hn7
  have hft := trF_pm hV wh
  refine Sp_of RX11 rfl (by decide +kernel) rfl (Nat.le_of_ble_eq_true rfl) ?_
  refine v_iload_n 1 (pc' := 1) rfl dX11_along_0 rfl rfl ?_
  refine v_cSP (pc' := 4) rfl dX11_along_1 lk_RX11_261 rfl (c_isThree l G hwh w) rfl rfl rfl ?_
  refine v_nm (fun isThree1 hisThree1 => ?_)
  refine v_if_eq (pc' := 7) (tgt := 19) rfl dX11_along_4 (by decide) (inB_r hisThree1) (fun c0 => ?_) (fun c0 => ?_)
  ·
    have q3 := inB_0 hisThree1 (by omega)
    have hz : ¬ (tok wh ∧ (1 ≤ d ∧ d ≤ (n : Int)) ∧ 0 ≤ k) := fun q => by have := q.1; omega
    refine v_iconst (pc' := 20) rfl dX11_along_19 ?_
    refine v_iret dX11_along_20 (by decide) (rfl) ?_
    first | exact ⟨Scr.rf _, by rw [if_neg hz]⟩ | exact ⟨(Scr.of fc (by decide)).tr (Scr.of f4 (by decide)), by rw [if_pos hy, alongI, if_neg hA]⟩ | exact ⟨hsc, by rw [if_pos hy, alongI, if_pos hA, hx, hje]; unfold ptimes; rw [Nat.mod_eq_of_lt (by omega)]⟩
  ·
    have q3 := inB_1 hisThree1 (by omega)
    have hz1 : tok wh := by omega
    refine v_aload_n 0 (pc' := 8) rfl dX11_along_7 rfl rfl ?_
    refine v_iload_n 2 (pc' := 9) rfl dX11_along_8 rfl rfl ?_
    refine v_cVP (pc' := 12) rfl dX11_along_9 lk_RX11_129 ly_63 rfl (c_isDart l G hd hn7 w r0) rfl rfl rfl ?_
    refine v_nm (fun isDart1 hisDart1 => ?_)
    refine v_if_eq (pc' := 15) (tgt := 19) rfl dX11_along_12 (by decide) (inB_r hisDart1) (fun c1 => ?_) (fun c1 => ?_)
    ·
      have q4 := inB_0 hisDart1 (by omega)
      have hz : ¬ (tok wh ∧ (1 ≤ d ∧ d ≤ (n : Int)) ∧ 0 ≤ k) := fun q => q4 q.2.1
      refine v_iconst (pc' := 20) rfl dX11_along_19 ?_
      refine v_iret dX11_along_20 (by decide) (rfl) ?_
      first | exact ⟨Scr.rf _, by rw [if_neg hz]⟩ | exact ⟨(Scr.of fc (by decide)).tr (Scr.of f4 (by decide)), by rw [if_pos hy, alongI, if_neg hA]⟩ | exact ⟨hsc, by rw [if_pos hy, alongI, if_pos hA, hx, hje]; unfold ptimes; rw [Nat.mod_eq_of_lt (by omega)]⟩
    ·
      have q4 := inB_1 hisDart1 (by omega)
      refine v_iload_n 3 (pc' := 16) rfl dX11_along_15 rfl rfl ?_
      refine v_if_ge (pc' := 19) (tgt := 21) rfl dX11_along_16 (by decide) (by omega) (fun c2 => ?_) (fun c2 => ?_)
      ·
        have hy : (tok wh ∧ (1 ≤ d ∧ d ≤ (n : Int)) ∧ 0 ≤ k) := ⟨hz1, q4, by omega⟩
        refine v_aload_n 0 (pc' := 22) rfl dX11_along_21 rfl rfl ?_
        refine v_iload_n 1 (pc' := 23) rfl dX11_along_22 rfl rfl ?_
        refine v_cVi (pc' := 26) rfl dX11_along_23 lk_RX11_200 ly_63 rfl (c_codeOf l G hwh hV w hM) rfl rfl rfl (fun codeOf1 w3 hq3 => ?_)
        obtain ⟨fc, zc⟩ := hq3
        have r0 : w3 63 0 = (n : Int) := (fc 63 0 (by decide)).trans r0
        have r1 : w3 63 1 = ((cdk s n : Nat) : Int) := (fc 63 1 (by decide)).trans r1
        have r2 : w3 63 2 = ((cdk a n : Nat) : Int) := (fc 63 2 (by decide)).trans r2
        have r3 : w3 63 3 = ((facN n : Nat) : Int) := (fc 63 3 (by decide)).trans r3
        have r4 : w3 63 4 = ((kmany n : Nat) : Int) := (fc 63 4 (by decide)).trans r4
        refine v_istore (ls' := [(4, _), (0, _), (1, _), (2, _), (3, _)]) (pc' := 28) rfl dX11_along_26 rfl rfl ?_
        refine v_iload_n 4 (pc' := 29) rfl dX11_along_28 rfl rfl ?_
        refine v_aload_n 1 (pc' := 30) rfl dX11_along_29 rfl rfl ?_
        refine v_iload 0 (pc' := 32) rfl dX11_along_30 rfl ?_
        refine v_iload_n 3 (pc' := 33) rfl dX11_along_32 rfl rfl ?_
        refine v_cVi (pc' := 36) rfl dX11_along_33 lk_RX11_162 ly_63 rfl (c_cycleLong l G (x := d.toNat) zc hft hn1 hn7 (by omega) (by omega) (by omega) w3 r0) rfl rfl rfl (fun cycleLong1 w4 hq4 => ?_)
        obtain ⟨f4, z4⟩ := hq4
        have hpp := popc_le14 (ringN (trF s a wh) d.toNat)
        refine v_icmp_lt (pc' := 39) (tgt := 42) rfl dX11_along_36 (by decide) (by omega) (by omega) (fun c3 => ?_) (fun c3 => ?_)
        ·
          have hA : k < (popc (ringN (trF s a wh) d.toNat) : Int) := by omega
          refine v_iload_n 3 (pc' := 43) rfl dX11_along_42 rfl rfl ?_
          refine v_istore (ls' := [(5, _), (4, _), (0, _), (1, _), (2, _), (3, _)]) (pc' := 45) rfl dX11_along_43 rfl rfl ?_
          refine v_iconst (pc' := 46) rfl dX11_along_45 ?_
          refine v_istore (ls' := [(6, _), (5, _), (4, _), (0, _), (1, _), (2, _), (3, _)]) (pc' := 48) rfl dX11_along_46 rfl rfl ?_
          refine v_ls [3, 4, 5, 6, 2, 1, 0] rfl ?_
          refine v_loop3 48 (fun (x : Int) (i : Int) (wl : Wd) => ∃ j : Nat, i = j ∧ j ≤ k.toNat ∧ x = (pstep (trF s a wh) j d.toNat : Nat) ∧ Scr w wl) (fun (x : Int) (i : Int) (wl : Wd) => (k - i).toNat) (fun (x : Int) (i : Int) (wl : Wd) => [(0, aR 63), (1, aI (wh)), (2, aI (d)), (3, aI (k)), (4, aI (codeOf1)), (5, aI (x)), (6, aI (i))]) (fun (x : Int) (i : Int) (wl : Wd) => []) (fun (x : Int) (i : Int) (wl : Wd) => wl) (fun x i wl hI0 ih0 => ?_) (d) (0) w4 (⟨0, rfl, by omega, by show d = ((d.toNat : Nat) : Int); omega, (Scr.of fc (by decide)).tr (Scr.of f4 (by decide))⟩)
          obtain ⟨j, hi, hj, hx, hsc⟩ := hI0
          have g0 := (hsc 63 0 (by decide)).trans hM.1
          have hpi := pstep_in hft (x := d.toNat) (by omega) (by omega) j
          refine v_iload 6 (pc' := 50) rfl dX11_along_48 rfl ?_
          refine v_iload_n 3 (pc' := 51) rfl dX11_along_50 rfl rfl ?_
          refine v_icmp_ge (pc' := 54) (tgt := 70) rfl dX11_along_51 (by decide) (by omega) (by omega) (fun c4 => ?_) (fun c4 => ?_)
          ·
            have hje : j = k.toNat := by omega
            refine v_iload 5 (pc' := 72) rfl dX11_along_70 rfl ?_
            refine v_iret dX11_along_72 (by decide) (rfl) ?_
            first | exact ⟨Scr.rf _, by rw [if_neg hz]⟩ | exact ⟨(Scr.of fc (by decide)).tr (Scr.of f4 (by decide)), by rw [if_pos hy, alongI, if_neg hA]⟩ | exact ⟨hsc, by rw [if_pos hy, alongI, if_pos hA, hx, hje]; unfold ptimes; rw [Nat.mod_eq_of_lt (by omega)]⟩
          ·
            refine v_aload_n 0 (pc' := 55) rfl dX11_along_54 rfl rfl ?_
            refine v_iload 4 (pc' := 57) rfl dX11_along_55 rfl ?_
            refine v_iload 5 (pc' := 59) rfl dX11_along_57 rfl ?_
            refine v_cVi (pc' := 62) rfl dX11_along_59 lk_RX11_273 ly_63 rfl (c_bringsTo l G (x := pstep (trF s a wh) j d.toNat) zc hft hn1 hn7 hx hpi.1 hpi.2 wl g0) rfl rfl rfl (fun bringsTo1 w5 hq5 => ?_)
            obtain ⟨f5, z5⟩ := hq5
            refine v_istore (ls' := [(5, _), (0, _), (1, _), (2, _), (3, _), (4, _), (6, _)]) (pc' := 64) rfl dX11_along_62 rfl rfl ?_
            refine v_iinc (ls' := [(6, _), (5, _), (0, _), (1, _), (2, _), (3, _), (4, _)]) 6 (pc' := 67) rfl dX11_along_64 rfl rfl rfl ?_
            refine v_nl (fun i' hi' => ?_)
            refine v_goto (tgt := 48) dX11_along_67 (by decide) ?_
            refine v_ls [2, 3, 4, 5, 6, 1, 0] rfl ?_
            exact ih0 (bringsTo1) (i') w5 (⟨j + 1, by omega, by omega, by rw [z5, pstep_s], hsc.tr (Scr.of f5 (by decide))⟩) (by omega)
        ·
          have hA : ¬ k < (popc (ringN (trF s a wh) d.toNat) : Int) := by omega
          refine v_bipush (pc' := 41) rfl dX11_along_39 rfl ?_
          refine v_iret dX11_along_41 (by decide) (rfl) ?_
          first | exact ⟨Scr.rf _, by rw [if_neg hz]⟩ | exact ⟨(Scr.of fc (by decide)).tr (Scr.of f4 (by decide)), by rw [if_pos hy, alongI, if_neg hA]⟩ | exact ⟨hsc, by rw [if_pos hy, alongI, if_pos hA, hx, hje]; unfold ptimes; rw [Nat.mod_eq_of_lt (by omega)]⟩
      ·
        have hz : ¬ (tok wh ∧ (1 ≤ d ∧ d ≤ (n : Int)) ∧ 0 ≤ k) := by omega
        refine v_iconst (pc' := 20) rfl dX11_along_19 ?_
        refine v_iret dX11_along_20 (by decide) (rfl) ?_
        first | exact ⟨Scr.rf _, by rw [if_neg hz]⟩ | exact ⟨(Scr.of fc (by decide)).tr (Scr.of f4 (by decide)), by rw [if_pos hy, alongI, if_neg hA]⟩ | exact ⟨hsc, by rw [if_pos hy, alongI, if_pos hA, hx, hje]; unfold ptimes; rw [Nat.mod_eq_of_lt (by omega)]⟩
set_option maxHeartbeats 4000000 in
set_option maxRecDepth 100000 in
theorem c_pointM (l : Launch) (G : Gx) {wh i what : Int} (hwh : rg wh) (hi : rg i) (hwt : rg what) {n : Nat} {s a : Nat → Nat} (hV : MapV n s a) (w : Wd) (hM : RMW w n s a) (hR : RTab w n) : Sp l G 4 mX11_point [aR 63, aI (wh), aI (i), aI (what)] w (fun z w' => Scr w w' ∧ z = if (tok wh ∧ 0 ≤ i ∧ 0 ≤ what ∧ what ≤ 1) then pointI (trF s a wh) n i what else -1) := by
  obtain ⟨⟨hn1, hn7⟩, hs, ha⟩ := id hV
  obtain ⟨r0, r1, r2⟩ := id hM
  obtain ⟨r3, r4, rPK, rTK⟩ := id hR
  have hfc := fac_le hn1 hn7
  have hk15 := kmany_le n hn7
  have hft := trF_pm hV wh
  refine Sp_of RX11 rfl (by decide +kernel) rfl (Nat.le_of_ble_eq_true rfl) ?_
  refine v_iload_n 1 (pc' := 1) rfl dX11_point_0 rfl rfl ?_
  refine v_cSP (pc' := 4) rfl dX11_point_1 lk_RX11_261 rfl (c_isThree l G hwh w) rfl rfl rfl ?_
  refine v_nm (fun isThree1 hisThree1 => ?_)
  refine v_if_eq (pc' := 7) (tgt := 20) rfl dX11_point_4 (by decide) (inB_r hisThree1) (fun c0 => ?_) (fun c0 => ?_)
  ·
    have q3 := inB_0 hisThree1 (by omega)
    have hz : ¬ (tok wh ∧ 0 ≤ i ∧ 0 ≤ what ∧ what ≤ 1) := fun q => by have := q.1; omega
    refine v_iconst (pc' := 21) rfl dX11_point_20 ?_
    refine v_iret dX11_point_21 (by decide) (rfl) ?_
    first | exact ⟨Scr.rf _, by rw [if_neg hz]⟩ | exact ⟨hsc, by rw [if_pos hy, pointI, if_pos hN0]⟩ | exact ⟨hsc.tr (Scr.of f4 (by decide)), by rw [if_pos hy, pointI, if_neg (by omega), if_pos (by omega), hN1]; exact hx⟩ | exact ⟨(hsc.tr (Scr.of f4 (by decide))).tr (Scr.of f5 (by decide)), by rw [if_pos hy, pointI, if_neg (by omega), if_neg (by omega), hN1]; exact z5⟩
  ·
    have q3 := inB_1 hisThree1 (by omega)
    have hz1 : tok wh := by omega
    refine v_iload_n 2 (pc' := 8) rfl dX11_point_7 rfl rfl ?_
    refine v_if_lt (pc' := 11) (tgt := 20) rfl dX11_point_8 (by decide) (by omega) (fun c1 => ?_) (fun c1 => ?_)
    ·
      have hz : ¬ (tok wh ∧ 0 ≤ i ∧ 0 ≤ what ∧ what ≤ 1) := by omega
      refine v_iconst (pc' := 21) rfl dX11_point_20 ?_
      refine v_iret dX11_point_21 (by decide) (rfl) ?_
      first | exact ⟨Scr.rf _, by rw [if_neg hz]⟩ | exact ⟨hsc, by rw [if_pos hy, pointI, if_pos hN0]⟩ | exact ⟨hsc.tr (Scr.of f4 (by decide)), by rw [if_pos hy, pointI, if_neg (by omega), if_pos (by omega), hN1]; exact hx⟩ | exact ⟨(hsc.tr (Scr.of f4 (by decide))).tr (Scr.of f5 (by decide)), by rw [if_pos hy, pointI, if_neg (by omega), if_neg (by omega), hN1]; exact z5⟩
    ·
      refine v_iload_n 3 (pc' := 12) rfl dX11_point_11 rfl rfl ?_
      refine v_iconst (pc' := 13) rfl dX11_point_12 ?_
      refine v_iconst (pc' := 14) rfl dX11_point_13 ?_
      refine v_cSP (pc' := 17) rfl dX11_point_14 lk_RX11_121 rfl (c_in l G hwt (by decide) (by decide) w) rfl rfl rfl ?_
      refine v_nm (fun in1 hin1 => ?_)
      refine v_if_ne (pc' := 20) (tgt := 22) rfl dX11_point_17 (by decide) (inB_r hin1) (fun c2 => ?_) (fun c2 => ?_)
      ·
        have q4 := inB_1 hin1 (by omega)
        have hy : (tok wh ∧ 0 ≤ i ∧ 0 ≤ what ∧ what ≤ 1) := ⟨hz1, by omega, by omega, by omega⟩
        refine v_aload_n 0 (pc' := 23) rfl dX11_point_22 rfl rfl ?_
        refine v_iload_n 1 (pc' := 24) rfl dX11_point_23 rfl rfl ?_
        refine v_cVi (pc' := 27) rfl dX11_point_24 lk_RX11_200 ly_63 rfl (c_codeOf l G hwh hV w hM) rfl rfl rfl (fun codeOf1 w3 hq3 => ?_)
        obtain ⟨fc, zc⟩ := hq3
        have r0 : w3 63 0 = (n : Int) := (fc 63 0 (by decide)).trans r0
        have r1 : w3 63 1 = ((cdk s n : Nat) : Int) := (fc 63 1 (by decide)).trans r1
        have r2 : w3 63 2 = ((cdk a n : Nat) : Int) := (fc 63 2 (by decide)).trans r2
        have r3 : w3 63 3 = ((facN n : Nat) : Int) := (fc 63 3 (by decide)).trans r3
        have r4 : w3 63 4 = ((kmany n : Nat) : Int) := (fc 63 4 (by decide)).trans r4
        refine v_istore (ls' := [(4, _), (0, _), (1, _), (2, _), (3, _)]) (pc' := 29) rfl dX11_point_27 rfl rfl ?_
        refine v_iload_n 3 (pc' := 30) rfl dX11_point_29 rfl rfl ?_
        refine v_istore (ls' := [(5, _), (4, _), (0, _), (1, _), (2, _), (3, _)]) (pc' := 32) rfl dX11_point_30 rfl rfl ?_
        refine v_iconst (pc' := 33) rfl dX11_point_32 ?_
        refine v_istore (ls' := [(6, _), (5, _), (4, _), (0, _), (1, _), (2, _), (3, _)]) (pc' := 35) rfl dX11_point_33 rfl rfl ?_
        refine v_ls [3, 4, 5, 6, 2, 1, 0] rfl ?_
        refine v_loop3 35 (fun (left : Int) (x : Int) (wl : Wd) => ∃ j L : Nat, x = ((j + 1 : Nat) : Int) ∧ j ≤ n ∧ (left = L ∧ L ≤ i.toNat) ∧ nthL (trF s a wh) (n - j) (j + 1) L = nthN (trF s a wh) n i.toNat ∧ Scr w wl) (fun (left : Int) (x : Int) (wl : Wd) => (8 - x).toNat) (fun (left : Int) (x : Int) (wl : Wd) => [(0, aR 63), (1, aI (wh)), (2, aI (i)), (3, aI (what)), (4, aI (codeOf1)), (5, aI (left)), (6, aI (x))]) (fun (left : Int) (x : Int) (wl : Wd) => []) (fun (left : Int) (x : Int) (wl : Wd) => wl) (fun left x wl hI0 ih0 => ?_) (i) (1) w3 (⟨0, i.toNat, rfl, by omega, ⟨by omega, by omega⟩, rfl, Scr.of fc (by decide)⟩)
        obtain ⟨j, L, hx, hj, hL0, hR0, hsc⟩ := hI0
        have g0 := (hsc 63 0 (by decide)).trans hM.1
        refine v_iload 6 (pc' := 37) rfl dX11_point_35 rfl ?_
        refine v_aload_n 0 (pc' := 38) rfl dX11_point_37 rfl rfl ?_
        refine v_get (z := (n : Int)) (pc' := 41) rfl dX11_point_38 fk_RX11_125 ly_63 rfl (g0) ?_
        refine v_icmp_gt (pc' := 44) (tgt := 93) rfl dX11_point_41 (by decide) (by omega) (by omega) (fun c3 => ?_) (fun c3 => ?_)
        ·
          have hje : j = n := by omega
          have hN0 : nthN (trF s a wh) n i.toNat = 0 := by rw [← hR0, hje, Nat.sub_self]; rfl
          refine v_bipush (pc' := 95) rfl dX11_point_93 rfl ?_
          refine v_iret dX11_point_95 (by decide) (rfl) ?_
          first | exact ⟨Scr.rf _, by rw [if_neg hz]⟩ | exact ⟨hsc, by rw [if_pos hy, pointI, if_pos hN0]⟩ | exact ⟨hsc.tr (Scr.of f4 (by decide)), by rw [if_pos hy, pointI, if_neg (by omega), if_pos (by omega), hN1]; exact hx⟩ | exact ⟨(hsc.tr (Scr.of f4 (by decide))).tr (Scr.of f5 (by decide)), by rw [if_pos hy, pointI, if_neg (by omega), if_neg (by omega), hN1]; exact z5⟩
        ·
          have hnj : n - j = (n - (j + 1)) + 1 := by omega
          refine v_aload_n 0 (pc' := 45) rfl dX11_point_44 rfl rfl ?_
          refine v_iload 4 (pc' := 47) rfl dX11_point_45 rfl ?_
          refine v_iload 6 (pc' := 49) rfl dX11_point_47 rfl ?_
          refine v_cVi (pc' := 52) rfl dX11_point_49 lk_RX11_158 ly_63 rfl (c_isLeast l G (x := j + 1) zc hft hn1 hn7 hx (by omega) (by omega) wl g0) rfl rfl rfl (fun isLeast1 w4 hq4 => ?_)
          obtain ⟨f4, z4⟩ := hq4
          have g0 : w4 63 0 = (n : Int) := (f4 63 0 (by decide)).trans g0
          refine v_if_ne (pc' := 55) (tgt := 58) rfl dX11_point_52 (by decide) (jn_r z4) (fun c4 => ?_) (fun c4 => ?_)
          ·
            have hL := jn_1 z4 (by omega)
            refine v_iload 5 (pc' := 60) rfl dX11_point_58 rfl ?_
            refine v_if_ne (pc' := 63) (tgt := 81) rfl dX11_point_60 (by decide) (by omega) (fun c5 => ?_) (fun c5 => ?_)
            ·
              refine v_iload 5 (pc' := 83) rfl dX11_point_81 rfl ?_
              refine v_iconst (pc' := 84) rfl dX11_point_83 ?_
              refine v_isub (pc' := 85) rfl dX11_point_84 ?_
              refine v_nm (fun left' hleft' => ?_)
              refine v_istore (ls' := [(5, _), (0, _), (1, _), (2, _), (3, _), (4, _), (6, _)]) (pc' := 87) rfl dX11_point_85 rfl rfl ?_
              refine v_iinc (ls' := [(6, _), (5, _), (0, _), (1, _), (2, _), (3, _), (4, _)]) 6 (pc' := 90) rfl dX11_point_87 rfl rfl rfl ?_
              refine v_nl (fun x' hx' => ?_)
              refine v_goto (tgt := 35) dX11_point_90 (by decide) ?_
              refine v_ls [2, 3, 4, 5, 6, 1, 0] rfl ?_
              exact ih0 (left') (x') w4 (⟨j + 1, L - 1, by omega, by omega, ⟨by omega, by omega⟩, by rw [← hR0, hnj]; simp only [nthL]; rw [if_pos hL, if_neg (by omega)], hsc.tr (Scr.of f4 (by decide))⟩) (by omega)
            ·
              have hN1 : nthN (trF s a wh) n i.toNat = j + 1 := by rw [← hR0, hnj]; simp only [nthL]; rw [if_pos hL, if_pos (by omega)]
              refine v_iload_n 3 (pc' := 64) rfl dX11_point_63 rfl rfl ?_
              refine v_if_ne (pc' := 67) (tgt := 72) rfl dX11_point_64 (by decide) (by omega) (fun c6 => ?_) (fun c6 => ?_)
              ·
                refine v_aload_n 0 (pc' := 73) rfl dX11_point_72 rfl rfl ?_
                refine v_iload 4 (pc' := 75) rfl dX11_point_73 rfl ?_
                refine v_iload 6 (pc' := 77) rfl dX11_point_75 rfl ?_
                refine v_cVi (pc' := 80) rfl dX11_point_77 lk_RX11_162 ly_63 rfl (c_cycleLong l G (x := j + 1) zc hft hn1 hn7 hx (by omega) (by omega) w4 g0) rfl rfl rfl (fun cycleLong1 w5 hq5 => ?_)
                obtain ⟨f5, z5⟩ := hq5
                refine v_iret dX11_point_80 (by decide) (rfl) ?_
                first | exact ⟨Scr.rf _, by rw [if_neg hz]⟩ | exact ⟨hsc, by rw [if_pos hy, pointI, if_pos hN0]⟩ | exact ⟨hsc.tr (Scr.of f4 (by decide)), by rw [if_pos hy, pointI, if_neg (by omega), if_pos (by omega), hN1]; exact hx⟩ | exact ⟨(hsc.tr (Scr.of f4 (by decide))).tr (Scr.of f5 (by decide)), by rw [if_pos hy, pointI, if_neg (by omega), if_neg (by omega), hN1]; exact z5⟩
              ·
                refine v_iload 6 (pc' := 69) rfl dX11_point_67 rfl ?_
                refine v_goto (tgt := 80) dX11_point_69 (by decide) ?_
                refine v_iret dX11_point_80 (by decide) (rfl) ?_
                first | exact ⟨Scr.rf _, by rw [if_neg hz]⟩ | exact ⟨hsc, by rw [if_pos hy, pointI, if_pos hN0]⟩ | exact ⟨hsc.tr (Scr.of f4 (by decide)), by rw [if_pos hy, pointI, if_neg (by omega), if_pos (by omega), hN1]; exact hx⟩ | exact ⟨(hsc.tr (Scr.of f4 (by decide))).tr (Scr.of f5 (by decide)), by rw [if_pos hy, pointI, if_neg (by omega), if_neg (by omega), hN1]; exact z5⟩
          ·
            have hL := jn_0 z4 (by omega)
            refine v_goto (tgt := 87) dX11_point_55 (by decide) ?_
            refine v_iinc (ls' := [(6, _), (0, _), (1, _), (2, _), (3, _), (4, _), (5, _)]) 6 (pc' := 90) rfl dX11_point_87 rfl rfl rfl ?_
            refine v_nl (fun x' hx' => ?_)
            refine v_goto (tgt := 35) dX11_point_90 (by decide) ?_
            refine v_ls [1, 2, 3, 4, 5, 6, 0] rfl ?_
            exact ih0 (left) (x') w4 (⟨j + 1, L, by omega, by omega, hL0, by rw [← hR0, hnj]; simp only [nthL]; rw [hL]; simp, hsc.tr (Scr.of f4 (by decide))⟩) (by omega)
      ·
        have q4 := inB_0 hin1 (by omega)
        have hz : ¬ (tok wh ∧ 0 ≤ i ∧ 0 ≤ what ∧ what ≤ 1) := by omega
        refine v_iconst (pc' := 21) rfl dX11_point_20 ?_
        refine v_iret dX11_point_21 (by decide) (rfl) ?_
        first | exact ⟨Scr.rf _, by rw [if_neg hz]⟩ | exact ⟨hsc, by rw [if_pos hy, pointI, if_pos hN0]⟩ | exact ⟨hsc.tr (Scr.of f4 (by decide)), by rw [if_pos hy, pointI, if_neg (by omega), if_pos (by omega), hN1]; exact hx⟩ | exact ⟨(hsc.tr (Scr.of f4 (by decide))).tr (Scr.of f5 (by decide)), by rw [if_pos hy, pointI, if_neg (by omega), if_neg (by omega), hN1]; exact z5⟩
set_option maxHeartbeats 4000000 in
set_option maxRecDepth 100000 in
theorem c_powerM (l : Launch) (G : Gx) {wh k : Int} (hwh : rg wh) (hk : rg k) {n : Nat} {s a : Nat → Nat} (hV : MapV n s a) (w : Wd) (hM : RMW w n s a) (hR : RTab w n) : Sp l G 4 mX11_power [aR 63, aI (wh), aI (k)] w (fun z w' => Scr w w' ∧ z = if (tok wh ∧ 0 ≤ k) then (cdk (ptimes (trF s a wh) k.toNat) n : Int) else -1) := by
  obtain ⟨⟨hn1, hn7⟩, hs, ha⟩ := id hV
  obtain ⟨r0, r1, r2⟩ := id hM
  obtain ⟨r3, r4, rPK, rTK⟩ := id hR
  have hfc := fac_le hn1 hn7
  have hk15 := kmany_le n hn7
  have hft := trF_pm hV wh
  have hor := (kf_ord hn1 hn7 hft).1
  refine Sp_of RX11 rfl (by decide +kernel) rfl (Nat.le_of_ble_eq_true rfl) ?_
  refine v_iload_n 1 (pc' := 1) rfl dX11_power_0 rfl rfl ?_
  refine v_cSP (pc' := 4) rfl dX11_power_1 lk_RX11_261 rfl (c_isThree l G hwh w) rfl rfl rfl ?_
  refine v_nm (fun isThree1 hisThree1 => ?_)
  refine v_if_eq (pc' := 7) (tgt := 11) rfl dX11_power_4 (by decide) (inB_r hisThree1) (fun c0 => ?_) (fun c0 => ?_)
  ·
    have q3 := inB_0 hisThree1 (by omega)
    have hz : ¬ (tok wh ∧ 0 ≤ k) := fun q => by have := q.1; omega
    refine v_iconst (pc' := 12) rfl dX11_power_11 ?_
    refine v_iret dX11_power_12 (by decide) (rfl) ?_
    first | exact ⟨Scr.rf _, by rw [if_neg hz]⟩ | exact ⟨(((Scr.of fc (by decide)).tr (Scr.of fd (by decide))).tr (Scr.of f4 (by decide))).tr (Scr.of f5 (by decide)), by rw [if_pos hy, z5, ppow_mod hn1 hn7 hft, ptimes_pow hn7 hft]⟩
  ·
    have q3 := inB_1 hisThree1 (by omega)
    have hz1 : tok wh := by omega
    refine v_iload_n 2 (pc' := 8) rfl dX11_power_7 rfl rfl ?_
    refine v_if_ge (pc' := 11) (tgt := 13) rfl dX11_power_8 (by decide) (by omega) (fun c1 => ?_) (fun c1 => ?_)
    ·
      have hy : (tok wh ∧ 0 ≤ k) := ⟨hz1, by omega⟩
      refine v_aload_n 0 (pc' := 14) rfl dX11_power_13 rfl rfl ?_
      refine v_aload_n 0 (pc' := 15) rfl dX11_power_14 rfl rfl ?_
      refine v_iload_n 1 (pc' := 16) rfl dX11_power_15 rfl rfl ?_
      refine v_cVi (pc' := 19) rfl dX11_power_16 lk_RX11_200 ly_63 rfl (c_codeOf l G hwh hV w hM) rfl rfl rfl (fun codeOf1 w2 hq2 => ?_)
      obtain ⟨fc, zc⟩ := hq2
      have r0 : w2 63 0 = (n : Int) := (fc 63 0 (by decide)).trans r0
      have r1 : w2 63 1 = ((cdk s n : Nat) : Int) := (fc 63 1 (by decide)).trans r1
      have r2 : w2 63 2 = ((cdk a n : Nat) : Int) := (fc 63 2 (by decide)).trans r2
      have r3 : w2 63 3 = ((facN n : Nat) : Int) := (fc 63 3 (by decide)).trans r3
      have r4 : w2 63 4 = ((kmany n : Nat) : Int) := (fc 63 4 (by decide)).trans r4
      refine v_iload_n 2 (pc' := 20) rfl dX11_power_19 rfl rfl ?_
      refine v_aload_n 0 (pc' := 21) rfl dX11_power_20 rfl rfl ?_
      refine v_aload_n 0 (pc' := 22) rfl dX11_power_21 rfl rfl ?_
      refine v_iload_n 1 (pc' := 23) rfl dX11_power_22 rfl rfl ?_
      refine v_cVi (pc' := 26) rfl dX11_power_23 lk_RX11_200 ly_63 rfl (c_codeOf l G hwh hV w2 ((hM.s (Scr.of fc (by decide))))) rfl rfl rfl (fun codeOf2 w3 hq3 => ?_)
      obtain ⟨fd, zd⟩ := hq3
      have r0 : w3 63 0 = (n : Int) := (fd 63 0 (by decide)).trans r0
      have r1 : w3 63 1 = ((cdk s n : Nat) : Int) := (fd 63 1 (by decide)).trans r1
      have r2 : w3 63 2 = ((cdk a n : Nat) : Int) := (fd 63 2 (by decide)).trans r2
      have r3 : w3 63 3 = ((facN n : Nat) : Int) := (fd 63 3 (by decide)).trans r3
      have r4 : w3 63 4 = ((kmany n : Nat) : Int) := (fd 63 4 (by decide)).trans r4
      refine v_cVi (pc' := 29) rfl dX11_power_26 lk_RX11_270 ly_63 rfl (c_orderOf l G zd hft hn1 hn7 w3 r0) rfl rfl rfl (fun orderOf1 w4 hq4 => ?_)
      obtain ⟨f4, z4⟩ := hq4
      have r0 : w4 63 0 = (n : Int) := (f4 63 0 (by decide)).trans r0
      have r1 : w4 63 1 = ((cdk s n : Nat) : Int) := (f4 63 1 (by decide)).trans r1
      have r2 : w4 63 2 = ((cdk a n : Nat) : Int) := (f4 63 2 (by decide)).trans r2
      have r3 : w4 63 3 = ((facN n : Nat) : Int) := (f4 63 3 (by decide)).trans r3
      have r4 : w4 63 4 = ((kmany n : Nat) : Int) := (f4 63 4 (by decide)).trans r4
      refine v_irem (z := ((k.toNat % orderN (trF s a wh) n : Nat) : Int)) (pc' := 30) rfl dX11_power_29 (iz_ne (by omega) (by omega)) (by rw [z4, show ((k.toNat % orderN (trF s a wh) n : Nat) : Int) = k % (orderN (trF s a wh) n : Int) by rw [Int.natCast_emod]; congr 1; omega]; exact iz_remN (by omega) (by omega) (by omega) (by omega)) ?_
      refine v_cVi (pc' := 33) rfl dX11_power_30 lk_RX11_416 ly_63 rfl (c_powerOf l G (K := k.toNat % orderN (trF s a wh) n) zc hft hn1 hn7 rfl (by have := Nat.mod_lt k.toNat (show 0 < orderN (trF s a wh) n by omega); omega) w4 r0) rfl rfl rfl (fun powerOf1 w5 hq5 => ?_)
      obtain ⟨f5, z5⟩ := hq5
      refine v_iret dX11_power_33 (by decide) (rfl) ?_
      first | exact ⟨Scr.rf _, by rw [if_neg hz]⟩ | exact ⟨(((Scr.of fc (by decide)).tr (Scr.of fd (by decide))).tr (Scr.of f4 (by decide))).tr (Scr.of f5 (by decide)), by rw [if_pos hy, z5, ppow_mod hn1 hn7 hft, ptimes_pow hn7 hft]⟩
    ·
      have hz : ¬ (tok wh ∧ 0 ≤ k) := by omega
      refine v_iconst (pc' := 12) rfl dX11_power_11 ?_
      refine v_iret dX11_power_12 (by decide) (rfl) ?_
      first | exact ⟨Scr.rf _, by rw [if_neg hz]⟩ | exact ⟨(((Scr.of fc (by decide)).tr (Scr.of fd (by decide))).tr (Scr.of f4 (by decide))).tr (Scr.of f5 (by decide)), by rw [if_pos hy, z5, ppow_mod hn1 hn7 hft, ptimes_pow hn7 hft]⟩

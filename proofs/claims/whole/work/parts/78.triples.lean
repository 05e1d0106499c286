/-! ===== the reference: triples, the classes ===== -/
theorem in_r {a b v z : Int} (h : z = if a ≤ v ∧ v ≤ b then 1 else 0) : rg z := by rw [h]; split <;> decide
theorem in_1 {a b v z : Int} (h : z = if a ≤ v ∧ v ≤ b then 1 else 0) (hz : z ≠ 0) : a ≤ v ∧ v ≤ b := by
  by_cases q : a ≤ v ∧ v ≤ b
  · exact q
  · rw [if_neg q] at h; exact absurd h hz
theorem in_0 {a b v z : Int} (h : z = if a ≤ v ∧ v ≤ b then 1 else 0) (hz : z = 0) : ¬ (a ≤ v ∧ v ≤ b) := fun q => by
  rw [if_pos q, hz] at h; exact absurd h (by decide)
theorem ak_r {n : Nat} {t1 t2 t3 z : Int} (h : (z = 1 ∧ KN3 n t1 t2 t3) ∨ (z = 0 ∧ ¬ KN3 n t1 t2 t3)) : rg z := by
  rcases h with h | h <;> rw [h.1] <;> decide
theorem ak_0 {n : Nat} {t1 t2 t3 z : Int} (h : (z = 1 ∧ KN3 n t1 t2 t3) ∨ (z = 0 ∧ ¬ KN3 n t1 t2 t3)) (hz : z = 0) : ¬ KN3 n t1 t2 t3 := by
  rcases h with h | h
  · rw [hz] at h; exact absurd h.1 (by decide)
  · exact h.2
theorem ak_1 {n : Nat} {t1 t2 t3 z : Int} (h : (z = 1 ∧ KN3 n t1 t2 t3) ∨ (z = 0 ∧ ¬ KN3 n t1 t2 t3)) (hz : z ≠ 0) : ∃ i1 i2 i3, (i1 < kmany n ∧ i2 < kmany n ∧ i3 < kmany n) ∧ (t1 = (kT n i1 : Nat) ∧ t2 = (kT n i2 : Nat) ∧ t3 = (kT n i3 : Nat)) := by
  rcases h with h | h
  · obtain ⟨i1, h1, e1⟩ := kndB_iff.mp h.2.1
    obtain ⟨i2, h2, e2⟩ := kndB_iff.mp h.2.2.1
    obtain ⟨i3, h3, e3⟩ := kndB_iff.mp h.2.2.2
    exact ⟨i1, i2, i3, ⟨h1, h2, h3⟩, e1.symm, e2.symm, e3.symm⟩
  · exact absurd h.1 hz
theorem KX_is {n i : Nat} {t z : Int} (hn : n ≤ 7) (h : KX n t z) (hi : i < kmany n) (ht : t = (kT n i : Nat)) : z = (i : Nat) := by
  rcases h with h | ⟨j, e, hj, et, -⟩
  · exact absurd ht.symm (h.2 i hi)
  · have : j = i := kT_inj n (by omega) j hj i hi (by omega)
    rw [e, this]
set_option maxHeartbeats 4000000 in
set_option maxRecDepth 100000 in
theorem c_triplesM (l : Launch) (G : Gx) {t1 t2 t3 what : Int} (hr1 : rg t1) (hr2 : rg t2) (hr3 : rg t3) (hwt : rg what) (hsz : OPSZ) {n : Nat} {s a : Nat → Nat} (hV : MapV n s a) (w : Wd) (hM : RMW w n s a) (hR : RTab w n) : Sp l G 4 mX11_triples [aR 63, aI (t1), aI (t2), aI (t3), aI (what)] w (fun z w' => Scr w w' ∧ TriP n t1 t2 t3 what z) := by
  obtain ⟨⟨hn1, hn7⟩, hs, ha⟩ := id hV
  obtain ⟨r0, r1, r2⟩ := id hM
  obtain ⟨r3, r4, rPK, rTK⟩ := id hR
  have hfc := fac_le hn1 hn7
  have hk15 := kmany_le n hn7
  refine Sp_of RX11 rfl (by decide +kernel) rfl (Nat.le_of_ble_eq_true rfl) ?_
  refine v_aload_n 0 (pc' := 1) rfl dX11_triples_0 rfl rfl ?_
  refine v_iload_n 1 (pc' := 2) rfl dX11_triples_1 rfl rfl ?_
  refine v_iload_n 2 (pc' := 3) rfl dX11_triples_2 rfl rfl ?_
  refine v_iload_n 3 (pc' := 4) rfl dX11_triples_3 rfl rfl ?_
  refine v_cVR (pc' := 7) rfl dX11_triples_4 lk_RX11_358 ly_63 rfl (c_areKinds l G hr1 hr2 hr3 hV w hM hR) rfl rfl rfl (fun areKinds1 hareKinds1 => ?_)
  refine v_if_eq (pc' := 10) (tgt := 20) rfl dX11_triples_7 (by decide) (ak_r hareKinds1) (fun c0 => ?_) (fun c0 => ?_)
  ·
    have hno := ak_0 hareKinds1 (by omega)
    refine v_ldc2 (z := (-1)) (pc' := 23) rfl dX11_triples_20 kc_RX11_361 ?_
    refine v_lret dX11_triples_23 ?_
    first
    | exact ⟨Scr.rf _, Or.inl ⟨hno, rfl⟩⟩
    | exact ⟨Scr.rf _, by
        by_cases q : KN3 n t1 t2 t3
        · obtain ⟨i1, h1, e1⟩ := kndB_iff.mp q.1
          obtain ⟨i2, h2, e2⟩ := kndB_iff.mp q.2.1
          obtain ⟨i3, h3, e3⟩ := kndB_iff.mp q.2.2
          exact Or.inr ⟨i1, i2, i3, ⟨h1, h2, h3⟩, ⟨e1.symm, e2.symm, e3.symm⟩, by unfold triI; rw [if_neg (by omega), if_neg (by omega), if_neg (by omega)]⟩
        · exact Or.inl ⟨q, rfl⟩⟩
    | exact ⟨hq6.1, Or.inr ⟨i1, i2, i3, ⟨h1, h2, h3⟩, ⟨ht1, ht2, ht3⟩, by unfold triI; rw [if_neg (by omega), if_neg (by omega), if_pos (by omega)]; exact hq6.2⟩⟩
    | exact ⟨hq7.1, Or.inr ⟨i1, i2, i3, ⟨h1, h2, h3⟩, ⟨ht1, ht2, ht3⟩, by
        rw [hq7.2]; unfold triI conI
        first | rw [if_neg (by omega), if_neg (by omega), if_pos (by omega), Int.mul_comm] | rw [if_pos (by omega), if_pos (by omega), Int.mul_comm]⟩⟩
  ·
    obtain ⟨i1, i2, i3, ⟨h1, h2, h3⟩, ht1, ht2, ht3⟩ := ak_1 hareKinds1 (by omega)
    refine v_iload 4 (pc' := 12) rfl dX11_triples_10 rfl ?_
    refine v_iconst (pc' := 13) rfl dX11_triples_12 ?_
    refine v_iconst (pc' := 14) rfl dX11_triples_13 ?_
    refine v_cSP (pc' := 17) rfl dX11_triples_14 lk_RX11_121 rfl (c_in l G hwt (by decide) (by decide) w) rfl rfl rfl ?_
    refine v_nm (fun in1 hin1 => ?_)
    refine v_if_ne (pc' := 20) (tgt := 24) rfl dX11_triples_17 (by decide) (in_r hin1) (fun c1 => ?_) (fun c1 => ?_)
    ·
      have hy2 := in_1 hin1 (by omega)
      refine v_aload_n 0 (pc' := 25) rfl dX11_triples_24 rfl rfl ?_
      refine v_iload_n 1 (pc' := 26) rfl dX11_triples_25 rfl rfl ?_
      refine v_cVR (pc' := 29) rfl dX11_triples_26 lk_RX11_178 ly_63 rfl (c_kindOf l G (n := n) (t := t1) hr1 hn1 hn7 w r4 (fun k hk => (rTK k hk).1)) rfl rfl rfl (fun kindOf1 hkindOf1 => ?_)
      have hkz1 := KX_is hn7 hkindOf1 h1 ht1
      refine v_istore (ls' := [(5, _), (0, _), (1, _), (2, _), (3, _), (4, _)]) (pc' := 31) rfl dX11_triples_29 rfl rfl ?_
      refine v_aload_n 1 (pc' := 32) rfl dX11_triples_31 rfl rfl ?_
      refine v_iload_n 3 (pc' := 33) rfl dX11_triples_32 rfl rfl ?_
      refine v_cVR (pc' := 36) rfl dX11_triples_33 lk_RX11_178 ly_63 rfl (c_kindOf l G (n := n) (t := t2) hr2 hn1 hn7 w r4 (fun k hk => (rTK k hk).1)) rfl rfl rfl (fun kindOf2 hkindOf2 => ?_)
      have hkz2 := KX_is hn7 hkindOf2 h2 ht2
      refine v_istore (ls' := [(6, _), (5, _), (0, _), (1, _), (2, _), (3, _), (4, _)]) (pc' := 38) rfl dX11_triples_36 rfl rfl ?_
      refine v_aload_n 2 (pc' := 39) rfl dX11_triples_38 rfl rfl ?_
      refine v_iload_n 5 (pc' := 40) rfl dX11_triples_39 rfl rfl ?_
      refine v_cVR (pc' := 43) rfl dX11_triples_40 lk_RX11_178 ly_63 rfl (c_kindOf l G (n := n) (t := t3) hr3 hn1 hn7 w r4 (fun k hk => (rTK k hk).1)) rfl rfl rfl (fun kindOf3 hkindOf3 => ?_)
      have hkz3 := KX_is hn7 hkindOf3 h3 ht3
      refine v_istore (ls' := [(7, _), (6, _), (5, _), (0, _), (1, _), (2, _), (3, _), (4, _)]) (pc' := 45) rfl dX11_triples_43 rfl rfl ?_
      refine v_iload 7 (pc' := 47) rfl dX11_triples_45 rfl ?_
      refine v_iconst (pc' := 48) rfl dX11_triples_47 ?_
      refine v_icmp_ne (pc' := 51) (tgt := 64) rfl dX11_triples_48 (by decide) (by omega) (by omega) (fun c2 => ?_) (fun c2 => ?_)
      ·
        refine v_aload_n 3 (pc' := 65) rfl dX11_triples_64 rfl rfl ?_
        refine v_iload 2 (pc' := 67) rfl dX11_triples_65 rfl ?_
        refine v_iload 1 (pc' := 69) rfl dX11_triples_67 rfl ?_
        refine v_iload 0 (pc' := 71) rfl dX11_triples_69 rfl ?_
        refine v_iload 7 (pc' := 73) rfl dX11_triples_71 rfl ?_
        refine v_iconst (pc' := 74) rfl dX11_triples_73 ?_
        refine v_icmp_ne (pc' := 77) (tgt := 81) rfl dX11_triples_74 (by decide) (by omega) (by omega) (fun c3 => ?_) (fun c3 => ?_)
        ·
          refine v_iconst (pc' := 82) rfl dX11_triples_81 ?_
          refine v_cVl (pc' := 85) rfl dX11_triples_82 lk_RX11_367 ly_63 rfl (c_bySearch l G hn1 hn7 h1 h2 h3 hkz1 hkz2 hkz3 (by omega) hsz w hM.1 hR) rfl rfl rfl (fun bySearch1 w7 hq7 => ?_)
          refine v_lret dX11_triples_85 ?_
          first
          | exact ⟨Scr.rf _, Or.inl ⟨hno, rfl⟩⟩
          | exact ⟨Scr.rf _, by
              by_cases q : KN3 n t1 t2 t3
              · obtain ⟨i1, h1, e1⟩ := kndB_iff.mp q.1
                obtain ⟨i2, h2, e2⟩ := kndB_iff.mp q.2.1
                obtain ⟨i3, h3, e3⟩ := kndB_iff.mp q.2.2
                exact Or.inr ⟨i1, i2, i3, ⟨h1, h2, h3⟩, ⟨e1.symm, e2.symm, e3.symm⟩, by unfold triI; rw [if_neg (by omega), if_neg (by omega), if_neg (by omega)]⟩
              · exact Or.inl ⟨q, rfl⟩⟩
          | exact ⟨hq6.1, Or.inr ⟨i1, i2, i3, ⟨h1, h2, h3⟩, ⟨ht1, ht2, ht3⟩, by unfold triI; rw [if_neg (by omega), if_neg (by omega), if_pos (by omega)]; exact hq6.2⟩⟩
          | exact ⟨hq7.1, Or.inr ⟨i1, i2, i3, ⟨h1, h2, h3⟩, ⟨ht1, ht2, ht3⟩, by
              rw [hq7.2]; unfold triI conI
              first | rw [if_neg (by omega), if_neg (by omega), if_pos (by omega), Int.mul_comm] | rw [if_pos (by omega), if_pos (by omega), Int.mul_comm]⟩⟩
        ·
          refine v_iconst (pc' := 78) rfl dX11_triples_77 ?_
          refine v_goto (tgt := 82) dX11_triples_78 (by decide) ?_
          refine v_cVl (pc' := 85) rfl dX11_triples_82 lk_RX11_367 ly_63 rfl (c_bySearch l G hn1 hn7 h1 h2 h3 hkz1 hkz2 hkz3 (by omega) hsz w hM.1 hR) rfl rfl rfl (fun bySearch1 w7 hq7 => ?_)
          refine v_lret dX11_triples_85 ?_
          first
          | exact ⟨Scr.rf _, Or.inl ⟨hno, rfl⟩⟩
          | exact ⟨Scr.rf _, by
              by_cases q : KN3 n t1 t2 t3
              · obtain ⟨i1, h1, e1⟩ := kndB_iff.mp q.1
                obtain ⟨i2, h2, e2⟩ := kndB_iff.mp q.2.1
                obtain ⟨i3, h3, e3⟩ := kndB_iff.mp q.2.2
                exact Or.inr ⟨i1, i2, i3, ⟨h1, h2, h3⟩, ⟨e1.symm, e2.symm, e3.symm⟩, by unfold triI; rw [if_neg (by omega), if_neg (by omega), if_neg (by omega)]⟩
              · exact Or.inl ⟨q, rfl⟩⟩
          | exact ⟨hq6.1, Or.inr ⟨i1, i2, i3, ⟨h1, h2, h3⟩, ⟨ht1, ht2, ht3⟩, by unfold triI; rw [if_neg (by omega), if_neg (by omega), if_pos (by omega)]; exact hq6.2⟩⟩
          | exact ⟨hq7.1, Or.inr ⟨i1, i2, i3, ⟨h1, h2, h3⟩, ⟨ht1, ht2, ht3⟩, by
              rw [hq7.2]; unfold triI conI
              first | rw [if_neg (by omega), if_neg (by omega), if_pos (by omega), Int.mul_comm] | rw [if_pos (by omega), if_pos (by omega), Int.mul_comm]⟩⟩
      ·
        refine v_aload_n 3 (pc' := 52) rfl dX11_triples_51 rfl rfl ?_
        refine v_iload 2 (pc' := 54) rfl dX11_triples_52 rfl ?_
        refine v_iload 1 (pc' := 56) rfl dX11_triples_54 rfl ?_
        refine v_iload 0 (pc' := 58) rfl dX11_triples_56 rfl ?_
        refine v_cVl (pc' := 61) rfl dX11_triples_58 lk_RX11_363 ly_63 rfl (c_byCharactersM l G hkz1 hkz2 hkz3 hn1 hn7 h1 h2 h3 hsz w hR) rfl rfl rfl (fun byCharacters1 w6 hq6 => ?_)
        refine v_goto (tgt := 85) dX11_triples_61 (by decide) ?_
        refine v_lret dX11_triples_85 ?_
        first
        | exact ⟨Scr.rf _, Or.inl ⟨hno, rfl⟩⟩
        | exact ⟨Scr.rf _, by
            by_cases q : KN3 n t1 t2 t3
            · obtain ⟨i1, h1, e1⟩ := kndB_iff.mp q.1
              obtain ⟨i2, h2, e2⟩ := kndB_iff.mp q.2.1
              obtain ⟨i3, h3, e3⟩ := kndB_iff.mp q.2.2
              exact Or.inr ⟨i1, i2, i3, ⟨h1, h2, h3⟩, ⟨e1.symm, e2.symm, e3.symm⟩, by unfold triI; rw [if_neg (by omega), if_neg (by omega), if_neg (by omega)]⟩
            · exact Or.inl ⟨q, rfl⟩⟩
        | exact ⟨hq6.1, Or.inr ⟨i1, i2, i3, ⟨h1, h2, h3⟩, ⟨ht1, ht2, ht3⟩, by unfold triI; rw [if_neg (by omega), if_neg (by omega), if_pos (by omega)]; exact hq6.2⟩⟩
        | exact ⟨hq7.1, Or.inr ⟨i1, i2, i3, ⟨h1, h2, h3⟩, ⟨ht1, ht2, ht3⟩, by
            rw [hq7.2]; unfold triI conI
            first | rw [if_neg (by omega), if_neg (by omega), if_pos (by omega), Int.mul_comm] | rw [if_pos (by omega), if_pos (by omega), Int.mul_comm]⟩⟩
    ·
      have hn2 := in_0 hin1 (by omega)
      refine v_ldc2 (z := (-1)) (pc' := 23) rfl dX11_triples_20 kc_RX11_361 ?_
      refine v_lret dX11_triples_23 ?_
      first
      | exact ⟨Scr.rf _, Or.inl ⟨hno, rfl⟩⟩
      | exact ⟨Scr.rf _, by
          by_cases q : KN3 n t1 t2 t3
          · obtain ⟨i1, h1, e1⟩ := kndB_iff.mp q.1
            obtain ⟨i2, h2, e2⟩ := kndB_iff.mp q.2.1
            obtain ⟨i3, h3, e3⟩ := kndB_iff.mp q.2.2
            exact Or.inr ⟨i1, i2, i3, ⟨h1, h2, h3⟩, ⟨e1.symm, e2.symm, e3.symm⟩, by unfold triI; rw [if_neg (by omega), if_neg (by omega), if_neg (by omega)]⟩
          · exact Or.inl ⟨q, rfl⟩⟩
      | exact ⟨hq6.1, Or.inr ⟨i1, i2, i3, ⟨h1, h2, h3⟩, ⟨ht1, ht2, ht3⟩, by unfold triI; rw [if_neg (by omega), if_neg (by omega), if_pos (by omega)]; exact hq6.2⟩⟩
      | exact ⟨hq7.1, Or.inr ⟨i1, i2, i3, ⟨h1, h2, h3⟩, ⟨ht1, ht2, ht3⟩, by
          rw [hq7.2]; unfold triI conI
          first | rw [if_neg (by omega), if_neg (by omega), if_pos (by omega), Int.mul_comm] | rw [if_pos (by omega), if_pos (by omega), Int.mul_comm]⟩⟩

def kndB (n : Nat) (t : Int) : Bool := (List.range (kmany n)).any (fun i => decide ((kT n i : Int) = t))
theorem kndB_iff {n : Nat} {t : Int} : kndB n t = true ↔ ∃ i, i < kmany n ∧ (kT n i : Int) = t := by
  unfold kndB
  rw [List.any_eq_true]
  constructor
  · rintro ⟨i, h, e⟩
    exact ⟨i, List.mem_range.mp h, of_decide_eq_true e⟩
  · rintro ⟨i, h, e⟩
    exact ⟨i, List.mem_range.mpr h, decide_eq_true e⟩
theorem KX_z {n : Nat} {t z : Int} (h : KX n t z) (hz : z < 0) : ¬ kndB n t = true := by
  intro q
  obtain ⟨i, a, b⟩ := kndB_iff.mp q
  rcases h with ⟨-, h⟩ | ⟨j, h, -⟩
  · exact h i a b
  · omega
theorem KX_s {n : Nat} {t z : Int} (h : KX n t z) (hz : ¬ z < 0) : kndB n t = true := by
  rcases h with ⟨h, -⟩ | ⟨j, -, a, b, -⟩
  · omega
  · exact kndB_iff.mpr ⟨j, a, b⟩
theorem kmany_le : ∀ n : Nat, n ≤ 7 → kmany n ≤ 15 := fun n h => (by decide +kernel : ∀ n : Nat, n < 8 → kmany n ≤ 15) n (by omega)
theorem KX_r {n : Nat} {t z : Int} (hn : n ≤ 7) (h : KX n t z) : rg z := by
  have := kmany_le n hn
  rcases h with ⟨h, -⟩ | ⟨j, h, a, -⟩ <;> omega
theorem kn_1 {n : Nat} {t z : Int} (h : z = if kndB n t = true then 1 else 0) (hz : z ≠ 0) : kndB n t = true := Classical.byContradiction (fun q => hz (h.trans (if_neg q)))
theorem kn_0 {n : Nat} {t z : Int} (h : z = if kndB n t = true then 1 else 0) (hz : z = 0) : ¬ kndB n t = true := fun q => by rw [if_pos q] at h; omega
theorem kn_r {n : Nat} {t z : Int} (h : z = if kndB n t = true then 1 else 0) : rg z := by rw [h]; split <;> decide
theorem kn_ok {n : Nat} {t : Int} (hn : n ≤ 7) (h : kndB n t = true) : t = ((t.toNat : Nat) : Int) ∧ t.toNat < 10000000 ∧ vbL 7 t.toNat 0 0 < 16384 ∧ (1 ≤ fixT t.toNat ∧ fixT t.toNat ≤ 5040) := by
  obtain ⟨i, a, b⟩ := kndB_iff.mp h
  have e : t.toNat = kT n i := by omega
  have k := kt_ok n (by omega) i a
  have q := kT_le hn a
  rw [e]
  exact ⟨b.symm, by omega, k.1.1, k.2.1⟩
set_option maxHeartbeats 4000000 in
set_option maxRecDepth 100000 in
theorem c_kindStands (l : Launch) (G : Gx) {t : Int} (ht : rg t) {n : Nat} {s a : Nat → Nat} (hV : MapV n s a) (w : Wd) (hM : MapW w n s a) : SpP l G 3 mX10_kindStands [aR 0, aI (t)] w ((if kndB n t = true then 1 else 0 : Int)) := by
  obtain ⟨⟨hn1, hn7⟩, hs, ha⟩ := id hV
  obtain ⟨m0, m1, m2⟩ := id hM
  refine Sp_of RX10 rfl (by decide +kernel) rfl (Nat.le_of_ble_eq_true rfl) ?_
  refine v_iload_n 1 (pc' := 1) rfl dX10_kindStands_0 rfl rfl ?_
  refine v_aload_n 0 (pc' := 2) rfl dX10_kindStands_1 rfl rfl ?_
  refine v_getR (pc' := 5) rfl dX10_kindStands_2 fk_RX10_16 ly_0 rfl ?_
  refine v_get (z := (n : Int)) (pc' := 8) rfl dX10_kindStands_5 fk_RX10_81 ly_2 rfl (m0) ?_
  refine v_cSR (pc' := 11) rfl dX10_kindStands_8 lk_RX10_259 rfl (c_index l G ht rfl hn1 hn7 w ) rfl rfl rfl (fun index1 hindex1 => ?_)
  refine v_if_lt (pc' := 14) (tgt := 18) rfl dX10_kindStands_11 (by decide) (KX_r hn7 hindex1) (fun c0 => ?_) (fun c0 => ?_)
  ·
    have hz := KX_z hindex1 (by omega)
    refine v_iconst (pc' := 19) rfl dX10_kindStands_18 ?_
    refine v_iret dX10_kindStands_19 (by decide) (rfl) ?_
    first | exact ⟨by rw [if_neg hz], rfl⟩ | exact ⟨by rw [if_pos hz], rfl⟩
  ·
    have hz := KX_s hindex1 (by omega)
    refine v_iconst (pc' := 15) rfl dX10_kindStands_14 ?_
    refine v_goto (tgt := 19) dX10_kindStands_15 (by decide) ?_
    refine v_iret dX10_kindStands_19 (by decide) (rfl) ?_
    first | exact ⟨by rw [if_neg hz], rfl⟩ | exact ⟨by rw [if_pos hz], rfl⟩
set_option maxHeartbeats 4000000 in
set_option maxRecDepth 100000 in
theorem c_size (l : Launch) (G : Gx) {t : Int} (ht : rg t) {n : Nat} {s a : Nat → Nat} (hV : MapV n s a) (w : Wd) (hM : MapW w n s a) : SpP l G 4 mX10_size [aR 0, aI (t)] w ((if kndB n t = true then (membersN t.toNat n : Int) else -1)) := by
  obtain ⟨⟨hn1, hn7⟩, hs, ha⟩ := id hV
  obtain ⟨m0, m1, m2⟩ := id hM
  refine Sp_of RX10 rfl (by decide +kernel) rfl (Nat.le_of_ble_eq_true rfl) ?_
  refine v_aload_n 0 (pc' := 1) rfl dX10_size_0 rfl rfl ?_
  refine v_iload_n 1 (pc' := 2) rfl dX10_size_1 rfl rfl ?_
  refine v_cVP (pc' := 5) rfl dX10_size_2 lk_RX10_250 ly_0 rfl (c_kindStands l G ht hV w hM) rfl rfl rfl ?_
  refine v_nm (fun kindStands1 hkindStands1 => ?_)
  refine v_if_eq (pc' := 8) (tgt := 22) rfl dX10_size_5 (by decide) (kn_r hkindStands1) (fun c0 => ?_) (fun c0 => ?_)
  ·
    have hz := kn_0 hkindStands1 (by omega)
    refine v_iconst (pc' := 23) rfl dX10_size_22 ?_
    refine v_iret dX10_size_23 (by decide) (rfl) ?_
    first | exact ⟨by rw [if_neg hz], rfl⟩ | exact ⟨by rw [if_pos hz]; exact hmembers1, rfl⟩
  ·
    have hz := kn_1 hkindStands1 (by omega)
    have hok := kn_ok hn7 hz
    refine v_iload_n 1 (pc' := 9) rfl dX10_size_8 rfl rfl ?_
    refine v_aload_n 0 (pc' := 10) rfl dX10_size_9 rfl rfl ?_
    refine v_getR (pc' := 13) rfl dX10_size_10 fk_RX10_16 ly_0 rfl ?_
    refine v_get (z := (n : Int)) (pc' := 16) rfl dX10_size_13 fk_RX10_81 ly_2 rfl (m0) ?_
    refine v_cSP (pc' := 19) rfl dX10_size_16 lk_RX10_289 rfl (c_members l G hok.1 hok.2.1 hok.2.2.2.1 hok.2.2.2.2 rfl hn1 hn7 w) rfl rfl rfl ?_
    refine v_nm (fun members1 hmembers1 => ?_)
    refine v_goto (tgt := 23) dX10_size_19 (by decide) ?_
    refine v_iret dX10_size_23 (by decide) (rfl) ?_
    first | exact ⟨by rw [if_neg hz], rfl⟩ | exact ⟨by rw [if_pos hz]; exact hmembers1, rfl⟩
set_option maxHeartbeats 4000000 in
set_option maxRecDepth 100000 in
theorem c_character (l : Launch) (G : Gx) {t u : Int} (ht : rg t) (hu : rg u) {n : Nat} {s a : Nat → Nat} (hV : MapV n s a) (w : Wd) (hM : MapW w n s a) : SpP l G 9 mX10_character [aR 0, aI (t), aI (u)] w ((if (kndB n t = true ∧ kndB n u = true) then valN t.toNat u.toNat else -1000000)) := by
  obtain ⟨⟨hn1, hn7⟩, hs, ha⟩ := id hV
  obtain ⟨m0, m1, m2⟩ := id hM
  refine Sp_of RX10 rfl (by decide +kernel) rfl (Nat.le_of_ble_eq_true rfl) ?_
  refine v_aload_n 0 (pc' := 1) rfl dX10_character_0 rfl rfl ?_
  refine v_iload_n 1 (pc' := 2) rfl dX10_character_1 rfl rfl ?_
  refine v_cVP (pc' := 5) rfl dX10_character_2 lk_RX10_250 ly_0 rfl (c_kindStands l G ht hV w hM) rfl rfl rfl ?_
  refine v_nm (fun kindStands1 hkindStands1 => ?_)
  refine v_if_eq (pc' := 8) (tgt := 24) rfl dX10_character_5 (by decide) (kn_r hkindStands1) (fun c0 => ?_) (fun c0 => ?_)
  ·
    have hq := kn_0 hkindStands1 (by omega)
    have hz : ¬ (kndB n t = true ∧ kndB n u = true) := fun q => hq q.1
    refine v_ldcw (z := (-1000000)) (pc' := 27) rfl dX10_character_24 kc_RX10_295 ?_
    refine v_iret dX10_character_27 (by decide) (rfl) ?_
    first | exact ⟨by rw [if_neg hz], rfl⟩ | exact ⟨by rw [if_pos hz]; exact hvalue1, rfl⟩
  ·
    have hq := kn_1 hkindStands1 (by omega)
    have hok := kn_ok hn7 hq
    refine v_aload_n 0 (pc' := 9) rfl dX10_character_8 rfl rfl ?_
    refine v_iload_n 2 (pc' := 10) rfl dX10_character_9 rfl rfl ?_
    refine v_cVP (pc' := 13) rfl dX10_character_10 lk_RX10_250 ly_0 rfl (c_kindStands l G hu hV w hM) rfl rfl rfl ?_
    refine v_nm (fun kindStands2 hkindStands2 => ?_)
    refine v_if_eq (pc' := 16) (tgt := 24) rfl dX10_character_13 (by decide) (kn_r hkindStands2) (fun c1 => ?_) (fun c1 => ?_)
    ·
      have hq2 := kn_0 hkindStands2 (by omega)
      have hz : ¬ (kndB n t = true ∧ kndB n u = true) := fun q => hq2 q.2
      refine v_ldcw (z := (-1000000)) (pc' := 27) rfl dX10_character_24 kc_RX10_295 ?_
      refine v_iret dX10_character_27 (by decide) (rfl) ?_
      first | exact ⟨by rw [if_neg hz], rfl⟩ | exact ⟨by rw [if_pos hz]; exact hvalue1, rfl⟩
    ·
      have hq2 := kn_1 hkindStands2 (by omega)
      have hok2 := kn_ok hn7 hq2
      have hz : (kndB n t = true ∧ kndB n u = true) := ⟨hq, hq2⟩
      refine v_iload_n 1 (pc' := 17) rfl dX10_character_16 rfl rfl ?_
      refine v_iload_n 2 (pc' := 18) rfl dX10_character_17 rfl rfl ?_
      refine v_cSP (pc' := 21) rfl dX10_character_18 lk_RX10_292 rfl (c_value l G hok.1 hok.2.1 hok.2.2.1 hok2.1 hok2.2.1 w) rfl rfl rfl ?_
      refine v_nm (fun value1 hvalue1 => ?_)
      refine v_goto (tgt := 27) dX10_character_21 (by decide) ?_
      refine v_iret dX10_character_27 (by decide) (rfl) ?_
      first | exact ⟨by rw [if_neg hz], rfl⟩ | exact ⟨by rw [if_pos hz]; exact hvalue1, rfl⟩
set_option maxHeartbeats 4000000 in
set_option maxRecDepth 100000 in
theorem c_kinds (l : Launch) (G : Gx) {i : Int} (hi : rg i) {n : Nat} {s a : Nat → Nat} (hV : MapV n s a) (w : Wd) (hM : MapW w n s a) : SpP l G 2 mX10_kinds [aR 0, aI (i)] w ((if i < -1 then -1 else if i = -1 then (kmany n : Int) else if (kmany n : Int) ≤ i then -2 else (kT n i.toNat : Int))) := by
  obtain ⟨⟨hn1, hn7⟩, hs, ha⟩ := id hV
  obtain ⟨m0, m1, m2⟩ := id hM
  have hkm := kmany_le n hn7
  refine Sp_of RX10 rfl (by decide +kernel) rfl (Nat.le_of_ble_eq_true rfl) ?_
  refine v_iload_n 1 (pc' := 1) rfl dX10_kinds_0 rfl rfl ?_
  refine v_iconst (pc' := 2) rfl dX10_kinds_1 ?_
  refine v_icmp_ge (pc' := 5) (tgt := 7) rfl dX10_kinds_2 (by decide) (by omega) (by omega) (fun c0 => ?_) (fun c0 => ?_)
  ·
    refine v_aload_n 0 (pc' := 8) rfl dX10_kinds_7 rfl rfl ?_
    refine v_getR (pc' := 11) rfl dX10_kinds_8 fk_RX10_16 ly_0 rfl ?_
    refine v_get (z := (n : Int)) (pc' := 14) rfl dX10_kinds_11 fk_RX10_81 ly_2 rfl (m0) ?_
    refine v_cSP (pc' := 17) rfl dX10_kinds_14 lk_RX10_283 rfl (c_many l G rfl hn1 hn7 w) rfl rfl rfl ?_
    refine v_nm (fun many1 hmany1 => ?_)
    refine v_istore_n (ls' := [(2, _), (0, _), (1, _)]) (pc' := 18) rfl dX10_kinds_17 rfl rfl rfl ?_
    refine v_iload_n 2 (pc' := 19) rfl dX10_kinds_18 rfl rfl ?_
    refine v_iconst (pc' := 20) rfl dX10_kinds_19 ?_
    refine v_icmp_ne (pc' := 23) (tgt := 25) rfl dX10_kinds_20 (by decide) (by omega) (by omega) (fun c1 => ?_) (fun c1 => ?_)
    ·
      refine v_iload_n 2 (pc' := 26) rfl dX10_kinds_25 rfl rfl ?_
      refine v_iload_n 0 (pc' := 27) rfl dX10_kinds_26 rfl rfl ?_
      refine v_icmp_lt (pc' := 30) (tgt := 35) rfl dX10_kinds_27 (by decide) (by omega) (by omega) (fun c2 => ?_) (fun c2 => ?_)
      ·
        refine v_aload_n 1 (pc' := 36) rfl dX10_kinds_35 rfl rfl ?_
        refine v_getR (pc' := 39) rfl dX10_kinds_36 fk_RX10_16 ly_0 rfl ?_
        refine v_get (z := (n : Int)) (pc' := 42) rfl dX10_kinds_39 fk_RX10_81 ly_2 rfl (m0) ?_
        refine v_iload_n 2 (pc' := 43) rfl dX10_kinds_42 rfl rfl ?_
        refine v_cSP (pc' := 46) rfl dX10_kinds_43 lk_RX10_286 rfl (c_nth l G rfl hn1 hn7 (show i = ((i.toNat : Nat) : Int) by omega) (by omega) w) rfl rfl rfl ?_
        refine v_nm (fun nth1 hnth1 => ?_)
        refine v_iret dX10_kinds_46 (by decide) (rfl) ?_
        first | exact ⟨by rw [if_pos (by omega)], rfl⟩ | exact ⟨by rw [if_neg (by omega), if_pos (by omega)]; exact hmany1, rfl⟩ | exact ⟨by rw [if_neg (by omega), if_neg (by omega), if_pos (by omega)], rfl⟩ | exact ⟨by rw [if_neg (by omega), if_neg (by omega), if_neg (by omega)]; exact hnth1, rfl⟩
      ·
        refine v_bipush (pc' := 32) rfl dX10_kinds_30 rfl ?_
        refine v_goto (tgt := 46) dX10_kinds_32 (by decide) ?_
        refine v_iret dX10_kinds_46 (by decide) (rfl) ?_
        first | exact ⟨by rw [if_pos (by omega)], rfl⟩ | exact ⟨by rw [if_neg (by omega), if_pos (by omega)]; exact hmany1, rfl⟩ | exact ⟨by rw [if_neg (by omega), if_neg (by omega), if_pos (by omega)], rfl⟩ | exact ⟨by rw [if_neg (by omega), if_neg (by omega), if_neg (by omega)]; exact hnth1, rfl⟩
    ·
      refine v_iload_n 0 (pc' := 24) rfl dX10_kinds_23 rfl rfl ?_
      refine v_iret dX10_kinds_24 (by decide) (rfl) ?_
      first | exact ⟨by rw [if_pos (by omega)], rfl⟩ | exact ⟨by rw [if_neg (by omega), if_pos (by omega)]; exact hmany1, rfl⟩ | exact ⟨by rw [if_neg (by omega), if_neg (by omega), if_pos (by omega)], rfl⟩ | exact ⟨by rw [if_neg (by omega), if_neg (by omega), if_neg (by omega)]; exact hnth1, rfl⟩
  ·
    refine v_iconst (pc' := 6) rfl dX10_kinds_5 ?_
    refine v_iret dX10_kinds_6 (by decide) (rfl) ?_
    first | exact ⟨by rw [if_pos (by omega)], rfl⟩ | exact ⟨by rw [if_neg (by omega), if_pos (by omega)]; exact hmany1, rfl⟩ | exact ⟨by rw [if_neg (by omega), if_neg (by omega), if_pos (by omega)], rfl⟩ | exact ⟨by rw [if_neg (by omega), if_neg (by omega), if_neg (by omega)]; exact hnth1, rfl⟩

/-! ===== DrawnMaps: feed, made, the album, keep, undo ===== -/
theorem iz_shrZ {v b : Int} (hv : rg v) {i : Nat} (hi : i < 4) (hb : b = 24 - 8 * (i : Int)) : iz v >>> (iz b &&& 31) = iz (v / (2 ^ (24 - 8 * i) : Nat)) := by
  rw [show b = ((24 - 8 * i : Nat) : Int) by omega]
  apply Int32.toInt_inj.mp
  rw [pk_shr _ _ (24 - 8 * i) (iz_amt _ (by omega)), iz_toInt hv, Int.shiftRight_eq_div_pow]
  rcases (show i = 0 ∨ i = 1 ∨ i = 2 ∨ i = 3 by omega) with rfl | rfl | rfl | rfl <;> (simp only [Nat.reduceMul, Nat.reduceSub, Nat.reducePow]; rw [iz_toInt ⟨by omega, by omega⟩])
theorem iz_and255 (z : Int) : iz z &&& iz 255 = iz (z % 256) := by
  have h := iz_andlow (a := ((z % 4294967296).toNat : Nat)) (b := 255) (m := (z % 4294967296).toNat) (k := 8) rfl (by decide)
  have e : (((z % 4294967296).toNat % 2 ^ 8 : Nat) : Int) = z % 256 := by simp only [Nat.reducePow]; omega
  rw [iz_mod (a := z) (b := ((z % 4294967296).toNat : Nat)) (by omega), h, e]
def byt (v : Int) (i : Nat) : Int := v / (2 ^ (24 - 8 * i) : Nat) % 256
theorem byt_in (v : Int) (i : Nat) : 0 ≤ byt v i ∧ byt v i ≤ 255 := by unfold byt; omega
def apT (T : Nat → Int) (b : Nat) (v : Int) (m : Nat) : Nat → Int := fun j => if b ≤ j ∧ j < b + m then byt v (j - b) else T j
set_option maxHeartbeats 4000000 in
set_option maxRecDepth 100000 in
theorem c_append (l : Launch) (G : Gx) {v : Int} {b : Nat} (hv : rg v) (hb : b + 4 ≤ 120) (w : Wd) (hB : w 0 1 = (b : Nat)) : Sp l G 0 mX10_append [aR 0, aI (v)] w (fun _ w' => w' 0 1 = ((b + 4 : Nat) : Int) ∧ (∀ j, w' 1 j = apT (w 1) b v 4 j) ∧ (∀ j, j ≠ 1 → w' 0 j = w 0 j) ∧ Fr [0, 1] w w') := by
  refine Sp_of RX10 rfl (by decide +kernel) rfl (Nat.le_of_ble_eq_true rfl) ?_
  refine v_bipush (pc' := 2) rfl dX10_append_0 rfl ?_
  refine v_istore_n (ls' := [(2, _), (0, _), (1, _)]) (pc' := 3) rfl dX10_append_2 rfl rfl rfl ?_
  refine v_ls [1, 2, 0] rfl ?_
  refine v_loop2 3 (fun (sh : Int) (wl : Wd) => ∃ i : Nat, sh = 24 - 8 * (i : Int) ∧ i ≤ 4 ∧ wl 0 1 = ((b + i : Nat) : Int) ∧ (∀ j, wl 1 j = apT (w 1) b v i j) ∧ (∀ j, j ≠ 1 → wl 0 j = w 0 j) ∧ Fr [0, 1] w wl) (fun (sh : Int) (wl : Wd) => (sh + 8).toNat) (fun (sh : Int) (wl : Wd) => [(0, aR 0), (1, aI (v)), (2, aI (sh))]) (fun (sh : Int) (wl : Wd) => []) (fun (sh : Int) (wl : Wd) => wl) (fun sh wl hI0 ih0 => ?_) (24) w (⟨0, rfl, by omega, hB, fun j => by unfold apT; rw [if_neg (by omega)], fun _ _ => rfl, Fr.rf _ _⟩)
  obtain ⟨i, hsh, hi, hb1, hT, hO, hf⟩ := hI0
  refine v_iload_n 2 (pc' := 4) rfl dX10_append_3 rfl rfl ?_
  refine v_if_lt (pc' := 7) (tgt := 48) rfl dX10_append_4 (by decide) (by omega) (fun c0 => ?_) (fun c0 => ?_)
  ·
    have hi4 : i = 4 := by omega
    subst hi4
    refine v_vret dX10_append_48 ?_
    exact ⟨hb1, hT, hO, hf⟩
  ·
    refine v_aload_n 0 (pc' := 8) rfl dX10_append_7 rfl rfl ?_
    refine v_get (z := ((b + i : Nat) : Int)) (pc' := 11) rfl dX10_append_8 fk_RX10_73 ly_0 rfl (hb1) ?_
    refine v_bipush (pc' := 13) rfl dX10_append_11 rfl ?_
    refine v_icmp_ge (pc' := 16) (tgt := 42) rfl dX10_append_13 (by decide) (by omega) (by omega) (fun c1 => absurd c1 (by omega)) (fun c1 => ?_)
    refine v_aload_n 0 (pc' := 17) rfl dX10_append_16 rfl rfl ?_
    refine v_getR (pc' := 20) rfl dX10_append_17 fk_RX10_9 ly_0 rfl ?_
    refine v_aload_n 0 (pc' := 21) rfl dX10_append_20 rfl rfl ?_
    refine v_get (z := ((b + i : Nat) : Int)) (pc' := 24) rfl dX10_append_21 fk_RX10_73 ly_0 rfl (hb1) ?_
    refine v_iload_n 1 (pc' := 25) rfl dX10_append_24 rfl rfl ?_
    refine v_iload_n 2 (pc' := 26) rfl dX10_append_25 rfl rfl ?_
    refine v_ishr (z := (v / (2 ^ (24 - 8 * i) : Nat))) (pc' := 27) rfl dX10_append_26 (iz_shrZ hv (by omega) hsh) ?_
    refine v_sipush (pc' := 30) rfl dX10_append_27 rfl ?_
    refine v_iand (z := (byt v i)) (pc' := 31) rfl dX10_append_30 (iz_and255 _) ?_
    refine v_iast (pc' := 32) rfl dX10_append_31 ly_1 (by omega) (by omega) rfl ?_
    refine v_nmw (fun w1 hw1 => ?_)
    have hb1 : w1 0 1 = ((b + i : Nat) : Int) := by rw [hw1, up_ne _ _ (by omega)]; exact hb1
    refine v_aload_n 0 (pc' := 33) rfl dX10_append_32 rfl rfl ?_
    refine v_dupR (pc' := 34) rfl dX10_append_33 ?_
    refine v_get (z := ((b + i : Nat) : Int)) (pc' := 37) rfl dX10_append_34 fk_RX10_73 ly_0 rfl (hb1) ?_
    refine v_iconst (pc' := 38) rfl dX10_append_37 ?_
    refine v_iadd (pc' := 39) rfl dX10_append_38 ?_
    refine v_put (pc' := 42) rfl dX10_append_39 fi_RX10_73 ly_0 rfl ?_
    refine v_nmw (fun w2 hw2 => ?_)
    have F0_1 : w2 0 1 = (((b + i : Nat) : Int) + 1) := by rw [hw2, up_eq]
    refine v_iinc (ls' := [(2, _), (0, _), (1, _)]) 2 (pc' := 45) rfl dX10_append_42 rfl rfl rfl ?_
    refine v_nl (fun sh' hsh' => ?_)
    refine v_goto (tgt := 3) dX10_append_45 (by decide) ?_
    refine v_ls [1, 2, 0] rfl ?_
    exact ih0 (sh') w2 (⟨i + 1, by omega, by omega, by rw [hw2, up_eq]; omega, fun j => by
        rw [hw2, up_ne _ _ (by omega), hw1, show (((b + i : Nat) : Int)).toNat = b + i by omega, up_at]
        unfold apT
        by_cases q : j = b + i
        · rw [if_pos ⟨rfl, q⟩, if_pos (by omega), show j - b = i by omega]
        · rw [if_neg (fun e => q e.2), hT j]
          unfold apT
          by_cases r : b ≤ j ∧ j < b + i
          · rw [if_pos r, if_pos (by omega)]
          · rw [if_neg r, if_neg (by omega)], fun j hj => by rw [hw2, up_ne _ _ (by omega), hw1, up_ne _ _ (by omega)]; exact hO j hj, by rw [hw2, hw1]; exact (hf.up rfl).up rfl⟩) (by omega)
def fdT (T : Nat → Int) (b : Nat) (v1 v2 v3 v4 v5 : Int) : Nat → Int := apT (apT (apT (apT (apT T b v1 4) (b + 4) v2 4) (b + 8) v3 4) (b + 12) v4 4) (b + 16) v5 4
theorem apT_in {T : Nat → Int} (h : ∀ j, j < 120 → 0 ≤ T j ∧ T j ≤ 255) (b : Nat) (v : Int) (m : Nat) : ∀ j, j < 120 → 0 ≤ apT T b v m j ∧ apT T b v m j ≤ 255 := fun j hj => by
  unfold apT
  split
  · exact byt_in _ _
  · exact h j hj
def FedP (w : Wd) (b : Nat) (v1 v2 v3 v4 v5 z : Int) (w' : Wd) : Prop := (100 < b ∧ w' = w ∧ z = -1) ∨
  (b ≤ 100 ∧ w' 0 1 = ((b + 20 : Nat) : Int) ∧ (∀ j, w' 1 j = fdT (w 1) b v1 v2 v3 v4 v5 j) ∧ (∀ j, j ≠ 1 → w' 0 j = w 0 j) ∧ Fr [0, 1] w w' ∧ z = ((b + 20 : Nat) : Int))
set_option maxHeartbeats 4000000 in
set_option maxRecDepth 100000 in
theorem c_feed (l : Launch) (G : Gx) {v1 v2 v3 v4 v5 : Int} {b : Nat} (hv1 : rg v1) (hv2 : rg v2) (hv3 : rg v3) (hv4 : rg v4) (hv5 : rg v5) (hb : b ≤ 120) (w : Wd) (hB : w 0 1 = (b : Nat)) : Sp l G 1 mX10_feed [aR 0, aI (v1), aI (v2), aI (v3), aI (v4), aI (v5)] w (fun z w' => FedP w b v1 v2 v3 v4 v5 z w') := by
  refine Sp_of RX10 rfl (by decide +kernel) rfl (Nat.le_of_ble_eq_true rfl) ?_
  refine v_aload_n 0 (pc' := 1) rfl dX10_feed_0 rfl rfl ?_
  refine v_get (z := (b : Int)) (pc' := 4) rfl dX10_feed_1 fk_RX10_73 ly_0 rfl (hB) ?_
  refine v_bipush (pc' := 6) rfl dX10_feed_4 rfl ?_
  refine v_iadd (pc' := 7) rfl dX10_feed_6 ?_
  refine v_bipush (pc' := 9) rfl dX10_feed_7 rfl ?_
  refine v_icmp_le (pc' := 12) (tgt := 14) rfl dX10_feed_9 (by decide) (by omega) (by omega) (fun c0 => ?_) (fun c0 => ?_)
  ·
    refine v_aload_n 0 (pc' := 15) rfl dX10_feed_14 rfl rfl ?_
    refine v_iload_n 1 (pc' := 16) rfl dX10_feed_15 rfl rfl ?_
    refine v_cVv (pc' := 19) rfl dX10_feed_16 lk_RX10_77 ly_0 rfl (c_append l G (b := b + 0) hv1 (by omega) w hB) rfl rfl rfl (fun append1 w1 hq1 => ?_)
    obtain ⟨b1, t1, o1, f1⟩ := hq1
    refine v_aload_n 0 (pc' := 20) rfl dX10_feed_19 rfl rfl ?_
    refine v_iload_n 2 (pc' := 21) rfl dX10_feed_20 rfl rfl ?_
    refine v_cVv (pc' := 24) rfl dX10_feed_21 lk_RX10_77 ly_0 rfl (c_append l G (b := b + 4) hv2 (by omega) w1 b1) rfl rfl rfl (fun append2 w2 hq2 => ?_)
    obtain ⟨b2, t2, o2, f2⟩ := hq2
    refine v_aload_n 0 (pc' := 25) rfl dX10_feed_24 rfl rfl ?_
    refine v_iload_n 3 (pc' := 26) rfl dX10_feed_25 rfl rfl ?_
    refine v_cVv (pc' := 29) rfl dX10_feed_26 lk_RX10_77 ly_0 rfl (c_append l G (b := b + 8) hv3 (by omega) w2 b2) rfl rfl rfl (fun append3 w3 hq3 => ?_)
    obtain ⟨b3, t3, o3, f3⟩ := hq3
    refine v_aload_n 0 (pc' := 30) rfl dX10_feed_29 rfl rfl ?_
    refine v_iload 4 (pc' := 32) rfl dX10_feed_30 rfl ?_
    refine v_cVv (pc' := 35) rfl dX10_feed_32 lk_RX10_77 ly_0 rfl (c_append l G (b := b + 12) hv4 (by omega) w3 b3) rfl rfl rfl (fun append4 w4 hq4 => ?_)
    obtain ⟨b4, t4, o4, f4⟩ := hq4
    refine v_aload_n 0 (pc' := 36) rfl dX10_feed_35 rfl rfl ?_
    refine v_iload 5 (pc' := 38) rfl dX10_feed_36 rfl ?_
    refine v_cVv (pc' := 41) rfl dX10_feed_38 lk_RX10_77 ly_0 rfl (c_append l G (b := b + 16) hv5 (by omega) w4 b4) rfl rfl rfl (fun append5 w5 hq5 => ?_)
    obtain ⟨b5, t5, o5, f5⟩ := hq5
    refine v_aload_n 0 (pc' := 42) rfl dX10_feed_41 rfl rfl ?_
    refine v_get (z := ((b + 16 + 4 : Nat) : Int)) (pc' := 45) rfl dX10_feed_42 fk_RX10_73 ly_0 rfl (b5) ?_
    refine v_iret dX10_feed_45 (by decide) (rfl) ?_
    first | exact Or.inl ⟨by omega, rfl, rfl⟩ | skip
    first | done | (refine Or.inr ⟨by omega, b5, fun j => ?_, fun j hj => by rw [o5 j hj, o4 j hj, o3 j hj, o2 j hj, o1 j hj], ((((f1.trs f2).trs f3).trs f4).trs f5), rfl⟩; rw [t5 j]; unfold fdT; rw [show w4 1 = _ from funext t4, show w3 1 = _ from funext t3, show w2 1 = _ from funext t2, show w1 1 = _ from funext t1]; rfl)
  ·
    refine v_iconst (pc' := 13) rfl dX10_feed_12 ?_
    refine v_iret dX10_feed_13 (by decide) (rfl) ?_
    first | exact Or.inl ⟨by omega, rfl, rfl⟩ | skip
    first | done | (refine Or.inr ⟨by omega, b5, fun j => ?_, fun j hj => by rw [o5 j hj, o4 j hj, o3 j hj, o2 j hj, o1 j hj], ((((f1.trs f2).trs f3).trs f4).trs f5), rfl⟩; rw [t5 j]; unfold fdT; rw [show w4 1 = _ from funext t4, show w3 1 = _ from funext t3, show w2 1 = _ from funext t2, show w1 1 = _ from funext t1]; rfl)
def MadP (w : Wd) (n : Nat) (s a : Nat → Nat) (b k what z : Int) (w' : Wd) : Prop :=
  (¬ ((0 ≤ what ∧ what ≤ 2) ∧ 1 ≤ k ∧ k ≤ 60 ∧ k ≤ b) ∧ w' = w ∧ z = -1) ∨
  (((0 ≤ what ∧ what ≤ 2) ∧ 1 ≤ k ∧ k ≤ 60 ∧ k ≤ b) ∧ Fr [0, 14, 15, 16] w w' ∧ w' 0 1 = 0 ∧ (∀ j, j ≠ 1 → w' 0 j = w 0 j) ∧ GInv w' ∧
    ((spI s a (w 1) k.toNat 0 pid < 0 ∧ z = spI s a (w 1) k.toNat 0 pid) ∨ ∃ g, Pm n g ∧ spI s a (w 1) k.toNat 0 pid = (hx g : Nat) ∧
      z = if what = 0 then (cdk g n : Int) else if what = 1 then (kindN g n : Int) else (bfs n s a).2 (rankN g n)))
theorem GInv.fr {w w' : Wd} (h : GInv w) (hf : Fr [0, 1, 2, 3, 4, 5] w w') : GInv w' := by
  unfold GInv GrpOK GW at *
  simp only [hf 14 _ rfl, hf 15 _ rfl, hf 16 _ rfl]
  exact h
set_option maxHeartbeats 4000000 in
set_option maxRecDepth 100000 in
theorem c_made (l : Launch) (G : Gx) {k what b : Int} (hk : rg k) (hwt : rg what) (hb : rg b) {n : Nat} {s a : Nat → Nat} (hV : MapV n s a) (w : Wd) (hM : MapW w n s a) (hG : GInv w) (hB : w 0 1 = b) (hT : ∀ j, j < 120 → rg (w 1 j)) : Sp l G 6 mX10_made [aR 0, aI (k), aI (what)] w (fun z w' => MadP w n s a b k what z w') := by
  obtain ⟨⟨hn1, hn7⟩, hs, ha⟩ := id hV
  obtain ⟨m0, m1, m2⟩ := id hM
  have hsp := spI_in hV (w 1) k.toNat 0 pid (pm_id n)
  refine Sp_of RX10 rfl (by decide +kernel) rfl (Nat.le_of_ble_eq_true rfl) ?_
  refine v_iload_n 2 (pc' := 1) rfl dX10_made_0 rfl rfl ?_
  refine v_if_lt (pc' := 4) (tgt := 17) rfl dX10_made_1 (by decide) (by omega) (fun c0 => ?_) (fun c0 => ?_)
  ·
    refine v_iconst (pc' := 18) rfl dX10_made_17 ?_
    refine v_iret dX10_made_18 (by decide) (rfl) ?_
    first | exact Or.inl ⟨by omega, rfl, rfl⟩ | exact Or.inl ⟨fun q => hq q.2, rfl, rfl⟩ | exact Or.inr ⟨⟨by omega, hq⟩, f1.mono rfl, hb2, ho2, hG2, Or.inl ⟨hneg, e2⟩⟩ | exact Or.inr ⟨⟨by omega, hq⟩, (f1.mono rfl).trs (f3.mono rfl), by rw [f3 0 1 rfl]; exact hb2, fun j hj => by rw [f3 0 j rfl]; exact ho2 j hj, Or.inr ⟨n, s, a, ⟨hn1, hn7⟩, hs, ha, g3⟩, Or.inr ⟨g, hg, hge, by rw [if_neg (by omega), if_neg (by omega)]; exact hturnsTo1⟩⟩ | exact Or.inr ⟨⟨by omega, hq⟩, f1.mono rfl, hb2, ho2, hG2, Or.inr ⟨g, hg, hge, by rw [if_pos (by omega)]; exact hdigits1⟩⟩ | exact Or.inr ⟨⟨by omega, hq⟩, f1.mono rfl, hb2, ho2, hG2, Or.inr ⟨g, hg, hge, by rw [if_neg (by omega), if_pos (by omega)]; exact hkind1⟩⟩
  ·
    refine v_iload_n 2 (pc' := 5) rfl dX10_made_4 rfl rfl ?_
    refine v_iconst (pc' := 6) rfl dX10_made_5 ?_
    refine v_icmp_gt (pc' := 9) (tgt := 17) rfl dX10_made_6 (by decide) (by omega) (by omega) (fun c1 => ?_) (fun c1 => ?_)
    ·
      refine v_iconst (pc' := 18) rfl dX10_made_17 ?_
      refine v_iret dX10_made_18 (by decide) (rfl) ?_
      first | exact Or.inl ⟨by omega, rfl, rfl⟩ | exact Or.inl ⟨fun q => hq q.2, rfl, rfl⟩ | exact Or.inr ⟨⟨by omega, hq⟩, f1.mono rfl, hb2, ho2, hG2, Or.inl ⟨hneg, e2⟩⟩ | exact Or.inr ⟨⟨by omega, hq⟩, (f1.mono rfl).trs (f3.mono rfl), by rw [f3 0 1 rfl]; exact hb2, fun j hj => by rw [f3 0 j rfl]; exact ho2 j hj, Or.inr ⟨n, s, a, ⟨hn1, hn7⟩, hs, ha, g3⟩, Or.inr ⟨g, hg, hge, by rw [if_neg (by omega), if_neg (by omega)]; exact hturnsTo1⟩⟩ | exact Or.inr ⟨⟨by omega, hq⟩, f1.mono rfl, hb2, ho2, hG2, Or.inr ⟨g, hg, hge, by rw [if_pos (by omega)]; exact hdigits1⟩⟩ | exact Or.inr ⟨⟨by omega, hq⟩, f1.mono rfl, hb2, ho2, hG2, Or.inr ⟨g, hg, hge, by rw [if_neg (by omega), if_pos (by omega)]; exact hkind1⟩⟩
    ·
      refine v_aload_n 0 (pc' := 10) rfl dX10_made_9 rfl rfl ?_
      refine v_iload_n 1 (pc' := 11) rfl dX10_made_10 rfl rfl ?_
      refine v_cVP (pc' := 14) rfl dX10_made_11 lk_RX10_112 ly_0 rfl (c_readable l G hk hb w hB) rfl rfl rfl ?_
      refine v_nm (fun readable1 hreadable1 => ?_)
      refine v_if_ne (pc' := 17) (tgt := 19) rfl dX10_made_14 (by decide) (rdb_r hreadable1) (fun c2 => ?_) (fun c2 => ?_)
      ·
        have hq := rdb_1 hreadable1 (by omega)
        refine v_aload_n 0 (pc' := 20) rfl dX10_made_19 rfl rfl ?_
        refine v_iload_n 1 (pc' := 21) rfl dX10_made_20 rfl rfl ?_
        refine v_cVi (pc' := 24) rfl dX10_made_21 lk_RX10_337 ly_0 rfl (c_spelt l G hk hV w hM hT) rfl rfl rfl (fun spelt1 w2 hq2 => ?_)
        obtain ⟨e1, e2⟩ := hq2
        rw [show min k.toNat 120 = k.toNat by omega] at e2
        have hrs := spI_r hn7 e2 hsp (by omega)
        have f1 : Fr [0] w w2 := by rw [e1]; exact (Fr.rf _ _).up rfl
        have hG2 : GInv w2 := hG.fr (f1.mono rfl)
        have hb2 : w2 0 1 = 0 := by rw [e1, up_eq]
        have ho2 : ∀ j, j ≠ 1 → w2 0 j = w 0 j := fun j hj => by rw [e1, up_ne _ _ (by omega)]
        have m0 : w2 2 0 = (n : Int) := (f1 2 0 (by decide)).trans m0
        have m1 : w2 2 1 = ((hx s : Nat) : Int) := (f1 2 1 (by decide)).trans m1
        have m2 : w2 2 2 = ((hx a : Nat) : Int) := (f1 2 2 (by decide)).trans m2
        refine v_istore_n (ls' := [(3, _), (0, _), (1, _), (2, _)]) (pc' := 25) rfl dX10_made_24 rfl rfl rfl ?_
        refine v_iload_n 0 (pc' := 26) rfl dX10_made_25 rfl rfl ?_
        refine v_if_ge (pc' := 29) (tgt := 31) rfl dX10_made_26 (by decide) (by omega) (fun c3 => ?_) (fun c3 => ?_)
        ·
          obtain ⟨g, hg, hge⟩ := hsp.resolve_right (by omega)
          refine v_iload_n 3 (pc' := 32) rfl dX10_made_31 rfl rfl ?_
          refine v_iconst (pc' := 33) rfl dX10_made_32 ?_
          refine v_icmp_ne (pc' := 36) (tgt := 73) rfl dX10_made_33 (by decide) (by omega) (by omega) (fun c4 => ?_) (fun c4 => ?_)
          ·
            refine v_iload_n 3 (pc' := 74) rfl dX10_made_73 rfl rfl ?_
            refine v_if_ne (pc' := 77) (tgt := 91) rfl dX10_made_74 (by decide) (by omega) (fun c5 => ?_) (fun c5 => ?_)
            ·
              refine v_iload_n 0 (pc' := 92) rfl dX10_made_91 rfl rfl ?_
              refine v_aload_n 1 (pc' := 93) rfl dX10_made_92 rfl rfl ?_
              refine v_getR (pc' := 96) rfl dX10_made_93 fk_RX10_16 ly_0 rfl ?_
              refine v_get (z := (n : Int)) (pc' := 99) rfl dX10_made_96 fk_RX10_81 ly_2 rfl (m0) ?_
              refine v_cSP (pc' := 102) rfl dX10_made_99 lk_RX10_159 rfl (c_kind l G (e2.trans hge) (hg.b7 hn7) rfl hn7 w2) rfl rfl rfl ?_
              refine v_nm (fun kind1 hkind1 => ?_)
              refine v_iret dX10_made_102 (by decide) (rfl) ?_
              first | exact Or.inl ⟨by omega, rfl, rfl⟩ | exact Or.inl ⟨fun q => hq q.2, rfl, rfl⟩ | exact Or.inr ⟨⟨by omega, hq⟩, f1.mono rfl, hb2, ho2, hG2, Or.inl ⟨hneg, e2⟩⟩ | exact Or.inr ⟨⟨by omega, hq⟩, (f1.mono rfl).trs (f3.mono rfl), by rw [f3 0 1 rfl]; exact hb2, fun j hj => by rw [f3 0 j rfl]; exact ho2 j hj, Or.inr ⟨n, s, a, ⟨hn1, hn7⟩, hs, ha, g3⟩, Or.inr ⟨g, hg, hge, by rw [if_neg (by omega), if_neg (by omega)]; exact hturnsTo1⟩⟩ | exact Or.inr ⟨⟨by omega, hq⟩, f1.mono rfl, hb2, ho2, hG2, Or.inr ⟨g, hg, hge, by rw [if_pos (by omega)]; exact hdigits1⟩⟩ | exact Or.inr ⟨⟨by omega, hq⟩, f1.mono rfl, hb2, ho2, hG2, Or.inr ⟨g, hg, hge, by rw [if_neg (by omega), if_pos (by omega)]; exact hkind1⟩⟩
            ·
              refine v_iload_n 0 (pc' := 78) rfl dX10_made_77 rfl rfl ?_
              refine v_aload_n 1 (pc' := 79) rfl dX10_made_78 rfl rfl ?_
              refine v_getR (pc' := 82) rfl dX10_made_79 fk_RX10_16 ly_0 rfl ?_
              refine v_get (z := (n : Int)) (pc' := 85) rfl dX10_made_82 fk_RX10_81 ly_2 rfl (m0) ?_
              refine v_cSP (pc' := 88) rfl dX10_made_85 lk_RX10_105 rfl (c_digits l G (e2.trans hge) (hg.B hn7) rfl hn7 w2) rfl rfl rfl ?_
              refine v_nm (fun digits1 hdigits1 => ?_)
              refine v_goto (tgt := 102) dX10_made_88 (by decide) ?_
              refine v_iret dX10_made_102 (by decide) (rfl) ?_
              first | exact Or.inl ⟨by omega, rfl, rfl⟩ | exact Or.inl ⟨fun q => hq q.2, rfl, rfl⟩ | exact Or.inr ⟨⟨by omega, hq⟩, f1.mono rfl, hb2, ho2, hG2, Or.inl ⟨hneg, e2⟩⟩ | exact Or.inr ⟨⟨by omega, hq⟩, (f1.mono rfl).trs (f3.mono rfl), by rw [f3 0 1 rfl]; exact hb2, fun j hj => by rw [f3 0 j rfl]; exact ho2 j hj, Or.inr ⟨n, s, a, ⟨hn1, hn7⟩, hs, ha, g3⟩, Or.inr ⟨g, hg, hge, by rw [if_neg (by omega), if_neg (by omega)]; exact hturnsTo1⟩⟩ | exact Or.inr ⟨⟨by omega, hq⟩, f1.mono rfl, hb2, ho2, hG2, Or.inr ⟨g, hg, hge, by rw [if_pos (by omega)]; exact hdigits1⟩⟩ | exact Or.inr ⟨⟨by omega, hq⟩, f1.mono rfl, hb2, ho2, hG2, Or.inr ⟨g, hg, hge, by rw [if_neg (by omega), if_pos (by omega)]; exact hkind1⟩⟩
          ·
            refine v_aload_n 1 (pc' := 37) rfl dX10_made_36 rfl rfl ?_
            refine v_getR (pc' := 40) rfl dX10_made_37 fk_RX10_41 ly_0 rfl ?_
            refine v_aload_n 1 (pc' := 41) rfl dX10_made_40 rfl rfl ?_
            refine v_getR (pc' := 44) rfl dX10_made_41 fk_RX10_16 ly_0 rfl ?_
            refine v_get (z := (n : Int)) (pc' := 47) rfl dX10_made_44 fk_RX10_81 ly_2 rfl (m0) ?_
            refine v_aload_n 1 (pc' := 48) rfl dX10_made_47 rfl rfl ?_
            refine v_getR (pc' := 51) rfl dX10_made_48 fk_RX10_16 ly_0 rfl ?_
            refine v_get (z := ((hx s : Nat) : Int)) (pc' := 54) rfl dX10_made_51 fk_RX10_87 ly_2 rfl (m1) ?_
            refine v_aload_n 1 (pc' := 55) rfl dX10_made_54 rfl rfl ?_
            refine v_getR (pc' := 58) rfl dX10_made_55 fk_RX10_16 ly_0 rfl ?_
            refine v_get (z := ((hx a : Nat) : Int)) (pc' := 61) rfl dX10_made_58 fk_RX10_90 ly_2 rfl (m2) ?_
            refine v_cVv (pc' := 64) rfl dX10_made_61 lk_RX10_253 ly_14 rfl (c_fill l G (n := n) rfl hn1 hn7 hs ha rfl rfl w2 hG2) rfl rfl rfl (fun fill1 w3 hq3 => ?_)
            obtain ⟨f3, g3⟩ := hq3
            refine v_aload_n 1 (pc' := 65) rfl dX10_made_64 rfl rfl ?_
            refine v_getR (pc' := 68) rfl dX10_made_65 fk_RX10_41 ly_0 rfl ?_
            refine v_iload_n 0 (pc' := 69) rfl dX10_made_68 rfl rfl ?_
            refine v_cVP (pc' := 72) rfl dX10_made_69 lk_RX10_270 ly_14 rfl (c_turnsTo l G hn1 hn7 (e2.trans hge) hg w3 g3.2 g3.1.1) rfl rfl rfl ?_
            refine v_nm (fun turnsTo1 hturnsTo1 => ?_)
            refine v_iret dX10_made_72 (by decide) (rfl) ?_
            first | exact Or.inl ⟨by omega, rfl, rfl⟩ | exact Or.inl ⟨fun q => hq q.2, rfl, rfl⟩ | exact Or.inr ⟨⟨by omega, hq⟩, f1.mono rfl, hb2, ho2, hG2, Or.inl ⟨hneg, e2⟩⟩ | exact Or.inr ⟨⟨by omega, hq⟩, (f1.mono rfl).trs (f3.mono rfl), by rw [f3 0 1 rfl]; exact hb2, fun j hj => by rw [f3 0 j rfl]; exact ho2 j hj, Or.inr ⟨n, s, a, ⟨hn1, hn7⟩, hs, ha, g3⟩, Or.inr ⟨g, hg, hge, by rw [if_neg (by omega), if_neg (by omega)]; exact hturnsTo1⟩⟩ | exact Or.inr ⟨⟨by omega, hq⟩, f1.mono rfl, hb2, ho2, hG2, Or.inr ⟨g, hg, hge, by rw [if_pos (by omega)]; exact hdigits1⟩⟩ | exact Or.inr ⟨⟨by omega, hq⟩, f1.mono rfl, hb2, ho2, hG2, Or.inr ⟨g, hg, hge, by rw [if_neg (by omega), if_pos (by omega)]; exact hkind1⟩⟩
        ·
          have hneg : spI s a (w 1) k.toNat 0 pid < 0 := by omega
          refine v_iload_n 0 (pc' := 30) rfl dX10_made_29 rfl rfl ?_
          refine v_iret dX10_made_30 (by decide) (rfl) ?_
          first | exact Or.inl ⟨by omega, rfl, rfl⟩ | exact Or.inl ⟨fun q => hq q.2, rfl, rfl⟩ | exact Or.inr ⟨⟨by omega, hq⟩, f1.mono rfl, hb2, ho2, hG2, Or.inl ⟨hneg, e2⟩⟩ | exact Or.inr ⟨⟨by omega, hq⟩, (f1.mono rfl).trs (f3.mono rfl), by rw [f3 0 1 rfl]; exact hb2, fun j hj => by rw [f3 0 j rfl]; exact ho2 j hj, Or.inr ⟨n, s, a, ⟨hn1, hn7⟩, hs, ha, g3⟩, Or.inr ⟨g, hg, hge, by rw [if_neg (by omega), if_neg (by omega)]; exact hturnsTo1⟩⟩ | exact Or.inr ⟨⟨by omega, hq⟩, f1.mono rfl, hb2, ho2, hG2, Or.inr ⟨g, hg, hge, by rw [if_pos (by omega)]; exact hdigits1⟩⟩ | exact Or.inr ⟨⟨by omega, hq⟩, f1.mono rfl, hb2, ho2, hG2, Or.inr ⟨g, hg, hge, by rw [if_neg (by omega), if_pos (by omega)]; exact hkind1⟩⟩
      ·
        have hq := rdb_0 hreadable1 (by omega)
        refine v_iconst (pc' := 18) rfl dX10_made_17 ?_
        refine v_iret dX10_made_18 (by decide) (rfl) ?_
        first | exact Or.inl ⟨by omega, rfl, rfl⟩ | exact Or.inl ⟨fun q => hq q.2, rfl, rfl⟩ | exact Or.inr ⟨⟨by omega, hq⟩, f1.mono rfl, hb2, ho2, hG2, Or.inl ⟨hneg, e2⟩⟩ | exact Or.inr ⟨⟨by omega, hq⟩, (f1.mono rfl).trs (f3.mono rfl), by rw [f3 0 1 rfl]; exact hb2, fun j hj => by rw [f3 0 j rfl]; exact ho2 j hj, Or.inr ⟨n, s, a, ⟨hn1, hn7⟩, hs, ha, g3⟩, Or.inr ⟨g, hg, hge, by rw [if_neg (by omega), if_neg (by omega)]; exact hturnsTo1⟩⟩ | exact Or.inr ⟨⟨by omega, hq⟩, f1.mono rfl, hb2, ho2, hG2, Or.inr ⟨g, hg, hge, by rw [if_pos (by omega)]; exact hdigits1⟩⟩ | exact Or.inr ⟨⟨by omega, hq⟩, f1.mono rfl, hb2, ho2, hG2, Or.inr ⟨g, hg, hge, by rw [if_neg (by omega), if_pos (by omega)]; exact hkind1⟩⟩
abbrev PE : Type := Nat × ((Nat → Nat) × (Nat → Nat))
def pe0 : PE := (0, (pid, pid))
def AlW (w : Wd) (o : Nat) (AL : List PE) : Prop := w o 3 = (AL.length : Nat) ∧ ∀ i, i < AL.length → w (o + 1) i = ((AL.getD i pe0).1 : Nat) ∧ w (o + 2) i = (hx (AL.getD i pe0).2.1 : Nat) ∧ w (o + 3) i = (hx (AL.getD i pe0).2.2 : Nat)
def AlV (AL : List PE) : Prop := AL.length ≤ 12 ∧ ∀ q, q ∈ AL → MapV q.1 q.2.1 q.2.2
theorem AlV.at {AL : List PE} (h : AlV AL) {i : Nat} (hi : i < AL.length) : MapV (AL.getD i pe0).1 (AL.getD i pe0).2.1 (AL.getD i pe0).2.2 := h.2 _ (getD_mem hi)
def pieI (q : PE) (what : Int) : Int := if what = 0 then (q.1 : Int) else if what = 1 then (cdk q.2.1 q.1 : Int) else if what = 2 then (cdk q.2.2 q.1 : Int) else if what = 3 then genusI q.2.1 q.2.2 (full q.1) else -1
set_option maxHeartbeats 4000000 in
set_option maxRecDepth 100000 in
theorem c_piece (l : Launch) (G : Gx) {i what : Int} {AL : List PE} (hi : rg i) (hwt : rg what) (hAV : AlV AL) (w : Wd) (hA : AlW w 2 AL) : SpP l G 4 mX10_piece [aR 0, aI (i), aI (what)] w ((if 0 ≤ i ∧ i < (AL.length : Int) then pieI (AL.getD i.toNat pe0) what else -1)) := by
  obtain ⟨al, alA⟩ := id hA
  have al12 := hAV.1
  refine Sp_of RX10 rfl (by decide +kernel) rfl (Nat.le_of_ble_eq_true rfl) ?_
  refine v_iload_n 1 (pc' := 1) rfl dX10_piece_0 rfl rfl ?_
  refine v_if_lt (pc' := 4) (tgt := 21) rfl dX10_piece_1 (by decide) (by omega) (fun c0 => ?_) (fun c0 => ?_)
  ·
    refine v_iconst (pc' := 22) rfl dX10_piece_21 ?_
    refine v_iret dX10_piece_22 (by decide) (rfl) ?_
    first | exact ⟨by rw [if_neg (by omega)], rfl⟩ | exact ⟨by rw [if_pos (by omega), hz]; exact hq', rfl⟩ | exact ⟨by rw [if_pos (by omega), hz]; exact hdigits1, rfl⟩ | exact ⟨by rw [if_pos (by omega), hz]; exact hdigits2, rfl⟩ | exact ⟨by rw [if_pos (by omega), hz]; exact hgenus1, rfl⟩ | exact ⟨by rw [if_pos (by omega), hz], rfl⟩
  ·
    refine v_iload_n 1 (pc' := 5) rfl dX10_piece_4 rfl rfl ?_
    refine v_aload_n 0 (pc' := 6) rfl dX10_piece_5 rfl rfl ?_
    refine v_getR (pc' := 9) rfl dX10_piece_6 fk_RX10_16 ly_0 rfl ?_
    refine v_get (z := ((AL.length : Nat) : Int)) (pc' := 12) rfl dX10_piece_9 fk_RX10_214 ly_2 rfl (al) ?_
    refine v_icmp_ge (pc' := 15) (tgt := 21) rfl dX10_piece_12 (by decide) (by omega) (by omega) (fun c1 => ?_) (fun c1 => ?_)
    ·
      refine v_iconst (pc' := 22) rfl dX10_piece_21 ?_
      refine v_iret dX10_piece_22 (by decide) (rfl) ?_
      first | exact ⟨by rw [if_neg (by omega)], rfl⟩ | exact ⟨by rw [if_pos (by omega), hz]; exact hq', rfl⟩ | exact ⟨by rw [if_pos (by omega), hz]; exact hdigits1, rfl⟩ | exact ⟨by rw [if_pos (by omega), hz]; exact hdigits2, rfl⟩ | exact ⟨by rw [if_pos (by omega), hz]; exact hgenus1, rfl⟩ | exact ⟨by rw [if_pos (by omega), hz], rfl⟩
    ·
      refine v_iload_n 1 (pc' := 16) rfl dX10_piece_15 rfl rfl ?_
      refine v_bipush (pc' := 18) rfl dX10_piece_16 rfl ?_
      refine v_icmp_lt (pc' := 21) (tgt := 23) rfl dX10_piece_18 (by decide) (by omega) (by omega) (fun c2 => ?_) (fun c2 => ?_)
      ·
        have hil : i.toNat < AL.length := by omega
        have hq := hAV.at hil
        refine v_aload_n 0 (pc' := 24) rfl dX10_piece_23 rfl rfl ?_
        refine v_getR (pc' := 27) rfl dX10_piece_24 fk_RX10_16 ly_0 rfl ?_
        refine v_getR (pc' := 30) rfl dX10_piece_27 fk_RX10_376 ly_2 rfl ?_
        refine v_iload_n 1 (pc' := 31) rfl dX10_piece_30 rfl rfl ?_
        refine v_iald (z := (((AL.getD i.toNat pe0).1 : Nat) : Int)) (pc' := 32) rfl dX10_piece_31 ly_3 (by omega) (by omega) rfl ((alA i.toNat hil).1) ?_
        refine v_nm (fun q' hq' => ?_)
        refine v_istore_n (ls' := [(3, _), (0, _), (1, _), (2, _)]) (pc' := 33) rfl dX10_piece_32 rfl rfl rfl ?_
        refine v_iload_n 3 (pc' := 34) rfl dX10_piece_33 rfl rfl ?_
        rcases (show what = 0 ∨ what = 1 ∨ what = 2 ∨ what = 3 ∨ (what < 0 ∨ 3 < what) by omega) with sw0 | sw0 | sw0 | sw0 | sw0
        ·
          refine v_tin (tgt := 64) 0 dX10_piece_34 sw0 (by decide) (by decide) (by decide) rfl (by decide) ?_
          have hz : pieI (AL.getD i.toNat pe0) what = (((AL.getD i.toNat pe0).1 : Nat) : Int) := by unfold pieI; rw [if_pos sw0]
          refine v_iload_n 0 (pc' := 65) rfl dX10_piece_64 rfl rfl ?_
          refine v_iret dX10_piece_65 (by decide) (rfl) ?_
          first | exact ⟨by rw [if_neg (by omega)], rfl⟩ | exact ⟨by rw [if_pos (by omega), hz]; exact hq', rfl⟩ | exact ⟨by rw [if_pos (by omega), hz]; exact hdigits1, rfl⟩ | exact ⟨by rw [if_pos (by omega), hz]; exact hdigits2, rfl⟩ | exact ⟨by rw [if_pos (by omega), hz]; exact hgenus1, rfl⟩ | exact ⟨by rw [if_pos (by omega), hz], rfl⟩
        ·
          refine v_tin (tgt := 66) 1 dX10_piece_34 sw0 (by decide) (by decide) (by decide) rfl (by decide) ?_
          have hz : pieI (AL.getD i.toNat pe0) what = ((cdk (AL.getD i.toNat pe0).2.1 (AL.getD i.toNat pe0).1 : Nat) : Int) := by unfold pieI; rw [if_neg (by omega), if_pos sw0]
          refine v_aload_n 1 (pc' := 67) rfl dX10_piece_66 rfl rfl ?_
          refine v_getR (pc' := 70) rfl dX10_piece_67 fk_RX10_16 ly_0 rfl ?_
          refine v_getR (pc' := 73) rfl dX10_piece_70 fk_RX10_378 ly_2 rfl ?_
          refine v_iload_n 2 (pc' := 74) rfl dX10_piece_73 rfl rfl ?_
          refine v_iald (z := ((hx (AL.getD i.toNat pe0).2.1 : Nat) : Int)) (pc' := 75) rfl dX10_piece_74 ly_4 (by omega) (by omega) rfl ((alA i.toNat hil).2.1) ?_
          refine v_iload_n 0 (pc' := 76) rfl dX10_piece_75 rfl rfl ?_
          refine v_cSP (pc' := 79) rfl dX10_piece_76 lk_RX10_105 rfl (c_digits l G rfl (hq.2.1.B hq.1.2) hq' hq.1.2 w) rfl rfl rfl ?_
          refine v_nm (fun digits1 hdigits1 => ?_)
          refine v_iret dX10_piece_79 (by decide) (rfl) ?_
          first | exact ⟨by rw [if_neg (by omega)], rfl⟩ | exact ⟨by rw [if_pos (by omega), hz]; exact hq', rfl⟩ | exact ⟨by rw [if_pos (by omega), hz]; exact hdigits1, rfl⟩ | exact ⟨by rw [if_pos (by omega), hz]; exact hdigits2, rfl⟩ | exact ⟨by rw [if_pos (by omega), hz]; exact hgenus1, rfl⟩ | exact ⟨by rw [if_pos (by omega), hz], rfl⟩
        ·
          refine v_tin (tgt := 80) 2 dX10_piece_34 sw0 (by decide) (by decide) (by decide) rfl (by decide) ?_
          have hz : pieI (AL.getD i.toNat pe0) what = ((cdk (AL.getD i.toNat pe0).2.2 (AL.getD i.toNat pe0).1 : Nat) : Int) := by unfold pieI; rw [if_neg (by omega), if_neg (by omega), if_pos sw0]
          refine v_aload_n 1 (pc' := 81) rfl dX10_piece_80 rfl rfl ?_
          refine v_getR (pc' := 84) rfl dX10_piece_81 fk_RX10_16 ly_0 rfl ?_
          refine v_getR (pc' := 87) rfl dX10_piece_84 fk_RX10_381 ly_2 rfl ?_
          refine v_iload_n 2 (pc' := 88) rfl dX10_piece_87 rfl rfl ?_
          refine v_iald (z := ((hx (AL.getD i.toNat pe0).2.2 : Nat) : Int)) (pc' := 89) rfl dX10_piece_88 ly_5 (by omega) (by omega) rfl ((alA i.toNat hil).2.2) ?_
          refine v_iload_n 0 (pc' := 90) rfl dX10_piece_89 rfl rfl ?_
          refine v_cSP (pc' := 93) rfl dX10_piece_90 lk_RX10_105 rfl (c_digits l G rfl (hq.2.2.B hq.1.2) hq' hq.1.2 w) rfl rfl rfl ?_
          refine v_nm (fun digits2 hdigits2 => ?_)
          refine v_iret dX10_piece_93 (by decide) (rfl) ?_
          first | exact ⟨by rw [if_neg (by omega)], rfl⟩ | exact ⟨by rw [if_pos (by omega), hz]; exact hq', rfl⟩ | exact ⟨by rw [if_pos (by omega), hz]; exact hdigits1, rfl⟩ | exact ⟨by rw [if_pos (by omega), hz]; exact hdigits2, rfl⟩ | exact ⟨by rw [if_pos (by omega), hz]; exact hgenus1, rfl⟩ | exact ⟨by rw [if_pos (by omega), hz], rfl⟩
        ·
          refine v_tin (tgt := 94) 3 dX10_piece_34 sw0 (by decide) (by decide) (by decide) rfl (by decide) ?_
          have hz : pieI (AL.getD i.toNat pe0) what = genusI (AL.getD i.toNat pe0).2.1 (AL.getD i.toNat pe0).2.2 (full (AL.getD i.toNat pe0).1) := by unfold pieI; rw [if_neg (by omega), if_neg (by omega), if_neg (by omega), if_pos sw0]
          refine v_aload_n 1 (pc' := 95) rfl dX10_piece_94 rfl rfl ?_
          refine v_getR (pc' := 98) rfl dX10_piece_95 fk_RX10_16 ly_0 rfl ?_
          refine v_getR (pc' := 101) rfl dX10_piece_98 fk_RX10_378 ly_2 rfl ?_
          refine v_iload_n 2 (pc' := 102) rfl dX10_piece_101 rfl rfl ?_
          refine v_iald (z := ((hx (AL.getD i.toNat pe0).2.1 : Nat) : Int)) (pc' := 103) rfl dX10_piece_102 ly_4 (by omega) (by omega) rfl ((alA i.toNat hil).2.1) ?_
          refine v_aload_n 1 (pc' := 104) rfl dX10_piece_103 rfl rfl ?_
          refine v_getR (pc' := 107) rfl dX10_piece_104 fk_RX10_16 ly_0 rfl ?_
          refine v_getR (pc' := 110) rfl dX10_piece_107 fk_RX10_381 ly_2 rfl ?_
          refine v_iload_n 2 (pc' := 111) rfl dX10_piece_110 rfl rfl ?_
          refine v_iald (z := ((hx (AL.getD i.toNat pe0).2.2 : Nat) : Int)) (pc' := 112) rfl dX10_piece_111 ly_5 (by omega) (by omega) rfl ((alA i.toNat hil).2.2) ?_
          refine v_iload_n 0 (pc' := 113) rfl dX10_piece_112 rfl rfl ?_
          refine v_cSP (pc' := 116) rfl dX10_piece_113 lk_RX10_162 rfl (c_darts l G hq' hq.1.2 w) rfl rfl rfl ?_
          refine v_nm (fun darts1 hdarts1 => ?_)
          refine v_cSP (pc' := 119) rfl dX10_piece_116 lk_RX10_197 rfl (c_genus l G rfl rfl (hq.2.1.mono hq.1.2) (hq.2.2.mono hq.1.2) hdarts1 (full_lt hq.1.2) w) rfl rfl rfl ?_
          refine v_nm (fun genus1 hgenus1 => ?_)
          refine v_iret dX10_piece_119 (by decide) (rfl) ?_
          first | exact ⟨by rw [if_neg (by omega)], rfl⟩ | exact ⟨by rw [if_pos (by omega), hz]; exact hq', rfl⟩ | exact ⟨by rw [if_pos (by omega), hz]; exact hdigits1, rfl⟩ | exact ⟨by rw [if_pos (by omega), hz]; exact hdigits2, rfl⟩ | exact ⟨by rw [if_pos (by omega), hz]; exact hgenus1, rfl⟩ | exact ⟨by rw [if_pos (by omega), hz], rfl⟩
        ·
          refine v_tout (tgt := 120) dX10_piece_34 (by omega) sw0 (by decide) ?_
          have hz : pieI (AL.getD i.toNat pe0) what = -1 := by unfold pieI; rw [if_neg (by omega), if_neg (by omega), if_neg (by omega), if_neg (by omega)]
          refine v_iconst (pc' := 121) rfl dX10_piece_120 ?_
          refine v_iret dX10_piece_121 (by decide) (rfl) ?_
          first | exact ⟨by rw [if_neg (by omega)], rfl⟩ | exact ⟨by rw [if_pos (by omega), hz]; exact hq', rfl⟩ | exact ⟨by rw [if_pos (by omega), hz]; exact hdigits1, rfl⟩ | exact ⟨by rw [if_pos (by omega), hz]; exact hdigits2, rfl⟩ | exact ⟨by rw [if_pos (by omega), hz]; exact hgenus1, rfl⟩ | exact ⟨by rw [if_pos (by omega), hz], rfl⟩
      ·
        exfalso
        omega
def TakP (w : Wd) (n : Nat) (AL : List PE) (i z : Int) (w' : Wd) : Prop := (¬ (0 ≤ i ∧ i < (AL.length : Int)) ∧ w' = w ∧ z = -1) ∨
  ((0 ≤ i ∧ i < (AL.length : Int)) ∧ Fr [2] w w' ∧ MapW w' (AL.getD i.toNat pe0).1 (AL.getD i.toNat pe0).2.1 (AL.getD i.toNat pe0).2.2 ∧ (∀ j, 3 ≤ j → w' 2 j = w 2 j) ∧ z = n)
set_option maxHeartbeats 4000000 in
set_option maxRecDepth 100000 in
theorem c_take (l : Launch) (G : Gx) {i : Int} {AL : List PE} (hi : rg i) (hAV : AlV AL) {n : Nat} {s a : Nat → Nat} (hV : MapV n s a) (w : Wd) (hM : MapW w n s a) (hA : AlW w 2 AL) : Sp l G 0 mX10_take [aR 0, aI (i)] w (fun z w' => TakP w n AL i z w') := by
  obtain ⟨⟨hn1, hn7⟩, hs, ha⟩ := id hV
  obtain ⟨m0, m1, m2⟩ := id hM
  obtain ⟨al, alA⟩ := id hA
  have al12 := hAV.1
  refine Sp_of RX10 rfl (by decide +kernel) rfl (Nat.le_of_ble_eq_true rfl) ?_
  refine v_iload_n 1 (pc' := 1) rfl dX10_take_0 rfl rfl ?_
  refine v_if_lt (pc' := 4) (tgt := 21) rfl dX10_take_1 (by decide) (by omega) (fun c0 => ?_) (fun c0 => ?_)
  ·
    refine v_iconst (pc' := 22) rfl dX10_take_21 ?_
    refine v_iret dX10_take_22 (by decide) (rfl) ?_
    first | exact Or.inl ⟨by omega, rfl, rfl⟩ | exact Or.inr ⟨by omega, by rw [hw3, hw2, hw1]; exact (((Fr.rf _ _).up rfl).up rfl).up rfl, ⟨by rw [hw3, hw2, hw1]; rfl, by rw [hw3, hw2]; rfl, by rw [hw3]; rfl⟩, fun j hj => by rw [hw3, up_ne _ _ (by omega), hw2, up_ne _ _ (by omega), hw1, up_ne _ _ (by omega)], hwas'⟩
  ·
    refine v_iload_n 1 (pc' := 5) rfl dX10_take_4 rfl rfl ?_
    refine v_aload_n 0 (pc' := 6) rfl dX10_take_5 rfl rfl ?_
    refine v_getR (pc' := 9) rfl dX10_take_6 fk_RX10_16 ly_0 rfl ?_
    refine v_get (z := ((AL.length : Nat) : Int)) (pc' := 12) rfl dX10_take_9 fk_RX10_214 ly_2 rfl (al) ?_
    refine v_icmp_ge (pc' := 15) (tgt := 21) rfl dX10_take_12 (by decide) (by omega) (by omega) (fun c1 => ?_) (fun c1 => ?_)
    ·
      refine v_iconst (pc' := 22) rfl dX10_take_21 ?_
      refine v_iret dX10_take_22 (by decide) (rfl) ?_
      first | exact Or.inl ⟨by omega, rfl, rfl⟩ | exact Or.inr ⟨by omega, by rw [hw3, hw2, hw1]; exact (((Fr.rf _ _).up rfl).up rfl).up rfl, ⟨by rw [hw3, hw2, hw1]; rfl, by rw [hw3, hw2]; rfl, by rw [hw3]; rfl⟩, fun j hj => by rw [hw3, up_ne _ _ (by omega), hw2, up_ne _ _ (by omega), hw1, up_ne _ _ (by omega)], hwas'⟩
    ·
      refine v_iload_n 1 (pc' := 16) rfl dX10_take_15 rfl rfl ?_
      refine v_bipush (pc' := 18) rfl dX10_take_16 rfl ?_
      refine v_icmp_lt (pc' := 21) (tgt := 23) rfl dX10_take_18 (by decide) (by omega) (by omega) (fun c2 => ?_) (fun c2 => ?_)
      ·
        have hil : i.toNat < AL.length := by omega
        refine v_aload_n 0 (pc' := 24) rfl dX10_take_23 rfl rfl ?_
        refine v_getR (pc' := 27) rfl dX10_take_24 fk_RX10_16 ly_0 rfl ?_
        refine v_get (z := (n : Int)) (pc' := 30) rfl dX10_take_27 fk_RX10_81 ly_2 rfl (m0) ?_
        refine v_nm (fun was' hwas' => ?_)
        refine v_istore_n (ls' := [(2, _), (0, _), (1, _)]) (pc' := 31) rfl dX10_take_30 rfl rfl rfl ?_
        refine v_aload_n 1 (pc' := 32) rfl dX10_take_31 rfl rfl ?_
        refine v_getR (pc' := 35) rfl dX10_take_32 fk_RX10_16 ly_0 rfl ?_
        refine v_aload_n 1 (pc' := 36) rfl dX10_take_35 rfl rfl ?_
        refine v_getR (pc' := 39) rfl dX10_take_36 fk_RX10_16 ly_0 rfl ?_
        refine v_getR (pc' := 42) rfl dX10_take_39 fk_RX10_376 ly_2 rfl ?_
        refine v_iload_n 2 (pc' := 43) rfl dX10_take_42 rfl rfl ?_
        refine v_iald (z := (((AL.getD i.toNat pe0).1 : Nat) : Int)) (pc' := 44) rfl dX10_take_43 ly_3 (by omega) (by omega) rfl ((alA i.toNat hil).1) ?_
        refine v_put (pc' := 47) rfl dX10_take_44 fi_RX10_81 ly_2 rfl ?_
        refine v_nmw (fun w1 hw1 => ?_)
        have m1 : w1 2 1 = ((hx s : Nat) : Int) := by rw [hw1, up_ne _ _ (by omega)]; exact m1
        have m2 : w1 2 2 = ((hx a : Nat) : Int) := by rw [hw1, up_ne _ _ (by omega)]; exact m2
        have al : w1 2 3 = ((AL.length : Nat) : Int) := by rw [hw1, up_ne _ _ (by omega)]; exact al
        have F2_0 : w1 2 0 = ((((AL.getD i.toNat pe0).1 : Nat) : Int)) := by rw [hw1, up_eq]
        refine v_aload_n 1 (pc' := 48) rfl dX10_take_47 rfl rfl ?_
        refine v_getR (pc' := 51) rfl dX10_take_48 fk_RX10_16 ly_0 rfl ?_
        refine v_aload_n 1 (pc' := 52) rfl dX10_take_51 rfl rfl ?_
        refine v_getR (pc' := 55) rfl dX10_take_52 fk_RX10_16 ly_0 rfl ?_
        refine v_getR (pc' := 58) rfl dX10_take_55 fk_RX10_378 ly_2 rfl ?_
        refine v_iload_n 2 (pc' := 59) rfl dX10_take_58 rfl rfl ?_
        refine v_iald (z := ((hx (AL.getD i.toNat pe0).2.1 : Nat) : Int)) (pc' := 60) rfl dX10_take_59 ly_4 (by omega) (by omega) rfl (by rw [hw1]; exact (alA i.toNat hil).2.1) ?_
        refine v_put (pc' := 63) rfl dX10_take_60 fi_RX10_87 ly_2 rfl ?_
        refine v_nmw (fun w2 hw2 => ?_)
        have m2 : w2 2 2 = ((hx a : Nat) : Int) := by rw [hw2, up_ne _ _ (by omega)]; exact m2
        have al : w2 2 3 = ((AL.length : Nat) : Int) := by rw [hw2, up_ne _ _ (by omega)]; exact al
        have F2_0 : w2 2 0 = ((((AL.getD i.toNat pe0).1 : Nat) : Int)) := by rw [hw2, up_ne _ _ (by omega)]; exact F2_0
        have F2_1 : w2 2 1 = (((hx (AL.getD i.toNat pe0).2.1 : Nat) : Int)) := by rw [hw2, up_eq]
        refine v_aload_n 1 (pc' := 64) rfl dX10_take_63 rfl rfl ?_
        refine v_getR (pc' := 67) rfl dX10_take_64 fk_RX10_16 ly_0 rfl ?_
        refine v_aload_n 1 (pc' := 68) rfl dX10_take_67 rfl rfl ?_
        refine v_getR (pc' := 71) rfl dX10_take_68 fk_RX10_16 ly_0 rfl ?_
        refine v_getR (pc' := 74) rfl dX10_take_71 fk_RX10_381 ly_2 rfl ?_
        refine v_iload_n 2 (pc' := 75) rfl dX10_take_74 rfl rfl ?_
        refine v_iald (z := ((hx (AL.getD i.toNat pe0).2.2 : Nat) : Int)) (pc' := 76) rfl dX10_take_75 ly_5 (by omega) (by omega) rfl (by rw [hw2, hw1]; exact (alA i.toNat hil).2.2) ?_
        refine v_put (pc' := 79) rfl dX10_take_76 fi_RX10_90 ly_2 rfl ?_
        refine v_nmw (fun w3 hw3 => ?_)
        have al : w3 2 3 = ((AL.length : Nat) : Int) := by rw [hw3, up_ne _ _ (by omega)]; exact al
        have F2_0 : w3 2 0 = ((((AL.getD i.toNat pe0).1 : Nat) : Int)) := by rw [hw3, up_ne _ _ (by omega)]; exact F2_0
        have F2_1 : w3 2 1 = (((hx (AL.getD i.toNat pe0).2.1 : Nat) : Int)) := by rw [hw3, up_ne _ _ (by omega)]; exact F2_1
        have F2_2 : w3 2 2 = (((hx (AL.getD i.toNat pe0).2.2 : Nat) : Int)) := by rw [hw3, up_eq]
        refine v_iload_n 0 (pc' := 80) rfl dX10_take_79 rfl rfl ?_
        refine v_iret dX10_take_80 (by decide) (rfl) ?_
        first | exact Or.inl ⟨by omega, rfl, rfl⟩ | exact Or.inr ⟨by omega, by rw [hw3, hw2, hw1]; exact (((Fr.rf _ _).up rfl).up rfl).up rfl, ⟨by rw [hw3, hw2, hw1]; rfl, by rw [hw3, hw2]; rfl, by rw [hw3]; rfl⟩, fun j hj => by rw [hw3, up_ne _ _ (by omega), hw2, up_ne _ _ (by omega), hw1, up_ne _ _ (by omega)], hwas'⟩
      ·
        exfalso
        omega

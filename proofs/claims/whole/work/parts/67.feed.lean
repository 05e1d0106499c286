/-! ===== the reference: feed, drawn, operate ===== -/
def sby (x : Int) : Int := if x < 128 then x else x - 256
theorem i2b_iz {a : Int} (ha : rg a) : (iz a).toInt8.toInt32 = iz (sby (a % 256)) := by
  apply Int32.toInt_inj.mp
  rw [Int8.toInt_toInt32, Int32.toInt_toInt8, iz_toInt ha]
  unfold sby
  rw [Int.bmod_def]
  have h1 : (2 ^ 8 : Nat) = 256 := by decide
  rw [h1]
  split <;> split <;> (rw [iz_toInt ⟨by omega, by omega⟩]; omega)
theorem byte_iz {x : Int} (h : 0 ≤ x) (h2 : x ≤ 255) : vp_nar .byte (iz (sby x)) = iz (sby x) := by
  show (iz (sby x)).toInt8.toInt32 = iz (sby x)
  have hr : rg (sby x) := by unfold sby; split <;> omega
  rw [i2b_iz hr]
  congr 1
  unfold sby
  split <;> split <;> omega
def TpM (w : Wd) (T : Nat → Int) : Prop := ∀ j, j < 120 → w 74 j = sby (T j)
set_option maxHeartbeats 4000000 in
set_option maxRecDepth 100000 in
theorem c_typed4 (l : Launch) (G : Gx) {v : Int} {b : Nat} {T : Nat → Int} (hv : rg v) (hb : b + 4 ≤ 120) (w : Wd) (hB : w 63 16 = (b : Nat)) (hT : TpM w T) : Sp l G 0 mX11_typed4 [aR 63, aI (v)] w (fun _ w' => w' 63 16 = ((b + 4 : Nat) : Int) ∧ TpM w' (apT T b v 4) ∧ (∀ q, q ≠ 16 → w' 63 q = w 63 q) ∧ Fr [63, 74] w w') := by
  refine Sp_of RX11 rfl (by decide +kernel) rfl (Nat.le_of_ble_eq_true rfl) ?_
  refine v_iconst (pc' := 1) rfl dX11_typed4_0 ?_
  refine v_istore_n (ls' := [(2, _), (0, _), (1, _)]) (pc' := 2) rfl dX11_typed4_1 rfl rfl rfl ?_
  refine v_ls [1, 2, 0] rfl ?_
  refine v_loop2 2 (fun (k : Int) (wl : Wd) => ∃ i : Nat, k = 3 - (i : Int) ∧ i ≤ 4 ∧ wl 63 16 = ((b + i : Nat) : Int) ∧ TpM wl (apT T b v i) ∧ (∀ q, q ≠ 16 → wl 63 q = w 63 q) ∧ Fr [63, 74] w wl) (fun (k : Int) (wl : Wd) => (k + 1).toNat) (fun (k : Int) (wl : Wd) => [(0, aR 63), (1, aI (v)), (2, aI (k))]) (fun (k : Int) (wl : Wd) => []) (fun (k : Int) (wl : Wd) => wl) (fun k wl hI0 ih0 => ?_) (3) w (⟨0, rfl, by omega, hB, fun j hj => by unfold apT; rw [if_neg (by omega)]; exact hT j hj, fun _ _ => rfl, Fr.rf _ _⟩)
  obtain ⟨i, hk, hi, hb1, hTi, hO, hf⟩ := hI0
  refine v_iload_n 2 (pc' := 3) rfl dX11_typed4_2 rfl rfl ?_
  refine v_if_lt (pc' := 6) (tgt := 38) rfl dX11_typed4_3 (by decide) (by omega) (fun c0 => ?_) (fun c0 => ?_)
  ·
    have hi4 : i = 4 := by omega
    subst hi4
    refine v_vret dX11_typed4_38 ?_
    exact ⟨hb1, hTi, hO, hf⟩
  ·
    have hvr : rg (v / (2 ^ (24 - 8 * i) : Nat)) := by
      rcases (show i = 0 ∨ i = 1 ∨ i = 2 ∨ i = 3 by omega) with rfl | rfl | rfl | rfl <;> (simp only [Nat.reduceMul, Nat.reduceSub, Nat.reducePow]; omega)
    refine v_aload_n 0 (pc' := 7) rfl dX11_typed4_6 rfl rfl ?_
    refine v_getR (pc' := 10) rfl dX11_typed4_7 fk_RX11_40 ly_63 rfl ?_
    refine v_aload_n 0 (pc' := 11) rfl dX11_typed4_10 rfl rfl ?_
    refine v_get (z := ((b + i : Nat) : Int)) (pc' := 14) rfl dX11_typed4_11 fk_RX11_191 ly_63 rfl (hb1) ?_
    refine v_iload_n 1 (pc' := 15) rfl dX11_typed4_14 rfl rfl ?_
    refine v_bipush (pc' := 17) rfl dX11_typed4_15 rfl ?_
    refine v_iload_n 2 (pc' := 18) rfl dX11_typed4_17 rfl rfl ?_
    refine v_imul (pc' := 19) rfl dX11_typed4_18 ?_
    refine v_ishr (z := (v / (2 ^ (24 - 8 * i) : Nat))) (pc' := 20) rfl dX11_typed4_19 (iz_shrZ hv (by omega) (by omega)) ?_
    refine v_i2b (z := (sby (v / (2 ^ (24 - 8 * i) : Nat) % 256))) (pc' := 21) rfl dX11_typed4_20 (i2b_iz hvr) ?_
    refine v_bast (z := (sby (v / (2 ^ (24 - 8 * i) : Nat) % 256))) (pc' := 22) rfl dX11_typed4_21 ly_74 (by omega) (by omega) rfl (byte_iz (byt_in v i).1 (byt_in v i).2) ?_
    refine v_nmw (fun w1 hw1 => ?_)
    have hb1 : w1 63 16 = ((b + i : Nat) : Int) := by rw [hw1, up_ne _ _ (by omega)]; exact hb1
    refine v_aload_n 0 (pc' := 23) rfl dX11_typed4_22 rfl rfl ?_
    refine v_aload_n 0 (pc' := 24) rfl dX11_typed4_23 rfl rfl ?_
    refine v_get (z := ((b + i : Nat) : Int)) (pc' := 27) rfl dX11_typed4_24 fk_RX11_191 ly_63 rfl (hb1) ?_
    refine v_iconst (pc' := 28) rfl dX11_typed4_27 ?_
    refine v_iadd (pc' := 29) rfl dX11_typed4_28 ?_
    refine v_put (pc' := 32) rfl dX11_typed4_29 fi_RX11_191 ly_63 rfl ?_
    refine v_nmw (fun w2 hw2 => ?_)
    have F63_16 : w2 63 16 = (((b + i : Nat) : Int) + 1) := by rw [hw2, up_eq]
    refine v_iinc (ls' := [(2, _), (0, _), (1, _)]) 2 (pc' := 35) rfl dX11_typed4_32 rfl rfl rfl ?_
    refine v_nl (fun k' hk' => ?_)
    refine v_goto (tgt := 2) dX11_typed4_35 (by decide) ?_
    refine v_ls [1, 2, 0] rfl ?_
    exact ih0 (k') w2 (⟨i + 1, by omega, by omega, by rw [hw2, up_eq]; omega, fun j hj => by
        rw [hw2, up_ne _ _ (by omega), hw1, show (((b + i : Nat) : Int)).toNat = b + i by omega, up_at]
        unfold apT
        by_cases q : j = b + i
        · rw [if_pos ⟨rfl, q⟩, if_pos (by omega), show j - b = i by omega]; rfl
        · rw [if_neg (fun e => q e.2), hTi j hj]
          unfold apT
          by_cases r : b ≤ j ∧ j < b + i
          · rw [if_pos r, if_pos (by omega)]
          · rw [if_neg r, if_neg (by omega)], fun q hq => by rw [hw2, up_ne _ _ (by omega), hw1, up_ne _ _ (by omega)]; exact hO q hq, by rw [hw2, hw1]; exact (hf.up rfl).up rfl⟩) (by omega)
def FedM (w : Wd) (T : Nat → Int) (b : Nat) (v1 v2 v3 v4 v5 z : Int) (w' : Wd) : Prop := (100 < b ∧ w' = w ∧ z = -1) ∨
  (b ≤ 100 ∧ w' 63 16 = ((b + 20 : Nat) : Int) ∧ TpM w' (fdT T b v1 v2 v3 v4 v5) ∧ (∀ q, q ≠ 16 → w' 63 q = w 63 q) ∧ Fr [63, 74] w w' ∧ z = ((b + 20 : Nat) : Int))
set_option maxHeartbeats 4000000 in
set_option maxRecDepth 100000 in
theorem c_feedM (l : Launch) (G : Gx) {v1 v2 v3 v4 v5 : Int} {b : Nat} {T : Nat → Int} (hv1 : rg v1) (hv2 : rg v2) (hv3 : rg v3) (hv4 : rg v4) (hv5 : rg v5) (hb : b ≤ 120) (w : Wd) (hB : w 63 16 = (b : Nat)) (hT : TpM w T) : Sp l G 1 mX11_feed [aR 63, aI (v1), aI (v2), aI (v3), aI (v4), aI (v5)] w (fun z w' => FedM w T b v1 v2 v3 v4 v5 z w') := by
  refine Sp_of RX11 rfl (by decide +kernel) rfl (Nat.le_of_ble_eq_true rfl) ?_
  refine v_aload_n 0 (pc' := 1) rfl dX11_feed_0 rfl rfl ?_
  refine v_get (z := (b : Int)) (pc' := 4) rfl dX11_feed_1 fk_RX11_191 ly_63 rfl (hB) ?_
  refine v_bipush (pc' := 6) rfl dX11_feed_4 rfl ?_
  refine v_iadd (pc' := 7) rfl dX11_feed_6 ?_
  refine v_bipush (pc' := 9) rfl dX11_feed_7 rfl ?_
  refine v_icmp_le (pc' := 12) (tgt := 14) rfl dX11_feed_9 (by decide) (by omega) (by omega) (fun c0 => ?_) (fun c0 => ?_)
  ·
    refine v_aload_n 0 (pc' := 15) rfl dX11_feed_14 rfl rfl ?_
    refine v_iload_n 1 (pc' := 16) rfl dX11_feed_15 rfl rfl ?_
    refine v_cVv (pc' := 19) rfl dX11_feed_16 lk_RX11_194 ly_63 rfl (c_typed4 l G (b := b + 0) (T := T) hv1 (by omega) w hB hT) rfl rfl rfl (fun typed41 w1 hq1 => ?_)
    obtain ⟨b1, t1, o1, f1⟩ := hq1
    refine v_aload_n 0 (pc' := 20) rfl dX11_feed_19 rfl rfl ?_
    refine v_iload_n 2 (pc' := 21) rfl dX11_feed_20 rfl rfl ?_
    refine v_cVv (pc' := 24) rfl dX11_feed_21 lk_RX11_194 ly_63 rfl (c_typed4 l G (b := b + 4) (T := apT T b v1 4) hv2 (by omega) w1 b1 t1) rfl rfl rfl (fun typed42 w2 hq2 => ?_)
    obtain ⟨b2, t2, o2, f2⟩ := hq2
    refine v_aload_n 0 (pc' := 25) rfl dX11_feed_24 rfl rfl ?_
    refine v_iload_n 3 (pc' := 26) rfl dX11_feed_25 rfl rfl ?_
    refine v_cVv (pc' := 29) rfl dX11_feed_26 lk_RX11_194 ly_63 rfl (c_typed4 l G (b := b + 8) (T := apT (apT T b v1 4) (b + 4) v2 4) hv3 (by omega) w2 b2 t2) rfl rfl rfl (fun typed43 w3 hq3 => ?_)
    obtain ⟨b3, t3, o3, f3⟩ := hq3
    refine v_aload_n 0 (pc' := 30) rfl dX11_feed_29 rfl rfl ?_
    refine v_iload 4 (pc' := 32) rfl dX11_feed_30 rfl ?_
    refine v_cVv (pc' := 35) rfl dX11_feed_32 lk_RX11_194 ly_63 rfl (c_typed4 l G (b := b + 12) (T := apT (apT (apT T b v1 4) (b + 4) v2 4) (b + 8) v3 4) hv4 (by omega) w3 b3 t3) rfl rfl rfl (fun typed44 w4 hq4 => ?_)
    obtain ⟨b4, t4, o4, f4⟩ := hq4
    refine v_aload_n 0 (pc' := 36) rfl dX11_feed_35 rfl rfl ?_
    refine v_iload 5 (pc' := 38) rfl dX11_feed_36 rfl ?_
    refine v_cVv (pc' := 41) rfl dX11_feed_38 lk_RX11_194 ly_63 rfl (c_typed4 l G (b := b + 16) (T := apT (apT (apT (apT T b v1 4) (b + 4) v2 4) (b + 8) v3 4) (b + 12) v4 4) hv5 (by omega) w4 b4 t4) rfl rfl rfl (fun typed45 w5 hq5 => ?_)
    obtain ⟨b5, t5, o5, f5⟩ := hq5
    refine v_aload_n 0 (pc' := 42) rfl dX11_feed_41 rfl rfl ?_
    refine v_get (z := ((b + 16 + 4 : Nat) : Int)) (pc' := 45) rfl dX11_feed_42 fk_RX11_191 ly_63 rfl (b5) ?_
    refine v_iret dX11_feed_45 (by decide) (rfl) ?_
    first | exact Or.inl ⟨by omega, rfl, rfl⟩ | skip
    first | done | exact Or.inr ⟨by omega, b5, t5, fun j hj => by rw [o5 j hj, o4 j hj, o3 j hj, o2 j hj, o1 j hj], ((((f1.trs f2).trs f3).trs f4).trs f5), rfl⟩
  ·
    refine v_iconst (pc' := 13) rfl dX11_feed_12 ?_
    refine v_iret dX11_feed_13 (by decide) (rfl) ?_
    first | exact Or.inl ⟨by omega, rfl, rfl⟩ | skip
    first | done | exact Or.inr ⟨by omega, b5, t5, fun j hj => by rw [o5 j hj, o4 j hj, o3 j hj, o2 j hj, o1 j hj], ((((f1.trs f2).trs f3).trs f4).trs f5), rfl⟩
set_option maxHeartbeats 4000000 in
set_option maxRecDepth 100000 in
theorem c_hasText (l : Launch) (G : Gx) {k b : Int} (hk : rg k) (hb : rg b) (w : Wd) (hB : w 63 16 = b) : SpP l G 1 mX11_hasText [aR 63, aI (k)] w ((if 1 ≤ k ∧ k ≤ 60 ∧ k ≤ b then 1 else 0 : Int)) := by
  refine Sp_of RX11 rfl (by decide +kernel) rfl (Nat.le_of_ble_eq_true rfl) ?_
  refine v_iload_n 1 (pc' := 1) rfl dX11_hasText_0 rfl rfl ?_
  refine v_iconst (pc' := 2) rfl dX11_hasText_1 ?_
  refine v_bipush (pc' := 4) rfl dX11_hasText_2 rfl ?_
  refine v_cSP (pc' := 7) rfl dX11_hasText_4 lk_RX11_121 rfl (c_in l G hk (by decide) (by decide) w) rfl rfl rfl ?_
  refine v_nm (fun in1 hin1 => ?_)
  refine v_if_eq (pc' := 10) (tgt := 22) rfl dX11_hasText_7 (by decide) (inB_r hin1) (fun c0 => ?_) (fun c0 => ?_)
  ·
    have q := inB_0 hin1 (by omega)
    refine v_iconst (pc' := 23) rfl dX11_hasText_22 ?_
    refine v_iret dX11_hasText_23 (by decide) (rfl) ?_
    first | exact ⟨by rw [if_pos (by omega)], rfl⟩ | exact ⟨by rw [if_neg (by omega)], rfl⟩
  ·
    have q := inB_1 hin1 (by omega)
    refine v_iload_n 1 (pc' := 11) rfl dX11_hasText_10 rfl rfl ?_
    refine v_aload_n 0 (pc' := 12) rfl dX11_hasText_11 rfl rfl ?_
    refine v_get (z := b) (pc' := 15) rfl dX11_hasText_12 fk_RX11_191 ly_63 rfl (hB) ?_
    refine v_icmp_gt (pc' := 18) (tgt := 22) rfl dX11_hasText_15 (by decide) (by omega) (by omega) (fun c1 => ?_) (fun c1 => ?_)
    ·
      refine v_iconst (pc' := 23) rfl dX11_hasText_22 ?_
      refine v_iret dX11_hasText_23 (by decide) (rfl) ?_
      first | exact ⟨by rw [if_pos (by omega)], rfl⟩ | exact ⟨by rw [if_neg (by omega)], rfl⟩
    ·
      refine v_iconst (pc' := 19) rfl dX11_hasText_18 ?_
      refine v_goto (tgt := 23) dX11_hasText_19 (by decide) ?_
      refine v_iret dX11_hasText_23 (by decide) (rfl) ?_
      first | exact ⟨by rw [if_pos (by omega)], rfl⟩ | exact ⟨by rw [if_neg (by omega)], rfl⟩
set_option maxHeartbeats 4000000 in
set_option maxRecDepth 100000 in
theorem c_draw (l : Launch) (G : Gx) {m0 : Int} {m X : Nat} (hm : m0 = (m : Nat)) (hm1 : 1 ≤ m) (hm7 : m ≤ 7) (hX : X < 65536) (w : Wd) (hL : w 63 21 = (X : Nat)) : Sp l G 0 mX11_draw [aR 63, aI (m0)] w (fun z w' => w' = up w 63 21 (lotN X : Nat) ∧ z = ((lotN X / 4 % m : Nat) : Int)) := by
  have hll := lot_lt X
  refine Sp_of RX11 rfl (by decide +kernel) rfl (Nat.le_of_ble_eq_true rfl) ?_
  refine v_aload_n 0 (pc' := 1) rfl dX11_draw_0 rfl rfl ?_
  refine v_sipush (pc' := 4) rfl dX11_draw_1 rfl ?_
  refine v_aload_n 0 (pc' := 5) rfl dX11_draw_4 rfl rfl ?_
  refine v_get (z := (X : Int)) (pc' := 8) rfl dX11_draw_5 fk_RX11_228 ly_63 rfl (hL) ?_
  refine v_imul (pc' := 9) rfl dX11_draw_8 ?_
  refine v_sipush (pc' := 12) rfl dX11_draw_9 rfl ?_
  refine v_iadd (pc' := 13) rfl dX11_draw_12 ?_
  refine v_ldc (z := 65536) (pc' := 15) rfl dX11_draw_13 kc_RX11_231 ?_
  refine v_irem (z := ((lotN X : Nat) : Int)) (pc' := 16) rfl dX11_draw_15 (iz_ne (by decide) (by decide)) (by rw [show ((lotN X : Nat) : Int) = (25173 * (X : Int) + 13849) % 65536 by unfold lotN; omega]; exact iz_remN (by omega) (by omega) (by decide) (by decide)) ?_
  refine v_put (pc' := 19) rfl dX11_draw_16 fi_RX11_228 ly_63 rfl ?_
  refine v_nmw (fun w1 hw1 => ?_)
  have F63_21 : w1 63 21 = (((lotN X : Nat) : Int)) := by rw [hw1, up_eq]
  refine v_aload_n 0 (pc' := 20) rfl dX11_draw_19 rfl rfl ?_
  refine v_get (z := (((lotN X : Nat) : Int))) (pc' := 23) rfl dX11_draw_20 fk_RX11_228 ly_63 rfl (F63_21) ?_
  refine v_iconst (pc' := 24) rfl dX11_draw_23 ?_
  refine v_idiv (z := ((lotN X / 4 : Nat) : Int)) (pc' := 25) rfl dX11_draw_24 (iz_ne (by decide) (by omega)) (iz_divN (by omega) (by omega) (by omega) (by omega)) ?_
  refine v_iload_n 1 (pc' := 26) rfl dX11_draw_25 rfl rfl ?_
  refine v_irem (z := ((lotN X / 4 % m : Nat) : Int)) (pc' := 27) rfl dX11_draw_26 (iz_ne (by omega) (by omega)) (by rw [hm]; exact iz_remN (by omega) (by omega) (by omega) (by omega)) ?_
  refine v_iret dX11_draw_27 (by decide) (rfl) ?_
  exact ⟨hw1, rfl⟩
set_option maxHeartbeats 4000000 in
set_option maxRecDepth 100000 in
theorem c_drawnOne (l : Launch) (G : Gx) {n X : Nat} (hn1 : 1 ≤ n) (hn7 : n ≤ 7) (hX : X < 65536) (w : Wd) (r0 : w 63 0 = n) (hL : w 63 21 = (X : Nat)) : Sp l G 1 mX11_drawnOne [aR 63] w (fun z w' => w' 63 21 = ((shuL (n - 1) X pid).1 : Nat) ∧ z = (cdk (shuL (n - 1) X pid).2 n : Nat) ∧ (∀ q, q ≠ 21 → w' 63 q = w 63 q) ∧ Fr [63, 75] w w') := by
  refine Sp_of RX11 rfl (by decide +kernel) rfl (Nat.le_of_ble_eq_true rfl) ?_
  refine v_iconst (pc' := 1) rfl dX11_drawnOne_0 ?_
  refine v_istore_n (ls' := [(1, _), (0, _)]) (pc' := 2) rfl dX11_drawnOne_1 rfl rfl rfl ?_
  refine v_ls [1, 0] rfl ?_
  refine v_loop2 2 (fun (x : Int) (wa : Wd) => ∃ m : Nat, x = ((m + 1 : Nat) : Int) ∧ m ≤ n ∧ (∀ z, 1 ≤ z → z ≤ m → wa 75 z = (z : Nat)) ∧ Fr [75] w wa) (fun (x : Int) (wa : Wd) => (8 - x).toNat) (fun (x : Int) (wa : Wd) => [(0, aR 63), (1, aI (x))]) (fun (x : Int) (wa : Wd) => []) (fun (x : Int) (wa : Wd) => wa) (fun x wa hI0 ih0 => ?_) (1) w (⟨0, rfl, by omega, fun z a b => by omega, Fr.rf _ _⟩)
  obtain ⟨m, hx, hm, hA, hfa⟩ := hI0
  have g0 := (hfa 63 0 rfl).trans r0
  refine v_iload_n 1 (pc' := 3) rfl dX11_drawnOne_2 rfl rfl ?_
  refine v_aload_n 0 (pc' := 4) rfl dX11_drawnOne_3 rfl rfl ?_
  refine v_get (z := (n : Int)) (pc' := 7) rfl dX11_drawnOne_4 fk_RX11_125 ly_63 rfl (g0) ?_
  refine v_icmp_gt (pc' := 10) (tgt := 23) rfl dX11_drawnOne_7 (by decide) (by omega) (by omega) (fun c0 => ?_) (fun c0 => ?_)
  ·
    refine v_aload_n 0 (pc' := 24) rfl dX11_drawnOne_23 rfl rfl ?_
    refine v_get (z := (n : Int)) (pc' := 27) rfl dX11_drawnOne_24 fk_RX11_125 ly_63 rfl (g0) ?_
    refine v_nm (fun x' hx' => ?_)
    refine v_istore_n (ls' := [(1, _), (0, _)]) (pc' := 28) rfl dX11_drawnOne_27 rfl rfl rfl ?_
    refine v_ls [1, 0] rfl ?_
    refine v_loop2 28 (fun (x : Int) (wl : Wd) => ∃ (k Y : Nat) (f : Nat → Nat), x = ((k + 1 : Nat) : Int) ∧ k + 1 ≤ n ∧ Pm n f ∧ (∀ z, 1 ≤ z → z ≤ n → wl 75 z = (f z : Nat)) ∧ wl 63 21 = (Y : Nat) ∧ Y < 65536 ∧ shuL k Y f = shuL (n - 1) X pid ∧ (∀ q, q ≠ 21 → wl 63 q = w 63 q) ∧ Fr [63, 75] w wl) (fun (x : Int) (wl : Wd) => x.toNat) (fun (x : Int) (wl : Wd) => [(0, aR 63), (1, aI (x))]) (fun (x : Int) (wl : Wd) => []) (fun (x : Int) (wl : Wd) => wl) (fun x wl hI1 ih1 => ?_) (x') wa (⟨n - 1, X, pid, by omega, by omega, pm_id n, fun z a b => hA z a (by omega), (hfa 63 21 rfl).trans hL, hX, rfl, fun q _ => hfa 63 q rfl, hfa.mono rfl⟩)
    clear hx hm hA hfa g0
    obtain ⟨k, Y, f, hx, hkn, hf, hD, hlot, hY, hR, hO, hfl⟩ := hI1
    have g0 := (hO 0 (by decide)).trans r0
    refine v_iload_n 1 (pc' := 29) rfl dX11_drawnOne_28 rfl rfl ?_
    refine v_iconst (pc' := 30) rfl dX11_drawnOne_29 ?_
    refine v_icmp_le (pc' := 33) (tgt := 73) rfl dX11_drawnOne_30 (by decide) (by omega) (by omega) (fun c1 => ?_) (fun c1 => ?_)
    ·
      have hk0 : k = 0 := by omega
      subst hk0
      refine v_aload_n 0 (pc' := 74) rfl dX11_drawnOne_73 rfl rfl ?_
      refine v_aload_n 0 (pc' := 75) rfl dX11_drawnOne_74 rfl rfl ?_
      refine v_getR (pc' := 78) rfl dX11_drawnOne_75 fk_RX11_44 ly_63 rfl ?_
      refine v_cVP (pc' := 81) rfl dX11_drawnOne_78 lk_RX11_137 ly_63 rfl (c_told_75 l G (g := f) hn7 wl g0 hD) rfl rfl rfl ?_
      refine v_nm (fun told1 htold1 => ?_)
      refine v_iret dX11_drawnOne_81 (by decide) (rfl) ?_
      exact ⟨by rw [← hR]; exact hlot, by rw [← hR]; exact htold1, hO, hfl⟩
    ·
      obtain ⟨m2, rfl⟩ : ∃ q, k = q + 1 := ⟨k - 1, by omega⟩
      have hml := Nat.mod_lt (lotN Y / 4) (show 0 < m2 + 2 by omega)
      refine v_aload_n 0 (pc' := 34) rfl dX11_drawnOne_33 rfl rfl ?_
      refine v_iload_n 1 (pc' := 35) rfl dX11_drawnOne_34 rfl rfl ?_
      refine v_cVi (pc' := 38) rfl dX11_drawnOne_35 lk_RX11_232 ly_63 rfl (c_draw l G (m := m2 + 2) (X := Y) (by omega) (by omega) (by omega) hY wl hlot) rfl rfl rfl (fun draw1 w2 hq2 => ?_)
      obtain ⟨hw2, z2⟩ := hq2
      refine v_iconst (pc' := 39) rfl dX11_drawnOne_38 ?_
      refine v_iadd (pc' := 40) rfl dX11_drawnOne_39 ?_
      refine v_nm (fun y' hy' => ?_)
      refine v_istore_n (ls' := [(2, _), (0, _), (1, _)]) (pc' := 41) rfl dX11_drawnOne_40 rfl rfl rfl ?_
      refine v_aload_n 1 (pc' := 42) rfl dX11_drawnOne_41 rfl rfl ?_
      refine v_getR (pc' := 45) rfl dX11_drawnOne_42 fk_RX11_44 ly_63 rfl ?_
      refine v_iload_n 2 (pc' := 46) rfl dX11_drawnOne_45 rfl rfl ?_
      refine v_iald (z := ((f (m2 + 2) : Nat) : Int)) (pc' := 47) rfl dX11_drawnOne_46 ly_75 (by omega) (by omega) rfl (by rw [show x.toNat = m2 + 2 by omega, hw2, up_ne _ _ (by omega)]; exact hD _ (by omega) (by omega)) ?_
      refine v_nm (fun v' hv' => ?_)
      refine v_istore_n (ls' := [(3, _), (2, _), (0, _), (1, _)]) (pc' := 48) rfl dX11_drawnOne_47 rfl rfl rfl ?_
      refine v_aload_n 2 (pc' := 49) rfl dX11_drawnOne_48 rfl rfl ?_
      refine v_getR (pc' := 52) rfl dX11_drawnOne_49 fk_RX11_44 ly_63 rfl ?_
      refine v_iload_n 3 (pc' := 53) rfl dX11_drawnOne_52 rfl rfl ?_
      refine v_aload_n 2 (pc' := 54) rfl dX11_drawnOne_53 rfl rfl ?_
      refine v_getR (pc' := 57) rfl dX11_drawnOne_54 fk_RX11_44 ly_63 rfl ?_
      refine v_iload_n 1 (pc' := 58) rfl dX11_drawnOne_57 rfl rfl ?_
      refine v_iald (z := ((f (lotN Y / 4 % (m2 + 2) + 1) : Nat) : Int)) (pc' := 59) rfl dX11_drawnOne_58 ly_75 (by omega) (by omega) rfl (by rw [show y'.toNat = lotN Y / 4 % (m2 + 2) + 1 by omega, hw2, up_ne _ _ (by omega)]; exact hD _ (by omega) (by omega)) ?_
      refine v_iast (pc' := 60) rfl dX11_drawnOne_59 ly_75 (by omega) (by omega) rfl ?_
      refine v_nmw (fun w3 hw3 => ?_)
      refine v_aload_n 2 (pc' := 61) rfl dX11_drawnOne_60 rfl rfl ?_
      refine v_getR (pc' := 64) rfl dX11_drawnOne_61 fk_RX11_44 ly_63 rfl ?_
      refine v_iload_n 1 (pc' := 65) rfl dX11_drawnOne_64 rfl rfl ?_
      refine v_iload_n 0 (pc' := 66) rfl dX11_drawnOne_65 rfl rfl ?_
      refine v_iast (pc' := 67) rfl dX11_drawnOne_66 ly_75 (by omega) (by omega) rfl ?_
      refine v_nmw (fun w4 hw4 => ?_)
      refine v_iinc (ls' := [(1, _), (3, _), (2, _), (0, _)]) 3 (pc' := 70) rfl dX11_drawnOne_67 rfl rfl rfl ?_
      refine v_nl (fun x' hx' => ?_)
      refine v_goto (tgt := 28) dX11_drawnOne_70 (by decide) ?_
      refine v_ls [3, 0] rfl ?_
      exact ih1 (x') w4 (⟨m2, lotN Y, gsw f (m2 + 2) (lotN Y / 4 % (m2 + 2) + 1), by omega, by omega, gsw_pm hf (by omega) (by omega) (by omega) (by omega), fun z a b => by
          rw [hw4, up_at, show y'.toNat = lotN Y / 4 % (m2 + 2) + 1 by omega]
          unfold gsw
          by_cases e2 : z = lotN Y / 4 % (m2 + 2) + 1
          · rw [if_pos ⟨rfl, e2⟩]
            by_cases e3 : z = m2 + 2
            · rw [if_pos e3, ← e2, e3]; exact hv'
            · rw [if_neg e3, if_pos e2]; exact hv'
          · rw [if_neg (fun e => e2 e.2), hw3, up_at, show x.toNat = m2 + 2 by omega]
            by_cases e1 : z = m2 + 2
            · rw [if_pos ⟨rfl, e1⟩, if_pos e1]
            · rw [if_neg (fun e => e1 e.2), if_neg e1, if_neg e2, hw2, up_ne _ _ (by omega)]; exact hD z a b, by rw [hw4, up_ne _ _ (by omega), hw3, up_ne _ _ (by omega), hw2, up_eq], lot_lt Y, by rw [← hR]; rfl, fun q hq => by rw [hw4, up_ne _ _ (by omega), hw3, up_ne _ _ (by omega), hw2, up_ne _ _ (by omega)]; exact hO q hq, by rw [hw4, hw3, hw2]; exact ((hfl.up rfl).up rfl).up rfl⟩) (by omega)
  ·
    refine v_aload_n 0 (pc' := 11) rfl dX11_drawnOne_10 rfl rfl ?_
    refine v_getR (pc' := 14) rfl dX11_drawnOne_11 fk_RX11_44 ly_63 rfl ?_
    refine v_iload_n 1 (pc' := 15) rfl dX11_drawnOne_14 rfl rfl ?_
    refine v_iload_n 1 (pc' := 16) rfl dX11_drawnOne_15 rfl rfl ?_
    refine v_iast (pc' := 17) rfl dX11_drawnOne_16 ly_75 (by omega) (by omega) rfl ?_
    refine v_nmw (fun w1 hw1 => ?_)
    have g0 : w1 63 0 = (n : Int) := by rw [hw1, up_ne _ _ (by omega)]; exact g0
    refine v_iinc (ls' := [(1, _), (0, _)]) 1 (pc' := 20) rfl dX11_drawnOne_17 rfl rfl rfl ?_
    refine v_nl (fun x' hx' => ?_)
    refine v_goto (tgt := 2) dX11_drawnOne_20 (by decide) ?_
    refine v_ls [1, 0] rfl ?_
    exact ih0 (x') w1 (⟨m + 1, by omega, by omega, fun z a b => by
        rw [hw1, up_at, show x.toNat = m + 1 by omega]
        by_cases q : z = m + 1
        · rw [if_pos ⟨rfl, q⟩]; omega
        · rw [if_neg (fun e => q e.2)]; exact hA z a (by omega), by rw [hw1]; exact hfa.up rfl⟩) (by omega)
theorem nt {o : Nat} (h1 : 64 ≤ o) (h2 : o ≤ 68) : [63, 75].contains o = false := by
  have : o = 64 ∨ o = 65 ∨ o = 66 ∨ o = 67 ∨ o = 68 := by omega
  rcases this with e | e | e | e | e <;> (rw [e]; rfl)
set_option maxHeartbeats 4000000 in
set_option maxRecDepth 100000 in
theorem c_drawnM (l : Launch) (G : Gx) {d : Int} (hd : rg d) {n : Nat} {s a : Nat → Nat} (hV : MapV n s a) (w : Wd) (hM : RMW w n s a) (hR : RTab w n) : Sp l G 2 mX11_drawn [aR 63, aI (d)] w (fun z w' => Tld w w' ∧ RMW w' n (drwS n d) (drwA n d) ∧ RTab w' n ∧ z = (cdk (drwS n d) n : Nat)) := by
  obtain ⟨⟨hn1, hn7⟩, hs, ha⟩ := id hV
  obtain ⟨r0, r1, r2⟩ := id hM
  obtain ⟨r3, r4, rPK, rTK⟩ := id hR
  have hfc := fac_le hn1 hn7
  have hk15 := kmany_le n hn7
  have hX : (d % 65536).toNat < 65536 := by omega
  have hY := shuL_lt (n - 1) (d % 65536).toNat pid hX
  refine Sp_of RX11 rfl (by decide +kernel) rfl (Nat.le_of_ble_eq_true rfl) ?_
  refine v_aload_n 0 (pc' := 1) rfl dX11_drawn_0 rfl rfl ?_
  refine v_iload_n 1 (pc' := 2) rfl dX11_drawn_1 rfl rfl ?_
  refine v_ldc (z := 65535) (pc' := 4) rfl dX11_drawn_2 kc_RX11_235 ?_
  refine v_iand (z := (((d % 65536).toNat : Nat) : Int)) (pc' := 5) rfl dX11_drawn_4 (iz_m16 d) ?_
  refine v_put (pc' := 8) rfl dX11_drawn_5 fi_RX11_228 ly_63 rfl ?_
  refine v_nmw (fun w1 hw1 => ?_)
  have r0 : w1 63 0 = (n : Int) := by rw [hw1, up_ne _ _ (by omega)]; exact r0
  have r1 : w1 63 1 = ((cdk s n : Nat) : Int) := by rw [hw1, up_ne _ _ (by omega)]; exact r1
  have r2 : w1 63 2 = ((cdk a n : Nat) : Int) := by rw [hw1, up_ne _ _ (by omega)]; exact r2
  have r3 : w1 63 3 = ((facN n : Nat) : Int) := by rw [hw1, up_ne _ _ (by omega)]; exact r3
  have r4 : w1 63 4 = ((kmany n : Nat) : Int) := by rw [hw1, up_ne _ _ (by omega)]; exact r4
  have F63_21 : w1 63 21 = ((((d % 65536).toNat : Nat) : Int)) := by rw [hw1, up_eq]
  refine v_aload_n 0 (pc' := 9) rfl dX11_drawn_8 rfl rfl ?_
  refine v_aload_n 0 (pc' := 10) rfl dX11_drawn_9 rfl rfl ?_
  refine v_cVi (pc' := 13) rfl dX11_drawn_10 lk_RX11_236 ly_63 rfl (c_drawnOne l G hn1 hn7 hX w1 r0 F63_21) rfl rfl rfl (fun drawnOne1 w2 hq2 => ?_)
  obtain ⟨l2, z2, o2, f2⟩ := hq2
  refine v_put (pc' := 16) rfl dX11_drawn_13 fi_RX11_149 ly_63 rfl ?_
  refine v_nmw (fun w3 hw3 => ?_)
  have F63_1 : w3 63 1 = drawnOne1 := by rw [hw3, up_eq]
  refine v_aload_n 0 (pc' := 17) rfl dX11_drawn_16 rfl rfl ?_
  refine v_aload_n 0 (pc' := 18) rfl dX11_drawn_17 rfl rfl ?_
  refine v_cVi (pc' := 21) rfl dX11_drawn_18 lk_RX11_236 ly_63 rfl (c_drawnOne l G hn1 hn7 hY w3 (by rw [hw3, up_ne _ _ (by omega), o2 0 (by decide)]; exact r0) (by rw [hw3, up_ne _ _ (by omega)]; exact l2)) rfl rfl rfl (fun drawnOne2 w4 hq4 => ?_)
  obtain ⟨l4, z4, o4, f4⟩ := hq4
  refine v_put (pc' := 24) rfl dX11_drawn_21 fi_RX11_152 ly_63 rfl ?_
  refine v_nmw (fun w5 hw5 => ?_)
  have F63_2 : w5 63 2 = drawnOne2 := by rw [hw5, up_eq]
  refine v_aload_n 0 (pc' := 25) rfl dX11_drawn_24 rfl rfl ?_
  refine v_get (z := ((cdk (drwS n d) n : Nat) : Int)) (pc' := 28) rfl dX11_drawn_25 fk_RX11_149 ly_63 rfl (by rw [hw5, up_ne _ _ (by omega), o4 1 (by decide), hw3, up_eq, z2]; rfl) ?_
  refine v_iret dX11_drawn_28 (by decide) (rfl) ?_
  have k1 : ∀ q, q ≠ 1 → q ≠ 2 → q ≠ 21 → w5 63 q = w 63 q := fun q a b c => by rw [hw5, up_ne _ _ (by omega), o4 q c, hw3, up_ne _ _ (by omega), o2 q c, hw1, up_ne _ _ (by omega)]
  have kf : Fr [63, 75] w w5 := by
    have a : Fr [63, 75] w w1 := by rw [hw1]; exact (Fr.rf _ _).up rfl
    have b : Fr [63, 75] w w3 := by rw [hw3]; exact (a.trs f2).up rfl
    rw [hw5]; exact (b.trs f4).up rfl
  refine ⟨Tld.of kf (by decide) ⟨k1 16 (by decide) (by decide) (by decide), k1 52 (by decide) (by decide) (by decide), k1 53 (by decide) (by decide) (by decide)⟩, ⟨(k1 0 (by decide) (by decide) (by decide)).trans hM.1, by rw [hw5, up_ne _ _ (by omega), o4 1 (by decide), hw3, up_eq, z2]; rfl, by rw [hw5, up_eq, z4]; rfl⟩, hR.fr (k1 3 (by decide) (by decide) (by decide)) (k1 4 (by decide) (by decide) (by decide)) (fun o h1 h2 j => kf o j (nt h1 h2)), rfl⟩
def keepM (o j : Nat) : Bool := if o = 63 then !([22, 23, 24, 25].contains j) else (Nat.blt o 69 || Nat.ble 74 o)
def Mid (w w' : Wd) : Prop := ∀ o j, keepM o j = true → w' o j = w o j
theorem Mid.rf (w : Wd) : Mid w w := fun _ _ _ => rfl
theorem Mid.tr {w w1 w2 : Wd} (h : Mid w w1) (h2 : Mid w1 w2) : Mid w w2 := fun o j k => (h2 o j k).trans (h o j k)
theorem keepM_ne {o : Nat} (h : o ≠ 63) (j k : Nat) : keepM o j = keepM o k := by unfold keepM; rw [if_neg h, if_neg h]
theorem Mid.of {cs : List Nat} {w w' : Wd} (hf : Fr cs w w') (hc : cs.all (fun o => !(o == 63) && !keepM o 0) = true) : Mid w w' := fun o j k => by
  refine hf o j ?_
  rw [← Bool.not_eq_true]
  intro h
  have := List.all_eq_true.mp hc o (by simpa using h)
  simp only [Bool.and_eq_true, Bool.not_eq_true', beq_eq_false_iff_ne] at this
  rw [keepM_ne this.1 j 0, this.2] at k
  exact absurd k (by decide)
theorem Mid.up {w w' : Wd} (h : Mid w w') {o j : Nat} {v : Int} (hk : keepM o j = false) : Mid w (up w' o j v) := fun o' j' k => by
  rw [up_ne _ _ (fun e => by rw [e.1, e.2, hk] at k; exact absurd k (by decide))]; exact h o' j' k
theorem Mid.scr {w w' : Wd} (h : Mid w w') : Scr w w' := fun o j k => h o j (by
  unfold keepB at k
  unfold keepM
  by_cases e : o = 63
  · rw [if_pos e] at k ⊢
    simp only [List.contains_cons, List.contains_nil, Bool.or_false, Bool.or_eq_true, beq_iff_eq, Bool.not_eq_true', Bool.or_eq_false_iff, beq_eq_false_iff_ne] at k ⊢
    omega
  · rw [if_neg e] at k ⊢
    simp [Nat.blt] at k ⊢
    omega)
set_option maxHeartbeats 4000000 in
set_option maxRecDepth 100000 in
theorem c_operatesK (l : Launch) (G : Gx) {p q k0 : Int} {n k : Nat} {f g : Nat → Nat} (hp : p = (cdk f n : Nat)) (hq : q = (cdk g n : Nat)) (hk : k0 = (k : Nat)) (hk3 : k ≤ 3) (hf : Pm n f) (hg : Pm n g) (hn1 : 1 ≤ n) (hn7 : n ≤ 7) (w : Wd) (r0 : w 63 0 = n) : Sp l G 3 mX11_operates [aR 63, aI (p), aI (q), aI (k0)] w (fun _ w' => w' 63 22 = (cdk (pblack k f g) n : Nat) ∧ w' 63 23 = (cdk (pwhite k f g) n : Nat) ∧ Mid w w') := by
  refine Sp_of RX11 rfl (by decide +kernel) rfl (Nat.le_of_ble_eq_true rfl) ?_
  refine v_aload_n 0 (pc' := 1) rfl dX11_operates_0 rfl rfl ?_
  have J29 : ∀ (vS : Int) (wj : Wd) (hJ : vS = (cdk (pblack k f g) n : Nat) ∧ Mid w wj), V (mX l G 3 4 none (fun _ w' => w' 63 22 = (cdk (pblack k f g) n : Nat) ∧ w' 63 23 = (cdk (pwhite k f g) n : Nat) ∧ Mid w w')) RX11 cX11_operates 29 [(0, aR 63), (1, aI (p)), (2, aI (q)), (3, aI (k0))] [aI (vS), aR 63] wj := by
    intro vS wj hJ
    refine v_put (pc' := 32) rfl dX11_operates_29 fi_RX11_239 ly_63 rfl ?_
    refine v_nmw (fun w3 hw3 => ?_)
    obtain ⟨hvS, hsj⟩ := hJ
    have h0 : w3 63 0 = n := by rw [hw3, up_ne _ _ (by omega)]; exact (hsj 63 0 (by decide)).trans r0
    refine v_aload_n 0 (pc' := 33) rfl dX11_operates_32 rfl rfl ?_
    have J69 : ∀ (vA : Int) (wk : Wd) (hJ : vA = (cdk (pwhite k f g) n : Nat) ∧ Mid w3 wk ∧ wk 63 22 = w3 63 22), V (mX l G 3 4 none (fun _ w' => w' 63 22 = (cdk (pblack k f g) n : Nat) ∧ w' 63 23 = (cdk (pwhite k f g) n : Nat) ∧ Mid w w')) RX11 cX11_operates 69 [(0, aR 63), (1, aI (p)), (2, aI (q)), (3, aI (k0))] [aI (vA), aR 63] wk := by
      intro vA wk hJ
      refine v_put (pc' := 72) rfl dX11_operates_69 fi_RX11_242 ly_63 rfl ?_
      refine v_nmw (fun w6 hw6 => ?_)
      refine v_vret dX11_operates_72 ?_
      have hs3 : Mid w w3 := by rw [hw3]; exact hsj.up (by decide)
      exact ⟨by rw [hw6, up_ne _ _ (by omega), hJ.2.2, hw3, up_eq]; exact hvS, by rw [hw6, up_eq]; exact hJ.1, by rw [hw6]; exact (hs3.tr hJ.2.1).up (by decide)⟩
    refine v_iload_n 3 (pc' := 34) rfl dX11_operates_33 rfl rfl ?_
    refine v_if_ne (pc' := 37) (tgt := 41) rfl dX11_operates_34 (by decide) (by omega) (fun c2 => ?_) (fun c2 => ?_)
    ·
      refine v_iload_n 3 (pc' := 42) rfl dX11_operates_41 rfl rfl ?_
      refine v_iconst (pc' := 43) rfl dX11_operates_42 ?_
      refine v_icmp_ne (pc' := 46) (tgt := 54) rfl dX11_operates_43 (by decide) (by omega) (by omega) (fun c3 => ?_) (fun c3 => ?_)
      ·
        refine v_iload_n 3 (pc' := 55) rfl dX11_operates_54 rfl rfl ?_
        refine v_iconst (pc' := 56) rfl dX11_operates_55 ?_
        refine v_icmp_ne (pc' := 59) (tgt := 68) rfl dX11_operates_56 (by decide) (by omega) (by omega) (fun c4 => ?_) (fun c4 => ?_)
        ·
          refine v_iload_n 2 (pc' := 69) rfl dX11_operates_68 rfl rfl ?_
          exact J69 (q) w3 (⟨by rw [hq]; unfold pwhite; rw [if_neg (by omega), if_neg (by omega), if_neg (by omega)], Mid.rf _, rfl⟩)
        ·
          refine v_aload_n 0 (pc' := 60) rfl dX11_operates_59 rfl rfl ?_
          refine v_iload_n 1 (pc' := 61) rfl dX11_operates_60 rfl rfl ?_
          refine v_iload_n 2 (pc' := 62) rfl dX11_operates_61 rfl rfl ?_
          refine v_cVi (pc' := 65) rfl dX11_operates_62 lk_RX11_155 ly_63 rfl (c_facesOfM l G hp hq hf hg hn1 hn7 w3 h0) rfl rfl rfl (fun facesOf2 w5 hq5 => ?_)
          obtain ⟨f5, z5⟩ := hq5
          refine v_goto (tgt := 69) dX11_operates_65 (by decide) ?_
          exact J69 (facesOf2) w5 (⟨by rw [z5]; unfold pwhite; rw [if_neg (by omega), if_neg (by omega), if_pos (by omega)], Mid.of f5 (by decide), f5 63 22 rfl⟩)
      ·
        refine v_aload_n 0 (pc' := 47) rfl dX11_operates_46 rfl rfl ?_
        refine v_iload_n 2 (pc' := 48) rfl dX11_operates_47 rfl rfl ?_
        refine v_cVi (pc' := 51) rfl dX11_operates_48 lk_RX11_145 ly_63 rfl (c_backM l G hq hg hn1 hn7 w3 h0) rfl rfl rfl (fun back2 w4 hq4 => ?_)
        obtain ⟨f4, z4⟩ := hq4
        refine v_goto (tgt := 69) dX11_operates_51 (by decide) ?_
        exact J69 (back2) w4 (⟨by rw [z4]; unfold pwhite; rw [if_neg (by omega), if_pos (by omega)], Mid.of f4 (by decide), f4 63 22 rfl⟩)
    ·
      refine v_iload_n 1 (pc' := 38) rfl dX11_operates_37 rfl rfl ?_
      refine v_goto (tgt := 69) dX11_operates_38 (by decide) ?_
      exact J69 (p) w3 (⟨by rw [hp]; unfold pwhite; rw [if_pos (by omega)], Mid.rf _, rfl⟩)
  refine v_iload_n 3 (pc' := 2) rfl dX11_operates_1 rfl rfl ?_
  refine v_iconst (pc' := 3) rfl dX11_operates_2 ?_
  refine v_icmp_ne (pc' := 6) (tgt := 14) rfl dX11_operates_3 (by decide) (by omega) (by omega) (fun c0 => ?_) (fun c0 => ?_)
  ·
    refine v_iload_n 3 (pc' := 15) rfl dX11_operates_14 rfl rfl ?_
    refine v_iconst (pc' := 16) rfl dX11_operates_15 ?_
    refine v_icmp_ne (pc' := 19) (tgt := 28) rfl dX11_operates_16 (by decide) (by omega) (by omega) (fun c1 => ?_) (fun c1 => ?_)
    ·
      refine v_iload_n 2 (pc' := 29) rfl dX11_operates_28 rfl rfl ?_
      exact J29 (q) w (⟨by rw [hq]; unfold pblack; rw [if_neg (by omega), if_neg (by omega)], Mid.rf _⟩)
    ·
      refine v_aload_n 0 (pc' := 20) rfl dX11_operates_19 rfl rfl ?_
      refine v_iload_n 1 (pc' := 21) rfl dX11_operates_20 rfl rfl ?_
      refine v_iload_n 2 (pc' := 22) rfl dX11_operates_21 rfl rfl ?_
      refine v_cVi (pc' := 25) rfl dX11_operates_22 lk_RX11_155 ly_63 rfl (c_facesOfM l G hp hq hf hg hn1 hn7 w r0) rfl rfl rfl (fun facesOf1 w2 hq2 => ?_)
      obtain ⟨f2, z2⟩ := hq2
      refine v_goto (tgt := 29) dX11_operates_25 (by decide) ?_
      exact J29 (facesOf1) w2 (⟨by rw [z2]; unfold pblack; rw [if_neg (by omega), if_pos (by omega)], Mid.of f2 (by decide)⟩)
  ·
    refine v_aload_n 0 (pc' := 7) rfl dX11_operates_6 rfl rfl ?_
    refine v_iload_n 1 (pc' := 8) rfl dX11_operates_7 rfl rfl ?_
    refine v_cVi (pc' := 11) rfl dX11_operates_8 lk_RX11_145 ly_63 rfl (c_backM l G hp hf hn1 hn7 w r0) rfl rfl rfl (fun back1 w1 hq1 => ?_)
    obtain ⟨f1, z1⟩ := hq1
    refine v_goto (tgt := 29) dX11_operates_11 (by decide) ?_
    exact J29 (back1) w1 (⟨by rw [z1]; unfold pblack; rw [if_pos (by omega)], Mid.of f1 (by decide)⟩)
theorem c_operates (l : Launch) (G : Gx) {p q k0 : Int} {n k : Nat} {f g : Nat → Nat} (hp : p = (cdk f n : Nat)) (hq : q = (cdk g n : Nat)) (hk : k0 = (k : Nat)) (hk3 : k ≤ 3) (hf : Pm n f) (hg : Pm n g) (hn1 : 1 ≤ n) (hn7 : n ≤ 7) (w : Wd) (r0 : w 63 0 = n) : Sp l G 3 mX11_operates [aR 63, aI (p), aI (q), aI (k0)] w (fun _ w' => w' 63 22 = (cdk (pblack k f g) n : Nat) ∧ w' 63 23 = (cdk (pwhite k f g) n : Nat) ∧ Scr w w') :=
  (c_operatesK l G hp hq hk hk3 hf hg hn1 hn7 w r0).mono (fun _ _ h => ⟨h.1, h.2.1, h.2.2.scr⟩)
def OprM (w : Wd) (n : Nat) (s a : Nat → Nat) (k z : Int) (w' : Wd) : Prop := (¬ (0 ≤ k ∧ k ≤ 3) ∧ w' = w ∧ z = -1) ∨
  ((0 ≤ k ∧ k ≤ 3) ∧ Tld w w' ∧ RMW w' n (pblack k.toNat s a) (pwhite k.toNat s a) ∧ RTab w' n ∧ z = (cdk (pblack k.toNat s a) n : Nat))
set_option maxHeartbeats 4000000 in
set_option maxRecDepth 100000 in
theorem c_operateM (l : Launch) (G : Gx) {k : Int} (hk : rg k) {n : Nat} {s a : Nat → Nat} (hV : MapV n s a) (w : Wd) (hM : RMW w n s a) (hR : RTab w n) : Sp l G 4 mX11_operate [aR 63, aI (k)] w (fun z w' => OprM w n s a k z w') := by
  obtain ⟨⟨hn1, hn7⟩, hs, ha⟩ := id hV
  obtain ⟨r0, r1, r2⟩ := id hM
  obtain ⟨r3, r4, rPK, rTK⟩ := id hR
  have hfc := fac_le hn1 hn7
  have hk15 := kmany_le n hn7
  refine Sp_of RX11 rfl (by decide +kernel) rfl (Nat.le_of_ble_eq_true rfl) ?_
  refine v_iload_n 1 (pc' := 1) rfl dX11_operate_0 rfl rfl ?_
  refine v_iconst (pc' := 2) rfl dX11_operate_1 ?_
  refine v_iconst (pc' := 3) rfl dX11_operate_2 ?_
  refine v_cSP (pc' := 6) rfl dX11_operate_3 lk_RX11_121 rfl (c_in l G hk (by decide) (by decide) w) rfl rfl rfl ?_
  refine v_nm (fun in1 hin1 => ?_)
  refine v_if_ne (pc' := 9) (tgt := 11) rfl dX11_operate_6 (by decide) (inB_r hin1) (fun c0 => ?_) (fun c0 => ?_)
  ·
    have q1 := inB_1 hin1 (by omega)
    refine v_aload_n 0 (pc' := 12) rfl dX11_operate_11 rfl rfl ?_
    refine v_aload_n 0 (pc' := 13) rfl dX11_operate_12 rfl rfl ?_
    refine v_get (z := ((cdk s n : Nat) : Int)) (pc' := 16) rfl dX11_operate_13 fk_RX11_149 ly_63 rfl (r1) ?_
    refine v_aload_n 0 (pc' := 17) rfl dX11_operate_16 rfl rfl ?_
    refine v_get (z := ((cdk a n : Nat) : Int)) (pc' := 20) rfl dX11_operate_17 fk_RX11_152 ly_63 rfl (r2) ?_
    refine v_iload_n 1 (pc' := 21) rfl dX11_operate_20 rfl rfl ?_
    refine v_cVv (pc' := 24) rfl dX11_operate_21 lk_RX11_245 ly_63 rfl (c_operates l G (k := k.toNat) rfl rfl (by omega) (by omega) hs ha hn1 hn7 w r0) rfl rfl rfl (fun operates1 w2 hq2 => ?_)
    obtain ⟨s2, a2, h2⟩ := hq2
    have r0 : w2 63 0 = (n : Int) := (h2 63 0 (by decide)).trans r0
    have r1 : w2 63 1 = ((cdk s n : Nat) : Int) := (h2 63 1 (by decide)).trans r1
    have r2 : w2 63 2 = ((cdk a n : Nat) : Int) := (h2 63 2 (by decide)).trans r2
    have r3 : w2 63 3 = ((facN n : Nat) : Int) := (h2 63 3 (by decide)).trans r3
    have r4 : w2 63 4 = ((kmany n : Nat) : Int) := (h2 63 4 (by decide)).trans r4
    refine v_aload_n 0 (pc' := 25) rfl dX11_operate_24 rfl rfl ?_
    refine v_aload_n 0 (pc' := 26) rfl dX11_operate_25 rfl rfl ?_
    refine v_get (z := ((cdk (pblack k.toNat s a) n : Nat) : Int)) (pc' := 29) rfl dX11_operate_26 fk_RX11_239 ly_63 rfl (s2) ?_
    refine v_put (pc' := 32) rfl dX11_operate_29 fi_RX11_149 ly_63 rfl ?_
    refine v_nmw (fun w3 hw3 => ?_)
    have r0 : w3 63 0 = (n : Int) := by rw [hw3, up_ne _ _ (by omega)]; exact r0
    have r2 : w3 63 2 = ((cdk a n : Nat) : Int) := by rw [hw3, up_ne _ _ (by omega)]; exact r2
    have r3 : w3 63 3 = ((facN n : Nat) : Int) := by rw [hw3, up_ne _ _ (by omega)]; exact r3
    have r4 : w3 63 4 = ((kmany n : Nat) : Int) := by rw [hw3, up_ne _ _ (by omega)]; exact r4
    have s2 : w3 63 22 = ((cdk (pblack k.toNat s a) n : Nat) : Int) := by rw [hw3, up_ne _ _ (by omega)]; exact s2
    have a2 : w3 63 23 = ((cdk (pwhite k.toNat s a) n : Nat) : Int) := by rw [hw3, up_ne _ _ (by omega)]; exact a2
    have F63_1 : w3 63 1 = ((cdk (pblack k.toNat s a) n : Nat) : Int) := by rw [hw3, up_eq]
    refine v_aload_n 0 (pc' := 33) rfl dX11_operate_32 rfl rfl ?_
    refine v_aload_n 0 (pc' := 34) rfl dX11_operate_33 rfl rfl ?_
    refine v_get (z := ((cdk (pwhite k.toNat s a) n : Nat) : Int)) (pc' := 37) rfl dX11_operate_34 fk_RX11_242 ly_63 rfl (a2) ?_
    refine v_put (pc' := 40) rfl dX11_operate_37 fi_RX11_152 ly_63 rfl ?_
    refine v_nmw (fun w4 hw4 => ?_)
    have r0 : w4 63 0 = (n : Int) := by rw [hw4, up_ne _ _ (by omega)]; exact r0
    have r3 : w4 63 3 = ((facN n : Nat) : Int) := by rw [hw4, up_ne _ _ (by omega)]; exact r3
    have r4 : w4 63 4 = ((kmany n : Nat) : Int) := by rw [hw4, up_ne _ _ (by omega)]; exact r4
    have s2 : w4 63 22 = ((cdk (pblack k.toNat s a) n : Nat) : Int) := by rw [hw4, up_ne _ _ (by omega)]; exact s2
    have a2 : w4 63 23 = ((cdk (pwhite k.toNat s a) n : Nat) : Int) := by rw [hw4, up_ne _ _ (by omega)]; exact a2
    have F63_1 : w4 63 1 = ((cdk (pblack k.toNat s a) n : Nat) : Int) := by rw [hw4, up_ne _ _ (by omega)]; exact F63_1
    have F63_2 : w4 63 2 = ((cdk (pwhite k.toNat s a) n : Nat) : Int) := by rw [hw4, up_eq]
    refine v_aload_n 0 (pc' := 41) rfl dX11_operate_40 rfl rfl ?_
    refine v_get (z := ((cdk (pblack k.toNat s a) n : Nat) : Int)) (pc' := 44) rfl dX11_operate_41 fk_RX11_149 ly_63 rfl (F63_1) ?_
    refine v_iret dX11_operate_44 (by decide) (rfl) ?_
    first | exact Or.inl ⟨q1, rfl, rfl⟩ | exact Or.inr ⟨q1, by rw [hw4, hw3]; exact (h2.tld.up (by decide)).up (by decide), ⟨by rw [hw4, hw3]; exact (h2 63 0 (by decide)).trans hM.1, by rw [hw4, up_ne _ _ (by omega), hw3, up_eq], by rw [hw4, up_eq]⟩, (hR.s h2).fr (by rw [hw4, hw3]; rfl) (by rw [hw4, hw3]; rfl) (fun o u1 u2 j => by rw [hw4, up_ne _ _ (by omega), hw3, up_ne _ _ (by omega)]), rfl⟩
  ·
    have q1 := inB_0 hin1 (by omega)
    refine v_iconst (pc' := 10) rfl dX11_operate_9 ?_
    refine v_iret dX11_operate_10 (by decide) (rfl) ?_
    first | exact Or.inl ⟨q1, rfl, rfl⟩ | exact Or.inr ⟨q1, by rw [hw4, hw3]; exact (h2.tld.up (by decide)).up (by decide), ⟨by rw [hw4, hw3]; exact (h2 63 0 (by decide)).trans hM.1, by rw [hw4, up_ne _ _ (by omega), hw3, up_eq], by rw [hw4, up_eq]⟩, (hR.s h2).fr (by rw [hw4, hw3]; rfl) (by rw [hw4, hw3]; rfl) (fun o u1 u2 j => by rw [hw4, up_ne _ _ (by omega), hw3, up_ne _ _ (by omega)]), rfl⟩
set_option maxHeartbeats 4000000 in
set_option maxRecDepth 100000 in
theorem c_codeM (l : Launch) (G : Gx) {wh : Int} (hwh : rg wh) {n : Nat} {s a : Nat → Nat} (hV : MapV n s a) (w : Wd) (hM : RMW w n s a) (hR : RTab w n) : Sp l G 4 mX11_code [aR 63, aI (wh)] w (fun z w' => Scr w w' ∧ z = if tok wh then (cdk (trF s a wh) n : Int) else -1) := by
  obtain ⟨⟨hn1, hn7⟩, hs, ha⟩ := id hV
  obtain ⟨r0, r1, r2⟩ := id hM
  obtain ⟨r3, r4, rPK, rTK⟩ := id hR
  have hfc := fac_le hn1 hn7
  have hk15 := kmany_le n hn7
  refine Sp_of RX11 rfl (by decide +kernel) rfl (Nat.le_of_ble_eq_true rfl) ?_
  refine v_iload_n 1 (pc' := 1) rfl dX11_code_0 rfl rfl ?_
  refine v_cSP (pc' := 4) rfl dX11_code_1 lk_RX11_261 rfl (c_isThree l G hwh w) rfl rfl rfl ?_
  refine v_nm (fun isThree1 hisThree1 => ?_)
  refine v_if_eq (pc' := 7) (tgt := 15) rfl dX11_code_4 (by decide) (inB_r hisThree1) (fun c0 => ?_) (fun c0 => ?_)
  ·
    have q := inB_0 hisThree1 (by omega)
    refine v_iconst (pc' := 16) rfl dX11_code_15 ?_
    refine v_iret dX11_code_16 (by decide) (rfl) ?_
    first | exact ⟨Scr.rf _, by rw [if_neg (by omega)]⟩ | exact ⟨Scr.of f2 (by decide), by rw [if_pos (by omega)]; exact z2⟩
  ·
    have q := inB_1 hisThree1 (by omega)
    refine v_aload_n 0 (pc' := 8) rfl dX11_code_7 rfl rfl ?_
    refine v_iload_n 1 (pc' := 9) rfl dX11_code_8 rfl rfl ?_
    refine v_cVi (pc' := 12) rfl dX11_code_9 lk_RX11_200 ly_63 rfl (c_codeOf l G hwh hV w hM) rfl rfl rfl (fun codeOf1 w2 hq2 => ?_)
    obtain ⟨f2, z2⟩ := hq2
    refine v_goto (tgt := 16) dX11_code_12 (by decide) ?_
    refine v_iret dX11_code_16 (by decide) (rfl) ?_
    first | exact ⟨Scr.rf _, by rw [if_neg (by omega)]⟩ | exact ⟨Scr.of f2 (by decide), by rw [if_pos (by omega)]; exact z2⟩
set_option maxHeartbeats 4000000 in
set_option maxRecDepth 100000 in
theorem c_typeM (l : Launch) (G : Gx) {wh : Int} (hwh : rg wh) {n : Nat} {s a : Nat → Nat} (hV : MapV n s a) (w : Wd) (hM : RMW w n s a) (hR : RTab w n) : Sp l G 4 mX11_type [aR 63, aI (wh)] w (fun z w' => Scr w w' ∧ z = if tok wh then (kindN (trF s a wh) n : Int) else -1) := by
  obtain ⟨⟨hn1, hn7⟩, hs, ha⟩ := id hV
  obtain ⟨r0, r1, r2⟩ := id hM
  obtain ⟨r3, r4, rPK, rTK⟩ := id hR
  have hfc := fac_le hn1 hn7
  have hk15 := kmany_le n hn7
  have hft := trF_pm hV wh
  refine Sp_of RX11 rfl (by decide +kernel) rfl (Nat.le_of_ble_eq_true rfl) ?_
  refine v_iload_n 1 (pc' := 1) rfl dX11_type_0 rfl rfl ?_
  refine v_cSP (pc' := 4) rfl dX11_type_1 lk_RX11_261 rfl (c_isThree l G hwh w) rfl rfl rfl ?_
  refine v_nm (fun isThree1 hisThree1 => ?_)
  refine v_if_eq (pc' := 7) (tgt := 19) rfl dX11_type_4 (by decide) (inB_r hisThree1) (fun c0 => ?_) (fun c0 => ?_)
  ·
    have q := inB_0 hisThree1 (by omega)
    refine v_iconst (pc' := 20) rfl dX11_type_19 ?_
    refine v_iret dX11_type_20 (by decide) (rfl) ?_
    first | exact ⟨Scr.rf _, by rw [if_neg (by omega)]⟩ | exact ⟨(Scr.of f2 (by decide)).tr (Scr.of f3 (by decide)), by rw [if_pos (by omega)]; exact z3⟩
  ·
    have q := inB_1 hisThree1 (by omega)
    refine v_aload_n 0 (pc' := 8) rfl dX11_type_7 rfl rfl ?_
    refine v_aload_n 0 (pc' := 9) rfl dX11_type_8 rfl rfl ?_
    refine v_iload_n 1 (pc' := 10) rfl dX11_type_9 rfl rfl ?_
    refine v_cVi (pc' := 13) rfl dX11_type_10 lk_RX11_200 ly_63 rfl (c_codeOf l G hwh hV w hM) rfl rfl rfl (fun codeOf1 w2 hq2 => ?_)
    obtain ⟨f2, z2⟩ := hq2
    have r0 : w2 63 0 = (n : Int) := (f2 63 0 (by decide)).trans r0
    have r1 : w2 63 1 = ((cdk s n : Nat) : Int) := (f2 63 1 (by decide)).trans r1
    have r2 : w2 63 2 = ((cdk a n : Nat) : Int) := (f2 63 2 (by decide)).trans r2
    have r3 : w2 63 3 = ((facN n : Nat) : Int) := (f2 63 3 (by decide)).trans r3
    have r4 : w2 63 4 = ((kmany n : Nat) : Int) := (f2 63 4 (by decide)).trans r4
    refine v_cVi (pc' := 16) rfl dX11_type_13 lk_RX11_171 ly_63 rfl (c_typeOf l G z2 hft hn1 hn7 w2 r0) rfl rfl rfl (fun typeOf1 w3 hq3 => ?_)
    obtain ⟨f3, z3⟩ := hq3
    refine v_goto (tgt := 20) dX11_type_16 (by decide) ?_
    refine v_iret dX11_type_20 (by decide) (rfl) ?_
    first | exact ⟨Scr.rf _, by rw [if_neg (by omega)]⟩ | exact ⟨(Scr.of f2 (by decide)).tr (Scr.of f3 (by decide)), by rw [if_pos (by omega)]; exact z3⟩

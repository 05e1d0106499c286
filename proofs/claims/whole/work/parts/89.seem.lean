/-! ===== the reference: a text's characters ===== -/
theorem sby_and : ∀ x : Nat, x < 256 → iz (sby (x : Int)) &&& iz 255 = iz (x : Int) := by decide +kernel
theorem sby_andI {t : Int} (h0 : 0 ≤ t) (h : t ≤ 255) : iz (sby t) &&& iz 255 = iz t := by
  have := sby_and t.toNat (by omega)
  rw [show ((t.toNat : Nat) : Int) = t by omega] at this; exact this
theorem sby_r {t : Int} (h0 : 0 ≤ t) (h : t ≤ 255) : -128 ≤ sby t ∧ sby t ≤ 127 := by unfold sby; split <;> omega
theorem sby_eq {t : Int} (h0 : 0 ≤ t) (h : t ≤ 255) {c : Int} (hc : 0 ≤ c) (hc2 : c < 128) : sby t = c ↔ t = c := by unfold sby; split <;> omega
def KT (w w' : Wd) : Prop := (∀ q, q ≠ 17 → q ≠ 19 → w' 63 q = w 63 q) ∧ Fr [63, 75] w w'
theorem KT.rf (w : Wd) : KT w w := ⟨fun _ _ _ => rfl, Fr.rf _ _⟩
theorem KT.tr {w w1 w2 : Wd} (h : KT w w1) (h2 : KT w1 w2) : KT w w2 := ⟨fun q a b => (h2.1 q a b).trans (h.1 q a b), h.2.trs h2.2⟩
theorem kt_up {w w' : Wd} (h : KT w w') {q : Nat} (hq : q = 17 ∨ q = 19) {v : Int} : KT w (up w' 63 q v) := ⟨fun p a b => by rw [up_ne _ _ (by omega)]; exact h.1 p a b, h.2.up rfl⟩
theorem kt_75 {w w' : Wd} (h : KT w w') {j : Nat} {v : Int} : KT w (up w' 75 j v) := ⟨fun p a b => by rw [up_ne _ _ (by omega)]; exact h.1 p a b, h.2.up rfl⟩
def SeeP (T : Nat → Int) (p K : Nat) (z : Int) (w w' : Wd) : Prop := ∃ p', p ≤ p' ∧ p' ≤ K ∧ (∀ j, p ≤ j → j < p' → T j = 32) ∧ w' 63 17 = (p' : Nat) ∧ w' 63 19 = w 63 19 ∧ KT w w' ∧ (∀ j, w' 75 j = w 75 j) ∧ ((p' = K ∧ z = -1) ∨ (p' < K ∧ T p' ≠ 32 ∧ z = T p'))
set_option maxHeartbeats 4000000 in
set_option maxRecDepth 100000 in
theorem c_see (l : Launch) (G : Gx) {p K : Nat} {T : Nat → Int} (hT : ∀ j, j < 120 → 0 ≤ T j ∧ T j ≤ 255) (hK : K ≤ 60) (hp : p ≤ K) (w : Wd) (h17 : w 63 17 = (p : Nat)) (h18 : w 63 18 = (K : Nat)) (hTp : TpM w T) : Sp l G 0 mX11_see [aR 63] w (fun z w' => SeeP T p K z w w') := by
  refine Sp_of RX11 rfl (by decide +kernel) rfl (Nat.le_of_ble_eq_true rfl) ?_
  refine v_loop1 0 (fun (wl : Wd) => ∃ q : Nat, p ≤ q ∧ q ≤ K ∧ (∀ j, p ≤ j → j < q → T j = 32) ∧ wl 63 17 = (q : Nat) ∧ wl 63 19 = w 63 19 ∧ KT w wl ∧ (∀ j, wl 75 j = w 75 j)) (fun (wl : Wd) => (60 - wl 63 17).toNat) (fun (wl : Wd) => [(0, aR 63)]) (fun (wl : Wd) => []) (fun (wl : Wd) => wl) (fun wl hI0 ih0 => ?_) w (⟨p, Nat.le_refl _, hp, fun j a b => by omega, h17, rfl, KT.rf _, fun _ => rfl⟩)
  obtain ⟨q, hpq, hqK, hsp, g17, g19, hkt, h75⟩ := hI0
  have g18 := (hkt.1 18 (by decide) (by decide)).trans h18
  have hTl : ∀ j, j < 120 → wl 74 j = sby (T j) := fun j hj => (hkt.2 74 j rfl).trans (hTp j hj)
  have J38 : ∀  (hJ : q = K ∨ (q < K ∧ T q ≠ 32)), V (mX l G 0 1 (some .int) (fun z w' => SeeP T p K z w w')) RX11 cX11_see 38 [(0, aR 63)] [] wl := by
    intro  hJ
    have J66 : ∀ (zz : Int) (hJ : (q = K ∧ zz = -1) ∨ (q < K ∧ T q ≠ 32 ∧ zz = T q)), V (mX l G 0 1 (some .int) (fun z w' => SeeP T p K z w w')) RX11 cX11_see 66 [(0, aR 63)] [aI (zz)] wl := by
      intro zz hJ
      refine v_iret dX11_see_66 (by decide) (rfl) ?_
      exact ⟨q, hpq, hqK, hsp, g17, g19, hkt, h75, hJ⟩
    refine v_aload_n 0 (pc' := 39) rfl dX11_see_38 rfl rfl ?_
    refine v_get (z := ((q : Nat) : Int)) (pc' := 42) rfl dX11_see_39 fk_RX11_207 ly_63 rfl (g17) ?_
    refine v_aload_n 0 (pc' := 43) rfl dX11_see_42 rfl rfl ?_
    refine v_get (z := ((K : Nat) : Int)) (pc' := 46) rfl dX11_see_43 fk_RX11_210 ly_63 rfl (g18) ?_
    refine v_icmp_ge (pc' := 49) (tgt := 65) rfl dX11_see_46 (by decide) (by omega) (by omega) (fun c2 => ?_) (fun c2 => ?_)
    ·
      refine v_iconst (pc' := 66) rfl dX11_see_65 ?_
      exact J66 ((-1)) (by first | exact Or.inl ⟨by omega, rfl⟩ | exact Or.inr ⟨by omega, by rcases hJ with r | r; exact absurd r (by omega); exact r.2, rfl⟩)
    ·
      refine v_aload_n 0 (pc' := 50) rfl dX11_see_49 rfl rfl ?_
      refine v_getR (pc' := 53) rfl dX11_see_50 fk_RX11_40 ly_63 rfl ?_
      refine v_aload_n 0 (pc' := 54) rfl dX11_see_53 rfl rfl ?_
      refine v_get (z := ((q : Nat) : Int)) (pc' := 57) rfl dX11_see_54 fk_RX11_207 ly_63 rfl (g17) ?_
      refine v_bald (z := (sby (T q))) (pc' := 58) rfl dX11_see_57 ly_74 (by omega) (by omega) rfl (by rw [show ((q : Nat) : Int).toNat = q from rfl]; exact hTl q (by omega)) ?_
      refine v_sipush (pc' := 61) rfl dX11_see_58 rfl ?_
      refine v_iand (z := (T q)) (pc' := 62) rfl dX11_see_61 (sby_andI (hT q (by omega)).1 (hT q (by omega)).2) ?_
      refine v_goto (tgt := 66) dX11_see_62 (by decide) ?_
      exact J66 (((T q))) (by first | exact Or.inl ⟨by omega, rfl⟩ | exact Or.inr ⟨by omega, by rcases hJ with r | r; exact absurd r (by omega); exact r.2, rfl⟩)
  refine v_aload_n 0 (pc' := 1) rfl dX11_see_0 rfl rfl ?_
  refine v_get (z := ((q : Nat) : Int)) (pc' := 4) rfl dX11_see_1 fk_RX11_207 ly_63 rfl (g17) ?_
  refine v_aload_n 0 (pc' := 5) rfl dX11_see_4 rfl rfl ?_
  refine v_get (z := ((K : Nat) : Int)) (pc' := 8) rfl dX11_see_5 fk_RX11_210 ly_63 rfl (g18) ?_
  refine v_icmp_ge (pc' := 11) (tgt := 38) rfl dX11_see_8 (by decide) (by omega) (by omega) (fun c0 => ?_) (fun c0 => ?_)
  ·
    exact J38  (by first | exact Or.inl (by omega) | exact Or.inr ⟨by omega, fun e => c1 ((sby_eq (hT q (by omega)).1 (hT q (by omega)).2 (by decide) (by decide)).mpr e)⟩)
  ·
    refine v_aload_n 0 (pc' := 12) rfl dX11_see_11 rfl rfl ?_
    refine v_getR (pc' := 15) rfl dX11_see_12 fk_RX11_40 ly_63 rfl ?_
    refine v_aload_n 0 (pc' := 16) rfl dX11_see_15 rfl rfl ?_
    refine v_get (z := ((q : Nat) : Int)) (pc' := 19) rfl dX11_see_16 fk_RX11_207 ly_63 rfl (g17) ?_
    refine v_bald (z := (sby (T q))) (pc' := 20) rfl dX11_see_19 ly_74 (by omega) (by omega) rfl (by rw [show ((q : Nat) : Int).toNat = q from rfl]; exact hTl q (by omega)) ?_
    refine v_bipush (pc' := 22) rfl dX11_see_20 rfl ?_
    refine v_icmp_ne (pc' := 25) (tgt := 38) rfl dX11_see_22 (by decide) (by have := sby_r (hT q (by omega)).1 (hT q (by omega)).2; omega) (by decide) (fun c1 => ?_) (fun c1 => ?_)
    ·
      exact J38  (by first | exact Or.inl (by omega) | exact Or.inr ⟨by omega, fun e => c1 ((sby_eq (hT q (by omega)).1 (hT q (by omega)).2 (by decide) (by decide)).mpr e)⟩)
    ·
      have h32 : T q = 32 := (sby_eq (hT q (by omega)).1 (hT q (by omega)).2 (by decide) (by decide)).mp (by omega)
      refine v_aload_n 0 (pc' := 26) rfl dX11_see_25 rfl rfl ?_
      refine v_aload_n 0 (pc' := 27) rfl dX11_see_26 rfl rfl ?_
      refine v_get (z := ((q : Nat) : Int)) (pc' := 30) rfl dX11_see_27 fk_RX11_207 ly_63 rfl (g17) ?_
      refine v_iconst (pc' := 31) rfl dX11_see_30 ?_
      refine v_iadd (pc' := 32) rfl dX11_see_31 ?_
      refine v_put (pc' := 35) rfl dX11_see_32 fi_RX11_207 ly_63 rfl ?_
      refine v_nmw (fun w1 hw1 => ?_)
      have g18 : w1 63 18 = ((K : Nat) : Int) := by rw [hw1, up_ne _ _ (by omega)]; exact g18
      refine v_goto (tgt := 0) dX11_see_35 (by decide) ?_
      exact ih0 w1 (⟨q + 1, by omega, by omega, fun j a b => by
          by_cases e : j = q
          · rw [e]; exact h32
          · exact hsp j a (by omega), by rw [hw1, up_eq]; omega, by rw [hw1, up_ne _ _ (by omega)]; exact g19, by rw [hw1]; exact kt_up hkt (Or.inl rfl), fun j => by rw [hw1, up_ne _ _ (by omega)]; exact h75 j⟩) (by rw [hw1, up_eq, g17]; omega)
set_option maxHeartbeats 4000000 in
set_option maxRecDepth 100000 in
theorem c_wrong (l : Launch) (G : Gx) {kd : Int} {p : Nat} (hk : 0 ≤ kd ∧ kd ≤ 3) (hp : p ≤ 60) (w : Wd) (h17 : w 63 17 = (p : Nat)) (h19 : w 63 19 = 0) : Sp l G 0 mX11_wrong [aR 63, aI (kd)] w (fun _ w' => w' = up w 63 19 (-1000 * kd - (p : Int))) := by
  refine Sp_of RX11 rfl (by decide +kernel) rfl (Nat.le_of_ble_eq_true rfl) ?_
  refine v_aload_n 0 (pc' := 1) rfl dX11_wrong_0 rfl rfl ?_
  refine v_get (z := 0) (pc' := 4) rfl dX11_wrong_1 fk_RX11_213 ly_63 rfl (h19) ?_
  refine v_if_ne (pc' := 7) (tgt := 21) rfl dX11_wrong_4 (by decide) (by decide) (fun c0 => absurd c0 (by decide)) (fun c0 => ?_)
  refine v_aload_n 0 (pc' := 8) rfl dX11_wrong_7 rfl rfl ?_
  refine v_sipush (pc' := 11) rfl dX11_wrong_8 rfl ?_
  refine v_iload_n 1 (pc' := 12) rfl dX11_wrong_11 rfl rfl ?_
  refine v_imul (pc' := 13) rfl dX11_wrong_12 ?_
  refine v_aload_n 0 (pc' := 14) rfl dX11_wrong_13 rfl rfl ?_
  refine v_get (z := ((p : Nat) : Int)) (pc' := 17) rfl dX11_wrong_14 fk_RX11_207 ly_63 rfl (h17) ?_
  refine v_isub (pc' := 18) rfl dX11_wrong_17 ?_
  refine v_put (pc' := 21) rfl dX11_wrong_18 fi_RX11_213 ly_63 rfl ?_
  refine v_nmw (fun w1 hw1 => ?_)
  have h17 : w1 63 17 = ((p : Nat) : Int) := by rw [hw1, up_ne _ _ (by omega)]; exact h17
  refine v_vret dX11_wrong_21 ?_
  exact hw1

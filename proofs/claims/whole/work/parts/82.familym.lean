/-! ===== the reference: the family ===== -/
theorem pv_dg {n : Nat} {p : PC} (h7 : n ≤ 7) (h : PV n p) : Pm n (dg p.1) ∧ Pm n (dg p.2) ∧ hx (dg p.1) = p.1 ∧ hx (dg p.2) = p.2 := by
  obtain ⟨S, A, hS, hA, e⟩ := h
  have e1 : dg p.1 = S := by rw [e]; exact dg_hx hS h7
  have e2 : dg p.2 = A := by rw [e]; exact dg_hx hA h7
  rw [e1, e2]
  exact ⟨hS, hA, by rw [e], by rw [e]⟩
def FMW (w : Wd) (n : Nat) (L : List PC) : Prop := w 63 50 = (L.length : Nat) ∧ ∀ i, i < L.length → w 91 i = (cdk (dg (L.getD i (0, 0)).1) n : Nat) ∧ w 92 i = (cdk (dg (L.getD i (0, 0)).2) n : Nat)
theorem FMW.fr {w w' : Wd} {n : Nat} {L : List PC} (h : FMW w n L) (h1 : w' 63 50 = w 63 50) (h2 : ∀ j, w' 91 j = w 91 j) (h3 : ∀ j, w' 92 j = w 92 j) : FMW w' n L := ⟨by rw [h1]; exact h.1, fun i hi => by rw [h2, h3]; exact h.2 i hi⟩
theorem FMW.mid {w w' : Wd} {n : Nat} {L : List PC} (h : FMW w n L) (hm : Mid w w') : FMW w' n L := h.fr (hm 63 50 (by decide)) (fun j => hm 91 j rfl) (fun j => hm 92 j rfl)
theorem FMW.add {w w' : Wd} {n : Nat} {L : List PC} {f g : Nat → Nat} (h1 : 1 ≤ n) (h7 : n ≤ 7) (hf : Pm n f) (hg : Pm n g) (h : FMW w n L) (hn : canC n f g ∉ L) (hl : L.length < 12) {m : Nat} (hm : m = L.length)
    (e : w' = up (up (up w 91 m (cdk (canS n f) n : Nat)) 92 m (cdk (canA n f g) n : Nat)) 63 50 ((m : Int) + 1)) : FMW w' n (fAdd L (canC n f g)) := by
  subst e
  have hc := canA_pm h1 h7 hf hg
  have hS := canS_pm h1 h7 hf
  unfold FMW
  unfold fAdd
  rw [if_neg hn, if_pos hl, List.length_append, ← hm]
  refine ⟨by rw [up_eq]; simp, fun j hj => ?_⟩
  have hj' : j < m + 1 := hj
  have e91 : ∀ A B C : Int, (up (up (up w 91 m A) 92 m B) 63 50 C) 91 j = if j = m then A else w 91 j := fun A B C => by
    rw [up_ne _ _ (by omega), up_ne _ _ (by omega), up_at]
    by_cases q : j = m
    · rw [if_pos ⟨rfl, q⟩, if_pos q]
    · rw [if_neg (fun e => q e.2), if_neg q]
  have e92 : ∀ A B C : Int, (up (up (up w 91 m A) 92 m B) 63 50 C) 92 j = if j = m then B else w 92 j := fun A B C => by
    rw [up_ne _ _ (by omega), up_at]
    by_cases q : j = m
    · rw [if_pos ⟨rfl, q⟩, if_pos q]
    · rw [if_neg (fun e => q e.2), if_neg q, up_ne _ _ (by omega)]
  rw [e91, e92, List.getD_eq_getElem?_getD]
  by_cases q : j = m
  · rw [if_pos q, if_pos q, List.getElem?_append_right (by omega), show j - _ = 0 by rw [← hm]; omega]
    show _ = ((cdk (dg (hx (canS n f))) n : Nat) : Int) ∧ _ = ((cdk (dg (setA n f g)) n : Nat) : Int)
    rw [dg_hx hS h7]
    exact ⟨rfl, rfl⟩
  · rw [if_neg q, if_neg q, List.getElem?_append_left (by omega), ← List.getD_eq_getElem?_getD]
    exact h.2 j (by omega)
set_option maxHeartbeats 4000000 in
set_option maxRecDepth 100000 in
theorem c_joins (l : Launch) (G : Gx) {p q : Int} {n : Nat} {f g : Nat → Nat} (hp : p = (cdk f n : Nat)) (hq : q = (cdk g n : Nat)) (hf : Pm n f) (hg : Pm n g) (hn1 : 1 ≤ n) (hn7 : n ≤ 7) {L : List PC} (hL : FV n L) (h12 : canC n f g ∉ L → L.length < 12) (w : Wd) (h00 : w 63 0 = n) (hR : RTab w n) (hF : FMW w n L) : Sp l G 3 mX11_joins [aR 63, aI (p), aI (q)] w (fun _ w' => FMW w' n (fAdd L (canC n f g)) ∧ Scr w w') := by
  have hc := canA_pm hn1 hn7 hf hg
  have hS := canS_pm hn1 hn7 hf
  have hl1 := cd_le hS hn7 (Nat.le_refl n)
  have hl2 := cd_le hc.1 hn7 (Nat.le_refl n)
  have hL12 := hL.1.1
  refine Sp_of RX11 rfl (by decide +kernel) rfl (Nat.le_of_ble_eq_true rfl) ?_
  refine v_aload_n 0 (pc' := 1) rfl dX11_joins_0 rfl rfl ?_
  refine v_iload_n 1 (pc' := 2) rfl dX11_joins_1 rfl rfl ?_
  refine v_iload_n 2 (pc' := 3) rfl dX11_joins_2 rfl rfl ?_
  refine v_cVv (pc' := 6) rfl dX11_joins_3 lk_RX11_258 ly_63 rfl (c_laysCanonK l G hp hq hf hg hn1 hn7 w h00 hR) rfl rfl rfl (fun laysCanon1 w1 hq1 => ?_)
  obtain ⟨s1, a1, hm1⟩ := hq1
  have hF1 := hF.mid hm1
  have hf1 := hF1.1
  refine v_iconst (pc' := 7) rfl dX11_joins_6 ?_
  refine v_istore_n (ls' := [(3, _), (0, _), (1, _), (2, _)]) (pc' := 8) rfl dX11_joins_7 rfl rfl rfl ?_
  refine v_ls [1, 2, 3, 0] rfl ?_
  refine v_loop1 8 (fun (i : Int) => ∃ k : Nat, i = k ∧ k ≤ L.length ∧ ∀ j, j < k → L.getD j (0, 0) ≠ canC n f g) (fun (i : Int) => (12 - i).toNat) (fun (i : Int) => [(0, aR 63), (1, aI (p)), (2, aI (q)), (3, aI (i))]) (fun (i : Int) => []) (fun (i : Int) => w1) (fun i hI0 ih0 => ?_) (0) (⟨0, rfl, by omega, fun j hj => absurd hj (Nat.not_lt_zero _)⟩)
  obtain ⟨k, hi, hk, hno⟩ := hI0
  refine v_iload_n 3 (pc' := 9) rfl dX11_joins_8 rfl rfl ?_
  refine v_aload_n 0 (pc' := 10) rfl dX11_joins_9 rfl rfl ?_
  refine v_get (z := ((L.length : Nat) : Int)) (pc' := 13) rfl dX11_joins_10 fk_RX11_392 ly_63 rfl (hf1) ?_
  refine v_icmp_ge (pc' := 16) (tgt := 49) rfl dX11_joins_13 (by decide) (by omega) (by omega) (fun c0 => ?_) (fun c0 => ?_)
  ·
    have hke : k = L.length := by omega
    have hnm : canC n f g ∉ L := fun q => by
      obtain ⟨j, hj, e⟩ := mem_getD (d := ((0, 0) : PC)) q
      exact hno j (by omega) e
    have hl := h12 hnm
    refine v_aload_n 0 (pc' := 50) rfl dX11_joins_49 rfl rfl ?_
    refine v_getR (pc' := 53) rfl dX11_joins_50 fk_RX11_93 ly_63 rfl ?_
    refine v_aload_n 0 (pc' := 54) rfl dX11_joins_53 rfl rfl ?_
    refine v_get (z := ((L.length : Nat) : Int)) (pc' := 57) rfl dX11_joins_54 fk_RX11_392 ly_63 rfl (hf1) ?_
    refine v_aload_n 0 (pc' := 58) rfl dX11_joins_57 rfl rfl ?_
    refine v_get (z := ((cdk (canS n f) n : Nat) : Int)) (pc' := 61) rfl dX11_joins_58 fk_RX11_249 ly_63 rfl (s1) ?_
    refine v_iast (pc' := 62) rfl dX11_joins_61 ly_91 (by omega) (by omega) rfl ?_
    refine v_nmw (fun w2 hw2 => ?_)
    have s1 : w2 63 24 = ((cdk (canS n f) n : Nat) : Int) := by rw [hw2, up_ne _ _ (by omega)]; exact s1
    have a1 : w2 63 25 = ((cdk (canA n f g) n : Nat) : Int) := by rw [hw2, up_ne _ _ (by omega)]; exact a1
    have hf1 : w2 63 50 = ((L.length : Nat) : Int) := by rw [hw2, up_ne _ _ (by omega)]; exact hf1
    refine v_aload_n 0 (pc' := 63) rfl dX11_joins_62 rfl rfl ?_
    refine v_getR (pc' := 66) rfl dX11_joins_63 fk_RX11_96 ly_63 rfl ?_
    refine v_aload_n 0 (pc' := 67) rfl dX11_joins_66 rfl rfl ?_
    refine v_get (z := ((L.length : Nat) : Int)) (pc' := 70) rfl dX11_joins_67 fk_RX11_392 ly_63 rfl (hf1) ?_
    refine v_aload_n 0 (pc' := 71) rfl dX11_joins_70 rfl rfl ?_
    refine v_get (z := ((cdk (canA n f g) n : Nat) : Int)) (pc' := 74) rfl dX11_joins_71 fk_RX11_255 ly_63 rfl (a1) ?_
    refine v_iast (pc' := 75) rfl dX11_joins_74 ly_92 (by omega) (by omega) rfl ?_
    refine v_nmw (fun w3 hw3 => ?_)
    have s1 : w3 63 24 = ((cdk (canS n f) n : Nat) : Int) := by rw [hw3, up_ne _ _ (by omega)]; exact s1
    have a1 : w3 63 25 = ((cdk (canA n f g) n : Nat) : Int) := by rw [hw3, up_ne _ _ (by omega)]; exact a1
    have hf1 : w3 63 50 = ((L.length : Nat) : Int) := by rw [hw3, up_ne _ _ (by omega)]; exact hf1
    refine v_aload_n 0 (pc' := 76) rfl dX11_joins_75 rfl rfl ?_
    refine v_aload_n 0 (pc' := 77) rfl dX11_joins_76 rfl rfl ?_
    refine v_get (z := ((L.length : Nat) : Int)) (pc' := 80) rfl dX11_joins_77 fk_RX11_392 ly_63 rfl (hf1) ?_
    refine v_iconst (pc' := 81) rfl dX11_joins_80 ?_
    refine v_iadd (pc' := 82) rfl dX11_joins_81 ?_
    refine v_put (pc' := 85) rfl dX11_joins_82 fi_RX11_392 ly_63 rfl ?_
    refine v_nmw (fun w4 hw4 => ?_)
    have s1 : w4 63 24 = ((cdk (canS n f) n : Nat) : Int) := by rw [hw4, up_ne _ _ (by omega)]; exact s1
    have a1 : w4 63 25 = ((cdk (canA n f g) n : Nat) : Int) := by rw [hw4, up_ne _ _ (by omega)]; exact a1
    refine v_vret dX11_joins_85 ?_
    exact ⟨hF1.add hn1 hn7 hf hg hnm hl (m := L.length) rfl (by rw [hw4, hw3, hw2]; rfl), by rw [hw4, hw3, hw2]; exact ((hm1.scr.up (keepB_ne (by decide) _ 0)).up (keepB_ne (by decide) _ 0)).up (by decide)⟩
  ·
    have hkl : k < L.length := by omega
    have hpv := pv_dg hn7 (hL.2.2 _ (getD_mem (d := ((0, 0) : PC)) hkl))
    have hl3 := cd_le hpv.1 hn7 (Nat.le_refl n)
    have hl4 := cd_le hpv.2.1 hn7 (Nat.le_refl n)
    have hcs := (cd_hx hpv.1 hS hn7).2
    have hca := (cd_hx hpv.2.1 hc.1 hn7).2
    rw [hpv.2.2.1] at hcs
    rw [hpv.2.2.2, hc.2] at hca
    refine v_aload_n 0 (pc' := 17) rfl dX11_joins_16 rfl rfl ?_
    refine v_getR (pc' := 20) rfl dX11_joins_17 fk_RX11_93 ly_63 rfl ?_
    refine v_iload_n 3 (pc' := 21) rfl dX11_joins_20 rfl rfl ?_
    refine v_iald (z := ((cdk (dg (L.getD k (0, 0)).1) n : Nat) : Int)) (pc' := 22) rfl dX11_joins_21 ly_91 (by omega) (by omega) rfl (by rw [show i.toNat = k by omega]; exact (hF1.2 k hkl).1) ?_
    refine v_aload_n 0 (pc' := 23) rfl dX11_joins_22 rfl rfl ?_
    refine v_get (z := ((cdk (canS n f) n : Nat) : Int)) (pc' := 26) rfl dX11_joins_23 fk_RX11_249 ly_63 rfl (s1) ?_
    refine v_icmp_ne (pc' := 29) (tgt := 43) rfl dX11_joins_26 (by decide) (by omega) (by omega) (fun c1 => ?_) (fun c1 => ?_)
    ·
      have hnk : L.getD k (0, 0) ≠ canC n f g := fun q => c1 (by have := hcs.mpr (by rw [q]; rfl); omega)
      refine v_iinc (ls' := [(3, _), (0, _), (1, _), (2, _)]) 3 (pc' := 46) rfl dX11_joins_43 rfl rfl rfl ?_
      refine v_nl (fun i' hi' => ?_)
      refine v_goto (tgt := 8) dX11_joins_46 (by decide) ?_
      refine v_ls [1, 2, 3, 0] rfl ?_
      exact ih0 (i') (⟨k + 1, by omega, by omega, fun j hj => by
          by_cases q : j = k
          · rw [q]; exact hnk
          · exact hno j (by omega)⟩) (by omega)
    ·
      refine v_aload_n 0 (pc' := 30) rfl dX11_joins_29 rfl rfl ?_
      refine v_getR (pc' := 33) rfl dX11_joins_30 fk_RX11_96 ly_63 rfl ?_
      refine v_iload_n 3 (pc' := 34) rfl dX11_joins_33 rfl rfl ?_
      refine v_iald (z := ((cdk (dg (L.getD k (0, 0)).2) n : Nat) : Int)) (pc' := 35) rfl dX11_joins_34 ly_92 (by omega) (by omega) rfl (by rw [show i.toNat = k by omega]; exact (hF1.2 k hkl).2) ?_
      refine v_aload_n 0 (pc' := 36) rfl dX11_joins_35 rfl rfl ?_
      refine v_get (z := ((cdk (canA n f g) n : Nat) : Int)) (pc' := 39) rfl dX11_joins_36 fk_RX11_255 ly_63 rfl (a1) ?_
      refine v_icmp_ne (pc' := 42) (tgt := 43) rfl dX11_joins_39 (by decide) (by omega) (by omega) (fun c2 => ?_) (fun c2 => ?_)
      ·
        have hnk : L.getD k (0, 0) ≠ canC n f g := fun q => c2 (by have := hca.mpr (by rw [q]; rfl); omega)
        refine v_iinc (ls' := [(3, _), (0, _), (1, _), (2, _)]) 3 (pc' := 46) rfl dX11_joins_43 rfl rfl rfl ?_
        refine v_nl (fun i' hi' => ?_)
        refine v_goto (tgt := 8) dX11_joins_46 (by decide) ?_
        refine v_ls [1, 2, 3, 0] rfl ?_
        exact ih0 (i') (⟨k + 1, by omega, by omega, fun j hj => by
            by_cases q : j = k
            · rw [q]; exact hnk
            · exact hno j (by omega)⟩) (by omega)
      ·
        have hin : canC n f g ∈ L := by
          have : canC n f g = L.getD k (0, 0) := Prod.ext (hcs.mp (by omega)).symm (hca.mp (by omega)).symm
          rw [this]; exact getD_mem hkl
        refine v_vret dX11_joins_42 ?_
        exact ⟨by unfold fAdd; rw [if_pos hin]; exact hF1, hm1.scr⟩
def FAM12 : Prop := ∀ (n : Nat) (s a : Nat → Nat), 1 ≤ n → n ≤ 7 → Pm n s → Pm n a → ∀ k j, k < (famI n s a k).length → j < 4 → fOp n j ((famI n s a k).getD k (0, 0)) ∉ fInn n (famI n s a k) k j → (fInn n (famI n s a k) k j).length < 12
def pltB (p q : PC) : Bool := decide (p.1 < q.1) || (decide (p.1 = q.1) && decide (p.2 < q.2))
theorem pltB_iff {p q : PC} : pltB p q = true ↔ plt p q := by
  unfold pltB plt
  simp only [Bool.or_eq_true, Bool.and_eq_true, decide_eq_true_eq]
def lesN (F : List PC) (p : PC) : Nat → Nat
  | 0 => 0
  | k + 1 => lesN F p k + if pltB (F.getD k (0, 0)) p = true then 1 else 0
theorem lesN_le (F : List PC) (p : PC) : ∀ k, lesN F p k ≤ k
  | 0 => Nat.le_refl _
  | k + 1 => by have := lesN_le F p k; simp only [lesN]; split <;> omega
def FamM (n : Nat) (s a : Nat → Nat) (i what z : Int) : Prop := (¬ (-1 ≤ i ∧ 0 ≤ what ∧ what ≤ 1) ∧ z = -1) ∨
  ((-1 ≤ i ∧ 0 ≤ what ∧ what ≤ 1) ∧ ((i = -1 ∧ z = ((fam n s a).length : Int)) ∨
    (i ≠ -1 ∧ ((∃ j, j < (fam n s a).length ∧ ((lesN (fam n s a) ((fam n s a).getD j (0, 0)) (fam n s a).length : Nat) : Int) = i ∧ z = if what = 0 then (cdk (dg ((fam n s a).getD j (0, 0)).1) n : Int) else (cdk (dg ((fam n s a).getD j (0, 0)).2) n : Int)) ∨
      ((∀ j, j < (fam n s a).length → ((lesN (fam n s a) ((fam n s a).getD j (0, 0)) (fam n s a).length : Nat) : Int) ≠ i) ∧ z = -2)))))
set_option maxHeartbeats 4000000 in
set_option maxRecDepth 100000 in
theorem c_familyM (l : Launch) (G : Gx) {i what : Int} (hi : rg i) (hwt : rg what) (h12 : FAM12) {n : Nat} {s a : Nat → Nat} (hV : MapV n s a) (w : Wd) (hM : RMW w n s a) (hR : RTab w n) : Sp l G 4 mX11_family [aR 63, aI (i), aI (what)] w (fun z w' => Scr w w' ∧ FamM n s a i what z) := by
  obtain ⟨⟨hn1, hn7⟩, hs, ha⟩ := id hV
  obtain ⟨r0, r1, r2⟩ := id hM
  obtain ⟨r3, r4, rPK, rTK⟩ := id hR
  have hfc := fac_le hn1 hn7
  have hk15 := kmany_le n hn7
  refine Sp_of RX11 rfl (by decide +kernel) rfl (Nat.le_of_ble_eq_true rfl) ?_
  refine v_iload_n 1 (pc' := 1) rfl dX11_family_0 rfl rfl ?_
  refine v_iconst (pc' := 2) rfl dX11_family_1 ?_
  refine v_icmp_lt (pc' := 5) (tgt := 14) rfl dX11_family_2 (by decide) (by omega) (by omega) (fun c0 => ?_) (fun c0 => ?_)
  ·
    have hn2 : ¬ (-1 ≤ i ∧ 0 ≤ what ∧ what ≤ 1) := fun q => by omega
    refine v_iconst (pc' := 15) rfl dX11_family_14 ?_
    refine v_iret dX11_family_15 (by decide) (rfl) ?_
    first
    | exact ⟨Scr.rf _, Or.inl ⟨hn2, rfl⟩⟩
    | exact ⟨hsl, Or.inr ⟨by omega, Or.inl ⟨by omega, by rw [hLF2]⟩⟩⟩
    | exact ⟨hsl, Or.inr ⟨by omega, Or.inr ⟨by omega, Or.inl ⟨j, hjl, by rw [← hue, ← hmany]; omega, by rw [if_pos (by omega)]⟩⟩⟩⟩
    | exact ⟨hsl, Or.inr ⟨by omega, Or.inr ⟨by omega, Or.inl ⟨j, hjl, by rw [← hue, ← hmany]; omega, by rw [if_neg (by omega)]⟩⟩⟩⟩
    | exact ⟨hsl, Or.inr ⟨by omega, Or.inr ⟨by omega, Or.inr ⟨fun v hv => hno v (by omega), rfl⟩⟩⟩⟩
  ·
    refine v_iload_n 2 (pc' := 6) rfl dX11_family_5 rfl rfl ?_
    refine v_iconst (pc' := 7) rfl dX11_family_6 ?_
    refine v_iconst (pc' := 8) rfl dX11_family_7 ?_
    refine v_cSP (pc' := 11) rfl dX11_family_8 lk_RX11_121 rfl (c_in l G hwt (by decide) (by decide) w) rfl rfl rfl ?_
    refine v_nm (fun in1 hin1 => ?_)
    refine v_if_ne (pc' := 14) (tgt := 16) rfl dX11_family_11 (by decide) (in_r hin1) (fun c1 => ?_) (fun c1 => ?_)
    ·
      have hy2 := in_1 hin1 (by omega)
      refine v_aload_n 0 (pc' := 17) rfl dX11_family_16 rfl rfl ?_
      refine v_iconst (pc' := 18) rfl dX11_family_17 ?_
      refine v_put (pc' := 21) rfl dX11_family_18 fi_RX11_392 ly_63 rfl ?_
      refine v_nmw (fun w2 hw2 => ?_)
      have r0 : w2 63 0 = (n : Int) := by rw [hw2, up_ne _ _ (by omega)]; exact r0
      have r1 : w2 63 1 = ((cdk s n : Nat) : Int) := by rw [hw2, up_ne _ _ (by omega)]; exact r1
      have r2 : w2 63 2 = ((cdk a n : Nat) : Int) := by rw [hw2, up_ne _ _ (by omega)]; exact r2
      have r3 : w2 63 3 = ((facN n : Nat) : Int) := by rw [hw2, up_ne _ _ (by omega)]; exact r3
      have r4 : w2 63 4 = ((kmany n : Nat) : Int) := by rw [hw2, up_ne _ _ (by omega)]; exact r4
      have hsc2 : Scr w w2 := by rw [hw2]; exact (Scr.rf _).up (by decide)
      have hJ0 := (hsc2 63 0 (by decide)).trans hM.1
      have hJR := hR.s hsc2
      have hJF : FMW w2 n [] := ⟨by rw [hw2, up_eq]; rfl, fun q hq => absurd hq (Nat.not_lt_zero _)⟩
      refine v_aload_n 0 (pc' := 22) rfl dX11_family_21 rfl rfl ?_
      refine v_aload_n 0 (pc' := 23) rfl dX11_family_22 rfl rfl ?_
      refine v_get (z := ((cdk s n : Nat) : Int)) (pc' := 26) rfl dX11_family_23 fk_RX11_149 ly_63 rfl (r1) ?_
      refine v_aload_n 0 (pc' := 27) rfl dX11_family_26 rfl rfl ?_
      refine v_get (z := ((cdk a n : Nat) : Int)) (pc' := 30) rfl dX11_family_27 fk_RX11_152 ly_63 rfl (r2) ?_
      refine v_cVv (pc' := 33) rfl dX11_family_30 lk_RX11_395 ly_63 rfl (c_joins l G (L := []) rfl rfl hs ha hn1 hn7 (FV.nil n) (fun _ => by decide) w2 hJ0 hJR hJF) rfl rfl rfl (fun joins1 w3 hq3 => ?_)
      obtain ⟨hF3, hs3⟩ := hq3
      have hF30 : FMW w3 n (famI n s a 0) := hF3
      have hsc3 := hsc2.tr hs3
      refine v_iconst (pc' := 34) rfl dX11_family_33 ?_
      refine v_istore_n (ls' := [(3, _), (0, _), (1, _), (2, _)]) (pc' := 35) rfl dX11_family_34 rfl rfl rfl ?_
      refine v_ls [1, 2, 3, 0] rfl ?_
      refine v_loop2 35 (fun (x : Int) (wl : Wd) => ∃ k : Nat, x = k ∧ k ≤ 12 ∧ FMW wl n (famI n s a k) ∧ Scr w wl) (fun (x : Int) (wl : Wd) => (12 - x).toNat) (fun (x : Int) (wl : Wd) => [(0, aR 63), (1, aI (i)), (2, aI (what)), (3, aI (x))]) (fun (x : Int) (wl : Wd) => []) (fun (x : Int) (wl : Wd) => wl) (fun x wl hI0 ih0 => ?_) (0) w3 (⟨0, rfl, by omega, hF30, hsc3⟩)
      obtain ⟨k, hx, hk, hFl, hsl⟩ := hI0
      obtain ⟨LF, hLF⟩ : ∃ m : Nat, m = (famI n s a k).length := ⟨_, rfl⟩
      have hfm := hFl.1
      rw [← hLF] at hfm
      have hFV := famI_FV hn1 hn7 hs ha k
      have hFl12 := hFV.1.1
      have g0 := (hsl 63 0 (by decide)).trans hM.1
      refine v_iload_n 3 (pc' := 36) rfl dX11_family_35 rfl rfl ?_
      refine v_aload_n 0 (pc' := 37) rfl dX11_family_36 rfl rfl ?_
      refine v_get (z := ((LF : Nat) : Int)) (pc' := 40) rfl dX11_family_37 fk_RX11_392 ly_63 rfl (hfm) ?_
      refine v_icmp_ge (pc' := 43) (tgt := 94) rfl dX11_family_40 (by decide) (by omega) (by omega) (fun c2 => ?_) (fun c2 => ?_)
      ·
        have hFe : fam n s a = famI n s a k := fam_at hk (by omega)
        have hFf : FMW wl n (fam n s a) := by rw [hFe]; exact hFl
        have hLF2 : LF = (fam n s a).length := by rw [hFe]; exact hLF
        have hfl12 : (fam n s a).length ≤ 12 := by rw [hFe]; exact hFl12
        have hFVf : FV n (fam n s a) := by rw [hFe]; exact hFV
        have hpF := fun (j : Nat) (hj : j < (fam n s a).length) => pv_dg hn7 (hFVf.2.2 _ (getD_mem (d := ((0, 0) : PC)) hj))
        refine v_iload_n 1 (pc' := 95) rfl dX11_family_94 rfl rfl ?_
        refine v_iconst (pc' := 96) rfl dX11_family_95 ?_
        refine v_icmp_ne (pc' := 99) (tgt := 104) rfl dX11_family_96 (by decide) (by omega) (by omega) (fun c4 => ?_) (fun c4 => ?_)
        ·
          refine v_iconst (pc' := 105) rfl dX11_family_104 ?_
          refine v_istore_n (ls' := [(3, _), (0, _), (1, _), (2, _)]) (pc' := 106) rfl dX11_family_105 rfl rfl rfl ?_
          refine v_ls [1, 2, 3, 0] rfl ?_
          refine v_loop1 106 (fun (y : Int) => ∃ j : Nat, y = j ∧ j ≤ (fam n s a).length ∧ ∀ v, v < j → ((lesN (fam n s a) ((fam n s a).getD v (0, 0)) (fam n s a).length : Nat) : Int) ≠ i) (fun (y : Int) => (12 - y).toNat) (fun (y : Int) => [(0, aR 63), (1, aI (i)), (2, aI (what)), (3, aI (y))]) (fun (y : Int) => []) (fun (y : Int) => wl) (fun y hI2 ih2 => ?_) (0) (⟨0, rfl, by omega, fun v hv => absurd hv (Nat.not_lt_zero _)⟩)
          obtain ⟨j, hy, hj, hno⟩ := hI2
          refine v_iload_n 3 (pc' := 107) rfl dX11_family_106 rfl rfl ?_
          refine v_aload_n 0 (pc' := 108) rfl dX11_family_107 rfl rfl ?_
          refine v_get (z := ((LF : Nat) : Int)) (pc' := 111) rfl dX11_family_108 fk_RX11_392 ly_63 rfl (hfm) ?_
          refine v_icmp_ge (pc' := 114) (tgt := 225) rfl dX11_family_111 (by decide) (by omega) (by omega) (fun c5 => ?_) (fun c5 => ?_)
          ·
            have hje : j = (fam n s a).length := by omega
            refine v_bipush (pc' := 227) rfl dX11_family_225 rfl ?_
            refine v_iret dX11_family_227 (by decide) (rfl) ?_
            first
            | exact ⟨Scr.rf _, Or.inl ⟨hn2, rfl⟩⟩
            | exact ⟨hsl, Or.inr ⟨by omega, Or.inl ⟨by omega, by rw [hLF2]⟩⟩⟩
            | exact ⟨hsl, Or.inr ⟨by omega, Or.inr ⟨by omega, Or.inl ⟨j, hjl, by rw [← hue, ← hmany]; omega, by rw [if_pos (by omega)]⟩⟩⟩⟩
            | exact ⟨hsl, Or.inr ⟨by omega, Or.inr ⟨by omega, Or.inl ⟨j, hjl, by rw [← hue, ← hmany]; omega, by rw [if_neg (by omega)]⟩⟩⟩⟩
            | exact ⟨hsl, Or.inr ⟨by omega, Or.inr ⟨by omega, Or.inr ⟨fun v hv => hno v (by omega), rfl⟩⟩⟩⟩
          ·
            have hjl : j < (fam n s a).length := by omega
            have hpj := hpF j hjl
            have hb1 := cd_le hpj.1 hn7 (Nat.le_refl n)
            have hb2 := cd_le hpj.2.1 hn7 (Nat.le_refl n)
            refine v_iconst (pc' := 115) rfl dX11_family_114 ?_
            refine v_istore (ls' := [(4, _), (0, _), (1, _), (2, _), (3, _)]) (pc' := 117) rfl dX11_family_115 rfl rfl ?_
            refine v_iconst (pc' := 118) rfl dX11_family_117 ?_
            refine v_istore (ls' := [(5, _), (4, _), (0, _), (1, _), (2, _), (3, _)]) (pc' := 120) rfl dX11_family_118 rfl rfl ?_
            refine v_ls [2, 3, 4, 5, 1, 0] rfl ?_
            refine v_loop2 120 (fun (many : Int) (u : Int) => ∃ v : Nat, u = v ∧ v ≤ (fam n s a).length ∧ many = (lesN (fam n s a) ((fam n s a).getD j (0, 0)) v : Nat)) (fun (many : Int) (u : Int) => (12 - u).toNat) (fun (many : Int) (u : Int) => [(0, aR 63), (1, aI (i)), (2, aI (what)), (3, aI (y)), (4, aI (many)), (5, aI (u))]) (fun (many : Int) (u : Int) => []) (fun (many : Int) (u : Int) => wl) (fun many u hI3 ih3 => ?_) (0) (0) (⟨0, rfl, by omega, rfl⟩)
            obtain ⟨v, hu, hv, hmany⟩ := hI3
            have hlle := lesN_le (fam n s a) ((fam n s a).getD j (0, 0)) v
            refine v_iload 5 (pc' := 122) rfl dX11_family_120 rfl ?_
            refine v_aload_n 0 (pc' := 123) rfl dX11_family_122 rfl rfl ?_
            refine v_get (z := ((LF : Nat) : Int)) (pc' := 126) rfl dX11_family_123 fk_RX11_392 ly_63 rfl (hfm) ?_
            refine v_icmp_ge (pc' := 129) (tgt := 193) rfl dX11_family_126 (by decide) (by omega) (by omega) (fun c6 => ?_) (fun c6 => ?_)
            ·
              have hue : v = (fam n s a).length := by omega
              refine v_iload 4 (pc' := 195) rfl dX11_family_193 rfl ?_
              refine v_iload_n 1 (pc' := 196) rfl dX11_family_195 rfl rfl ?_
              refine v_icmp_ne (pc' := 199) (tgt := 219) rfl dX11_family_196 (by decide) (by omega) (by omega) (fun c10 => ?_) (fun c10 => ?_)
              ·
                refine v_iinc (ls' := [(3, _), (0, _), (1, _), (2, _), (4, _), (5, _)]) 3 (pc' := 222) rfl dX11_family_219 rfl rfl rfl ?_
                refine v_nl (fun y' hy' => ?_)
                refine v_goto (tgt := 106) dX11_family_222 (by decide) ?_
                refine v_ls [1, 2, 3, 0] rfl ?_
                exact ih2 (y') (⟨j + 1, by omega, by omega, fun v hv => by
                    by_cases q : v = j
                    · rw [q, ← hue, ← hmany]; exact c10
                    · exact hno v (by omega)⟩) (by omega)
              ·
                refine v_iload_n 2 (pc' := 200) rfl dX11_family_199 rfl rfl ?_
                refine v_if_ne (pc' := 203) (tgt := 212) rfl dX11_family_200 (by decide) (by omega) (fun c11 => ?_) (fun c11 => ?_)
                ·
                  refine v_aload_n 0 (pc' := 213) rfl dX11_family_212 rfl rfl ?_
                  refine v_getR (pc' := 216) rfl dX11_family_213 fk_RX11_96 ly_63 rfl ?_
                  refine v_iload_n 3 (pc' := 217) rfl dX11_family_216 rfl rfl ?_
                  refine v_iald (z := ((cdk (dg ((fam n s a).getD j (0, 0)).2) n : Nat) : Int)) (pc' := 218) rfl dX11_family_217 ly_92 (by omega) (by omega) rfl (by rw [show y.toNat = j by omega]; exact (hFf.2 j hjl).2) ?_
                  refine v_iret dX11_family_218 (by decide) (rfl) ?_
                  first
                  | exact ⟨Scr.rf _, Or.inl ⟨hn2, rfl⟩⟩
                  | exact ⟨hsl, Or.inr ⟨by omega, Or.inl ⟨by omega, by rw [hLF2]⟩⟩⟩
                  | exact ⟨hsl, Or.inr ⟨by omega, Or.inr ⟨by omega, Or.inl ⟨j, hjl, by rw [← hue, ← hmany]; omega, by rw [if_pos (by omega)]⟩⟩⟩⟩
                  | exact ⟨hsl, Or.inr ⟨by omega, Or.inr ⟨by omega, Or.inl ⟨j, hjl, by rw [← hue, ← hmany]; omega, by rw [if_neg (by omega)]⟩⟩⟩⟩
                  | exact ⟨hsl, Or.inr ⟨by omega, Or.inr ⟨by omega, Or.inr ⟨fun v hv => hno v (by omega), rfl⟩⟩⟩⟩
                ·
                  refine v_aload_n 0 (pc' := 204) rfl dX11_family_203 rfl rfl ?_
                  refine v_getR (pc' := 207) rfl dX11_family_204 fk_RX11_93 ly_63 rfl ?_
                  refine v_iload_n 3 (pc' := 208) rfl dX11_family_207 rfl rfl ?_
                  refine v_iald (z := ((cdk (dg ((fam n s a).getD j (0, 0)).1) n : Nat) : Int)) (pc' := 209) rfl dX11_family_208 ly_91 (by omega) (by omega) rfl (by rw [show y.toNat = j by omega]; exact (hFf.2 j hjl).1) ?_
                  refine v_goto (tgt := 218) dX11_family_209 (by decide) ?_
                  refine v_iret dX11_family_218 (by decide) (rfl) ?_
                  first
                  | exact ⟨Scr.rf _, Or.inl ⟨hn2, rfl⟩⟩
                  | exact ⟨hsl, Or.inr ⟨by omega, Or.inl ⟨by omega, by rw [hLF2]⟩⟩⟩
                  | exact ⟨hsl, Or.inr ⟨by omega, Or.inr ⟨by omega, Or.inl ⟨j, hjl, by rw [← hue, ← hmany]; omega, by rw [if_pos (by omega)]⟩⟩⟩⟩
                  | exact ⟨hsl, Or.inr ⟨by omega, Or.inr ⟨by omega, Or.inl ⟨j, hjl, by rw [← hue, ← hmany]; omega, by rw [if_neg (by omega)]⟩⟩⟩⟩
                  | exact ⟨hsl, Or.inr ⟨by omega, Or.inr ⟨by omega, Or.inr ⟨fun v hv => hno v (by omega), rfl⟩⟩⟩⟩
            ·
              have hvl : v < (fam n s a).length := by omega
              have hpv := hpF v hvl
              have hb3 := cd_le hpv.1 hn7 (Nat.le_refl n)
              have hb4 := cd_le hpv.2.1 hn7 (Nat.le_refl n)
              have hc1 := cd_hx hpv.1 hpj.1 hn7
              have hc2 := cd_hx hpv.2.1 hpj.2.1 hn7
              rw [hpv.2.2.1, hpj.2.2.1] at hc1
              rw [hpv.2.2.2, hpj.2.2.2] at hc2
              refine v_iload 4 (pc' := 131) rfl dX11_family_129 rfl ?_
              have J184 : ∀ (bv : Int) (hJ : bv = if pltB ((fam n s a).getD v (0, 0)) ((fam n s a).getD j (0, 0)) = true then 1 else 0), V (mX l G 4 6 (some .int) (fun z w' => Scr w w' ∧ FamM n s a i what z)) RX11 cX11_family 184 [(0, aR 63), (1, aI (i)), (2, aI (what)), (3, aI (y)), (4, aI (many)), (5, aI (u))] [aI (bv), aI (many)] wl := by
                intro bv hJ
                have hbv := hJ
                have hJ184 : many + bv = ((lesN (fam n s a) ((fam n s a).getD j (0, 0)) (v + 1) : Nat) : Int) := by
                  simp only [lesN]
                  rw [hmany, hbv]
                  split <;> rfl
                refine v_iadd (pc' := 185) rfl dX11_family_184 ?_
                refine v_nm (fun many' hmany' => ?_)
                refine v_istore (ls' := [(4, _), (0, _), (1, _), (2, _), (3, _), (5, _)]) (pc' := 187) rfl dX11_family_185 rfl rfl ?_
                refine v_iinc (ls' := [(5, _), (4, _), (0, _), (1, _), (2, _), (3, _)]) 5 (pc' := 190) rfl dX11_family_187 rfl rfl rfl ?_
                refine v_nl (fun u' hu' => ?_)
                refine v_goto (tgt := 120) dX11_family_190 (by decide) ?_
                refine v_ls [2, 3, 4, 5, 1, 0] rfl ?_
                exact ih3 (many') (u') (⟨v + 1, by omega, by omega, hmany'.trans hJ184⟩) (by omega)
              refine v_aload_n 0 (pc' := 132) rfl dX11_family_131 rfl rfl ?_
              refine v_getR (pc' := 135) rfl dX11_family_132 fk_RX11_93 ly_63 rfl ?_
              refine v_iload 5 (pc' := 137) rfl dX11_family_135 rfl ?_
              refine v_iald (z := ((cdk (dg ((fam n s a).getD v (0, 0)).1) n : Nat) : Int)) (pc' := 138) rfl dX11_family_137 ly_91 (by omega) (by omega) rfl (by rw [show u.toNat = v by omega]; exact (hFf.2 v hvl).1) ?_
              refine v_aload_n 0 (pc' := 139) rfl dX11_family_138 rfl rfl ?_
              refine v_getR (pc' := 142) rfl dX11_family_139 fk_RX11_93 ly_63 rfl ?_
              refine v_iload_n 3 (pc' := 143) rfl dX11_family_142 rfl rfl ?_
              refine v_iald (z := ((cdk (dg ((fam n s a).getD j (0, 0)).1) n : Nat) : Int)) (pc' := 144) rfl dX11_family_143 ly_91 (by omega) (by omega) rfl (by rw [show y.toNat = j by omega]; exact (hFf.2 j hjl).1) ?_
              refine v_icmp_lt (pc' := 147) (tgt := 179) rfl dX11_family_144 (by decide) (by omega) (by omega) (fun c7 => ?_) (fun c7 => ?_)
              ·
                refine v_iconst (pc' := 180) rfl dX11_family_179 ?_
                refine v_goto (tgt := 184) dX11_family_180 (by decide) ?_
                exact J184 (1) (by first | rw [if_pos (pltB_iff.mpr <| Or.inl (hc1.1.mp (by omega)))] | rw [if_neg (fun q => (pltB_iff.mp q).elim (fun q => c7 (by have := hc1.1.mpr q; omega)) (fun q => c8 (by have := hc1.2.mpr q.1; omega)))] | rw [if_neg (fun q => (pltB_iff.mp q).elim (fun q => c7 (by have := hc1.1.mpr q; omega)) (fun q => absurd (hc2.1.mpr q.2) (by omega)))] | rw [if_pos (pltB_iff.mpr <| Or.inr ⟨hc1.2.mp (by omega), hc2.1.mp (by omega)⟩)])
              ·
                refine v_aload_n 0 (pc' := 148) rfl dX11_family_147 rfl rfl ?_
                refine v_getR (pc' := 151) rfl dX11_family_148 fk_RX11_93 ly_63 rfl ?_
                refine v_iload 5 (pc' := 153) rfl dX11_family_151 rfl ?_
                refine v_iald (z := ((cdk (dg ((fam n s a).getD v (0, 0)).1) n : Nat) : Int)) (pc' := 154) rfl dX11_family_153 ly_91 (by omega) (by omega) rfl (by rw [show u.toNat = v by omega]; exact (hFf.2 v hvl).1) ?_
                refine v_aload_n 0 (pc' := 155) rfl dX11_family_154 rfl rfl ?_
                refine v_getR (pc' := 158) rfl dX11_family_155 fk_RX11_93 ly_63 rfl ?_
                refine v_iload_n 3 (pc' := 159) rfl dX11_family_158 rfl rfl ?_
                refine v_iald (z := ((cdk (dg ((fam n s a).getD j (0, 0)).1) n : Nat) : Int)) (pc' := 160) rfl dX11_family_159 ly_91 (by omega) (by omega) rfl (by rw [show y.toNat = j by omega]; exact (hFf.2 j hjl).1) ?_
                refine v_icmp_ne (pc' := 163) (tgt := 183) rfl dX11_family_160 (by decide) (by omega) (by omega) (fun c8 => ?_) (fun c8 => ?_)
                ·
                  refine v_iconst (pc' := 184) rfl dX11_family_183 ?_
                  exact J184 (0) (by first | rw [if_pos (pltB_iff.mpr <| Or.inl (hc1.1.mp (by omega)))] | rw [if_neg (fun q => (pltB_iff.mp q).elim (fun q => c7 (by have := hc1.1.mpr q; omega)) (fun q => c8 (by have := hc1.2.mpr q.1; omega)))] | rw [if_neg (fun q => (pltB_iff.mp q).elim (fun q => c7 (by have := hc1.1.mpr q; omega)) (fun q => absurd (hc2.1.mpr q.2) (by omega)))] | rw [if_pos (pltB_iff.mpr <| Or.inr ⟨hc1.2.mp (by omega), hc2.1.mp (by omega)⟩)])
                ·
                  refine v_aload_n 0 (pc' := 164) rfl dX11_family_163 rfl rfl ?_
                  refine v_getR (pc' := 167) rfl dX11_family_164 fk_RX11_96 ly_63 rfl ?_
                  refine v_iload 5 (pc' := 169) rfl dX11_family_167 rfl ?_
                  refine v_iald (z := ((cdk (dg ((fam n s a).getD v (0, 0)).2) n : Nat) : Int)) (pc' := 170) rfl dX11_family_169 ly_92 (by omega) (by omega) rfl (by rw [show u.toNat = v by omega]; exact (hFf.2 v hvl).2) ?_
                  refine v_aload_n 0 (pc' := 171) rfl dX11_family_170 rfl rfl ?_
                  refine v_getR (pc' := 174) rfl dX11_family_171 fk_RX11_96 ly_63 rfl ?_
                  refine v_iload_n 3 (pc' := 175) rfl dX11_family_174 rfl rfl ?_
                  refine v_iald (z := ((cdk (dg ((fam n s a).getD j (0, 0)).2) n : Nat) : Int)) (pc' := 176) rfl dX11_family_175 ly_92 (by omega) (by omega) rfl (by rw [show y.toNat = j by omega]; exact (hFf.2 j hjl).2) ?_
                  refine v_icmp_ge (pc' := 179) (tgt := 183) rfl dX11_family_176 (by decide) (by omega) (by omega) (fun c9 => ?_) (fun c9 => ?_)
                  ·
                    refine v_iconst (pc' := 184) rfl dX11_family_183 ?_
                    exact J184 (0) (by first | rw [if_pos (pltB_iff.mpr <| Or.inl (hc1.1.mp (by omega)))] | rw [if_neg (fun q => (pltB_iff.mp q).elim (fun q => c7 (by have := hc1.1.mpr q; omega)) (fun q => c8 (by have := hc1.2.mpr q.1; omega)))] | rw [if_neg (fun q => (pltB_iff.mp q).elim (fun q => c7 (by have := hc1.1.mpr q; omega)) (fun q => absurd (hc2.1.mpr q.2) (by omega)))] | rw [if_pos (pltB_iff.mpr <| Or.inr ⟨hc1.2.mp (by omega), hc2.1.mp (by omega)⟩)])
                  ·
                    refine v_iconst (pc' := 180) rfl dX11_family_179 ?_
                    refine v_goto (tgt := 184) dX11_family_180 (by decide) ?_
                    exact J184 (1) (by first | rw [if_pos (pltB_iff.mpr <| Or.inl (hc1.1.mp (by omega)))] | rw [if_neg (fun q => (pltB_iff.mp q).elim (fun q => c7 (by have := hc1.1.mpr q; omega)) (fun q => c8 (by have := hc1.2.mpr q.1; omega)))] | rw [if_neg (fun q => (pltB_iff.mp q).elim (fun q => c7 (by have := hc1.1.mpr q; omega)) (fun q => absurd (hc2.1.mpr q.2) (by omega)))] | rw [if_pos (pltB_iff.mpr <| Or.inr ⟨hc1.2.mp (by omega), hc2.1.mp (by omega)⟩)])
        ·
          refine v_aload_n 0 (pc' := 100) rfl dX11_family_99 rfl rfl ?_
          refine v_get (z := ((LF : Nat) : Int)) (pc' := 103) rfl dX11_family_100 fk_RX11_392 ly_63 rfl (hfm) ?_
          refine v_iret dX11_family_103 (by decide) (rfl) ?_
          first
          | exact ⟨Scr.rf _, Or.inl ⟨hn2, rfl⟩⟩
          | exact ⟨hsl, Or.inr ⟨by omega, Or.inl ⟨by omega, by rw [hLF2]⟩⟩⟩
          | exact ⟨hsl, Or.inr ⟨by omega, Or.inr ⟨by omega, Or.inl ⟨j, hjl, by rw [← hue, ← hmany]; omega, by rw [if_pos (by omega)]⟩⟩⟩⟩
          | exact ⟨hsl, Or.inr ⟨by omega, Or.inr ⟨by omega, Or.inl ⟨j, hjl, by rw [← hue, ← hmany]; omega, by rw [if_neg (by omega)]⟩⟩⟩⟩
          | exact ⟨hsl, Or.inr ⟨by omega, Or.inr ⟨by omega, Or.inr ⟨fun v hv => hno v (by omega), rfl⟩⟩⟩⟩
      ·
        have hkl : k < (famI n s a k).length := by omega
        have hpv := pv_dg hn7 (hFV.2.2 _ (getD_mem (d := ((0, 0) : PC)) hkl))
        refine v_iconst (pc' := 44) rfl dX11_family_43 ?_
        refine v_istore (ls' := [(4, _), (0, _), (1, _), (2, _), (3, _)]) (pc' := 46) rfl dX11_family_44 rfl rfl ?_
        refine v_ls [1, 2, 3, 4, 0] rfl ?_
        refine v_loop2 46 (fun (k4 : Int) (wm : Wd) => ∃ j : Nat, k4 = j ∧ j ≤ 4 ∧ FMW wm n (fInn n (famI n s a k) k j) ∧ Scr w wm) (fun (k4 : Int) (wm : Wd) => (4 - k4).toNat) (fun (k4 : Int) (wm : Wd) => [(0, aR 63), (1, aI (i)), (2, aI (what)), (3, aI (x)), (4, aI (k4))]) (fun (k4 : Int) (wm : Wd) => []) (fun (k4 : Int) (wm : Wd) => wm) (fun k4 wm hI1 ih1 => ?_) (0) wl (⟨0, rfl, by omega, hFl, hsl⟩)
        obtain ⟨j, hk4, hj, hFm, hsm⟩ := hI1
        have hFN := FV.inn hn1 hn7 hFV hkl j
        have hpre := fInn_pre n (famI n s a k) k j
        have g0 := (hsm 63 0 (by decide)).trans hM.1
        refine v_iload 4 (pc' := 48) rfl dX11_family_46 rfl ?_
        refine v_iconst (pc' := 49) rfl dX11_family_48 ?_
        refine v_icmp_ge (pc' := 52) (tgt := 88) rfl dX11_family_49 (by decide) (by omega) (by omega) (fun c3 => ?_) (fun c3 => ?_)
        ·
          have hj4 : j = 4 := by omega
          refine v_iinc (ls' := [(3, _), (0, _), (1, _), (2, _), (4, _)]) 3 (pc' := 91) rfl dX11_family_88 rfl rfl rfl ?_
          refine v_nl (fun x' hx' => ?_)
          refine v_goto (tgt := 35) dX11_family_91 (by decide) ?_
          refine v_ls [1, 2, 3, 0] rfl ?_
          exact ih0 (x') wm (⟨k + 1, by omega, by omega, by rw [show famI n s a (k + 1) = fInn n (famI n s a k) k 4 by show (if _ then _ else _) = _; rw [if_pos hkl], ← hj4]; exact hFm, hsm⟩) (by omega)
        ·
          have hjl : j < 4 := by omega
          refine v_aload_n 0 (pc' := 53) rfl dX11_family_52 rfl rfl ?_
          refine v_aload_n 0 (pc' := 54) rfl dX11_family_53 rfl rfl ?_
          refine v_getR (pc' := 57) rfl dX11_family_54 fk_RX11_93 ly_63 rfl ?_
          refine v_iload_n 3 (pc' := 58) rfl dX11_family_57 rfl rfl ?_
          refine v_iald (z := ((cdk (dg ((famI n s a k).getD k (0, 0)).1) n : Nat) : Int)) (pc' := 59) rfl dX11_family_58 ly_91 (by omega) (by omega) rfl (by rw [show x.toNat = k by omega, (hFm.2 k (Nat.lt_of_lt_of_le hkl hpre.1)).1, hpre.2 k hkl]) ?_
          refine v_aload_n 0 (pc' := 60) rfl dX11_family_59 rfl rfl ?_
          refine v_getR (pc' := 63) rfl dX11_family_60 fk_RX11_96 ly_63 rfl ?_
          refine v_iload_n 3 (pc' := 64) rfl dX11_family_63 rfl rfl ?_
          refine v_iald (z := ((cdk (dg ((famI n s a k).getD k (0, 0)).2) n : Nat) : Int)) (pc' := 65) rfl dX11_family_64 ly_92 (by omega) (by omega) rfl (by rw [show x.toNat = k by omega, (hFm.2 k (Nat.lt_of_lt_of_le hkl hpre.1)).2, hpre.2 k hkl]) ?_
          refine v_iload 4 (pc' := 67) rfl dX11_family_65 rfl ?_
          refine v_cVv (pc' := 70) rfl dX11_family_67 lk_RX11_245 ly_63 rfl (c_operatesK l G (k := j) rfl rfl hk4 (by omega) hpv.1 hpv.2.1 hn1 hn7 wm g0) rfl rfl rfl (fun operates1 w4 hq4 => ?_)
          obtain ⟨ho22, ho23, hmd⟩ := hq4
          refine v_aload_n 0 (pc' := 71) rfl dX11_family_70 rfl rfl ?_
          refine v_aload_n 0 (pc' := 72) rfl dX11_family_71 rfl rfl ?_
          refine v_get (z := ((cdk (pblack j (dg ((famI n s a k).getD k (0, 0)).1) (dg ((famI n s a k).getD k (0, 0)).2)) n : Nat) : Int)) (pc' := 75) rfl dX11_family_72 fk_RX11_239 ly_63 rfl (ho22) ?_
          refine v_aload_n 0 (pc' := 76) rfl dX11_family_75 rfl rfl ?_
          refine v_get (z := ((cdk (pwhite j (dg ((famI n s a k).getD k (0, 0)).1) (dg ((famI n s a k).getD k (0, 0)).2)) n : Nat) : Int)) (pc' := 79) rfl dX11_family_76 fk_RX11_242 ly_63 rfl (ho23) ?_
          refine v_cVv (pc' := 82) rfl dX11_family_79 lk_RX11_395 ly_63 rfl (c_joins l G (L := (fInn n (famI n s a k) k j)) rfl rfl (pblack_pm hn7 hpv.1 hpv.2.1 j) (pwhite_pm hn7 hpv.1 hpv.2.1 j) hn1 hn7 hFN (fun q => h12 n s a hn1 hn7 hs ha k j hkl hjl q) w4 ((hsm.tr hmd.scr) 63 0 (by decide) |>.trans hM.1) (hR.s (hsm.tr hmd.scr)) (hFm.mid hmd)) rfl rfl rfl (fun joins2 w5 hq5 => ?_)
          obtain ⟨hF5, hs5⟩ := hq5
          refine v_iinc (ls' := [(4, _), (0, _), (1, _), (2, _), (3, _)]) 4 (pc' := 85) rfl dX11_family_82 rfl rfl rfl ?_
          refine v_nl (fun k4' hk4' => ?_)
          refine v_goto (tgt := 46) dX11_family_85 (by decide) ?_
          refine v_ls [1, 2, 3, 4, 0] rfl ?_
          exact ih1 (k4') w5 (⟨j + 1, by omega, by omega, hF5, (hsm.tr hmd.scr).tr hs5⟩) (by omega)
    ·
      have hn2 : ¬ (-1 ≤ i ∧ 0 ≤ what ∧ what ≤ 1) := fun q => in_0 hin1 (by omega) q.2
      refine v_iconst (pc' := 15) rfl dX11_family_14 ?_
      refine v_iret dX11_family_15 (by decide) (rfl) ?_
      first
      | exact ⟨Scr.rf _, Or.inl ⟨hn2, rfl⟩⟩
      | exact ⟨hsl, Or.inr ⟨by omega, Or.inl ⟨by omega, by rw [hLF2]⟩⟩⟩
      | exact ⟨hsl, Or.inr ⟨by omega, Or.inr ⟨by omega, Or.inl ⟨j, hjl, by rw [← hue, ← hmany]; omega, by rw [if_pos (by omega)]⟩⟩⟩⟩
      | exact ⟨hsl, Or.inr ⟨by omega, Or.inr ⟨by omega, Or.inl ⟨j, hjl, by rw [← hue, ← hmany]; omega, by rw [if_neg (by omega)]⟩⟩⟩⟩
      | exact ⟨hsl, Or.inr ⟨by omega, Or.inr ⟨by omega, Or.inr ⟨fun v hv => hno v (by omega), rfl⟩⟩⟩⟩

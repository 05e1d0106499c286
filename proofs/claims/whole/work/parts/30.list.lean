/-! ===== Census: list ===== -/
section CEN
variable {n : Nat} {s : Nat → Nat}
theorem cen_mem (h7 : n ≤ 7) (hs : Pm n s) (r : Nat → Nat) : r ∈ gathL n s s ↔ Pm n r ∧ pconj s r = s := gathL_mem h7 hs hs r
theorem pinv_comp_id (h7 : n ≤ 7) {r : Nat → Nat} (hr : Pm n r) : pcomp r (pinv r) = pid := by funext x; exact hr.inv_f h7 x
theorem cen_inv (h7 : n ≤ 7) (hs : Pm n s) {r : Nat → Nat} (h : r ∈ gathL n s s) : pinv r ∈ gathL n s s := by
  rw [cen_mem h7 hs] at h ⊢
  refine ⟨h.1.inv h7, ?_⟩
  conv => lhs; rw [← h.2]
  rw [conj_conj h7 h.1 (h.1.inv h7), pinv_comp_id h7 h.1, conj_id h7]
theorem conj_comp (h7 : n ≤ 7) {r : Nat → Nat} (hr : Pm n r) (p q : Nat → Nat) : pcomp (pconj p r) (pconj q r) = pconj (pcomp p q) r := by
  funext x; unfold pcomp pconj; rw [hr.inv_f h7]
def cndB (n : Nat) (s : Nat → Nat) (t2 t3 : Nat) (a : Nat → Nat) : Bool := kindN a n == t2 && (joinB s a n && kindN (pcomp s a) n == t3)
theorem cnd_conj (h1 : 1 ≤ n) (h7 : n ≤ 7) (hs : Pm n s) {a r : Nat → Nat} (ha : Pm n a) (hr : r ∈ gathL n s s) {t2 t3 : Nat} (h : cndB n s t2 t3 a = true) : cndB n s t2 t3 (pconj a r) = true := by
  rw [cen_mem h7 hs] at hr
  unfold cndB at h ⊢
  simp only [Bool.and_eq_true, beq_iff_eq] at h ⊢
  refine ⟨by rw [kind_conj h1 h7 ha hr.1]; exact h.1, ?_, ?_⟩
  · have := joinB_conj h1 h7 hs ha hr.1 h.2.1
    rw [hr.2] at this; exact this
  · have : pcomp s (pconj a r) = pconj (pcomp s a) r := by conv => lhs; rw [← hr.2]; rw [conj_comp h7 hr.1]
    rw [this, kind_conj h1 h7 (hs.comp ha) hr.1]; exact h.2.2
/-- i's map comes to j's by what leaves s -/
def Orb (n : Nat) (s : Nat → Nat) (i j : Nat) : Prop := ∃ r, r ∈ gathL n s s ∧ rankN (pconj (pn n i) r) n = j
theorem opnB_iff {t2 t3 i : Nat} : opnB n s t2 t3 i = true ↔ cndB n s t2 t3 (pn n i) = true ∧ ∀ j, Orb n s i j → i ≤ j := by
  unfold opnB cndB
  rw [Bool.and_eq_true, List.all_eq_true]
  simp only [Nat.ble_eq]
  exact ⟨fun h => ⟨h.1, fun j ⟨r, hr, e⟩ => by rw [← e]; exact h.2 r hr⟩, fun h => ⟨h.1, fun r hr => h.2 _ ⟨r, hr, rfl⟩⟩⟩
theorem Orb.at (h1 : 1 ≤ n) (h7 : n ≤ 7) (hs : Pm n s) {i j : Nat} (hi : i < facN n) (h : Orb n s i j) : j < facN n ∧ ∃ r, r ∈ gathL n s s ∧ pn n j = pconj (pn n i) r := by
  obtain ⟨r, hr, e⟩ := h
  have hp := Pm.conj h7 (pn_at h1 h7 hi).1 ((cen_mem h7 hs r).mp hr).1
  have k := pn_rank h1 h7 hp
  rw [e] at k
  exact ⟨k.1, r, hr, k.2⟩
theorem Orb.of (h1 : 1 ≤ n) (h7 : n ≤ 7) {i j : Nat} (hj : j < facN n) {r : Nat → Nat} (hr : r ∈ gathL n s s) (e : pn n j = pconj (pn n i) r) : Orb n s i j := ⟨r, hr, by rw [← e]; exact (pn_at h1 h7 hj).2⟩
theorem Orb.sym (h1 : 1 ≤ n) (h7 : n ≤ 7) (hs : Pm n s) {i j : Nat} (hi : i < facN n) (h : Orb n s i j) : Orb n s j i := by
  obtain ⟨hj, r, hr, e⟩ := h.at h1 h7 hs hi
  have rm := (cen_mem h7 hs r).mp hr
  refine Orb.of h1 h7 hi (cen_inv h7 hs hr) ?_
  rw [e, conj_conj h7 rm.1 (rm.1.inv h7), pinv_comp_id h7 rm.1, conj_id h7]
theorem Orb.tr (h1 : 1 ≤ n) (h7 : n ≤ 7) (hs : Pm n s) {i j k : Nat} (hi : i < facN n) (h : Orb n s i j) (h2 : Orb n s j k) : Orb n s i k := by
  obtain ⟨hj, r, hr, e⟩ := h.at h1 h7 hs hi
  obtain ⟨hk, q, hq, e2⟩ := h2.at h1 h7 hs hj
  have rm := (cen_mem h7 hs r).mp hr
  have qm := (cen_mem h7 hs q).mp hq
  refine Orb.of h1 h7 hk (r := pcomp r q) ((cen_mem h7 hs _).mpr ⟨rm.1.comp qm.1, ?_⟩) ?_
  · rw [← conj_conj h7 rm.1 qm.1, rm.2, qm.2]
  · rw [e2, e, conj_conj h7 rm.1 qm.1]
theorem Orb.cnd (h1 : 1 ≤ n) (h7 : n ≤ 7) (hs : Pm n s) {i j : Nat} (hi : i < facN n) (h : Orb n s i j) {t2 t3 : Nat} (hc : cndB n s t2 t3 (pn n i) = true) : cndB n s t2 t3 (pn n j) = true := by
  obtain ⟨hj, r, hr, e⟩ := h.at h1 h7 hs hi
  rw [e]; exact cnd_conj h1 h7 hs (pn_at h1 h7 hi).1 hr hc
/-- a map is opened just if no earlier one that was opened comes to it -/
theorem opn_seen (h1 : 1 ≤ n) (h7 : n ≤ 7) (hs : Pm n s) {t2 t3 k : Nat} (hk : k < facN n) (hc : cndB n s t2 t3 (pn n k) = true) : opnB n s t2 t3 k = true ↔ ¬ ∃ i, i < k ∧ opnB n s t2 t3 i = true ∧ Orb n s i k := by
  rw [opnB_iff]
  constructor
  · rintro ⟨-, h⟩ ⟨i, hi, -, ho⟩
    have := h i (ho.sym h1 h7 hs (by omega))
    omega
  · intro h
    refine ⟨hc, fun j hj => ?_⟩
    rcases Nat.lt_or_ge j k with q | q
    · exfalso
      -- the least of its orbit
      have key : ∀ m, m < k → Orb n s k m → False := by
        intro m
        induction m using Nat.strongRecOn with
        | _ m ih =>
          intro hm ho
          by_cases hmin : ∀ v, Orb n s m v → m ≤ v
          · exact h ⟨m, hm, opnB_iff.mpr ⟨ho.cnd h1 h7 hs hk hc, hmin⟩, ho.sym h1 h7 hs hk⟩
          · simp only [Classical.not_forall] at hmin
            obtain ⟨v, hv, hlt⟩ := hmin
            exact ih v (by omega) (by omega) (ho.tr h1 h7 hs hk hv)
      exact key j q hj
    · exact q
theorem opnL_s (t2 t3 k : Nat) : opnL n s t2 t3 (k + 1) = if opnB n s t2 t3 k = true then opnL n s t2 t3 k ++ [k] else opnL n s t2 t3 k := by
  unfold opnL
  rw [List.range_succ, List.filter_append]
  by_cases h : opnB n s t2 t3 k = true
  · rw [if_pos h]; simp [h]
  · rw [if_neg h]; simp [h]
theorem opnL_mono (t2 t3 : Nat) {k m : Nat} (h : k ≤ m) : (opnL n s t2 t3 k).length ≤ (opnL n s t2 t3 m).length := by
  induction m with
  | zero => have : k = 0 := by omega
            rw [this]; exact Nat.le_refl _
  | succ m ih =>
    by_cases q : k = m + 1
    · rw [q]; exact Nat.le_refl _
    · have := ih (by omega)
      rw [opnL_s]; split
      · simp; omega
      · exact this
end CEN
set_option maxHeartbeats 4000000 in
set_option maxRecDepth 100000 in
theorem c_belongs (l : Launch) (G : Gx) {q t3 : Int} {n T3 : Nat} {s a : Nat → Nat} (hn1 : 1 ≤ n) (hn7 : n ≤ 7) (hs : Pm n s) (ha : Pm n a) (hq : q = (hx a : Nat)) (ht3 : t3 = (T3 : Nat)) (hT3 : T3 ≤ 2147483647) (w : Wd) (h2 : w 19 2 = n) (h15 : w 19 15 = (hx s : Nat)) : SpP l G 4 mX1_belongs [aR 19, aI (q), aI (t3)] w ((if (joinB s a n && kindN (pcomp s a) n == T3) then 1 else 0 : Int)) := by
  obtain ⟨it, hit, hkt⟩ := kf_type hn1 hn7 (hs.comp ha)
  have hkl := kT_le hn7 hit
  refine Sp_of RX1 rfl (by decide +kernel) rfl (Nat.le_of_ble_eq_true rfl) ?_
  refine v_aload_n 0 (pc' := 1) rfl dX1_belongs_0 rfl rfl ?_
  refine v_get (z := ((hx s : Nat) : Int)) (pc' := 4) rfl dX1_belongs_1 fk_RX1_96 ly_19 rfl (h15) ?_
  refine v_iload_n 1 (pc' := 5) rfl dX1_belongs_4 rfl rfl ?_
  refine v_aload_n 0 (pc' := 6) rfl dX1_belongs_5 rfl rfl ?_
  refine v_get (z := (n : Int)) (pc' := 9) rfl dX1_belongs_6 fk_RX1_36 ly_19 rfl (h2) ?_
  refine v_cSP (pc' := 12) rfl dX1_belongs_9 lk_RX1_83 rfl (c_joined l G rfl hq (hs.b7 hn7) (ha.b7 hn7) rfl hn7 w) rfl rfl rfl ?_
  refine v_nm (fun joined1 hjoined1 => ?_)
  refine v_if_eq (pc' := 15) (tgt := 38) rfl dX1_belongs_12 (by decide) (by rw [hjoined1]; split <;> omega) (fun c0 => ?_) (fun c0 => ?_)
  ·
    have hz : (joinB s a n && kindN (pcomp s a) n == T3) = false := by
      have : joinB s a n = false := by rw [Bool.eq_false_iff]; intro e; rw [e] at hjoined1; simp at hjoined1; omega
      rw [this]; rfl
    refine v_iconst (pc' := 39) rfl dX1_belongs_38 ?_
    refine v_iret dX1_belongs_39 (by decide) (rfl) ?_
    exact ⟨by rw [hz]; rfl, rfl⟩
  ·
    have hj : joinB s a n = true := by rw [← Bool.not_eq_false]; intro e; rw [e] at hjoined1; simp at hjoined1; omega
    refine v_aload_n 0 (pc' := 16) rfl dX1_belongs_15 rfl rfl ?_
    refine v_get (z := ((hx s : Nat) : Int)) (pc' := 19) rfl dX1_belongs_16 fk_RX1_96 ly_19 rfl (h15) ?_
    refine v_iload_n 1 (pc' := 20) rfl dX1_belongs_19 rfl rfl ?_
    refine v_cSP (pc' := 23) rfl dX1_belongs_20 lk_RX1_77 rfl (c_then l G rfl hq (hs.b7 hn7) (ha.B hn7) w) rfl rfl rfl ?_
    refine v_nm (fun then1 hthen1 => ?_)
    refine v_aload_n 0 (pc' := 24) rfl dX1_belongs_23 rfl rfl ?_
    refine v_get (z := (n : Int)) (pc' := 27) rfl dX1_belongs_24 fk_RX1_36 ly_19 rfl (h2) ?_
    refine v_cSP (pc' := 30) rfl dX1_belongs_27 lk_RX1_56 rfl (c_kind l G hthen1 ((hs.comp ha).b7 hn7) rfl hn7 w) rfl rfl rfl ?_
    refine v_nm (fun kind1 hkind1 => ?_)
    refine v_iload_n 2 (pc' := 31) rfl dX1_belongs_30 rfl rfl ?_
    refine v_icmp_ne (pc' := 34) (tgt := 38) rfl dX1_belongs_31 (by decide) (by omega) (by omega) (fun c1 => ?_) (fun c1 => ?_)
    ·
      have hz : (joinB s a n && kindN (pcomp s a) n == T3) = false := by rw [hj, beq_false_of_ne (by omega)]; rfl
      refine v_iconst (pc' := 39) rfl dX1_belongs_38 ?_
      refine v_iret dX1_belongs_39 (by decide) (rfl) ?_
      exact ⟨by rw [hz]; rfl, rfl⟩
    ·
      have hz : (joinB s a n && kindN (pcomp s a) n == T3) = true := by rw [hj, Bool.true_and, beq_iff_eq]; omega
      refine v_iconst (pc' := 35) rfl dX1_belongs_34 ?_
      refine v_goto (tgt := 39) dX1_belongs_35 (by decide) ?_
      refine v_iret dX1_belongs_39 (by decide) (rfl) ?_
      exact ⟨by rw [hz]; rfl, rfl⟩
set_option maxHeartbeats 4000000 in
set_option maxRecDepth 100000 in
theorem c_open (l : Launch) (G : Gx) {q : Int} {n iX m : Nat} {s : Nat → Nat} (hn1 : 1 ≤ n) (hn7 : n ≤ 7) (hs : Pm n s) (hi : iX < facN n) (hq : q = (hx (pn n iX) : Nat)) (hm : m < 64) (w : Wd) (hG : GOut w (gathL n s s)) (h2 : w 19 2 = n) (h14 : w 19 14 = (m : Nat)) : Sp l G 2 mX1_open [aR 19, aR 7, aI (q)] w (fun _ w' => (∀ j, j < 5040 → (w' 24 j = 1 ∧ Orb n s iX j) ∨ (w' 24 j = w 24 j ∧ ¬ Orb n s iX j)) ∧ w' 19 14 = ((m + 1 : Nat) : Int) ∧ w' 25 m = (hx (pn n iX) : Nat) ∧ w' 26 m = (autN n s (pn n iX) : Nat) ∧ (∀ j, j ≠ m → w' 25 j = w 25 j ∧ w' 26 j = w 26 j) ∧ (∀ j, j ≠ 14 → w' 19 j = w 19 j) ∧ Fr [19, 24, 25, 26] w w') := by
  have hlen := gathL_len hn1 hn7 hs hs
  have hf5 := fac_5040 hn1 hn7
  have ha := (pn_at hn1 hn7 hi).1
  have hax := hx_pos ha hn7
  refine Sp_of RX1 rfl (by decide +kernel) rfl (Nat.le_of_ble_eq_true rfl) ?_
  refine v_iconst (pc' := 1) rfl dX1_open_0 ?_
  refine v_istore_n (ls' := [(3, _), (0, _), (1, _), (2, _)]) (pc' := 2) rfl dX1_open_1 rfl rfl rfl ?_
  refine v_iconst (pc' := 3) rfl dX1_open_2 ?_
  refine v_istore (ls' := [(4, _), (3, _), (0, _), (1, _), (2, _)]) (pc' := 5) rfl dX1_open_3 rfl rfl ?_
  refine v_ls [2, 3, 4, 1, 0] rfl ?_
  refine v_loop3 5 (fun (auts : Int) (i : Int) (wl : Wd) => ∃ k : Nat, i = k ∧ k ≤ (gathL n s s).length ∧ auts = (cntG (fun r => hx (pconj (pn n iX) r) == hx (pn n iX)) (gathL n s s) k : Nat) ∧ (∀ j, j < 5040 → (wl 24 j = 1 ∧ ∃ x, x < k ∧ rankN (pconj (pn n iX) ((gathL n s s).getD x pid)) n = j) ∨ (wl 24 j = w 24 j ∧ ¬ ∃ x, x < k ∧ rankN (pconj (pn n iX) ((gathL n s s).getD x pid)) n = j)) ∧ Fr [24] w wl) (fun (auts : Int) (i : Int) (wl : Wd) => ((gathL n s s).length - i).toNat) (fun (auts : Int) (i : Int) (wl : Wd) => [(0, aR 19), (1, aR 7), (2, aI (q)), (3, aI (auts)), (4, aI (i))]) (fun (auts : Int) (i : Int) (wl : Wd) => []) (fun (auts : Int) (i : Int) (wl : Wd) => wl) (fun auts i wl hI0 ih0 => ?_) (0) (0) w (⟨0, rfl, by omega, rfl, fun j _ => Or.inr ⟨rfl, fun ⟨x, hx, _⟩ => by omega⟩, Fr.rf _ _⟩)
  obtain ⟨k, hik, hk, hauts, hseen, hfl⟩ := hI0
  have hGl : GOut wl (gathL n s s) := ⟨by rw [hfl 7 6 rfl]; exact hG.1, fun j hj => by rw [hfl 8 j rfl]; exact hG.2 j hj⟩
  have gm := hGl.1
  have g2 : wl 19 2 = n := by rw [hfl 19 2 rfl]; exact h2
  have g14 : wl 19 14 = (m : Nat) := by rw [hfl 19 14 rfl]; exact h14
  refine v_iload 4 (pc' := 7) rfl dX1_open_5 rfl ?_
  refine v_aload_n 1 (pc' := 8) rfl dX1_open_7 rfl rfl ?_
  refine v_get (z := (((gathL n s s).length : Nat) : Int)) (pc' := 11) rfl dX1_open_8 fk_RX1_113 ly_7 rfl (gm) ?_
  refine v_icmp_ge (pc' := 14) (tgt := 73) rfl dX1_open_11 (by decide) (by omega) (by omega) (fun c0 => ?_) (fun c0 => ?_)
  ·
    have hke : k = (gathL n s s).length := by omega
    refine v_aload_n 0 (pc' := 74) rfl dX1_open_73 rfl rfl ?_
    refine v_get (z := (m : Int)) (pc' := 77) rfl dX1_open_74 fk_RX1_93 ly_19 rfl (g14) ?_
    refine v_bipush (pc' := 79) rfl dX1_open_77 rfl ?_
    refine v_icmp_ge (pc' := 82) (tgt := 112) rfl dX1_open_79 (by decide) (by omega) (by omega) (fun c4 => absurd c4 (by omega)) (fun c4 => ?_)
    refine v_aload_n 0 (pc' := 83) rfl dX1_open_82 rfl rfl ?_
    refine v_getR (pc' := 86) rfl dX1_open_83 fk_RX1_30 ly_19 rfl ?_
    refine v_aload_n 0 (pc' := 87) rfl dX1_open_86 rfl rfl ?_
    refine v_get (z := (m : Int)) (pc' := 90) rfl dX1_open_87 fk_RX1_93 ly_19 rfl (g14) ?_
    refine v_iload_n 2 (pc' := 91) rfl dX1_open_90 rfl rfl ?_
    refine v_iast (pc' := 92) rfl dX1_open_91 ly_25 (by omega) (by omega) rfl ?_
    refine v_nmw (fun w5 hw5 => ?_)
    have gm : w5 7 6 = (((gathL n s s).length : Nat) : Int) := by rw [hw5, up_ne _ _ (by omega)]; exact gm
    have g2 : w5 19 2 = (n : Int) := by rw [hw5, up_ne _ _ (by omega)]; exact g2
    have g14 : w5 19 14 = (m : Int) := by rw [hw5, up_ne _ _ (by omega)]; exact g14
    refine v_aload_n 0 (pc' := 93) rfl dX1_open_92 rfl rfl ?_
    refine v_getR (pc' := 96) rfl dX1_open_93 fk_RX1_33 ly_19 rfl ?_
    refine v_aload_n 0 (pc' := 97) rfl dX1_open_96 rfl rfl ?_
    refine v_get (z := (m : Int)) (pc' := 100) rfl dX1_open_97 fk_RX1_93 ly_19 rfl (g14) ?_
    refine v_iload_n 3 (pc' := 101) rfl dX1_open_100 rfl rfl ?_
    refine v_iast (pc' := 102) rfl dX1_open_101 ly_26 (by omega) (by omega) rfl ?_
    refine v_nmw (fun w6 hw6 => ?_)
    have gm : w6 7 6 = (((gathL n s s).length : Nat) : Int) := by rw [hw6, up_ne _ _ (by omega)]; exact gm
    have g2 : w6 19 2 = (n : Int) := by rw [hw6, up_ne _ _ (by omega)]; exact g2
    have g14 : w6 19 14 = (m : Int) := by rw [hw6, up_ne _ _ (by omega)]; exact g14
    refine v_aload_n 0 (pc' := 103) rfl dX1_open_102 rfl rfl ?_
    refine v_dupR (pc' := 104) rfl dX1_open_103 ?_
    refine v_get (z := (m : Int)) (pc' := 107) rfl dX1_open_104 fk_RX1_93 ly_19 rfl (g14) ?_
    refine v_iconst (pc' := 108) rfl dX1_open_107 ?_
    refine v_iadd (pc' := 109) rfl dX1_open_108 ?_
    refine v_put (pc' := 112) rfl dX1_open_109 fi_RX1_93 ly_19 rfl ?_
    refine v_nmw (fun w7 hw7 => ?_)
    have gm : w7 7 6 = (((gathL n s s).length : Nat) : Int) := by rw [hw7, up_ne _ _ (by omega)]; exact gm
    have g2 : w7 19 2 = (n : Int) := by rw [hw7, up_ne _ _ (by omega)]; exact g2
    refine v_vret dX1_open_112 ?_
    rw [show ((m : Nat) : Int).toNat = m from rfl] at hw5 hw6
    refine ⟨fun j hj => ?_, by rw [hw7, up_eq]; simp, by rw [hw7, up_ne _ _ (by omega), hw6, up_ne _ _ (by omega), hw5, up_eq, hq], by rw [hw7, up_ne _ _ (by omega), hw6, up_eq, hauts, hke]; rfl, fun j hj => by rw [hw7, up_ne _ _ (by omega), up_ne _ _ (by omega), hw6, up_ne _ _ (by omega), up_ne _ _ (by omega), hw5, up_ne _ _ (by omega), up_ne _ _ (by omega)]; exact ⟨hfl 25 j rfl, hfl 26 j rfl⟩, fun j hj => by rw [hw7, up_ne _ _ (by omega), hw6, up_ne _ _ (by omega), hw5, up_ne _ _ (by omega)]; exact hfl 19 j rfl, by rw [hw7, hw6, hw5]; exact (((hfl.mono (by decide)).up rfl).up rfl).up rfl⟩
    rw [hw7, up_ne _ _ (by omega), hw6, up_ne _ _ (by omega), hw5, up_ne _ _ (by omega)]
    rcases hseen j hj with ⟨p, x, hx, ex⟩ | ⟨p, q⟩
    · exact Or.inl ⟨p, _, getD_mem (by omega), ex⟩
    · refine Or.inr ⟨p, fun ⟨r, hr, e⟩ => ?_⟩
      obtain ⟨x, hx, e2⟩ := mem_getD (d := pid) hr
      exact q ⟨x, by omega, by rw [e2]; exact e⟩
  ·
    have hLk := (cen_mem hn7 hs _).mp (getD_mem (L := gathL n s s) (i := k) (d := pid) (by omega))
    have hcj := Pm.conj hn7 ha hLk.1
    have hxc := hx_pos hcj hn7
    have hrk := (pn_rank hn1 hn7 hcj).1
    refine v_iload_n 2 (pc' := 15) rfl dX1_open_14 rfl rfl ?_
    refine v_aload_n 1 (pc' := 16) rfl dX1_open_15 rfl rfl ?_
    refine v_iload 4 (pc' := 18) rfl dX1_open_16 rfl ?_
    refine v_cVP (pc' := 21) rfl dX1_open_18 lk_RX1_116 ly_7 rfl (c_nth8 l G (L := gathL n s s) (i := k) (by omega) (by omega) (by omega) wl hGl) rfl rfl rfl ?_
    refine v_nm (fun nth1 hnth1 => ?_)
    refine v_cSP (pc' := 24) rfl dX1_open_21 lk_RX1_119 rfl (c_relabelled l G hq hnth1 (ha.mono hn7) (hLk.1.mono hn7) wl) rfl rfl rfl ?_
    refine v_nm (fun relabelled1 hrelabelled1 => ?_)
    refine v_istore (ls' := [(5, _), (0, _), (1, _), (2, _), (3, _), (4, _)]) (pc' := 26) rfl dX1_open_24 rfl rfl ?_
    refine v_iload 0 (pc' := 28) rfl dX1_open_26 rfl ?_
    refine v_iload_n 3 (pc' := 29) rfl dX1_open_28 rfl rfl ?_
    refine v_icmp_ne (pc' := 32) (tgt := 35) rfl dX1_open_29 (by decide) (by omega) (by omega) (fun c1 => ?_) (fun c1 => ?_)
    ·
      have hno : ¬ (hx (pconj (pn n iX) ((gathL n s s).getD k pid)) == hx (pn n iX)) = true := by rw [beq_iff_eq]; omega
      refine v_iload 0 (pc' := 37) rfl dX1_open_35 rfl ?_
      refine v_aload_n 1 (pc' := 38) rfl dX1_open_37 rfl rfl ?_
      refine v_get (z := (n : Int)) (pc' := 41) rfl dX1_open_38 fk_RX1_36 ly_19 rfl (g2) ?_
      refine v_cSP (pc' := 44) rfl dX1_open_41 lk_RX1_122 rfl (c_rank l G hrelabelled1 (hcj.b7 hn7) rfl hn7 wl) rfl rfl rfl ?_
      refine v_nm (fun rank1 hrank1 => ?_)
      refine v_istore (ls' := [(6, _), (5, _), (0, _), (1, _), (2, _), (3, _), (4, _)]) (pc' := 46) rfl dX1_open_44 rfl rfl ?_
      refine v_iload 0 (pc' := 48) rfl dX1_open_46 rfl ?_
      refine v_if_lt (pc' := 51) (tgt := 67) rfl dX1_open_48 (by decide) (by omega) (fun c2 => absurd c2 (by omega)) (fun c2 => ?_)
      refine v_iload 0 (pc' := 53) rfl dX1_open_51 rfl ?_
      refine v_sipush (pc' := 56) rfl dX1_open_53 rfl ?_
      refine v_icmp_ge (pc' := 59) (tgt := 67) rfl dX1_open_56 (by decide) (by omega) (by omega) (fun c3 => absurd c3 (by omega)) (fun c3 => ?_)
      refine v_aload_n 2 (pc' := 60) rfl dX1_open_59 rfl rfl ?_
      refine v_getR (pc' := 63) rfl dX1_open_60 fk_RX1_26 ly_19 rfl ?_
      refine v_iload 0 (pc' := 65) rfl dX1_open_63 rfl ?_
      refine v_iconst (pc' := 66) rfl dX1_open_65 ?_
      refine v_zast (z := 1) (pc' := 67) rfl dX1_open_66 ly_24 (by omega) (by omega) rfl (rfl) ?_
      refine v_nmw (fun w4 hw4 => ?_)
      have gm : w4 7 6 = (((gathL n s s).length : Nat) : Int) := by rw [hw4, up_ne _ _ (by omega)]; exact gm
      have g2 : w4 19 2 = (n : Int) := by rw [hw4, up_ne _ _ (by omega)]; exact g2
      have g14 : w4 19 14 = (m : Int) := by rw [hw4, up_ne _ _ (by omega)]; exact g14
      refine v_iinc (ls' := [(4, _), (6, _), (5, _), (0, _), (1, _), (2, _), (3, _)]) 6 (pc' := 70) rfl dX1_open_67 rfl rfl rfl ?_
      refine v_nl (fun i' hi' => ?_)
      refine v_goto (tgt := 5) dX1_open_70 (by decide) ?_
      refine v_ls [3, 4, 5, 6, 0] rfl ?_
      exact ih0 (auts) (i') w4 (⟨k + 1, by omega, by omega, by simp only [cntG]; rw [if_neg hno]; omega, fun j hj => by
          rw [hw4, up_at, show rank1.toNat = rankN (pconj (pn n iX) ((gathL n s s).getD k pid)) n by omega]
          by_cases e : rankN (pconj (pn n iX) ((gathL n s s).getD k pid)) n = j
          · left; exact ⟨by rw [if_pos ⟨rfl, e.symm⟩], k, by omega, e⟩
          · rw [if_neg (fun q => e q.2.symm)]
            rcases hseen j hj with ⟨p, x, hx, ex⟩ | ⟨p, q⟩
            · left; exact ⟨p, x, by omega, ex⟩
            · right; exact ⟨p, fun ⟨x, hx, ex⟩ => by
                by_cases r : x = k
                · rw [r] at ex; exact e ex
                · exact q ⟨x, by omega, ex⟩⟩, by rw [hw4]; exact hfl.up rfl⟩) (by omega)
    ·
      have hyes : (hx (pconj (pn n iX) ((gathL n s s).getD k pid)) == hx (pn n iX)) = true := by rw [beq_iff_eq]; omega
      refine v_iinc (ls' := [(3, _), (5, _), (0, _), (1, _), (2, _), (4, _)]) 4 (pc' := 35) rfl dX1_open_32 rfl rfl rfl ?_
      refine v_nl (fun auts' hauts' => ?_)
      refine v_iload 1 (pc' := 37) rfl dX1_open_35 rfl ?_
      refine v_aload_n 2 (pc' := 38) rfl dX1_open_37 rfl rfl ?_
      refine v_get (z := (n : Int)) (pc' := 41) rfl dX1_open_38 fk_RX1_36 ly_19 rfl (g2) ?_
      refine v_cSP (pc' := 44) rfl dX1_open_41 lk_RX1_122 rfl (c_rank l G hrelabelled1 (hcj.b7 hn7) rfl hn7 wl) rfl rfl rfl ?_
      refine v_nm (fun rank1 hrank1 => ?_)
      refine v_istore (ls' := [(6, _), (3, _), (5, _), (0, _), (1, _), (2, _), (4, _)]) (pc' := 46) rfl dX1_open_44 rfl rfl ?_
      refine v_iload 0 (pc' := 48) rfl dX1_open_46 rfl ?_
      refine v_if_lt (pc' := 51) (tgt := 67) rfl dX1_open_48 (by decide) (by omega) (fun c2 => absurd c2 (by omega)) (fun c2 => ?_)
      refine v_iload 0 (pc' := 53) rfl dX1_open_51 rfl ?_
      refine v_sipush (pc' := 56) rfl dX1_open_53 rfl ?_
      refine v_icmp_ge (pc' := 59) (tgt := 67) rfl dX1_open_56 (by decide) (by omega) (by omega) (fun c3 => absurd c3 (by omega)) (fun c3 => ?_)
      refine v_aload_n 3 (pc' := 60) rfl dX1_open_59 rfl rfl ?_
      refine v_getR (pc' := 63) rfl dX1_open_60 fk_RX1_26 ly_19 rfl ?_
      refine v_iload 0 (pc' := 65) rfl dX1_open_63 rfl ?_
      refine v_iconst (pc' := 66) rfl dX1_open_65 ?_
      refine v_zast (z := 1) (pc' := 67) rfl dX1_open_66 ly_24 (by omega) (by omega) rfl (rfl) ?_
      refine v_nmw (fun w4 hw4 => ?_)
      have gm : w4 7 6 = (((gathL n s s).length : Nat) : Int) := by rw [hw4, up_ne _ _ (by omega)]; exact gm
      have g2 : w4 19 2 = (n : Int) := by rw [hw4, up_ne _ _ (by omega)]; exact g2
      have g14 : w4 19 14 = (m : Int) := by rw [hw4, up_ne _ _ (by omega)]; exact g14
      refine v_iinc (ls' := [(4, _), (6, _), (3, _), (5, _), (0, _), (1, _), (2, _)]) 6 (pc' := 70) rfl dX1_open_67 rfl rfl rfl ?_
      refine v_nl (fun i' hi' => ?_)
      refine v_goto (tgt := 5) dX1_open_70 (by decide) ?_
      refine v_ls [4, 5, 6, 2, 0] rfl ?_
      exact ih0 (auts') (i') w4 (⟨k + 1, by omega, by omega, by simp only [cntG]; rw [if_pos hyes]; omega, fun j hj => by
          rw [hw4, up_at, show rank1.toNat = rankN (pconj (pn n iX) ((gathL n s s).getD k pid)) n by omega]
          by_cases e : rankN (pconj (pn n iX) ((gathL n s s).getD k pid)) n = j
          · left; exact ⟨by rw [if_pos ⟨rfl, e.symm⟩], k, by omega, e⟩
          · rw [if_neg (fun q => e q.2.symm)]
            rcases hseen j hj with ⟨p, x, hx, ex⟩ | ⟨p, q⟩
            · left; exact ⟨p, x, by omega, ex⟩
            · right; exact ⟨p, fun ⟨x, hx, ex⟩ => by
                by_cases r : x = k
                · rw [r] at ex; exact e ex
                · exact q ⟨x, by omega, ex⟩⟩, by rw [hw4]; exact hfl.up rfl⟩) (by omega)
set_option maxHeartbeats 4000000 in
set_option maxRecDepth 100000 in
theorem c_white1 (l : Launch) (G : Gx) {i0 : Int} {i : Nat} (hi : i0 = i) (hi6 : i < 64) (w : Wd)  : SpP l G 0 mX1_white [aR 19, aI (i0)] w (w 25 i) := by
  refine Sp_of RX1 rfl (by decide +kernel) rfl (Nat.le_of_ble_eq_true rfl) ?_
  refine v_iload_n 1 (pc' := 1) rfl dX1_white_0 rfl rfl ?_
  refine v_if_lt (pc' := 4) (tgt := 10) rfl dX1_white_1 (by decide) (by omega) (fun c0 => absurd c0 (by omega)) (fun c0 => ?_)
  refine v_iload_n 1 (pc' := 5) rfl dX1_white_4 rfl rfl ?_
  refine v_bipush (pc' := 7) rfl dX1_white_5 rfl ?_
  refine v_icmp_lt (pc' := 10) (tgt := 15) rfl dX1_white_7 (by decide) (by omega) (by omega) (fun c1 => ?_) (fun c1 => absurd c1 (by omega))
  refine v_aload_n 0 (pc' := 16) rfl dX1_white_15 rfl rfl ?_
  refine v_getR (pc' := 19) rfl dX1_white_16 fk_RX1_30 ly_19 rfl ?_
  refine v_iload_n 1 (pc' := 20) rfl dX1_white_19 rfl rfl ?_
  refine v_iald (z := (w 25 i)) (pc' := 21) rfl dX1_white_20 ly_25 (by omega) (by omega) rfl (by rw [show i0.toNat = i by omega]) ?_
  refine v_iret dX1_white_21 (by decide) (rfl) ?_
  exact ⟨rfl, rfl⟩
set_option maxHeartbeats 4000000 in
set_option maxRecDepth 100000 in
theorem c_auts1 (l : Launch) (G : Gx) {i0 : Int} {i : Nat} (hi : i0 = i) (hi6 : i < 64) (w : Wd)  : SpP l G 0 mX1_auts [aR 19, aI (i0)] w (w 26 i) := by
  refine Sp_of RX1 rfl (by decide +kernel) rfl (Nat.le_of_ble_eq_true rfl) ?_
  refine v_iload_n 1 (pc' := 1) rfl dX1_auts_0 rfl rfl ?_
  refine v_if_lt (pc' := 4) (tgt := 10) rfl dX1_auts_1 (by decide) (by omega) (fun c0 => absurd c0 (by omega)) (fun c0 => ?_)
  refine v_iload_n 1 (pc' := 5) rfl dX1_auts_4 rfl rfl ?_
  refine v_bipush (pc' := 7) rfl dX1_auts_5 rfl ?_
  refine v_icmp_lt (pc' := 10) (tgt := 14) rfl dX1_auts_7 (by decide) (by omega) (by omega) (fun c1 => ?_) (fun c1 => absurd c1 (by omega))
  refine v_aload_n 0 (pc' := 15) rfl dX1_auts_14 rfl rfl ?_
  refine v_getR (pc' := 18) rfl dX1_auts_15 fk_RX1_33 ly_19 rfl ?_
  refine v_iload_n 1 (pc' := 19) rfl dX1_auts_18 rfl rfl ?_
  refine v_iald (z := (w 26 i)) (pc' := 20) rfl dX1_auts_19 ly_26 (by omega) (by omega) rfl (by rw [show i0.toNat = i by omega]) ?_
  refine v_iret dX1_auts_20 (by decide) (rfl) ?_
  exact ⟨rfl, rfl⟩

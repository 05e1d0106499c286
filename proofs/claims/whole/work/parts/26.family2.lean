/-! ===== Family: gather ===== -/
section CA
variable {n : Nat} {s a : Nat → Nat}
theorem gath_ne (h1 : 1 ≤ n) (h7 : n ≤ 7) (hs : Pm n s) : 0 < (gathL n s (canS n s)).length := by
  obtain ⟨⟨r, hr, e⟩, -⟩ := least_conj h1 h7 _ s (Nat.le_refl _) hs
  have := (gathL_mem h7 hs (least_pm h1 h7 hs) r).mpr ⟨hr, e⟩
  exact List.length_pos_of_mem this
/-- what settle finds: the least form -/
theorem canA_ok (h1 : 1 ≤ n) (h7 : n ≤ 7) (hs : Pm n s) (ha : Pm n a) : ∃ r, Pm n r ∧ pconj s r = canS n s ∧ setA n s a = hx (pconj a r) ∧ ∀ q, Pm n q → pconj s q = canS n s → hx (pconj a r) ≤ hx (pconj a q) := by
  have hS := least_pm h1 h7 hs
  have val : ∀ i, i < (gathL n s (canS n s)).length → setV n s a i < 134217728 := fun i hi => by
    have := (gathL_mem h7 hs hS _).mp (getD_mem (d := pid) hi)
    exact (hx_pos (Pm.conj h7 ha this.1) h7).2
  obtain ⟨i, hi, e⟩ := minU_ex (setV n s a) _ (gath_ne h1 h7 hs) val
  have hm := (gathL_mem h7 hs hS _).mp (getD_mem (d := pid) hi)
  refine ⟨_, hm.1, hm.2, e, fun q hq hc => ?_⟩
  obtain ⟨j, hj, e2⟩ := mem_getD (d := pid) ((gathL_mem h7 hs hS q).mpr ⟨hq, hc⟩)
  have := (minU_le (setV n s a) (gathL n s (canS n s)).length).2 j hj
  rw [e] at this
  rw [← e2]; exact this
def canA (n : Nat) (s a : Nat → Nat) : Nat → Nat := dg (setA n s a)
theorem canA_pm (h1 : 1 ≤ n) (h7 : n ≤ 7) (hs : Pm n s) (ha : Pm n a) : Pm n (canA n s a) ∧ hx (canA n s a) = setA n s a := by
  obtain ⟨r, hr, e1, e2, -⟩ := canA_ok h1 h7 hs ha
  have hp := Pm.conj h7 ha hr
  unfold canA
  rw [e2, dg_hx hp h7]
  exact ⟨hp, rfl⟩
theorem canS_pm (h1 : 1 ≤ n) (h7 : n ≤ 7) (hs : Pm n s) : Pm n (canS n s) := least_pm h1 h7 hs
end CA
def canC (n : Nat) (s a : Nat → Nat) : PC := (hx (canS n s), setA n s a)
def fOp (n k : Nat) (p : PC) : PC := canC n (pblack k (dg p.1) (dg p.2)) (pwhite k (dg p.1) (dg p.2))
def fInn (n : Nat) (L : List PC) (i : Nat) : Nat → List PC
  | 0 => L
  | k + 1 => fAdd (fInn n L i k) (fOp n k (L.getD i (0, 0)))
def famI (n : Nat) (s a : Nat → Nat) : Nat → List PC
  | 0 => fAdd [] (canC n s a)
  | i + 1 => if i < (famI n s a i).length then fInn n (famI n s a i) i 4 else famI n s a i
def fam (n : Nat) (s a : Nat → Nat) : List PC := famI n s a 12
def PV (n : Nat) (p : PC) : Prop := ∃ S A, Pm n S ∧ Pm n A ∧ p = (hx S, hx A)
def FV (n : Nat) (L : List PC) : Prop := FB28 L ∧ L.Nodup ∧ ∀ p, p ∈ L → PV n p
theorem fAdd_pre {L : List PC} (p : PC) : L.length ≤ (fAdd L p).length ∧ ∀ j, j < L.length → (fAdd L p).getD j (0, 0) = L.getD j (0, 0) := by
  unfold fAdd
  split
  · exact ⟨Nat.le_refl _, fun _ _ => rfl⟩
  · split
    · refine ⟨by simp, fun j hj => ?_⟩
      rw [List.getD_eq_getElem?_getD, List.getElem?_append_left hj, ← List.getD_eq_getElem?_getD]
    · exact ⟨Nat.le_refl _, fun _ _ => rfl⟩
theorem fInn_pre (n : Nat) (L : List PC) (i : Nat) : ∀ k, L.length ≤ (fInn n L i k).length ∧ ∀ j, j < L.length → (fInn n L i k).getD j (0, 0) = L.getD j (0, 0)
  | 0 => ⟨Nat.le_refl _, fun _ _ => rfl⟩
  | k + 1 => by
    have a := fInn_pre n L i k
    have b := fAdd_pre (L := fInn n L i k) (fOp n k (L.getD i (0, 0)))
    exact ⟨by simp only [fInn]; omega, fun j hj => by simp only [fInn]; rw [b.2 j (by omega), a.2 j hj]⟩
section FVs
variable {n : Nat}
theorem canC_pv (h1 : 1 ≤ n) (h7 : n ≤ 7) {s a : Nat → Nat} (hs : Pm n s) (ha : Pm n a) : PV n (canC n s a) := by
  have h := canA_pm h1 h7 hs ha
  exact ⟨_, _, canS_pm h1 h7 hs, h.1, by unfold canC; rw [h.2]⟩
theorem PV.le (h7 : n ≤ 7) {p : PC} (h : PV n p) : p.1 < 268435456 ∧ p.2 < 268435456 := by
  obtain ⟨S, A, a, b, rfl⟩ := h
  have c := hx_pos a h7
  have d := hx_pos b h7
  exact ⟨by show hx S < _; omega, by show hx A < _; omega⟩
theorem fOp_pv (h1 : 1 ≤ n) (h7 : n ≤ 7) {p : PC} (h : PV n p) (k : Nat) : PV n (fOp n k p) := by
  obtain ⟨S, A, a, b, rfl⟩ := h
  unfold fOp
  rw [dg_hx a h7, dg_hx b h7]
  exact canC_pv h1 h7 (pblack_pm h7 a b k) (pwhite_pm h7 a b k)
theorem FV.add (h7 : n ≤ 7) {L : List PC} (h : FV n L) {p : PC} (hp : PV n p) : FV n (fAdd L p) := by
  refine ⟨h.1.add (hp.le h7), fAdd_nodup h.2.1 p, fun q hq => ?_⟩
  unfold fAdd at hq
  split at hq
  · exact h.2.2 q hq
  · split at hq
    · rw [List.mem_append, List.mem_singleton] at hq
      rcases hq with r | r
      · exact h.2.2 q r
      · rw [r]; exact hp
    · exact h.2.2 q hq
theorem FV.inn (h1 : 1 ≤ n) (h7 : n ≤ 7) {L : List PC} (h : FV n L) {i : Nat} (hi : i < L.length) : ∀ k, FV n (fInn n L i k)
  | 0 => h
  | k + 1 => FV.add h7 (FV.inn h1 h7 h hi k) (fOp_pv h1 h7 (h.2.2 _ (getD_mem hi)) k)
theorem FV.nil (n : Nat) : FV n [] := ⟨⟨by simp, fun p h => absurd h List.not_mem_nil⟩, List.nodup_nil, fun p h => absurd h List.not_mem_nil⟩
theorem famI_FV (h1 : 1 ≤ n) (h7 : n ≤ 7) {s a : Nat → Nat} (hs : Pm n s) (ha : Pm n a) : ∀ i, FV n (famI n s a i)
  | 0 => FV.add h7 (FV.nil n) (canC_pv h1 h7 hs ha)
  | i + 1 => by
    simp only [famI]
    split
    · exact FV.inn h1 h7 (famI_FV h1 h7 hs ha i) (by assumption) 4
    · exact famI_FV h1 h7 hs ha i
theorem famI_stay {s a : Nat → Nat} {k : Nat} (h : (famI n s a k).length ≤ k) : ∀ m, famI n s a (k + m) = famI n s a k
  | 0 => rfl
  | m + 1 => by
    show (if k + m < (famI n s a (k + m)).length then _ else famI n s a (k + m)) = _
    rw [famI_stay h m, if_neg (by omega)]
theorem fam_at {s a : Nat → Nat} {k : Nat} (hk : k ≤ 12) (h : (famI n s a k).length ≤ k) : fam n s a = famI n s a k := by
  have := famI_stay h (12 - k)
  rw [show k + (12 - k) = 12 by omega] at this
  exact this
end FVs
set_option maxHeartbeats 4000000 in
set_option maxRecDepth 100000 in
theorem c_gather3 (l : Launch) (G : Gx) {n0 p q : Int} {n : Nat} {s a : Nat → Nat} (hn : n0 = n) (hn1 : 1 ≤ n) (hn7 : n ≤ 7) (hs : Pm n s) (ha : Pm n a) (hp : p = (hx s : Nat)) (hq : q = (hx a : Nat)) (w : Wd)  : Sp l G 11 mX3_gather [aR 27, aR 7, aI (n0), aI (p), aI (q)] w (fun _ w' => Fr [7, 8, 9, 10, 27, 28, 29] w w' ∧ ∃ A : List PC, A.Perm (fam n s a) ∧ FW w' A ∧ SO A A.length) := by
  refine Sp_of RX3 rfl (by decide +kernel) rfl (Nat.le_of_ble_eq_true rfl) ?_
  refine v_aload_n 0 (pc' := 1) rfl dX3_gather_0 rfl rfl ?_
  refine v_iconst (pc' := 2) rfl dX3_gather_1 ?_
  refine v_put (pc' := 5) rfl dX3_gather_2 fi_RX3_18 ly_27 rfl ?_
  refine v_nmw (fun w1 hw1 => ?_)
  refine v_aload_n 1 (pc' := 6) rfl dX3_gather_5 rfl rfl ?_
  refine v_iload_n 2 (pc' := 7) rfl dX3_gather_6 rfl rfl ?_
  refine v_iload_n 3 (pc' := 8) rfl dX3_gather_7 rfl rfl ?_
  refine v_iload 4 (pc' := 10) rfl dX3_gather_8 rfl ?_
  refine v_cVv (pc' := 13) rfl dX3_gather_10 lk_RX3_22 ly_7 rfl (c_settle l G hn hn1 hn7 hs ha hp hq w1) rfl rfl rfl (fun settle1 w2 hq2 => ?_)
  obtain ⟨f2, s7, s8, s9⟩ := hq2
  have hF0 : FW w2 [] := ⟨by rw [f2 27 2 rfl, hw1, up_eq]; rfl, fun j hj => absurd hj (Nat.not_lt_zero _)⟩
  have hC := canC_pv hn1 hn7 hs ha
  refine v_aload_n 0 (pc' := 14) rfl dX3_gather_13 rfl rfl ?_
  refine v_aload_n 1 (pc' := 15) rfl dX3_gather_14 rfl rfl ?_
  refine v_get (z := ((hx (canS n s) : Nat) : Int)) (pc' := 18) rfl dX3_gather_15 fk_RX3_28 ly_7 rfl (s7) ?_
  refine v_aload_n 1 (pc' := 19) rfl dX3_gather_18 rfl rfl ?_
  refine v_get (z := ((setA n s a : Nat) : Int)) (pc' := 22) rfl dX3_gather_19 fk_RX3_31 ly_7 rfl (s8) ?_
  refine v_cVv (pc' := 25) rfl dX3_gather_22 lk_RX3_34 ly_27 rfl (c_add3 l G (p := canC n s a) rfl rfl (hC.le hn7) (FV.nil n).1 w2 hF0) rfl rfl rfl (fun add1 w3 hq3 => ?_)
  obtain ⟨hF3, f3⟩ := hq3
  have hfr3 : Fr [7, 8, 9, 10, 27, 28, 29] w w3 := ((show Fr [7, 8, 9, 10, 27, 28, 29] w w1 by rw [hw1]; exact (Fr.rf _ _).up rfl).trs (f2.mono (by decide))).trs (f3.mono (by decide))
  refine v_iconst (pc' := 26) rfl dX3_gather_25 ?_
  refine v_istore (ls' := [(5, _), (0, _), (1, _), (2, _), (3, _), (4, _)]) (pc' := 28) rfl dX3_gather_26 rfl rfl ?_
  refine v_ls [1, 2, 3, 4, 5, 0] rfl ?_
  refine v_loop2 28 (fun (i : Int) (wl : Wd) => ∃ k : Nat, i = k ∧ k ≤ 12 ∧ FW wl (famI n s a k) ∧ Fr [7, 8, 9, 10, 27, 28, 29] w wl) (fun (i : Int) (wl : Wd) => (12 - i).toNat) (fun (i : Int) (wl : Wd) => [(0, aR 27), (1, aR 7), (2, aI (n0)), (3, aI (p)), (4, aI (q)), (5, aI (i))]) (fun (i : Int) (wl : Wd) => []) (fun (i : Int) (wl : Wd) => wl) (fun i wl hI0 ih0 => ?_) (0) w3 (⟨0, rfl, by omega, hF3, hfr3⟩)
  obtain ⟨k, hi, hk, hFk, hfk⟩ := hI0
  have hFVk := famI_FV hn1 hn7 hs ha k
  have hlk := hFVk.1.1
  have fm := hFk.1
  refine v_iload 5 (pc' := 30) rfl dX3_gather_28 rfl ?_
  refine v_aload_n 0 (pc' := 31) rfl dX3_gather_30 rfl rfl ?_
  refine v_get (z := (((famI n s a k).length : Nat) : Int)) (pc' := 34) rfl dX3_gather_31 fk_RX3_18 ly_27 rfl (fm) ?_
  refine v_icmp_ge (pc' := 37) (tgt := 128) rfl dX3_gather_34 (by decide) (by omega) (by omega) (fun c0 => ?_) (fun c0 => ?_)
  ·
    refine v_aload_n 0 (pc' := 129) rfl dX3_gather_128 rfl rfl ?_
    refine v_cVv (pc' := 132) rfl dX3_gather_129 lk_RX3_47 ly_27 rfl (c_sort3 l G hFVk.1 hFVk.2.1 wl hFk) rfl rfl rfl (fun sort1 w8 hq8 => ?_)
    refine v_vret dX3_gather_132 ?_
    obtain ⟨f8, A, hA, hFA, hSO⟩ := hq8
    have hst : fam n s a = famI n s a k := fam_at hk (by omega)
    exact ⟨hfk.trs (f8.mono (by decide)), A, by rw [hst]; exact hA, hFA, hSO⟩
  ·
    refine v_iload 5 (pc' := 39) rfl dX3_gather_37 rfl ?_
    refine v_bipush (pc' := 41) rfl dX3_gather_39 rfl ?_
    refine v_icmp_ge (pc' := 44) (tgt := 128) rfl dX3_gather_41 (by decide) (by omega) (by omega) (fun c1 => ?_) (fun c1 => ?_)
    ·
      refine v_aload_n 0 (pc' := 129) rfl dX3_gather_128 rfl rfl ?_
      refine v_cVv (pc' := 132) rfl dX3_gather_129 lk_RX3_47 ly_27 rfl (c_sort3 l G hFVk.1 hFVk.2.1 wl hFk) rfl rfl rfl (fun sort1 w8 hq8 => ?_)
      refine v_vret dX3_gather_132 ?_
      obtain ⟨f8, A, hA, hFA, hSO⟩ := hq8
      have hst : fam n s a = famI n s a k := fam_at hk (by omega)
      exact ⟨hfk.trs (f8.mono (by decide)), A, by rw [hst]; exact hA, hFA, hSO⟩
    ·
      have hkl : k < (famI n s a k).length := by omega
      refine v_iconst (pc' := 45) rfl dX3_gather_44 ?_
      refine v_istore (ls' := [(6, _), (0, _), (1, _), (2, _), (3, _), (4, _), (5, _)]) (pc' := 47) rfl dX3_gather_45 rfl rfl ?_
      refine v_ls [1, 2, 3, 4, 5, 6, 0] rfl ?_
      refine v_loop2 47 (fun (what : Int) (wm : Wd) => ∃ m : Nat, what = m ∧ m ≤ 4 ∧ FW wm (fInn n (famI n s a k) k m) ∧ Fr [7, 8, 9, 10, 27, 28, 29] w wm) (fun (what : Int) (wm : Wd) => (4 - what).toNat) (fun (what : Int) (wm : Wd) => [(0, aR 27), (1, aR 7), (2, aI (n0)), (3, aI (p)), (4, aI (q)), (5, aI (i)), (6, aI (what))]) (fun (what : Int) (wm : Wd) => []) (fun (what : Int) (wm : Wd) => wm) (fun what wm hI1 ih1 => ?_) (0) wl (⟨0, rfl, by omega, hFk, hfk⟩)
      obtain ⟨m, hwt, hm4, hFm, hfm⟩ := hI1
      have hFVm := FV.inn hn1 hn7 hFVk hkl m
      have hpm := fInn_pre n (famI n s a k) k m
      have hpv := hFVk.2.2 _ (getD_mem (d := (0, 0)) hkl)
      obtain ⟨S1, A1, hS1, hA1, hSA⟩ := id hpv
      refine v_iload 6 (pc' := 49) rfl dX3_gather_47 rfl ?_
      refine v_iconst (pc' := 50) rfl dX3_gather_49 ?_
      refine v_icmp_ge (pc' := 53) (tgt := 122) rfl dX3_gather_50 (by decide) (by omega) (by omega) (fun c2 => ?_) (fun c2 => ?_)
      ·
        refine v_iinc (ls' := [(5, _), (0, _), (1, _), (2, _), (3, _), (4, _), (6, _)]) 5 (pc' := 125) rfl dX3_gather_122 rfl rfl rfl ?_
        refine v_nl (fun i' hi' => ?_)
        refine v_goto (tgt := 28) dX3_gather_125 (by decide) ?_
        refine v_ls [1, 2, 3, 4, 5, 0] rfl ?_
        exact ih0 (i') wm (⟨k + 1, by omega, by omega, by simp only [famI]; rw [if_pos hkl]; rw [show (4 : Nat) = m by omega]; exact hFm, hfm⟩) (by omega)
      ·
        refine v_iload 6 (pc' := 55) rfl dX3_gather_53 rfl ?_
        refine v_aload_n 0 (pc' := 56) rfl dX3_gather_55 rfl rfl ?_
        refine v_getR (pc' := 59) rfl dX3_gather_56 fk_RX3_11 ly_27 rfl ?_
        refine v_iload 5 (pc' := 61) rfl dX3_gather_59 rfl ?_
        refine v_iald (z := ((hx S1 : Nat) : Int)) (pc' := 62) rfl dX3_gather_61 ly_28 (by omega) (by omega) rfl (by rw [show i.toNat = k by omega, (hFm.2 k (by omega)).1, (fInn_pre n (famI n s a k) k m).2 k hkl, hSA]) ?_
        refine v_aload_n 0 (pc' := 63) rfl dX3_gather_62 rfl rfl ?_
        refine v_getR (pc' := 66) rfl dX3_gather_63 fk_RX3_15 ly_27 rfl ?_
        refine v_iload 5 (pc' := 68) rfl dX3_gather_66 rfl ?_
        refine v_iald (z := ((hx A1 : Nat) : Int)) (pc' := 69) rfl dX3_gather_68 ly_29 (by omega) (by omega) rfl (by rw [show i.toNat = k by omega, (hFm.2 k (by omega)).2, (fInn_pre n (famI n s a k) k m).2 k hkl, hSA]) ?_
        refine v_cSP (pc' := 72) rfl dX3_gather_69 lk_RX3_38 rfl (c_black l G (k := m) (by omega) (by omega) rfl rfl (hS1.mono hn7) (hA1.mono hn7) wm) rfl rfl rfl ?_
        refine v_nm (fun black1 hblack1 => ?_)
        refine v_istore (ls' := [(7, _), (0, _), (1, _), (2, _), (3, _), (4, _), (5, _), (6, _)]) (pc' := 74) rfl dX3_gather_72 rfl rfl ?_
        refine v_iload 7 (pc' := 76) rfl dX3_gather_74 rfl ?_
        refine v_aload_n 1 (pc' := 77) rfl dX3_gather_76 rfl rfl ?_
        refine v_getR (pc' := 80) rfl dX3_gather_77 fk_RX3_11 ly_27 rfl ?_
        refine v_iload 6 (pc' := 82) rfl dX3_gather_80 rfl ?_
        refine v_iald (z := ((hx S1 : Nat) : Int)) (pc' := 83) rfl dX3_gather_82 ly_28 (by omega) (by omega) rfl (by rw [show i.toNat = k by omega, (hFm.2 k (by omega)).1, (fInn_pre n (famI n s a k) k m).2 k hkl, hSA]) ?_
        refine v_aload_n 1 (pc' := 84) rfl dX3_gather_83 rfl rfl ?_
        refine v_getR (pc' := 87) rfl dX3_gather_84 fk_RX3_15 ly_27 rfl ?_
        refine v_iload 6 (pc' := 89) rfl dX3_gather_87 rfl ?_
        refine v_iald (z := ((hx A1 : Nat) : Int)) (pc' := 90) rfl dX3_gather_89 ly_29 (by omega) (by omega) rfl (by rw [show i.toNat = k by omega, (hFm.2 k (by omega)).2, (fInn_pre n (famI n s a k) k m).2 k hkl, hSA]) ?_
        refine v_cSP (pc' := 93) rfl dX3_gather_90 lk_RX3_44 rfl (c_white l G (k := m) (by omega) (by omega) rfl rfl (hS1.mono hn7) (hA1.mono hn7) wm) rfl rfl rfl ?_
        refine v_nm (fun white1 hwhite1 => ?_)
        refine v_istore (ls' := [(8, _), (7, _), (0, _), (1, _), (2, _), (3, _), (4, _), (5, _), (6, _)]) (pc' := 95) rfl dX3_gather_93 rfl rfl ?_
        refine v_aload_n 3 (pc' := 96) rfl dX3_gather_95 rfl rfl ?_
        refine v_iload_n 4 (pc' := 97) rfl dX3_gather_96 rfl rfl ?_
        refine v_iload 1 (pc' := 99) rfl dX3_gather_97 rfl ?_
        refine v_iload 0 (pc' := 101) rfl dX3_gather_99 rfl ?_
        refine v_cVv (pc' := 104) rfl dX3_gather_101 lk_RX3_22 ly_7 rfl (c_settle l G hn hn1 hn7 (pblack_pm hn7 hS1 hA1 m) (pwhite_pm hn7 hS1 hA1 m) hblack1 hwhite1 wm) rfl rfl rfl (fun settle2 w6 hq6 => ?_)
        obtain ⟨f6, s7, s8, s9⟩ := hq6
        have hF6 : FW w6 (fInn n (famI n s a k) k m) := ⟨by rw [f6 27 2 rfl]; exact hFm.1, fun j hj => by rw [f6 28 j rfl, f6 29 j rfl]; exact hFm.2 j hj⟩
        refine v_aload_n 2 (pc' := 105) rfl dX3_gather_104 rfl rfl ?_
        refine v_aload_n 3 (pc' := 106) rfl dX3_gather_105 rfl rfl ?_
        refine v_get (z := ((hx (canS n (pblack m S1 A1)) : Nat) : Int)) (pc' := 109) rfl dX3_gather_106 fk_RX3_28 ly_7 rfl (s7) ?_
        refine v_aload_n 3 (pc' := 110) rfl dX3_gather_109 rfl rfl ?_
        refine v_get (z := ((setA n (pblack m S1 A1) (pwhite m S1 A1) : Nat) : Int)) (pc' := 113) rfl dX3_gather_110 fk_RX3_31 ly_7 rfl (s8) ?_
        refine v_cVv (pc' := 116) rfl dX3_gather_113 lk_RX3_34 ly_27 rfl (c_add3 l G (p := fOp n m ((famI n s a k).getD k (0, 0))) (by unfold fOp; rw [hSA]; simp only []; rw [dg_hx hS1 hn7, dg_hx hA1 hn7]; rfl) (by unfold fOp; rw [hSA]; simp only []; rw [dg_hx hS1 hn7, dg_hx hA1 hn7]; rfl) ((fOp_pv hn1 hn7 hpv m).le hn7) hFVm.1 w6 hF6) rfl rfl rfl (fun add2 w7 hq7 => ?_)
        obtain ⟨hF7, f7⟩ := hq7
        refine v_iinc (ls' := [(6, _), (8, _), (7, _), (0, _), (1, _), (2, _), (3, _), (4, _), (5, _)]) 8 (pc' := 119) rfl dX3_gather_116 rfl rfl rfl ?_
        refine v_nl (fun what' hwhat' => ?_)
        refine v_goto (tgt := 47) dX3_gather_119 (by decide) ?_
        refine v_ls [3, 4, 5, 6, 7, 8, 0] rfl ?_
        exact ih1 (what') w7 (⟨m + 1, by omega, by omega, hF7, hfm.trs ((f6.mono (by decide)).trs (f7.mono (by decide)))⟩) (by omega)
set_option maxHeartbeats 4000000 in
set_option maxRecDepth 100000 in
theorem c_black3 (l : Launch) (G : Gx) {i0 : Int} {A : List PC} {i : Nat} (hi : i0 = i) (hiA : i < A.length) (hl : A.length ≤ 12) (w : Wd) (hF : FW w A) : SpP l G 0 mX3_black [aR 27, aI (i0)] w ((((A.getD i (0, 0)).1 : Nat) : Int)) := by
  refine Sp_of RX3 rfl (by decide +kernel) rfl (Nat.le_of_ble_eq_true rfl) ?_
  refine v_iload_n 1 (pc' := 1) rfl dX3_black_0 rfl rfl ?_
  refine v_if_lt (pc' := 4) (tgt := 10) rfl dX3_black_1 (by decide) (by omega) (fun c0 => absurd c0 (by omega)) (fun c0 => ?_)
  refine v_iload_n 1 (pc' := 5) rfl dX3_black_4 rfl rfl ?_
  refine v_bipush (pc' := 7) rfl dX3_black_5 rfl ?_
  refine v_icmp_lt (pc' := 10) (tgt := 15) rfl dX3_black_7 (by decide) (by omega) (by omega) (fun c1 => ?_) (fun c1 => absurd c1 (by omega))
  refine v_aload_n 0 (pc' := 16) rfl dX3_black_15 rfl rfl ?_
  refine v_getR (pc' := 19) rfl dX3_black_16 fk_RX3_11 ly_27 rfl ?_
  refine v_iload_n 1 (pc' := 20) rfl dX3_black_19 rfl rfl ?_
  refine v_iald (z := (((A.getD i (0, 0)).1 : Nat) : Int)) (pc' := 21) rfl dX3_black_20 ly_28 (by omega) (by omega) rfl (by rw [show i0.toNat = i by omega]; exact (hF.2 i hiA).1) ?_
  refine v_iret dX3_black_21 (by decide) (rfl) ?_
  exact ⟨rfl, rfl⟩
set_option maxHeartbeats 4000000 in
set_option maxRecDepth 100000 in
theorem c_white3 (l : Launch) (G : Gx) {i0 : Int} {A : List PC} {i : Nat} (hi : i0 = i) (hiA : i < A.length) (hl : A.length ≤ 12) (w : Wd) (hF : FW w A) : SpP l G 0 mX3_white [aR 27, aI (i0)] w ((((A.getD i (0, 0)).2 : Nat) : Int)) := by
  refine Sp_of RX3 rfl (by decide +kernel) rfl (Nat.le_of_ble_eq_true rfl) ?_
  refine v_iload_n 1 (pc' := 1) rfl dX3_white_0 rfl rfl ?_
  refine v_if_lt (pc' := 4) (tgt := 10) rfl dX3_white_1 (by decide) (by omega) (fun c0 => absurd c0 (by omega)) (fun c0 => ?_)
  refine v_iload_n 1 (pc' := 5) rfl dX3_white_4 rfl rfl ?_
  refine v_bipush (pc' := 7) rfl dX3_white_5 rfl ?_
  refine v_icmp_lt (pc' := 10) (tgt := 15) rfl dX3_white_7 (by decide) (by omega) (by omega) (fun c1 => ?_) (fun c1 => absurd c1 (by omega))
  refine v_aload_n 0 (pc' := 16) rfl dX3_white_15 rfl rfl ?_
  refine v_getR (pc' := 19) rfl dX3_white_16 fk_RX3_15 ly_27 rfl ?_
  refine v_iload_n 1 (pc' := 20) rfl dX3_white_19 rfl rfl ?_
  refine v_iald (z := (((A.getD i (0, 0)).2 : Nat) : Int)) (pc' := 21) rfl dX3_white_20 ly_29 (by omega) (by omega) rfl (by rw [show i0.toNat = i by omega]; exact (hF.2 i hiA).2) ?_
  refine v_iret dX3_white_21 (by decide) (rfl) ?_
  exact ⟨rfl, rfl⟩

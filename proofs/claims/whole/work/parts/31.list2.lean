/-! ===== Census: list, whole ===== -/
def SeenI (w : Wd) (n : Nat) (s : Nat → Nat) (t2 t3 k : Nat) : Prop := ∀ j, j < 5040 → (w 24 j = 1 ∧ ∃ i, i < k ∧ opnB n s t2 t3 i = true ∧ Orb n s i j) ∨ (w 24 j = 0 ∧ ¬ ∃ i, i < k ∧ opnB n s t2 t3 i = true ∧ Orb n s i j)
theorem SeenI.no {w : Wd} {n t2 t3 k : Nat} {s : Nat → Nat} (h : SeenI w n s t2 t3 k) (hno : ¬ opnB n s t2 t3 k = true) : SeenI w n s t2 t3 (k + 1) := fun j hj => by
  have e : (∃ i, i < k + 1 ∧ opnB n s t2 t3 i = true ∧ Orb n s i j) ↔ ∃ i, i < k ∧ opnB n s t2 t3 i = true ∧ Orb n s i j := by
    constructor
    · rintro ⟨i, a, b, c⟩
      by_cases q : i = k
      · rw [q] at b; exact absurd b hno
      · exact ⟨i, by omega, b, c⟩
    · rintro ⟨i, a, b, c⟩; exact ⟨i, by omega, b, c⟩
  rw [e]; exact h j hj
theorem SeenI.yes {w w' : Wd} {n t2 t3 k : Nat} {s : Nat → Nat} (h : SeenI w n s t2 t3 k) (hy : opnB n s t2 t3 k = true) (ho : ∀ j, j < 5040 → (w' 24 j = 1 ∧ Orb n s k j) ∨ (w' 24 j = w 24 j ∧ ¬ Orb n s k j)) : SeenI w' n s t2 t3 (k + 1) := fun j hj => by
  rcases ho j hj with ⟨a, b⟩ | ⟨a, b⟩
  · exact Or.inl ⟨a, k, by omega, hy, b⟩
  · rw [a]
    rcases h j hj with ⟨c, i, d, e, f⟩ | ⟨c, d⟩
    · exact Or.inl ⟨c, i, by omega, e, f⟩
    · refine Or.inr ⟨c, fun ⟨i, p, q, r⟩ => ?_⟩
      by_cases z : i = k
      · rw [z] at r; exact b r
      · exact d ⟨i, by omega, q, r⟩
theorem CLW.no {w : Wd} {n i1 i2 i3 k : Nat} (h : CLW w n i1 i2 i3 k) (hno : ¬ opnB n (leastF (kT n i1) n) (kT n i2) (kT n i3) k = true) : CLW w n i1 i2 i3 (k + 1) := by
  unfold CLW at *
  rw [opnL_s, if_neg hno]; exact h
theorem CLW.yes {w w' : Wd} {n i1 i2 i3 k m : Nat} (h : CLW w n i1 i2 i3 k) (hy : opnB n (leastF (kT n i1) n) (kT n i2) (kT n i3) k = true) (hm : m = (opnL n (leastF (kT n i1) n) (kT n i2) (kT n i3) k).length)
    (a1 : w' 19 14 = ((m + 1 : Nat) : Int)) (a2 : w' 25 m = (hx (pn n k) : Nat)) (a3 : w' 26 m = (autN n (leastF (kT n i1) n) (pn n k) : Nat)) (a4 : ∀ j, j ≠ m → w' 25 j = w 25 j ∧ w' 26 j = w 26 j) (a5 : ∀ j, j ≠ 14 → w' 19 j = w 19 j) : CLW w' n i1 i2 i3 (k + 1) := by
  unfold CLW at *
  rw [opnL_s, if_pos hy]
  refine ⟨by rw [a1, List.length_append, hm]; rfl, by rw [a5 15 (by decide)]; exact h.2.1, fun j hj => ?_⟩
  rw [List.length_append] at hj
  simp at hj
  by_cases q : j = m
  · subst q
    rw [a2, a3, List.getD_eq_getElem?_getD, List.getElem?_append_right (by omega), hm, Nat.sub_self]
    exact ⟨rfl, rfl⟩
  · rw [(a4 j q).1, (a4 j q).2, List.getD_eq_getElem?_getD, List.getElem?_append_left (by omega), ← List.getD_eq_getElem?_getD]
    exact h.2.2 j (by omega)
theorem TalOK.fr {w w' : Wd} {n : Nat} (h : TalOK w n) (h1 : w' 19 6 = w 19 6) (h2 : w' 19 7 = w 19 7) (h3 : ∀ j, w' 22 j = w 22 j ∧ w' 23 j = w 23 j) : TalOK w' n := by
  unfold TalOK CT at *
  rw [h1, h2]
  simp only [h3]
  exact h
set_option maxHeartbeats 4000000 in
set_option maxRecDepth 100000 in
theorem c_list (l : Launch) (G : Gx) {n0 t1 t2 t3 : Int} {n i1 i2 i3 : Nat} (hn : n0 = n) (hn1 : 1 ≤ n) (hn7 : n ≤ 7) (h1 : i1 < kmany n) (h2 : i2 < kmany n) (h3 : i3 < kmany n) (ht1 : t1 = (kT n i1 : Nat)) (ht2 : t2 = (kT n i2 : Nat)) (ht3 : t3 = (kT n i3 : Nat)) (h64 : (opnL n (leastF (kT n i1) n) (kT n i2) (kT n i3) (facN n)).length ≤ 64) (w : Wd) (hI : CInv w) : Sp l G 10 mX1_list [aR 19, aR 7, aI (n0), aI (t1), aI (t2), aI (t3)] w (fun _ w' => CP w' n ∧ (w' 19 11 = (kT n i1 : Nat) ∧ w' 19 12 = (kT n i2 : Nat) ∧ w' 19 13 = (kT n i3 : Nat)) ∧ CLW w' n i1 i2 i3 (facN n) ∧ TalOK w' n ∧ Fr [7, 8, 9, 10, 19, 20, 21, 24, 25, 26] w w') := by
  have hk1 := kT_le hn7 h1
  have hk2 := kT_le hn7 h2
  have hk3 := kT_le hn7 h3
  have hfl := fac_le hn1 hn7
  have hs := lp_pm hn7 h1
  have hlen := gathL_len hn1 hn7 hs hs
  refine Sp_of RX1 rfl (by decide +kernel) rfl (Nat.le_of_ble_eq_true rfl) ?_
  refine v_aload_n 0 (pc' := 1) rfl dX1_list_0 rfl rfl ?_
  refine v_iload_n 2 (pc' := 2) rfl dX1_list_1 rfl rfl ?_
  refine v_cVv (pc' := 5) rfl dX1_list_2 lk_RX1_63 ly_19 rfl (c_prepare l G hn hn1 hn7 w hI.rg) rfl rfl rfl (fun prepare1 w1 hq1 => ?_)
  obtain ⟨hP1, hT1, hL1, hf1⟩ := hI.prep hn1 hq1
  have p2 := hP1.1
  have hr11 : rg (w1 19 11) := by
    rcases hL1 with h | ⟨j1, j2, j3, ⟨a, -, -⟩, c, -⟩
    · omega
    · have := kT_le hn7 a; omega
  have hr12 : w1 19 11 = t1 → rg (w1 19 12) := fun e => by
    rcases hL1 with h | ⟨j1, j2, j3, ⟨a, b, -⟩, c, d, -⟩
    · omega
    · have := kT_le hn7 b; omega
  have hr13 : w1 19 11 = t1 → rg (w1 19 13) := fun e => by
    rcases hL1 with h | ⟨j1, j2, j3, ⟨a, b, g⟩, c, d, f, -⟩
    · omega
    · have := kT_le hn7 g; omega
  refine v_aload_n 0 (pc' := 6) rfl dX1_list_5 rfl rfl ?_
  refine v_get (pc' := 9) rfl dX1_list_6 fk_RX1_50 ly_19 rfl rfl ?_
  refine v_iload_n 3 (pc' := 10) rfl dX1_list_9 rfl rfl ?_
  refine v_icmp_ne (pc' := 13) (tgt := 32) rfl dX1_list_10 (by decide) (hr11) (by omega) (fun c0 => ?_) (fun c0 => ?_)
  ·
    refine v_aload_n 0 (pc' := 33) rfl dX1_list_32 rfl rfl ?_
    refine v_iload_n 3 (pc' := 34) rfl dX1_list_33 rfl rfl ?_
    refine v_put (pc' := 37) rfl dX1_list_34 fi_RX1_50 ly_19 rfl ?_
    refine v_nmw (fun w2 hw2 => ?_)
    have p2 : w2 19 2 = (n : Int) := by rw [hw2, up_ne _ _ (by omega)]; exact p2
    refine v_aload_n 0 (pc' := 38) rfl dX1_list_37 rfl rfl ?_
    refine v_iload 4 (pc' := 40) rfl dX1_list_38 rfl ?_
    refine v_put (pc' := 43) rfl dX1_list_40 fi_RX1_87 ly_19 rfl ?_
    refine v_nmw (fun w3 hw3 => ?_)
    have p2 : w3 19 2 = (n : Int) := by rw [hw3, up_ne _ _ (by omega)]; exact p2
    refine v_aload_n 0 (pc' := 44) rfl dX1_list_43 rfl rfl ?_
    refine v_iload 5 (pc' := 46) rfl dX1_list_44 rfl ?_
    refine v_put (pc' := 49) rfl dX1_list_46 fi_RX1_90 ly_19 rfl ?_
    refine v_nmw (fun w4 hw4 => ?_)
    have p2 : w4 19 2 = (n : Int) := by rw [hw4, up_ne _ _ (by omega)]; exact p2
    refine v_aload_n 0 (pc' := 50) rfl dX1_list_49 rfl rfl ?_
    refine v_iconst (pc' := 51) rfl dX1_list_50 ?_
    refine v_put (pc' := 54) rfl dX1_list_51 fi_RX1_93 ly_19 rfl ?_
    refine v_nmw (fun w5 hw5 => ?_)
    have p2 : w5 19 2 = (n : Int) := by rw [hw5, up_ne _ _ (by omega)]; exact p2
    refine v_aload_n 0 (pc' := 55) rfl dX1_list_54 rfl rfl ?_
    refine v_iload_n 3 (pc' := 56) rfl dX1_list_55 rfl rfl ?_
    refine v_aload_n 0 (pc' := 57) rfl dX1_list_56 rfl rfl ?_
    refine v_get (z := (n : Int)) (pc' := 60) rfl dX1_list_57 fk_RX1_36 ly_19 rfl (by rw [hw5, up_ne _ _ (by omega), hw4, up_ne _ _ (by omega), hw3, up_ne _ _ (by omega), hw2, up_ne _ _ (by omega)]; exact hP1.1) ?_
    refine v_cSP (pc' := 63) rfl dX1_list_60 lk_RX1_70 rfl (c_least l G ht1 (by omega) (n := n) rfl hn1 hn7 (kt_ok n (by omega) i1 h1).1.2 w5) rfl rfl rfl ?_
    refine v_nm (fun least1 hleast1 => ?_)
    refine v_put (pc' := 66) rfl dX1_list_63 fi_RX1_96 ly_19 rfl ?_
    refine v_nmw (fun w7 hw7 => ?_)
    have p2 : w7 19 2 = (n : Int) := by rw [hw7, up_ne _ _ (by omega)]; exact p2
    refine v_aload_n 1 (pc' := 67) rfl dX1_list_66 rfl rfl ?_
    refine v_aload_n 0 (pc' := 68) rfl dX1_list_67 rfl rfl ?_
    refine v_get (z := (n : Int)) (pc' := 71) rfl dX1_list_68 fk_RX1_36 ly_19 rfl (by rw [hw7, up_ne _ _ (by omega), hw5, up_ne _ _ (by omega), hw4, up_ne _ _ (by omega), hw3, up_ne _ _ (by omega), hw2, up_ne _ _ (by omega)]; exact hP1.1) ?_
    refine v_aload_n 0 (pc' := 72) rfl dX1_list_71 rfl rfl ?_
    refine v_get (z := ((hx (leastF (kT n i1) n) : Nat) : Int)) (pc' := 75) rfl dX1_list_72 fk_RX1_96 ly_19 rfl (by rw [hw7, up_eq, hleast1]) ?_
    refine v_aload_n 0 (pc' := 76) rfl dX1_list_75 rfl rfl ?_
    refine v_get (z := ((hx (leastF (kT n i1) n) : Nat) : Int)) (pc' := 79) rfl dX1_list_76 fk_RX1_96 ly_19 rfl (by rw [hw7, up_eq, hleast1]) ?_
    refine v_cVv (pc' := 82) rfl dX1_list_79 lk_RX1_99 ly_7 rfl (c_gather l G (n := n) rfl hn1 hn7 hs hs rfl rfl (by omega) w7) rfl rfl rfl (fun gather1 w8 hq8 => ?_)
    obtain ⟨f8, hG8, -⟩ := hq8
    refine v_iconst (pc' := 83) rfl dX1_list_82 ?_
    refine v_istore (ls' := [(6, _), (0, _), (1, _), (2, _), (3, _), (4, _), (5, _)]) (pc' := 85) rfl dX1_list_83 rfl rfl ?_
    refine v_ls [1, 2, 3, 4, 5, 6, 0] rfl ?_
    refine v_loop2 85 (fun (i : Int) (wl : Wd) => ∃ k : Nat, i = k ∧ k ≤ 5040 ∧ (∀ j, j < k → wl 24 j = 0) ∧ Fr [24] w8 wl) (fun (i : Int) (wl : Wd) => (5040 - i).toNat) (fun (i : Int) (wl : Wd) => [(0, aR 19), (1, aR 7), (2, aI (n0)), (3, aI (t1)), (4, aI (t2)), (5, aI (t3)), (6, aI (i))]) (fun (i : Int) (wl : Wd) => []) (fun (i : Int) (wl : Wd) => wl) (fun i wl hI0 ih0 => ?_) (0) w8 (⟨0, rfl, by omega, fun j h => by omega, Fr.rf _ _⟩)
    obtain ⟨k, hi, hk, hA, hfl2⟩ := hI0
    have hik : i.toNat = k := by omega
    refine v_iload 6 (pc' := 87) rfl dX1_list_85 rfl ?_
    refine v_sipush (pc' := 90) rfl dX1_list_87 rfl ?_
    refine v_icmp_ge (pc' := 93) (tgt := 107) rfl dX1_list_90 (by decide) (by omega) (by omega) (fun c3 => ?_) (fun c3 => ?_)
    ·
      refine v_iconst (pc' := 108) rfl dX1_list_107 ?_
      refine v_istore (ls' := [(6, _), (0, _), (1, _), (2, _), (3, _), (4, _), (5, _)]) (pc' := 110) rfl dX1_list_108 rfl rfl ?_
      refine v_ls [1, 2, 3, 4, 5, 6, 0] rfl ?_
      refine v_loop2 110 (fun (i : Int) (wm : Wd) => ∃ k : Nat, i = k ∧ k ≤ facN n ∧ SeenI wm n (leastF (kT n i1) n) (kT n i2) (kT n i3) k ∧ CLW wm n i1 i2 i3 k ∧ (∀ j, j ≠ 14 → wm 19 j = w8 19 j) ∧ Fr [19, 24, 25, 26] w8 wm) (fun (i : Int) (wm : Wd) => ((facN n : Int) - i).toNat) (fun (i : Int) (wm : Wd) => [(0, aR 19), (1, aR 7), (2, aI (n0)), (3, aI (t1)), (4, aI (t2)), (5, aI (t3)), (6, aI (i))]) (fun (i : Int) (wm : Wd) => []) (fun (i : Int) (wm : Wd) => wm) (fun i wm hI1 ih1 => ?_) (0) wl (⟨0, rfl, by omega, fun j hj => Or.inr ⟨hA j (by omega), fun ⟨i, h, _⟩ => by omega⟩, ⟨by rw [hfl2 19 14 rfl, f8 19 14 rfl, hw7, up_ne _ _ (by omega), hw5, up_eq]; rfl, by rw [hfl2 19 15 rfl, f8 19 15 rfl, hw7, up_eq, hleast1], fun j h => absurd h (Nat.not_lt_zero _)⟩, fun j _ => hfl2 19 j rfl, hfl2.mono (by decide)⟩)
      clear hA hfl2 hik hk hi
      obtain ⟨k, hi, hk, hSe, hCL, hU, hfm⟩ := hI1
      have e19 : ∀ j, j ≠ 11 → j ≠ 12 → j ≠ 13 → j ≠ 14 → j ≠ 15 → wm 19 j = w1 19 j := fun j a b c d e => by rw [hU j d, f8 19 j rfl, hw7, up_ne _ _ (by omega), hw5, up_ne _ _ (by omega), hw4, up_ne _ _ (by omega), hw3, up_ne _ _ (by omega), hw2, up_ne _ _ (by omega)]
      have e1c : ∀ o, o ≠ 19 → ∀ j, w7 o j = w1 o j := fun o ho j => by rw [hw7, up_ne _ _ (by omega), hw5, up_ne _ _ (by omega), hw4, up_ne _ _ (by omega), hw3, up_ne _ _ (by omega), hw2, up_ne _ _ (by omega)]
      have g2 : wm 19 2 = n := by rw [e19 2 (by decide) (by decide) (by decide) (by decide) (by decide)]; exact hP1.1
      have g3 : wm 19 3 = (facN n : Nat) := by rw [e19 3 (by decide) (by decide) (by decide) (by decide) (by decide)]; exact hP1.2.1
      have g15 := hCL.2.1
      have hGm : GOut wm (gathL n (leastF (kT n i1) n) (leastF (kT n i1) n)) := ⟨by rw [hfm 7 6 rfl]; exact hG8.1, fun j hj => by rw [hfm 8 j rfl]; exact hG8.2 j hj⟩
      refine v_iload 6 (pc' := 112) rfl dX1_list_110 rfl ?_
      refine v_aload_n 0 (pc' := 113) rfl dX1_list_112 rfl rfl ?_
      refine v_get (z := ((facN n : Nat) : Int)) (pc' := 116) rfl dX1_list_113 fk_RX1_44 ly_19 rfl (g3) ?_
      refine v_icmp_ge (pc' := 119) (tgt := 183) rfl dX1_list_116 (by decide) (by omega) (by omega) (fun c4 => ?_) (fun c4 => ?_)
      ·
        refine v_vret dX1_list_183 ?_
        have e : k = facN n := by omega
        rw [e] at hCL
        have e57 : Fr [19] w1 w7 := by rw [hw7, hw5, hw4, hw3, hw2]; exact (((((Fr.rf _ _).up rfl).up rfl).up rfl).up rfl).up rfl
        refine ⟨hP1.fr (e19 2 (by decide) (by decide) (by decide) (by decide) (by decide)) (e19 3 (by decide) (by decide) (by decide) (by decide) (by decide)) (fun j => ⟨by rw [hfm 20 j rfl, f8 20 j rfl, e1c 20 (by decide)], by rw [hfm 21 j rfl, f8 21 j rfl, e1c 21 (by decide)]⟩), ⟨?_, ?_, ?_⟩, hCL, hT1.fr (e19 6 (by decide) (by decide) (by decide) (by decide) (by decide)) (e19 7 (by decide) (by decide) (by decide) (by decide) (by decide)) (fun j => ⟨by rw [hfm 22 j rfl, f8 22 j rfl, e1c 22 (by decide)], by rw [hfm 23 j rfl, f8 23 j rfl, e1c 23 (by decide)]⟩), (((hf1.mono (by decide)).trs (e57.mono (by decide))).trs (f8.mono (by decide))).trs (hfm.mono (by decide))⟩
        · rw [hU 11 (by decide), f8 19 11 rfl, hw7, up_ne _ _ (by omega), hw5, up_ne _ _ (by omega), hw4, up_ne _ _ (by omega), hw3, up_ne _ _ (by omega), hw2, up_eq, ht1]
        · rw [hU 12 (by decide), f8 19 12 rfl, hw7, up_ne _ _ (by omega), hw5, up_ne _ _ (by omega), hw4, up_ne _ _ (by omega), hw3, up_eq, ht2]
        · rw [hU 13 (by decide), f8 19 13 rfl, hw7, up_ne _ _ (by omega), hw5, up_ne _ _ (by omega), hw4, up_eq, ht3]
      ·
        refine v_iload 6 (pc' := 121) rfl dX1_list_119 rfl ?_
        refine v_sipush (pc' := 124) rfl dX1_list_121 rfl ?_
        refine v_icmp_ge (pc' := 127) (tgt := 183) rfl dX1_list_124 (by decide) (by omega) (by omega) (fun c5 => absurd c5 (by omega)) (fun c5 => ?_)
        have hkF : k < facN n := by omega
        have hpk := pn_at hn1 hn7 hkF
        obtain ⟨it, hit, hkt⟩ := kf_type hn1 hn7 hpk.1
        refine v_aload_n 0 (pc' := 128) rfl dX1_list_127 rfl rfl ?_
        refine v_getR (pc' := 131) rfl dX1_list_128 fk_RX1_26 ly_19 rfl ?_
        refine v_iload 6 (pc' := 133) rfl dX1_list_131 rfl ?_
        refine v_zald (pc' := 134) rfl dX1_list_133 ly_24 (by omega) (by omega) rfl (rfl) ?_
        refine v_if_ne (pc' := 137) (tgt := 177) rfl dX1_list_134 (by decide) (by rcases hSe k (by omega) with ⟨a, -⟩ | ⟨a, -⟩ <;> rw [show i.toNat = k by omega] <;> omega) (fun c6 => ?_) (fun c6 => ?_)
        ·
          have hno : ¬ opnB n (leastF (kT n i1) n) (kT n i2) (kT n i3) k = true := fun ho => by
            rcases hSe k (by omega) with ⟨-, b⟩ | ⟨a, -⟩
            · exact (opn_seen hn1 hn7 hs hkF (opnB_iff.mp ho).1).mp ho b
            · rw [show i.toNat = k by omega] at c6; exact c6 a
          refine v_iinc (ls' := [(6, _), (0, _), (1, _), (2, _), (3, _), (4, _), (5, _)]) 6 (pc' := 180) rfl dX1_list_177 rfl rfl rfl ?_
          refine v_nl (fun i' hi' => ?_)
          refine v_goto (tgt := 110) dX1_list_180 (by decide) ?_
          refine v_ls [1, 2, 3, 4, 5, 6, 0] rfl ?_
          exact ih1 (i') wm (⟨k + 1, by omega, by omega, hSe.no hno, hCL.no hno, hU, hfm⟩) (by omega)
        ·
          have hns : ¬ ∃ x, x < k ∧ opnB n (leastF (kT n i1) n) (kT n i2) (kT n i3) x = true ∧ Orb n (leastF (kT n i1) n) x k := by
            rcases hSe k (by omega) with ⟨a, -⟩ | ⟨-, b⟩
            · rw [show i.toNat = k by omega] at c6; omega
            · exact b
          refine v_aload_n 0 (pc' := 138) rfl dX1_list_137 rfl rfl ?_
          refine v_getR (pc' := 141) rfl dX1_list_138 fk_RX1_15 ly_19 rfl ?_
          refine v_iload 6 (pc' := 143) rfl dX1_list_141 rfl ?_
          refine v_iald (z := ((kindN (pn n k) n : Nat) : Int)) (pc' := 144) rfl dX1_list_143 ly_21 (by omega) (by omega) rfl (by rw [show i.toNat = k by omega, hfm 21 k rfl, f8 21 k rfl, e1c 21 (by decide)]; exact (hP1.2.2 k hkF).2) ?_
          refine v_iload 4 (pc' := 146) rfl dX1_list_144 rfl ?_
          refine v_icmp_ne (pc' := 149) (tgt := 177) rfl dX1_list_146 (by decide) (by have := kT_le hn7 hit; omega) (by omega) (fun c7 => ?_) (fun c7 => ?_)
          ·
            have hno : ¬ opnB n (leastF (kT n i1) n) (kT n i2) (kT n i3) k = true := fun ho => by
              have := (opnB_iff.mp ho).1
              unfold cndB at this
              simp only [Bool.and_eq_true, beq_iff_eq] at this
              omega
            refine v_iinc (ls' := [(6, _), (0, _), (1, _), (2, _), (3, _), (4, _), (5, _)]) 6 (pc' := 180) rfl dX1_list_177 rfl rfl rfl ?_
            refine v_nl (fun i' hi' => ?_)
            refine v_goto (tgt := 110) dX1_list_180 (by decide) ?_
            refine v_ls [1, 2, 3, 4, 5, 6, 0] rfl ?_
            exact ih1 (i') wm (⟨k + 1, by omega, by omega, hSe.no hno, hCL.no hno, hU, hfm⟩) (by omega)
          ·
            have heq : kindN (pn n k) n = kT n i2 := by omega
            refine v_aload_n 0 (pc' := 150) rfl dX1_list_149 rfl rfl ?_
            refine v_aload_n 0 (pc' := 151) rfl dX1_list_150 rfl rfl ?_
            refine v_getR (pc' := 154) rfl dX1_list_151 fk_RX1_9 ly_19 rfl ?_
            refine v_iload 6 (pc' := 156) rfl dX1_list_154 rfl ?_
            refine v_iald (z := ((hx (pn n k) : Nat) : Int)) (pc' := 157) rfl dX1_list_156 ly_20 (by omega) (by omega) rfl (by rw [show i.toNat = k by omega, hfm 20 k rfl, f8 20 k rfl, e1c 20 (by decide)]; exact (hP1.2.2 k hkF).1) ?_
            refine v_iload 5 (pc' := 159) rfl dX1_list_157 rfl ?_
            refine v_cVP (pc' := 162) rfl dX1_list_159 lk_RX1_105 ly_19 rfl (c_belongs l G (T3 := kT n i3) hn1 hn7 hs hpk.1 rfl ht3 (by omega) wm g2 g15) rfl rfl rfl ?_
            refine v_nm (fun belongs1 hbelongs1 => ?_)
            refine v_if_eq (pc' := 165) (tgt := 177) rfl dX1_list_162 (by decide) (by rw [hbelongs1]; split <;> omega) (fun c8 => ?_) (fun c8 => ?_)
            ·
              have hno : ¬ opnB n (leastF (kT n i1) n) (kT n i2) (kT n i3) k = true := fun ho => by
                have := (opnB_iff.mp ho).1
                unfold cndB at this
                rw [Bool.and_eq_true] at this
                rw [if_pos this.2] at hbelongs1
                omega
              refine v_iinc (ls' := [(6, _), (0, _), (1, _), (2, _), (3, _), (4, _), (5, _)]) 6 (pc' := 180) rfl dX1_list_177 rfl rfl rfl ?_
              refine v_nl (fun i' hi' => ?_)
              refine v_goto (tgt := 110) dX1_list_180 (by decide) ?_
              refine v_ls [1, 2, 3, 4, 5, 6, 0] rfl ?_
              exact ih1 (i') wm (⟨k + 1, by omega, by omega, hSe.no hno, hCL.no hno, hU, hfm⟩) (by omega)
            ·
              have hyes : opnB n (leastF (kT n i1) n) (kT n i2) (kT n i3) k = true := by
                refine (opn_seen hn1 hn7 hs hkF ?_).mpr hns
                unfold cndB
                rw [Bool.and_eq_true, beq_iff_eq]
                refine ⟨heq, ?_⟩
                rw [← Bool.not_eq_false]
                intro e
                rw [e] at hbelongs1
                simp at hbelongs1
                omega
              have hm64 : (opnL n (leastF (kT n i1) n) (kT n i2) (kT n i3) k).length < 64 := by
                have := opnL_mono (n := n) (s := (leastF (kT n i1) n)) (kT n i2) (kT n i3) (show k + 1 ≤ facN n by omega)
                rw [opnL_s, if_pos hyes, List.length_append] at this
                simp at this
                omega
              refine v_aload_n 0 (pc' := 166) rfl dX1_list_165 rfl rfl ?_
              refine v_aload_n 1 (pc' := 167) rfl dX1_list_166 rfl rfl ?_
              refine v_aload_n 0 (pc' := 168) rfl dX1_list_167 rfl rfl ?_
              refine v_getR (pc' := 171) rfl dX1_list_168 fk_RX1_9 ly_19 rfl ?_
              refine v_iload 6 (pc' := 173) rfl dX1_list_171 rfl ?_
              refine v_iald (z := ((hx (pn n k) : Nat) : Int)) (pc' := 174) rfl dX1_list_173 ly_20 (by omega) (by omega) rfl (by rw [show i.toNat = k by omega, hfm 20 k rfl, f8 20 k rfl, e1c 20 (by decide)]; exact (hP1.2.2 k hkF).1) ?_
              refine v_cVv (pc' := 177) rfl dX1_list_174 lk_RX1_109 ly_19 rfl (c_open l G hn1 hn7 hs hkF rfl (m := (opnL n (leastF (kT n i1) n) (kT n i2) (kT n i3) k).length) hm64 wm hGm g2 hCL.1) rfl rfl rfl (fun open1 w11 hq11 => ?_)
              obtain ⟨o1, o2, o3, o4, o5, o6, o7⟩ := hq11
              refine v_iinc (ls' := [(6, _), (0, _), (1, _), (2, _), (3, _), (4, _), (5, _)]) 6 (pc' := 180) rfl dX1_list_177 rfl rfl rfl ?_
              refine v_nl (fun i' hi' => ?_)
              refine v_goto (tgt := 110) dX1_list_180 (by decide) ?_
              refine v_ls [1, 2, 3, 4, 5, 6, 0] rfl ?_
              exact ih1 (i') w11 (⟨k + 1, by omega, by omega, hSe.yes hyes o1, hCL.yes hyes rfl o2 o3 o4 o5 o6, fun j hj => by rw [o6 j hj]; exact hU j hj, hfm.trs o7⟩) (by omega)
    ·
      refine v_aload_n 0 (pc' := 94) rfl dX1_list_93 rfl rfl ?_
      refine v_getR (pc' := 97) rfl dX1_list_94 fk_RX1_26 ly_19 rfl ?_
      refine v_iload 6 (pc' := 99) rfl dX1_list_97 rfl ?_
      refine v_iconst (pc' := 100) rfl dX1_list_99 ?_
      refine v_zast (z := 0) (pc' := 101) rfl dX1_list_100 ly_24 (by omega) (by omega) rfl (rfl) ?_
      refine v_nmw (fun w9 hw9 => ?_)
      refine v_iinc (ls' := [(6, _), (0, _), (1, _), (2, _), (3, _), (4, _), (5, _)]) 6 (pc' := 104) rfl dX1_list_101 rfl rfl rfl ?_
      refine v_nl (fun i' hi' => ?_)
      refine v_goto (tgt := 85) dX1_list_104 (by decide) ?_
      refine v_ls [1, 2, 3, 4, 5, 6, 0] rfl ?_
      exact ih0 (i') w9 (⟨k + 1, by omega, by omega, fun j h => by
          rw [hw9, up_at, hik]
          split
          · rfl
          · exact hA j (by omega), by rw [hw9]; exact hfl2.up rfl⟩) (by omega)
  ·
    refine v_aload_n 0 (pc' := 14) rfl dX1_list_13 rfl rfl ?_
    refine v_get (pc' := 17) rfl dX1_list_14 fk_RX1_87 ly_19 rfl rfl ?_
    refine v_iload 4 (pc' := 19) rfl dX1_list_17 rfl ?_
    refine v_icmp_ne (pc' := 22) (tgt := 32) rfl dX1_list_19 (by decide) (hr12 (by omega)) (by omega) (fun c1 => ?_) (fun c1 => ?_)
    ·
      refine v_aload_n 0 (pc' := 33) rfl dX1_list_32 rfl rfl ?_
      refine v_iload_n 3 (pc' := 34) rfl dX1_list_33 rfl rfl ?_
      refine v_put (pc' := 37) rfl dX1_list_34 fi_RX1_50 ly_19 rfl ?_
      refine v_nmw (fun w2 hw2 => ?_)
      have p2 : w2 19 2 = (n : Int) := by rw [hw2, up_ne _ _ (by omega)]; exact p2
      refine v_aload_n 0 (pc' := 38) rfl dX1_list_37 rfl rfl ?_
      refine v_iload 4 (pc' := 40) rfl dX1_list_38 rfl ?_
      refine v_put (pc' := 43) rfl dX1_list_40 fi_RX1_87 ly_19 rfl ?_
      refine v_nmw (fun w3 hw3 => ?_)
      have p2 : w3 19 2 = (n : Int) := by rw [hw3, up_ne _ _ (by omega)]; exact p2
      refine v_aload_n 0 (pc' := 44) rfl dX1_list_43 rfl rfl ?_
      refine v_iload 5 (pc' := 46) rfl dX1_list_44 rfl ?_
      refine v_put (pc' := 49) rfl dX1_list_46 fi_RX1_90 ly_19 rfl ?_
      refine v_nmw (fun w4 hw4 => ?_)
      have p2 : w4 19 2 = (n : Int) := by rw [hw4, up_ne _ _ (by omega)]; exact p2
      refine v_aload_n 0 (pc' := 50) rfl dX1_list_49 rfl rfl ?_
      refine v_iconst (pc' := 51) rfl dX1_list_50 ?_
      refine v_put (pc' := 54) rfl dX1_list_51 fi_RX1_93 ly_19 rfl ?_
      refine v_nmw (fun w5 hw5 => ?_)
      have p2 : w5 19 2 = (n : Int) := by rw [hw5, up_ne _ _ (by omega)]; exact p2
      refine v_aload_n 0 (pc' := 55) rfl dX1_list_54 rfl rfl ?_
      refine v_iload_n 3 (pc' := 56) rfl dX1_list_55 rfl rfl ?_
      refine v_aload_n 0 (pc' := 57) rfl dX1_list_56 rfl rfl ?_
      refine v_get (z := (n : Int)) (pc' := 60) rfl dX1_list_57 fk_RX1_36 ly_19 rfl (by rw [hw5, up_ne _ _ (by omega), hw4, up_ne _ _ (by omega), hw3, up_ne _ _ (by omega), hw2, up_ne _ _ (by omega)]; exact hP1.1) ?_
      refine v_cSP (pc' := 63) rfl dX1_list_60 lk_RX1_70 rfl (c_least l G ht1 (by omega) (n := n) rfl hn1 hn7 (kt_ok n (by omega) i1 h1).1.2 w5) rfl rfl rfl ?_
      refine v_nm (fun least1 hleast1 => ?_)
      refine v_put (pc' := 66) rfl dX1_list_63 fi_RX1_96 ly_19 rfl ?_
      refine v_nmw (fun w7 hw7 => ?_)
      have p2 : w7 19 2 = (n : Int) := by rw [hw7, up_ne _ _ (by omega)]; exact p2
      refine v_aload_n 1 (pc' := 67) rfl dX1_list_66 rfl rfl ?_
      refine v_aload_n 0 (pc' := 68) rfl dX1_list_67 rfl rfl ?_
      refine v_get (z := (n : Int)) (pc' := 71) rfl dX1_list_68 fk_RX1_36 ly_19 rfl (by rw [hw7, up_ne _ _ (by omega), hw5, up_ne _ _ (by omega), hw4, up_ne _ _ (by omega), hw3, up_ne _ _ (by omega), hw2, up_ne _ _ (by omega)]; exact hP1.1) ?_
      refine v_aload_n 0 (pc' := 72) rfl dX1_list_71 rfl rfl ?_
      refine v_get (z := ((hx (leastF (kT n i1) n) : Nat) : Int)) (pc' := 75) rfl dX1_list_72 fk_RX1_96 ly_19 rfl (by rw [hw7, up_eq, hleast1]) ?_
      refine v_aload_n 0 (pc' := 76) rfl dX1_list_75 rfl rfl ?_
      refine v_get (z := ((hx (leastF (kT n i1) n) : Nat) : Int)) (pc' := 79) rfl dX1_list_76 fk_RX1_96 ly_19 rfl (by rw [hw7, up_eq, hleast1]) ?_
      refine v_cVv (pc' := 82) rfl dX1_list_79 lk_RX1_99 ly_7 rfl (c_gather l G (n := n) rfl hn1 hn7 hs hs rfl rfl (by omega) w7) rfl rfl rfl (fun gather1 w8 hq8 => ?_)
      obtain ⟨f8, hG8, -⟩ := hq8
      refine v_iconst (pc' := 83) rfl dX1_list_82 ?_
      refine v_istore (ls' := [(6, _), (0, _), (1, _), (2, _), (3, _), (4, _), (5, _)]) (pc' := 85) rfl dX1_list_83 rfl rfl ?_
      refine v_ls [1, 2, 3, 4, 5, 6, 0] rfl ?_
      refine v_loop2 85 (fun (i : Int) (wl : Wd) => ∃ k : Nat, i = k ∧ k ≤ 5040 ∧ (∀ j, j < k → wl 24 j = 0) ∧ Fr [24] w8 wl) (fun (i : Int) (wl : Wd) => (5040 - i).toNat) (fun (i : Int) (wl : Wd) => [(0, aR 19), (1, aR 7), (2, aI (n0)), (3, aI (t1)), (4, aI (t2)), (5, aI (t3)), (6, aI (i))]) (fun (i : Int) (wl : Wd) => []) (fun (i : Int) (wl : Wd) => wl) (fun i wl hI0 ih0 => ?_) (0) w8 (⟨0, rfl, by omega, fun j h => by omega, Fr.rf _ _⟩)
      obtain ⟨k, hi, hk, hA, hfl2⟩ := hI0
      have hik : i.toNat = k := by omega
      refine v_iload 6 (pc' := 87) rfl dX1_list_85 rfl ?_
      refine v_sipush (pc' := 90) rfl dX1_list_87 rfl ?_
      refine v_icmp_ge (pc' := 93) (tgt := 107) rfl dX1_list_90 (by decide) (by omega) (by omega) (fun c3 => ?_) (fun c3 => ?_)
      ·
        refine v_iconst (pc' := 108) rfl dX1_list_107 ?_
        refine v_istore (ls' := [(6, _), (0, _), (1, _), (2, _), (3, _), (4, _), (5, _)]) (pc' := 110) rfl dX1_list_108 rfl rfl ?_
        refine v_ls [1, 2, 3, 4, 5, 6, 0] rfl ?_
        refine v_loop2 110 (fun (i : Int) (wm : Wd) => ∃ k : Nat, i = k ∧ k ≤ facN n ∧ SeenI wm n (leastF (kT n i1) n) (kT n i2) (kT n i3) k ∧ CLW wm n i1 i2 i3 k ∧ (∀ j, j ≠ 14 → wm 19 j = w8 19 j) ∧ Fr [19, 24, 25, 26] w8 wm) (fun (i : Int) (wm : Wd) => ((facN n : Int) - i).toNat) (fun (i : Int) (wm : Wd) => [(0, aR 19), (1, aR 7), (2, aI (n0)), (3, aI (t1)), (4, aI (t2)), (5, aI (t3)), (6, aI (i))]) (fun (i : Int) (wm : Wd) => []) (fun (i : Int) (wm : Wd) => wm) (fun i wm hI1 ih1 => ?_) (0) wl (⟨0, rfl, by omega, fun j hj => Or.inr ⟨hA j (by omega), fun ⟨i, h, _⟩ => by omega⟩, ⟨by rw [hfl2 19 14 rfl, f8 19 14 rfl, hw7, up_ne _ _ (by omega), hw5, up_eq]; rfl, by rw [hfl2 19 15 rfl, f8 19 15 rfl, hw7, up_eq, hleast1], fun j h => absurd h (Nat.not_lt_zero _)⟩, fun j _ => hfl2 19 j rfl, hfl2.mono (by decide)⟩)
        clear hA hfl2 hik hk hi
        obtain ⟨k, hi, hk, hSe, hCL, hU, hfm⟩ := hI1
        have e19 : ∀ j, j ≠ 11 → j ≠ 12 → j ≠ 13 → j ≠ 14 → j ≠ 15 → wm 19 j = w1 19 j := fun j a b c d e => by rw [hU j d, f8 19 j rfl, hw7, up_ne _ _ (by omega), hw5, up_ne _ _ (by omega), hw4, up_ne _ _ (by omega), hw3, up_ne _ _ (by omega), hw2, up_ne _ _ (by omega)]
        have e1c : ∀ o, o ≠ 19 → ∀ j, w7 o j = w1 o j := fun o ho j => by rw [hw7, up_ne _ _ (by omega), hw5, up_ne _ _ (by omega), hw4, up_ne _ _ (by omega), hw3, up_ne _ _ (by omega), hw2, up_ne _ _ (by omega)]
        have g2 : wm 19 2 = n := by rw [e19 2 (by decide) (by decide) (by decide) (by decide) (by decide)]; exact hP1.1
        have g3 : wm 19 3 = (facN n : Nat) := by rw [e19 3 (by decide) (by decide) (by decide) (by decide) (by decide)]; exact hP1.2.1
        have g15 := hCL.2.1
        have hGm : GOut wm (gathL n (leastF (kT n i1) n) (leastF (kT n i1) n)) := ⟨by rw [hfm 7 6 rfl]; exact hG8.1, fun j hj => by rw [hfm 8 j rfl]; exact hG8.2 j hj⟩
        refine v_iload 6 (pc' := 112) rfl dX1_list_110 rfl ?_
        refine v_aload_n 0 (pc' := 113) rfl dX1_list_112 rfl rfl ?_
        refine v_get (z := ((facN n : Nat) : Int)) (pc' := 116) rfl dX1_list_113 fk_RX1_44 ly_19 rfl (g3) ?_
        refine v_icmp_ge (pc' := 119) (tgt := 183) rfl dX1_list_116 (by decide) (by omega) (by omega) (fun c4 => ?_) (fun c4 => ?_)
        ·
          refine v_vret dX1_list_183 ?_
          have e : k = facN n := by omega
          rw [e] at hCL
          have e57 : Fr [19] w1 w7 := by rw [hw7, hw5, hw4, hw3, hw2]; exact (((((Fr.rf _ _).up rfl).up rfl).up rfl).up rfl).up rfl
          refine ⟨hP1.fr (e19 2 (by decide) (by decide) (by decide) (by decide) (by decide)) (e19 3 (by decide) (by decide) (by decide) (by decide) (by decide)) (fun j => ⟨by rw [hfm 20 j rfl, f8 20 j rfl, e1c 20 (by decide)], by rw [hfm 21 j rfl, f8 21 j rfl, e1c 21 (by decide)]⟩), ⟨?_, ?_, ?_⟩, hCL, hT1.fr (e19 6 (by decide) (by decide) (by decide) (by decide) (by decide)) (e19 7 (by decide) (by decide) (by decide) (by decide) (by decide)) (fun j => ⟨by rw [hfm 22 j rfl, f8 22 j rfl, e1c 22 (by decide)], by rw [hfm 23 j rfl, f8 23 j rfl, e1c 23 (by decide)]⟩), (((hf1.mono (by decide)).trs (e57.mono (by decide))).trs (f8.mono (by decide))).trs (hfm.mono (by decide))⟩
          · rw [hU 11 (by decide), f8 19 11 rfl, hw7, up_ne _ _ (by omega), hw5, up_ne _ _ (by omega), hw4, up_ne _ _ (by omega), hw3, up_ne _ _ (by omega), hw2, up_eq, ht1]
          · rw [hU 12 (by decide), f8 19 12 rfl, hw7, up_ne _ _ (by omega), hw5, up_ne _ _ (by omega), hw4, up_ne _ _ (by omega), hw3, up_eq, ht2]
          · rw [hU 13 (by decide), f8 19 13 rfl, hw7, up_ne _ _ (by omega), hw5, up_ne _ _ (by omega), hw4, up_eq, ht3]
        ·
          refine v_iload 6 (pc' := 121) rfl dX1_list_119 rfl ?_
          refine v_sipush (pc' := 124) rfl dX1_list_121 rfl ?_
          refine v_icmp_ge (pc' := 127) (tgt := 183) rfl dX1_list_124 (by decide) (by omega) (by omega) (fun c5 => absurd c5 (by omega)) (fun c5 => ?_)
          have hkF : k < facN n := by omega
          have hpk := pn_at hn1 hn7 hkF
          obtain ⟨it, hit, hkt⟩ := kf_type hn1 hn7 hpk.1
          refine v_aload_n 0 (pc' := 128) rfl dX1_list_127 rfl rfl ?_
          refine v_getR (pc' := 131) rfl dX1_list_128 fk_RX1_26 ly_19 rfl ?_
          refine v_iload 6 (pc' := 133) rfl dX1_list_131 rfl ?_
          refine v_zald (pc' := 134) rfl dX1_list_133 ly_24 (by omega) (by omega) rfl (rfl) ?_
          refine v_if_ne (pc' := 137) (tgt := 177) rfl dX1_list_134 (by decide) (by rcases hSe k (by omega) with ⟨a, -⟩ | ⟨a, -⟩ <;> rw [show i.toNat = k by omega] <;> omega) (fun c6 => ?_) (fun c6 => ?_)
          ·
            have hno : ¬ opnB n (leastF (kT n i1) n) (kT n i2) (kT n i3) k = true := fun ho => by
              rcases hSe k (by omega) with ⟨-, b⟩ | ⟨a, -⟩
              · exact (opn_seen hn1 hn7 hs hkF (opnB_iff.mp ho).1).mp ho b
              · rw [show i.toNat = k by omega] at c6; exact c6 a
            refine v_iinc (ls' := [(6, _), (0, _), (1, _), (2, _), (3, _), (4, _), (5, _)]) 6 (pc' := 180) rfl dX1_list_177 rfl rfl rfl ?_
            refine v_nl (fun i' hi' => ?_)
            refine v_goto (tgt := 110) dX1_list_180 (by decide) ?_
            refine v_ls [1, 2, 3, 4, 5, 6, 0] rfl ?_
            exact ih1 (i') wm (⟨k + 1, by omega, by omega, hSe.no hno, hCL.no hno, hU, hfm⟩) (by omega)
          ·
            have hns : ¬ ∃ x, x < k ∧ opnB n (leastF (kT n i1) n) (kT n i2) (kT n i3) x = true ∧ Orb n (leastF (kT n i1) n) x k := by
              rcases hSe k (by omega) with ⟨a, -⟩ | ⟨-, b⟩
              · rw [show i.toNat = k by omega] at c6; omega
              · exact b
            refine v_aload_n 0 (pc' := 138) rfl dX1_list_137 rfl rfl ?_
            refine v_getR (pc' := 141) rfl dX1_list_138 fk_RX1_15 ly_19 rfl ?_
            refine v_iload 6 (pc' := 143) rfl dX1_list_141 rfl ?_
            refine v_iald (z := ((kindN (pn n k) n : Nat) : Int)) (pc' := 144) rfl dX1_list_143 ly_21 (by omega) (by omega) rfl (by rw [show i.toNat = k by omega, hfm 21 k rfl, f8 21 k rfl, e1c 21 (by decide)]; exact (hP1.2.2 k hkF).2) ?_
            refine v_iload 4 (pc' := 146) rfl dX1_list_144 rfl ?_
            refine v_icmp_ne (pc' := 149) (tgt := 177) rfl dX1_list_146 (by decide) (by have := kT_le hn7 hit; omega) (by omega) (fun c7 => ?_) (fun c7 => ?_)
            ·
              have hno : ¬ opnB n (leastF (kT n i1) n) (kT n i2) (kT n i3) k = true := fun ho => by
                have := (opnB_iff.mp ho).1
                unfold cndB at this
                simp only [Bool.and_eq_true, beq_iff_eq] at this
                omega
              refine v_iinc (ls' := [(6, _), (0, _), (1, _), (2, _), (3, _), (4, _), (5, _)]) 6 (pc' := 180) rfl dX1_list_177 rfl rfl rfl ?_
              refine v_nl (fun i' hi' => ?_)
              refine v_goto (tgt := 110) dX1_list_180 (by decide) ?_
              refine v_ls [1, 2, 3, 4, 5, 6, 0] rfl ?_
              exact ih1 (i') wm (⟨k + 1, by omega, by omega, hSe.no hno, hCL.no hno, hU, hfm⟩) (by omega)
            ·
              have heq : kindN (pn n k) n = kT n i2 := by omega
              refine v_aload_n 0 (pc' := 150) rfl dX1_list_149 rfl rfl ?_
              refine v_aload_n 0 (pc' := 151) rfl dX1_list_150 rfl rfl ?_
              refine v_getR (pc' := 154) rfl dX1_list_151 fk_RX1_9 ly_19 rfl ?_
              refine v_iload 6 (pc' := 156) rfl dX1_list_154 rfl ?_
              refine v_iald (z := ((hx (pn n k) : Nat) : Int)) (pc' := 157) rfl dX1_list_156 ly_20 (by omega) (by omega) rfl (by rw [show i.toNat = k by omega, hfm 20 k rfl, f8 20 k rfl, e1c 20 (by decide)]; exact (hP1.2.2 k hkF).1) ?_
              refine v_iload 5 (pc' := 159) rfl dX1_list_157 rfl ?_
              refine v_cVP (pc' := 162) rfl dX1_list_159 lk_RX1_105 ly_19 rfl (c_belongs l G (T3 := kT n i3) hn1 hn7 hs hpk.1 rfl ht3 (by omega) wm g2 g15) rfl rfl rfl ?_
              refine v_nm (fun belongs1 hbelongs1 => ?_)
              refine v_if_eq (pc' := 165) (tgt := 177) rfl dX1_list_162 (by decide) (by rw [hbelongs1]; split <;> omega) (fun c8 => ?_) (fun c8 => ?_)
              ·
                have hno : ¬ opnB n (leastF (kT n i1) n) (kT n i2) (kT n i3) k = true := fun ho => by
                  have := (opnB_iff.mp ho).1
                  unfold cndB at this
                  rw [Bool.and_eq_true] at this
                  rw [if_pos this.2] at hbelongs1
                  omega
                refine v_iinc (ls' := [(6, _), (0, _), (1, _), (2, _), (3, _), (4, _), (5, _)]) 6 (pc' := 180) rfl dX1_list_177 rfl rfl rfl ?_
                refine v_nl (fun i' hi' => ?_)
                refine v_goto (tgt := 110) dX1_list_180 (by decide) ?_
                refine v_ls [1, 2, 3, 4, 5, 6, 0] rfl ?_
                exact ih1 (i') wm (⟨k + 1, by omega, by omega, hSe.no hno, hCL.no hno, hU, hfm⟩) (by omega)
              ·
                have hyes : opnB n (leastF (kT n i1) n) (kT n i2) (kT n i3) k = true := by
                  refine (opn_seen hn1 hn7 hs hkF ?_).mpr hns
                  unfold cndB
                  rw [Bool.and_eq_true, beq_iff_eq]
                  refine ⟨heq, ?_⟩
                  rw [← Bool.not_eq_false]
                  intro e
                  rw [e] at hbelongs1
                  simp at hbelongs1
                  omega
                have hm64 : (opnL n (leastF (kT n i1) n) (kT n i2) (kT n i3) k).length < 64 := by
                  have := opnL_mono (n := n) (s := (leastF (kT n i1) n)) (kT n i2) (kT n i3) (show k + 1 ≤ facN n by omega)
                  rw [opnL_s, if_pos hyes, List.length_append] at this
                  simp at this
                  omega
                refine v_aload_n 0 (pc' := 166) rfl dX1_list_165 rfl rfl ?_
                refine v_aload_n 1 (pc' := 167) rfl dX1_list_166 rfl rfl ?_
                refine v_aload_n 0 (pc' := 168) rfl dX1_list_167 rfl rfl ?_
                refine v_getR (pc' := 171) rfl dX1_list_168 fk_RX1_9 ly_19 rfl ?_
                refine v_iload 6 (pc' := 173) rfl dX1_list_171 rfl ?_
                refine v_iald (z := ((hx (pn n k) : Nat) : Int)) (pc' := 174) rfl dX1_list_173 ly_20 (by omega) (by omega) rfl (by rw [show i.toNat = k by omega, hfm 20 k rfl, f8 20 k rfl, e1c 20 (by decide)]; exact (hP1.2.2 k hkF).1) ?_
                refine v_cVv (pc' := 177) rfl dX1_list_174 lk_RX1_109 ly_19 rfl (c_open l G hn1 hn7 hs hkF rfl (m := (opnL n (leastF (kT n i1) n) (kT n i2) (kT n i3) k).length) hm64 wm hGm g2 hCL.1) rfl rfl rfl (fun open1 w11 hq11 => ?_)
                obtain ⟨o1, o2, o3, o4, o5, o6, o7⟩ := hq11
                refine v_iinc (ls' := [(6, _), (0, _), (1, _), (2, _), (3, _), (4, _), (5, _)]) 6 (pc' := 180) rfl dX1_list_177 rfl rfl rfl ?_
                refine v_nl (fun i' hi' => ?_)
                refine v_goto (tgt := 110) dX1_list_180 (by decide) ?_
                refine v_ls [1, 2, 3, 4, 5, 6, 0] rfl ?_
                exact ih1 (i') w11 (⟨k + 1, by omega, by omega, hSe.yes hyes o1, hCL.yes hyes rfl o2 o3 o4 o5 o6, fun j hj => by rw [o6 j hj]; exact hU j hj, hfm.trs o7⟩) (by omega)
      ·
        refine v_aload_n 0 (pc' := 94) rfl dX1_list_93 rfl rfl ?_
        refine v_getR (pc' := 97) rfl dX1_list_94 fk_RX1_26 ly_19 rfl ?_
        refine v_iload 6 (pc' := 99) rfl dX1_list_97 rfl ?_
        refine v_iconst (pc' := 100) rfl dX1_list_99 ?_
        refine v_zast (z := 0) (pc' := 101) rfl dX1_list_100 ly_24 (by omega) (by omega) rfl (rfl) ?_
        refine v_nmw (fun w9 hw9 => ?_)
        refine v_iinc (ls' := [(6, _), (0, _), (1, _), (2, _), (3, _), (4, _), (5, _)]) 6 (pc' := 104) rfl dX1_list_101 rfl rfl rfl ?_
        refine v_nl (fun i' hi' => ?_)
        refine v_goto (tgt := 85) dX1_list_104 (by decide) ?_
        refine v_ls [1, 2, 3, 4, 5, 6, 0] rfl ?_
        exact ih0 (i') w9 (⟨k + 1, by omega, by omega, fun j h => by
            rw [hw9, up_at, hik]
            split
            · rfl
            · exact hA j (by omega), by rw [hw9]; exact hfl2.up rfl⟩) (by omega)
    ·
      refine v_aload_n 0 (pc' := 23) rfl dX1_list_22 rfl rfl ?_
      refine v_get (pc' := 26) rfl dX1_list_23 fk_RX1_90 ly_19 rfl rfl ?_
      refine v_iload 5 (pc' := 28) rfl dX1_list_26 rfl ?_
      refine v_icmp_ne (pc' := 31) (tgt := 32) rfl dX1_list_28 (by decide) (hr13 (by omega)) (by omega) (fun c2 => ?_) (fun c2 => ?_)
      ·
        refine v_aload_n 0 (pc' := 33) rfl dX1_list_32 rfl rfl ?_
        refine v_iload_n 3 (pc' := 34) rfl dX1_list_33 rfl rfl ?_
        refine v_put (pc' := 37) rfl dX1_list_34 fi_RX1_50 ly_19 rfl ?_
        refine v_nmw (fun w2 hw2 => ?_)
        have p2 : w2 19 2 = (n : Int) := by rw [hw2, up_ne _ _ (by omega)]; exact p2
        refine v_aload_n 0 (pc' := 38) rfl dX1_list_37 rfl rfl ?_
        refine v_iload 4 (pc' := 40) rfl dX1_list_38 rfl ?_
        refine v_put (pc' := 43) rfl dX1_list_40 fi_RX1_87 ly_19 rfl ?_
        refine v_nmw (fun w3 hw3 => ?_)
        have p2 : w3 19 2 = (n : Int) := by rw [hw3, up_ne _ _ (by omega)]; exact p2
        refine v_aload_n 0 (pc' := 44) rfl dX1_list_43 rfl rfl ?_
        refine v_iload 5 (pc' := 46) rfl dX1_list_44 rfl ?_
        refine v_put (pc' := 49) rfl dX1_list_46 fi_RX1_90 ly_19 rfl ?_
        refine v_nmw (fun w4 hw4 => ?_)
        have p2 : w4 19 2 = (n : Int) := by rw [hw4, up_ne _ _ (by omega)]; exact p2
        refine v_aload_n 0 (pc' := 50) rfl dX1_list_49 rfl rfl ?_
        refine v_iconst (pc' := 51) rfl dX1_list_50 ?_
        refine v_put (pc' := 54) rfl dX1_list_51 fi_RX1_93 ly_19 rfl ?_
        refine v_nmw (fun w5 hw5 => ?_)
        have p2 : w5 19 2 = (n : Int) := by rw [hw5, up_ne _ _ (by omega)]; exact p2
        refine v_aload_n 0 (pc' := 55) rfl dX1_list_54 rfl rfl ?_
        refine v_iload_n 3 (pc' := 56) rfl dX1_list_55 rfl rfl ?_
        refine v_aload_n 0 (pc' := 57) rfl dX1_list_56 rfl rfl ?_
        refine v_get (z := (n : Int)) (pc' := 60) rfl dX1_list_57 fk_RX1_36 ly_19 rfl (by rw [hw5, up_ne _ _ (by omega), hw4, up_ne _ _ (by omega), hw3, up_ne _ _ (by omega), hw2, up_ne _ _ (by omega)]; exact hP1.1) ?_
        refine v_cSP (pc' := 63) rfl dX1_list_60 lk_RX1_70 rfl (c_least l G ht1 (by omega) (n := n) rfl hn1 hn7 (kt_ok n (by omega) i1 h1).1.2 w5) rfl rfl rfl ?_
        refine v_nm (fun least1 hleast1 => ?_)
        refine v_put (pc' := 66) rfl dX1_list_63 fi_RX1_96 ly_19 rfl ?_
        refine v_nmw (fun w7 hw7 => ?_)
        have p2 : w7 19 2 = (n : Int) := by rw [hw7, up_ne _ _ (by omega)]; exact p2
        refine v_aload_n 1 (pc' := 67) rfl dX1_list_66 rfl rfl ?_
        refine v_aload_n 0 (pc' := 68) rfl dX1_list_67 rfl rfl ?_
        refine v_get (z := (n : Int)) (pc' := 71) rfl dX1_list_68 fk_RX1_36 ly_19 rfl (by rw [hw7, up_ne _ _ (by omega), hw5, up_ne _ _ (by omega), hw4, up_ne _ _ (by omega), hw3, up_ne _ _ (by omega), hw2, up_ne _ _ (by omega)]; exact hP1.1) ?_
        refine v_aload_n 0 (pc' := 72) rfl dX1_list_71 rfl rfl ?_
        refine v_get (z := ((hx (leastF (kT n i1) n) : Nat) : Int)) (pc' := 75) rfl dX1_list_72 fk_RX1_96 ly_19 rfl (by rw [hw7, up_eq, hleast1]) ?_
        refine v_aload_n 0 (pc' := 76) rfl dX1_list_75 rfl rfl ?_
        refine v_get (z := ((hx (leastF (kT n i1) n) : Nat) : Int)) (pc' := 79) rfl dX1_list_76 fk_RX1_96 ly_19 rfl (by rw [hw7, up_eq, hleast1]) ?_
        refine v_cVv (pc' := 82) rfl dX1_list_79 lk_RX1_99 ly_7 rfl (c_gather l G (n := n) rfl hn1 hn7 hs hs rfl rfl (by omega) w7) rfl rfl rfl (fun gather1 w8 hq8 => ?_)
        obtain ⟨f8, hG8, -⟩ := hq8
        refine v_iconst (pc' := 83) rfl dX1_list_82 ?_
        refine v_istore (ls' := [(6, _), (0, _), (1, _), (2, _), (3, _), (4, _), (5, _)]) (pc' := 85) rfl dX1_list_83 rfl rfl ?_
        refine v_ls [1, 2, 3, 4, 5, 6, 0] rfl ?_
        refine v_loop2 85 (fun (i : Int) (wl : Wd) => ∃ k : Nat, i = k ∧ k ≤ 5040 ∧ (∀ j, j < k → wl 24 j = 0) ∧ Fr [24] w8 wl) (fun (i : Int) (wl : Wd) => (5040 - i).toNat) (fun (i : Int) (wl : Wd) => [(0, aR 19), (1, aR 7), (2, aI (n0)), (3, aI (t1)), (4, aI (t2)), (5, aI (t3)), (6, aI (i))]) (fun (i : Int) (wl : Wd) => []) (fun (i : Int) (wl : Wd) => wl) (fun i wl hI0 ih0 => ?_) (0) w8 (⟨0, rfl, by omega, fun j h => by omega, Fr.rf _ _⟩)
        obtain ⟨k, hi, hk, hA, hfl2⟩ := hI0
        have hik : i.toNat = k := by omega
        refine v_iload 6 (pc' := 87) rfl dX1_list_85 rfl ?_
        refine v_sipush (pc' := 90) rfl dX1_list_87 rfl ?_
        refine v_icmp_ge (pc' := 93) (tgt := 107) rfl dX1_list_90 (by decide) (by omega) (by omega) (fun c3 => ?_) (fun c3 => ?_)
        ·
          refine v_iconst (pc' := 108) rfl dX1_list_107 ?_
          refine v_istore (ls' := [(6, _), (0, _), (1, _), (2, _), (3, _), (4, _), (5, _)]) (pc' := 110) rfl dX1_list_108 rfl rfl ?_
          refine v_ls [1, 2, 3, 4, 5, 6, 0] rfl ?_
          refine v_loop2 110 (fun (i : Int) (wm : Wd) => ∃ k : Nat, i = k ∧ k ≤ facN n ∧ SeenI wm n (leastF (kT n i1) n) (kT n i2) (kT n i3) k ∧ CLW wm n i1 i2 i3 k ∧ (∀ j, j ≠ 14 → wm 19 j = w8 19 j) ∧ Fr [19, 24, 25, 26] w8 wm) (fun (i : Int) (wm : Wd) => ((facN n : Int) - i).toNat) (fun (i : Int) (wm : Wd) => [(0, aR 19), (1, aR 7), (2, aI (n0)), (3, aI (t1)), (4, aI (t2)), (5, aI (t3)), (6, aI (i))]) (fun (i : Int) (wm : Wd) => []) (fun (i : Int) (wm : Wd) => wm) (fun i wm hI1 ih1 => ?_) (0) wl (⟨0, rfl, by omega, fun j hj => Or.inr ⟨hA j (by omega), fun ⟨i, h, _⟩ => by omega⟩, ⟨by rw [hfl2 19 14 rfl, f8 19 14 rfl, hw7, up_ne _ _ (by omega), hw5, up_eq]; rfl, by rw [hfl2 19 15 rfl, f8 19 15 rfl, hw7, up_eq, hleast1], fun j h => absurd h (Nat.not_lt_zero _)⟩, fun j _ => hfl2 19 j rfl, hfl2.mono (by decide)⟩)
          clear hA hfl2 hik hk hi
          obtain ⟨k, hi, hk, hSe, hCL, hU, hfm⟩ := hI1
          have e19 : ∀ j, j ≠ 11 → j ≠ 12 → j ≠ 13 → j ≠ 14 → j ≠ 15 → wm 19 j = w1 19 j := fun j a b c d e => by rw [hU j d, f8 19 j rfl, hw7, up_ne _ _ (by omega), hw5, up_ne _ _ (by omega), hw4, up_ne _ _ (by omega), hw3, up_ne _ _ (by omega), hw2, up_ne _ _ (by omega)]
          have e1c : ∀ o, o ≠ 19 → ∀ j, w7 o j = w1 o j := fun o ho j => by rw [hw7, up_ne _ _ (by omega), hw5, up_ne _ _ (by omega), hw4, up_ne _ _ (by omega), hw3, up_ne _ _ (by omega), hw2, up_ne _ _ (by omega)]
          have g2 : wm 19 2 = n := by rw [e19 2 (by decide) (by decide) (by decide) (by decide) (by decide)]; exact hP1.1
          have g3 : wm 19 3 = (facN n : Nat) := by rw [e19 3 (by decide) (by decide) (by decide) (by decide) (by decide)]; exact hP1.2.1
          have g15 := hCL.2.1
          have hGm : GOut wm (gathL n (leastF (kT n i1) n) (leastF (kT n i1) n)) := ⟨by rw [hfm 7 6 rfl]; exact hG8.1, fun j hj => by rw [hfm 8 j rfl]; exact hG8.2 j hj⟩
          refine v_iload 6 (pc' := 112) rfl dX1_list_110 rfl ?_
          refine v_aload_n 0 (pc' := 113) rfl dX1_list_112 rfl rfl ?_
          refine v_get (z := ((facN n : Nat) : Int)) (pc' := 116) rfl dX1_list_113 fk_RX1_44 ly_19 rfl (g3) ?_
          refine v_icmp_ge (pc' := 119) (tgt := 183) rfl dX1_list_116 (by decide) (by omega) (by omega) (fun c4 => ?_) (fun c4 => ?_)
          ·
            refine v_vret dX1_list_183 ?_
            have e : k = facN n := by omega
            rw [e] at hCL
            have e57 : Fr [19] w1 w7 := by rw [hw7, hw5, hw4, hw3, hw2]; exact (((((Fr.rf _ _).up rfl).up rfl).up rfl).up rfl).up rfl
            refine ⟨hP1.fr (e19 2 (by decide) (by decide) (by decide) (by decide) (by decide)) (e19 3 (by decide) (by decide) (by decide) (by decide) (by decide)) (fun j => ⟨by rw [hfm 20 j rfl, f8 20 j rfl, e1c 20 (by decide)], by rw [hfm 21 j rfl, f8 21 j rfl, e1c 21 (by decide)]⟩), ⟨?_, ?_, ?_⟩, hCL, hT1.fr (e19 6 (by decide) (by decide) (by decide) (by decide) (by decide)) (e19 7 (by decide) (by decide) (by decide) (by decide) (by decide)) (fun j => ⟨by rw [hfm 22 j rfl, f8 22 j rfl, e1c 22 (by decide)], by rw [hfm 23 j rfl, f8 23 j rfl, e1c 23 (by decide)]⟩), (((hf1.mono (by decide)).trs (e57.mono (by decide))).trs (f8.mono (by decide))).trs (hfm.mono (by decide))⟩
            · rw [hU 11 (by decide), f8 19 11 rfl, hw7, up_ne _ _ (by omega), hw5, up_ne _ _ (by omega), hw4, up_ne _ _ (by omega), hw3, up_ne _ _ (by omega), hw2, up_eq, ht1]
            · rw [hU 12 (by decide), f8 19 12 rfl, hw7, up_ne _ _ (by omega), hw5, up_ne _ _ (by omega), hw4, up_ne _ _ (by omega), hw3, up_eq, ht2]
            · rw [hU 13 (by decide), f8 19 13 rfl, hw7, up_ne _ _ (by omega), hw5, up_ne _ _ (by omega), hw4, up_eq, ht3]
          ·
            refine v_iload 6 (pc' := 121) rfl dX1_list_119 rfl ?_
            refine v_sipush (pc' := 124) rfl dX1_list_121 rfl ?_
            refine v_icmp_ge (pc' := 127) (tgt := 183) rfl dX1_list_124 (by decide) (by omega) (by omega) (fun c5 => absurd c5 (by omega)) (fun c5 => ?_)
            have hkF : k < facN n := by omega
            have hpk := pn_at hn1 hn7 hkF
            obtain ⟨it, hit, hkt⟩ := kf_type hn1 hn7 hpk.1
            refine v_aload_n 0 (pc' := 128) rfl dX1_list_127 rfl rfl ?_
            refine v_getR (pc' := 131) rfl dX1_list_128 fk_RX1_26 ly_19 rfl ?_
            refine v_iload 6 (pc' := 133) rfl dX1_list_131 rfl ?_
            refine v_zald (pc' := 134) rfl dX1_list_133 ly_24 (by omega) (by omega) rfl (rfl) ?_
            refine v_if_ne (pc' := 137) (tgt := 177) rfl dX1_list_134 (by decide) (by rcases hSe k (by omega) with ⟨a, -⟩ | ⟨a, -⟩ <;> rw [show i.toNat = k by omega] <;> omega) (fun c6 => ?_) (fun c6 => ?_)
            ·
              have hno : ¬ opnB n (leastF (kT n i1) n) (kT n i2) (kT n i3) k = true := fun ho => by
                rcases hSe k (by omega) with ⟨-, b⟩ | ⟨a, -⟩
                · exact (opn_seen hn1 hn7 hs hkF (opnB_iff.mp ho).1).mp ho b
                · rw [show i.toNat = k by omega] at c6; exact c6 a
              refine v_iinc (ls' := [(6, _), (0, _), (1, _), (2, _), (3, _), (4, _), (5, _)]) 6 (pc' := 180) rfl dX1_list_177 rfl rfl rfl ?_
              refine v_nl (fun i' hi' => ?_)
              refine v_goto (tgt := 110) dX1_list_180 (by decide) ?_
              refine v_ls [1, 2, 3, 4, 5, 6, 0] rfl ?_
              exact ih1 (i') wm (⟨k + 1, by omega, by omega, hSe.no hno, hCL.no hno, hU, hfm⟩) (by omega)
            ·
              have hns : ¬ ∃ x, x < k ∧ opnB n (leastF (kT n i1) n) (kT n i2) (kT n i3) x = true ∧ Orb n (leastF (kT n i1) n) x k := by
                rcases hSe k (by omega) with ⟨a, -⟩ | ⟨-, b⟩
                · rw [show i.toNat = k by omega] at c6; omega
                · exact b
              refine v_aload_n 0 (pc' := 138) rfl dX1_list_137 rfl rfl ?_
              refine v_getR (pc' := 141) rfl dX1_list_138 fk_RX1_15 ly_19 rfl ?_
              refine v_iload 6 (pc' := 143) rfl dX1_list_141 rfl ?_
              refine v_iald (z := ((kindN (pn n k) n : Nat) : Int)) (pc' := 144) rfl dX1_list_143 ly_21 (by omega) (by omega) rfl (by rw [show i.toNat = k by omega, hfm 21 k rfl, f8 21 k rfl, e1c 21 (by decide)]; exact (hP1.2.2 k hkF).2) ?_
              refine v_iload 4 (pc' := 146) rfl dX1_list_144 rfl ?_
              refine v_icmp_ne (pc' := 149) (tgt := 177) rfl dX1_list_146 (by decide) (by have := kT_le hn7 hit; omega) (by omega) (fun c7 => ?_) (fun c7 => ?_)
              ·
                have hno : ¬ opnB n (leastF (kT n i1) n) (kT n i2) (kT n i3) k = true := fun ho => by
                  have := (opnB_iff.mp ho).1
                  unfold cndB at this
                  simp only [Bool.and_eq_true, beq_iff_eq] at this
                  omega
                refine v_iinc (ls' := [(6, _), (0, _), (1, _), (2, _), (3, _), (4, _), (5, _)]) 6 (pc' := 180) rfl dX1_list_177 rfl rfl rfl ?_
                refine v_nl (fun i' hi' => ?_)
                refine v_goto (tgt := 110) dX1_list_180 (by decide) ?_
                refine v_ls [1, 2, 3, 4, 5, 6, 0] rfl ?_
                exact ih1 (i') wm (⟨k + 1, by omega, by omega, hSe.no hno, hCL.no hno, hU, hfm⟩) (by omega)
              ·
                have heq : kindN (pn n k) n = kT n i2 := by omega
                refine v_aload_n 0 (pc' := 150) rfl dX1_list_149 rfl rfl ?_
                refine v_aload_n 0 (pc' := 151) rfl dX1_list_150 rfl rfl ?_
                refine v_getR (pc' := 154) rfl dX1_list_151 fk_RX1_9 ly_19 rfl ?_
                refine v_iload 6 (pc' := 156) rfl dX1_list_154 rfl ?_
                refine v_iald (z := ((hx (pn n k) : Nat) : Int)) (pc' := 157) rfl dX1_list_156 ly_20 (by omega) (by omega) rfl (by rw [show i.toNat = k by omega, hfm 20 k rfl, f8 20 k rfl, e1c 20 (by decide)]; exact (hP1.2.2 k hkF).1) ?_
                refine v_iload 5 (pc' := 159) rfl dX1_list_157 rfl ?_
                refine v_cVP (pc' := 162) rfl dX1_list_159 lk_RX1_105 ly_19 rfl (c_belongs l G (T3 := kT n i3) hn1 hn7 hs hpk.1 rfl ht3 (by omega) wm g2 g15) rfl rfl rfl ?_
                refine v_nm (fun belongs1 hbelongs1 => ?_)
                refine v_if_eq (pc' := 165) (tgt := 177) rfl dX1_list_162 (by decide) (by rw [hbelongs1]; split <;> omega) (fun c8 => ?_) (fun c8 => ?_)
                ·
                  have hno : ¬ opnB n (leastF (kT n i1) n) (kT n i2) (kT n i3) k = true := fun ho => by
                    have := (opnB_iff.mp ho).1
                    unfold cndB at this
                    rw [Bool.and_eq_true] at this
                    rw [if_pos this.2] at hbelongs1
                    omega
                  refine v_iinc (ls' := [(6, _), (0, _), (1, _), (2, _), (3, _), (4, _), (5, _)]) 6 (pc' := 180) rfl dX1_list_177 rfl rfl rfl ?_
                  refine v_nl (fun i' hi' => ?_)
                  refine v_goto (tgt := 110) dX1_list_180 (by decide) ?_
                  refine v_ls [1, 2, 3, 4, 5, 6, 0] rfl ?_
                  exact ih1 (i') wm (⟨k + 1, by omega, by omega, hSe.no hno, hCL.no hno, hU, hfm⟩) (by omega)
                ·
                  have hyes : opnB n (leastF (kT n i1) n) (kT n i2) (kT n i3) k = true := by
                    refine (opn_seen hn1 hn7 hs hkF ?_).mpr hns
                    unfold cndB
                    rw [Bool.and_eq_true, beq_iff_eq]
                    refine ⟨heq, ?_⟩
                    rw [← Bool.not_eq_false]
                    intro e
                    rw [e] at hbelongs1
                    simp at hbelongs1
                    omega
                  have hm64 : (opnL n (leastF (kT n i1) n) (kT n i2) (kT n i3) k).length < 64 := by
                    have := opnL_mono (n := n) (s := (leastF (kT n i1) n)) (kT n i2) (kT n i3) (show k + 1 ≤ facN n by omega)
                    rw [opnL_s, if_pos hyes, List.length_append] at this
                    simp at this
                    omega
                  refine v_aload_n 0 (pc' := 166) rfl dX1_list_165 rfl rfl ?_
                  refine v_aload_n 1 (pc' := 167) rfl dX1_list_166 rfl rfl ?_
                  refine v_aload_n 0 (pc' := 168) rfl dX1_list_167 rfl rfl ?_
                  refine v_getR (pc' := 171) rfl dX1_list_168 fk_RX1_9 ly_19 rfl ?_
                  refine v_iload 6 (pc' := 173) rfl dX1_list_171 rfl ?_
                  refine v_iald (z := ((hx (pn n k) : Nat) : Int)) (pc' := 174) rfl dX1_list_173 ly_20 (by omega) (by omega) rfl (by rw [show i.toNat = k by omega, hfm 20 k rfl, f8 20 k rfl, e1c 20 (by decide)]; exact (hP1.2.2 k hkF).1) ?_
                  refine v_cVv (pc' := 177) rfl dX1_list_174 lk_RX1_109 ly_19 rfl (c_open l G hn1 hn7 hs hkF rfl (m := (opnL n (leastF (kT n i1) n) (kT n i2) (kT n i3) k).length) hm64 wm hGm g2 hCL.1) rfl rfl rfl (fun open1 w11 hq11 => ?_)
                  obtain ⟨o1, o2, o3, o4, o5, o6, o7⟩ := hq11
                  refine v_iinc (ls' := [(6, _), (0, _), (1, _), (2, _), (3, _), (4, _), (5, _)]) 6 (pc' := 180) rfl dX1_list_177 rfl rfl rfl ?_
                  refine v_nl (fun i' hi' => ?_)
                  refine v_goto (tgt := 110) dX1_list_180 (by decide) ?_
                  refine v_ls [1, 2, 3, 4, 5, 6, 0] rfl ?_
                  exact ih1 (i') w11 (⟨k + 1, by omega, by omega, hSe.yes hyes o1, hCL.yes hyes rfl o2 o3 o4 o5 o6, fun j hj => by rw [o6 j hj]; exact hU j hj, hfm.trs o7⟩) (by omega)
        ·
          refine v_aload_n 0 (pc' := 94) rfl dX1_list_93 rfl rfl ?_
          refine v_getR (pc' := 97) rfl dX1_list_94 fk_RX1_26 ly_19 rfl ?_
          refine v_iload 6 (pc' := 99) rfl dX1_list_97 rfl ?_
          refine v_iconst (pc' := 100) rfl dX1_list_99 ?_
          refine v_zast (z := 0) (pc' := 101) rfl dX1_list_100 ly_24 (by omega) (by omega) rfl (rfl) ?_
          refine v_nmw (fun w9 hw9 => ?_)
          refine v_iinc (ls' := [(6, _), (0, _), (1, _), (2, _), (3, _), (4, _), (5, _)]) 6 (pc' := 104) rfl dX1_list_101 rfl rfl rfl ?_
          refine v_nl (fun i' hi' => ?_)
          refine v_goto (tgt := 85) dX1_list_104 (by decide) ?_
          refine v_ls [1, 2, 3, 4, 5, 6, 0] rfl ?_
          exact ih0 (i') w9 (⟨k + 1, by omega, by omega, fun j h => by
              rw [hw9, up_at, hik]
              split
              · rfl
              · exact hA j (by omega), by rw [hw9]; exact hfl2.up rfl⟩) (by omega)
      ·
        refine v_vret dX1_list_31 ?_
        rcases hL1 with h | ⟨j1, j2, j3, ⟨a, b, g⟩, c, d, f, e⟩
        · omega
        · have e1 : j1 = i1 := kT_inj n (by omega) j1 a i1 h1 (by omega)
          have e2 : j2 = i2 := kT_inj n (by omega) j2 b i2 h2 (by omega)
          have e3 : j3 = i3 := kT_inj n (by omega) j3 g i3 h3 (by omega)
          subst e1; subst e2; subst e3
          exact ⟨hP1, ⟨c, d, f⟩, e, hT1, hf1.mono (by decide)⟩

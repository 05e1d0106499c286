/-! ===== Relabels: first, settle, symmetries ===== -/
theorem getD_mem {α : Type} {L : List α} {i : Nat} {d : α} (h : i < L.length) : L.getD i d ∈ L := by
  rw [List.getD_eq_getElem?_getD, List.getElem?_eq_getElem h, Option.getD_some]; exact List.getElem_mem h
theorem mem_getD {α : Type} {L : List α} {a d : α} (h : a ∈ L) : ∃ i, i < L.length ∧ L.getD i d = a := by
  obtain ⟨i, hi, e⟩ := List.mem_iff_getElem.mp h
  exact ⟨i, hi, by rw [List.getD_eq_getElem?_getD, List.getElem?_eq_getElem hi, Option.getD_some, e]⟩
theorem pw_getD {α : Type} {L : List α} {R : α → α → Prop} {d : α} (h : L.Pairwise R) {i j : Nat} (hij : i < j) (hj : j < L.length) : R (L.getD i d) (L.getD j d) := by
  rw [List.getD_eq_getElem?_getD, List.getElem?_eq_getElem (by omega), List.getD_eq_getElem?_getD, List.getElem?_eq_getElem hj]
  exact List.pairwise_iff_getElem.mp h i j (by omega) hj hij
def FST (n : Nat) (s a s2 a2 : Nat → Nat) (z : Int) : Prop := (z = 0 ∧ ∀ r, Pm n r → pconj s r = s2 → pconj a r ≠ a2) ∨ ∃ r, Pm n r ∧ pconj s r = s2 ∧ pconj a r = a2 ∧ z = (hx r : Nat) ∧ ∀ r', Pm n r' → pconj s r' = s2 → pconj a r' = a2 → hx r ≤ hx r'
theorem hx_pos {n : Nat} {f : Nat → Nat} (hf : Pm n f) (hn : n ≤ 7) : 1 ≤ hx f ∧ hx f < 134217728 := by
  have := hf.b7 hn 1 (by omega) (by omega)
  have b := hx_lt (hf.B hn)
  rw [hx_eq] at b ⊢
  omega
def minU (v : Nat → Nat) : Nat → Nat
  | 0 => 134217728
  | k + 1 => if v k < minU v k then v k else minU v k
def cntU (v : Nat → Nat) (t : Nat) : Nat → Nat
  | 0 => 0
  | k + 1 => cntU v t k + if v k = t then 1 else 0
theorem minU_le (v : Nat → Nat) : ∀ k, minU v k ≤ 134217728 ∧ ∀ i, i < k → minU v k ≤ v i
  | 0 => ⟨Nat.le_refl _, fun i h => by omega⟩
  | k + 1 => by
    have ih := minU_le v k
    simp only [minU]
    split
    · refine ⟨by omega, fun i h => ?_⟩
      by_cases q : i = k
      · rw [q]; exact Nat.le_refl _
      · have := ih.2 i (by omega); omega
    · refine ⟨ih.1, fun i h => ?_⟩
      by_cases q : i = k
      · rw [q]; omega
      · exact ih.2 i (by omega)
theorem cntU_0 (v : Nat → Nat) (t : Nat) : ∀ k, (∀ i, i < k → v i ≠ t) → cntU v t k = 0
  | 0, _ => rfl
  | k + 1, h => by simp only [cntU]; rw [cntU_0 v t k (fun i hi => h i (by omega)), if_neg (h k (by omega))]
theorem minU_ex (v : Nat → Nat) : ∀ k, 0 < k → (∀ i, i < k → v i < 134217728) → ∃ i, i < k ∧ minU v k = v i
  | 0, h, _ => by omega
  | k + 1, _, h => by
    simp only [minU]
    split
    · exact ⟨k, by omega, rfl⟩
    · rename_i q
      cases k with
      | zero => exact absurd (h 0 (by omega)) q
      | succ k =>
        obtain ⟨i, a, b⟩ := minU_ex v (k + 1) (by omega) (fun i hi => h i (by omega))
        exact ⟨i, by omega, b⟩
theorem cntU_le (v : Nat → Nat) (t : Nat) : ∀ k, cntU v t k ≤ k
  | 0 => Nat.le_refl _
  | k + 1 => by have := cntU_le v t k; simp only [cntU]; split <;> omega
def canS (n : Nat) (s : Nat → Nat) : Nat → Nat := leastF (kindN s n) n
def setV (n : Nat) (s a : Nat → Nat) : Nat → Nat := fun i => hx (pconj a ((gathL n s (canS n s)).getD i pid))
def setA (n : Nat) (s a : Nat → Nat) : Nat := minU (setV n s a) (gathL n s (canS n s)).length
def setC (n : Nat) (s a : Nat → Nat) : Nat := cntU (setV n s a) (setA n s a) (gathL n s (canS n s)).length
def symP (n : Nat) (s a : Nat → Nat) (k : Nat) : Prop := ∃ r, Pm n r ∧ pconj s r = pblack k s a ∧ pconj a r = pwhite k s a
noncomputable def symM (n : Nat) (s a : Nat → Nat) : Nat → Nat
  | 0 => 0
  | k + 1 => @ite _ (symP n s a k) (Classical.propDecidable _) (symM n s a k ||| 2 ^ k) (symM n s a k)
theorem pblack_pm {n : Nat} {s a : Nat → Nat} (hn : n ≤ 7) (hs : Pm n s) (ha : Pm n a) (k : Nat) : Pm n (pblack k s a) := by
  unfold pblack
  split
  · exact hs.inv hn
  · split
    · exact Pm.face hn hs ha
    · exact ha
theorem pwhite_pm {n : Nat} {s a : Nat → Nat} (hn : n ≤ 7) (hs : Pm n s) (ha : Pm n a) (k : Nat) : Pm n (pwhite k s a) := by
  unfold pwhite
  split
  · exact hs
  · split
    · exact ha.inv hn
    · split
      · exact Pm.face hn hs ha
      · exact ha
set_option maxHeartbeats 4000000 in
set_option maxRecDepth 100000 in
theorem c_first (l : Launch) (G : Gx) {n0 p q p2 q2 : Int} {n : Nat} {s a s2 a2 : Nat → Nat} (hn : n0 = n) (hn1 : 1 ≤ n) (hn7 : n ≤ 7) (hs : Pm n s) (ha : Pm n a) (hp : p = (hx s : Nat)) (hq : q = (hx a : Nat)) (hs2 : Pm n s2) (ha2 : Pm n a2) (hp2 : p2 = (hx s2 : Nat)) (hq2 : q2 = (hx a2 : Nat)) (w : Wd)  : Sp l G 10 mX8_first [aR 7, aI (n0), aI (p), aI (q), aI (p2), aI (q2)] w (fun z w' => Fr [7, 8, 9, 10] w w' ∧ FST n s a s2 a2 z) := by
  have hlen := gathL_len hn1 hn7 hs hs2
  have hf5 := fac_5040 hn1 hn7
  refine Sp_of RX8 rfl (by decide +kernel) rfl (Nat.le_of_ble_eq_true rfl) ?_
  refine v_aload_n 0 (pc' := 1) rfl dX8_first_0 rfl rfl ?_
  refine v_iload_n 1 (pc' := 2) rfl dX8_first_1 rfl rfl ?_
  refine v_iload_n 2 (pc' := 3) rfl dX8_first_2 rfl rfl ?_
  refine v_iload 4 (pc' := 5) rfl dX8_first_3 rfl ?_
  refine v_cVv (pc' := 8) rfl dX8_first_5 lk_RX8_73 ly_7 rfl (c_gather l G hn hn1 hn7 hs hs2 hp hp2 (by omega) w) rfl rfl rfl (fun gather1 w1 hq1 => ?_)
  obtain ⟨hfr, hG, -⟩ := hq1
  refine v_iconst (pc' := 9) rfl dX8_first_8 ?_
  refine v_istore (ls' := [(6, _), (0, _), (1, _), (2, _), (3, _), (4, _), (5, _)]) (pc' := 11) rfl dX8_first_9 rfl rfl ?_
  refine v_ls [1, 2, 3, 4, 5, 6, 0] rfl ?_
  refine v_loop1 11 (fun (i : Int) => ∃ k : Nat, i = k ∧ k ≤ (gathL n s s2).length ∧ ∀ j, j < k → pconj a ((gathL n s s2).getD j pid) ≠ a2) (fun (i : Int) => ((gathL n s s2).length - i).toNat) (fun (i : Int) => [(0, aR 7), (1, aI (n0)), (2, aI (p)), (3, aI (q)), (4, aI (p2)), (5, aI (q2)), (6, aI (i))]) (fun (i : Int) => []) (fun (i : Int) => w1) (fun i hI0 ih0 => ?_) (0) (⟨0, rfl, by omega, fun j h => by omega⟩)
  obtain ⟨k, hi, hk, hno⟩ := hI0
  refine v_iload 6 (pc' := 13) rfl dX8_first_11 rfl ?_
  refine v_aload_n 0 (pc' := 14) rfl dX8_first_13 rfl rfl ?_
  refine v_get (z := (((gathL n s s2).length : Nat) : Int)) (pc' := 17) rfl dX8_first_14 fk_RX8_31 ly_7 rfl (hG.1) ?_
  refine v_icmp_ge (pc' := 20) (tgt := 48) rfl dX8_first_17 (by decide) (by omega) (by omega) (fun c0 => ?_) (fun c0 => ?_)
  ·
    refine v_iconst (pc' := 49) rfl dX8_first_48 ?_
    refine v_iret dX8_first_49 (by decide) (rfl) ?_
    refine ⟨hfr, Or.inl ⟨rfl, fun r h1 h2 h3 => ?_⟩⟩
    obtain ⟨j, hj, e⟩ := mem_getD (d := pid) ((gathL_mem hn7 hs hs2 r).mpr ⟨h1, h2⟩)
    rw [← e] at h3
    exact hno j (by omega) h3
  ·
    have hLk := (gathL_mem hn7 hs hs2 _).mp (getD_mem (L := gathL n s s2) (i := k) (d := pid) (by omega))
    have hcj := Pm.conj hn7 ha hLk.1
    have hx1 := hx_pos hcj hn7
    have hx2 := hx_pos ha2 hn7
    refine v_iload_n 3 (pc' := 21) rfl dX8_first_20 rfl rfl ?_
    refine v_aload_n 0 (pc' := 22) rfl dX8_first_21 rfl rfl ?_
    refine v_iload 6 (pc' := 24) rfl dX8_first_22 rfl ?_
    refine v_cVP (pc' := 27) rfl dX8_first_24 lk_RX8_77 ly_7 rfl (c_nth8 l G (L := gathL n s s2) (i := k) (by omega) (by omega) (by omega) w1 hG) rfl rfl rfl ?_
    refine v_nm (fun nth1 hnth1 => ?_)
    refine v_cSP (pc' := 30) rfl dX8_first_27 lk_RX8_80 rfl (c_relabelled l G hq hnth1 (ha.mono hn7) (hLk.1.mono hn7) w1) rfl rfl rfl ?_
    refine v_nm (fun relabelled1 hrelabelled1 => ?_)
    refine v_iload 5 (pc' := 32) rfl dX8_first_30 rfl ?_
    refine v_icmp_ne (pc' := 35) (tgt := 42) rfl dX8_first_32 (by decide) (by omega) (by omega) (fun c1 => ?_) (fun c1 => ?_)
    ·
      have hne : pconj a ((gathL n s s2).getD k pid) ≠ a2 := fun e => by rw [e] at hrelabelled1; omega
      refine v_iinc (ls' := [(6, _), (0, _), (1, _), (2, _), (3, _), (4, _), (5, _)]) 6 (pc' := 45) rfl dX8_first_42 rfl rfl rfl ?_
      refine v_nl (fun i' hi' => ?_)
      refine v_goto (tgt := 11) dX8_first_45 (by decide) ?_
      refine v_ls [1, 2, 3, 4, 5, 6, 0] rfl ?_
      exact ih0 (i') (⟨k + 1, by omega, by omega, fun j h => by
          rcases Nat.lt_or_ge j k with q | q
          · exact hno j q
          · rw [show j = k by omega]; exact hne⟩) (by omega)
    ·
      have heq : pconj a ((gathL n s s2).getD k pid) = a2 := (hx_inj hcj ha2 hn7 hn7).mp (by omega)
      refine v_aload_n 0 (pc' := 36) rfl dX8_first_35 rfl rfl ?_
      refine v_iload 6 (pc' := 38) rfl dX8_first_36 rfl ?_
      refine v_cVP (pc' := 41) rfl dX8_first_38 lk_RX8_77 ly_7 rfl (c_nth8 l G (L := gathL n s s2) (i := k) (by omega) (by omega) (by omega) w1 hG) rfl rfl rfl ?_
      refine v_nm (fun nth2 hnth2 => ?_)
      refine v_iret dX8_first_41 (by decide) (rfl) ?_
      refine ⟨hfr, Or.inr ⟨(gathL n s s2).getD k pid, hLk.1, hLk.2, heq, hnth2, fun r' h1 h2 h3 => ?_⟩⟩
      obtain ⟨j, hj, e⟩ := mem_getD (d := pid) ((gathL_mem hn7 hs hs2 r').mpr ⟨h1, h2⟩)
      rw [← e] at h3 ⊢
      rcases Nat.lt_trichotomy j k with q | q | q
      · exact absurd h3 (hno j q)
      · rw [q]; exact Nat.le_refl _
      · exact Nat.le_of_lt (pw_getD (gathL_sorted hn7 hs hs2) q hj)
set_option maxHeartbeats 4000000 in
set_option maxRecDepth 100000 in
theorem c_settle (l : Launch) (G : Gx) {n0 p q : Int} {n : Nat} {s a : Nat → Nat} (hn : n0 = n) (hn1 : 1 ≤ n) (hn7 : n ≤ 7) (hs : Pm n s) (ha : Pm n a) (hp : p = (hx s : Nat)) (hq : q = (hx a : Nat)) (w : Wd)  : Sp l G 10 mX8_settle [aR 7, aI (n0), aI (p), aI (q)] w (fun _ w' => Fr [7, 8, 9, 10] w w' ∧ w' 7 7 = (hx (canS n s) : Nat) ∧ w' 7 8 = (setA n s a : Nat) ∧ w' 7 9 = (setC n s a : Nat)) := by
  obtain ⟨it, hit, hkt⟩ := kf_type hn1 hn7 hs
  have hS0 : Pm n (canS n s) := least_pm hn1 hn7 hs
  have hlen := gathL_len hn1 hn7 hs hS0
  have hf5 := fac_5040 hn1 hn7
  have hkle := kT_le hn7 hit
  refine Sp_of RX8 rfl (by decide +kernel) rfl (Nat.le_of_ble_eq_true rfl) ?_
  refine v_aload_n 0 (pc' := 1) rfl dX8_settle_0 rfl rfl ?_
  refine v_iload_n 2 (pc' := 2) rfl dX8_settle_1 rfl rfl ?_
  refine v_iload_n 1 (pc' := 3) rfl dX8_settle_2 rfl rfl ?_
  refine v_cSP (pc' := 6) rfl dX8_settle_3 lk_RX8_83 rfl (c_kind l G hp (hs.b7 hn7) hn hn7 w) rfl rfl rfl ?_
  refine v_nm (fun kind1 hkind1 => ?_)
  refine v_iload_n 1 (pc' := 7) rfl dX8_settle_6 rfl rfl ?_
  refine v_cSP (pc' := 10) rfl dX8_settle_7 lk_RX8_86 rfl (c_least l G hkind1 (by omega) hn hn1 hn7 (by rw [hkt]; exact (kt_ok n (by omega) it hit).1.2) w) rfl rfl rfl ?_
  refine v_nm (fun least1 hleast1 => ?_)
  refine v_put (pc' := 13) rfl dX8_settle_10 fi_RX8_89 ly_7 rfl ?_
  refine v_nmw (fun w3 hw3 => ?_)
  have F7_7 : w3 7 7 = least1 := by rw [hw3, up_eq]
  refine v_aload_n 0 (pc' := 14) rfl dX8_settle_13 rfl rfl ?_
  refine v_iload_n 1 (pc' := 15) rfl dX8_settle_14 rfl rfl ?_
  refine v_iload_n 2 (pc' := 16) rfl dX8_settle_15 rfl rfl ?_
  refine v_aload_n 0 (pc' := 17) rfl dX8_settle_16 rfl rfl ?_
  refine v_get (z := least1) (pc' := 20) rfl dX8_settle_17 fk_RX8_89 ly_7 rfl (F7_7) ?_
  refine v_cVv (pc' := 23) rfl dX8_settle_20 lk_RX8_73 ly_7 rfl (c_gather l G hn hn1 hn7 hs hS0 hp hleast1 (by omega) w3) rfl rfl rfl (fun gather1 w4 hq4 => ?_)
  obtain ⟨hfr, hG, hk7, -, -⟩ := hq4
  refine v_aload_n 0 (pc' := 24) rfl dX8_settle_23 rfl rfl ?_
  refine v_ldc (z := 134217728) (pc' := 26) rfl dX8_settle_24 kc_RX8_92 ?_
  refine v_put (pc' := 29) rfl dX8_settle_26 fi_RX8_93 ly_7 rfl ?_
  refine v_nmw (fun w5 hw5 => ?_)
  have F7_8 : w5 7 8 = 134217728 := by rw [hw5, up_eq]
  refine v_aload_n 0 (pc' := 30) rfl dX8_settle_29 rfl rfl ?_
  refine v_iconst (pc' := 31) rfl dX8_settle_30 ?_
  refine v_put (pc' := 34) rfl dX8_settle_31 fi_RX8_96 ly_7 rfl ?_
  refine v_nmw (fun w6 hw6 => ?_)
  have F7_8 : w6 7 8 = 134217728 := by rw [hw6, up_ne _ _ (by omega)]; exact F7_8
  have F7_9 : w6 7 9 = 0 := by rw [hw6, up_eq]
  refine v_iconst (pc' := 35) rfl dX8_settle_34 ?_
  refine v_istore (ls' := [(4, _), (0, _), (1, _), (2, _), (3, _)]) (pc' := 37) rfl dX8_settle_35 rfl rfl ?_
  refine v_ls [1, 2, 3, 4, 0] rfl ?_
  refine v_loop2 37 (fun (i : Int) (wl : Wd) => ∃ k : Nat, i = k ∧ k ≤ (gathL n s (canS n s)).length ∧ GOut wl (gathL n s (canS n s)) ∧ wl 7 7 = (hx (canS n s) : Nat) ∧ wl 7 8 = (minU (setV n s a) k : Nat) ∧ wl 7 9 = (cntU (setV n s a) (minU (setV n s a) k) k : Nat) ∧ Fr [7, 8, 9, 10] w wl) (fun (i : Int) (wl : Wd) => ((gathL n s (canS n s)).length - i).toNat) (fun (i : Int) (wl : Wd) => [(0, aR 7), (1, aI (n0)), (2, aI (p)), (3, aI (q)), (4, aI (i))]) (fun (i : Int) (wl : Wd) => []) (fun (i : Int) (wl : Wd) => wl) (fun i wl hI0 ih0 => ?_) (0) w6 (⟨0, rfl, by omega, ⟨by simp [hw6, hw5, up_at]; exact hG.1, fun j hj => by simp [hw6, hw5, up_at]; exact hG.2 j hj⟩, by simp [hw6, hw5, up_at, hk7, hw3, hleast1]; rfl, by simp [hw6, hw5, up_at, minU], by simp [hw6, hw5, up_at, cntU], by rw [hw6, hw5]; exact ((((Fr.rf [7, 8, 9, 10] w).up rfl).tr (by rw [← hw3]; exact hfr) (by decide) (by decide)).up rfl).up rfl⟩)
  obtain ⟨k, hi, hk, hGl, g7, g8, g9, hfl⟩ := hI0
  have g6 := hGl.1
  have hmin := minU_le (setV n s a) k
  have hcnt := cntU_le (setV n s a) (minU (setV n s a) k) k
  refine v_iload 4 (pc' := 39) rfl dX8_settle_37 rfl ?_
  refine v_aload_n 0 (pc' := 40) rfl dX8_settle_39 rfl rfl ?_
  refine v_get (z := (((gathL n s (canS n s)).length : Nat) : Int)) (pc' := 43) rfl dX8_settle_40 fk_RX8_31 ly_7 rfl (g6) ?_
  refine v_icmp_ge (pc' := 46) (tgt := 103) rfl dX8_settle_43 (by decide) (by omega) (by omega) (fun c0 => ?_) (fun c0 => ?_)
  ·
    refine v_vret dX8_settle_103 ?_
    have e : k = (gathL n s (canS n s)).length := by omega
    rw [e] at g8 g9
    exact ⟨hfl, g7, g8, g9⟩
  ·
    have hLk := (gathL_mem hn7 hs hS0 _).mp (getD_mem (L := (gathL n s (canS n s))) (i := k) (d := pid) (by omega))
    have hcj := Pm.conj hn7 ha hLk.1
    have hx1 := hx_pos hcj hn7
    have g8' := g8
    refine v_iload_n 3 (pc' := 47) rfl dX8_settle_46 rfl rfl ?_
    refine v_aload_n 0 (pc' := 48) rfl dX8_settle_47 rfl rfl ?_
    refine v_iload 4 (pc' := 50) rfl dX8_settle_48 rfl ?_
    refine v_cVP (pc' := 53) rfl dX8_settle_50 lk_RX8_77 ly_7 rfl (c_nth8 l G (L := (gathL n s (canS n s))) (i := k) (by omega) (by omega) (by omega) wl hGl) rfl rfl rfl ?_
    refine v_nm (fun nth1 hnth1 => ?_)
    refine v_cSP (pc' := 56) rfl dX8_settle_53 lk_RX8_80 rfl (c_relabelled l G hq hnth1 (ha.mono hn7) (hLk.1.mono hn7) wl) rfl rfl rfl ?_
    refine v_nm (fun relabelled1 hrelabelled1 => ?_)
    refine v_istore (ls' := [(5, _), (0, _), (1, _), (2, _), (3, _), (4, _)]) (pc' := 58) rfl dX8_settle_56 rfl rfl ?_
    refine v_iload 0 (pc' := 60) rfl dX8_settle_58 rfl ?_
    refine v_aload_n 1 (pc' := 61) rfl dX8_settle_60 rfl rfl ?_
    refine v_get (z := ((minU (setV n s a) k : Nat) : Int)) (pc' := 64) rfl dX8_settle_61 fk_RX8_93 ly_7 rfl (g8) ?_
    refine v_icmp_ge (pc' := 67) (tgt := 78) rfl dX8_settle_64 (by decide) (by omega) (by omega) (fun c1 => ?_) (fun c1 => ?_)
    ·
      have hvk : relabelled1 = ((setV n s a k : Nat) : Int) := hrelabelled1
      have hless : ¬ setV n s a k < minU (setV n s a) k := by omega
      have e1 : minU (setV n s a) (k + 1) = minU (setV n s a) k := by simp only [minU]; rw [if_neg hless]
      refine v_iload 0 (pc' := 80) rfl dX8_settle_78 rfl ?_
      refine v_aload_n 1 (pc' := 81) rfl dX8_settle_80 rfl rfl ?_
      refine v_get (z := ((minU (setV n s a) k : Nat) : Int)) (pc' := 84) rfl dX8_settle_81 fk_RX8_93 ly_7 rfl (g8) ?_
      refine v_icmp_ne (pc' := 87) (tgt := 97) rfl dX8_settle_84 (by decide) (by omega) (by omega) (fun c2 => ?_) (fun c2 => ?_)
      ·
        have hne : ¬ setV n s a k = minU (setV n s a) k := by omega
        refine v_iinc (ls' := [(4, _), (5, _), (0, _), (1, _), (2, _), (3, _)]) 5 (pc' := 100) rfl dX8_settle_97 rfl rfl rfl ?_
        refine v_nl (fun i' hi' => ?_)
        refine v_goto (tgt := 37) dX8_settle_100 (by decide) ?_
        refine v_ls [2, 3, 4, 5, 0] rfl ?_
        exact ih0 (i') wl (⟨k + 1, by omega, by omega, hGl, g7, by rw [e1]; exact g8, by rw [e1]; simp only [cntU]; rw [if_neg hne]; exact g9, hfl⟩) (by omega)
      ·
        have heq : setV n s a k = minU (setV n s a) k := by omega
        refine v_aload_n 1 (pc' := 88) rfl dX8_settle_87 rfl rfl ?_
        refine v_dupR (pc' := 89) rfl dX8_settle_88 ?_
        refine v_get (z := ((cntU (setV n s a) (minU (setV n s a) k) k : Nat) : Int)) (pc' := 92) rfl dX8_settle_89 fk_RX8_96 ly_7 rfl (g9) ?_
        refine v_iconst (pc' := 93) rfl dX8_settle_92 ?_
        refine v_iadd (pc' := 94) rfl dX8_settle_93 ?_
        refine v_put (pc' := 97) rfl dX8_settle_94 fi_RX8_96 ly_7 rfl ?_
        refine v_nmw (fun w11 hw11 => ?_)
        have g6 : w11 7 6 = (((gathL n s (canS n s)).length : Nat) : Int) := by rw [hw11, up_ne _ _ (by omega)]; exact g6
        have g8 : w11 7 8 = ((minU (setV n s a) k : Nat) : Int) := by rw [hw11, up_ne _ _ (by omega)]; exact g8
        have F7_9 : w11 7 9 = (((cntU (setV n s a) (minU (setV n s a) k) k : Nat) : Int) + 1) := by rw [hw11, up_eq]
        refine v_iinc (ls' := [(4, _), (5, _), (0, _), (1, _), (2, _), (3, _)]) 5 (pc' := 100) rfl dX8_settle_97 rfl rfl rfl ?_
        refine v_nl (fun i' hi' => ?_)
        refine v_goto (tgt := 37) dX8_settle_100 (by decide) ?_
        refine v_ls [2, 3, 4, 5, 0] rfl ?_
        exact ih0 (i') w11 (⟨k + 1, by omega, by omega, ⟨by simp [hw11, up_at]; exact hGl.1, fun j hj => by simp [hw11, up_at]; exact hGl.2 j hj⟩, by simp [hw11, up_at, g7], by simp [hw11, up_at, minU, hless, g8'], by simp [hw11, up_at, minU, cntU, hless, heq], by rw [hw11]; exact hfl.up rfl⟩) (by omega)
    ·
      have hvk : relabelled1 = ((setV n s a k : Nat) : Int) := hrelabelled1
      have hless : setV n s a k < minU (setV n s a) k := by omega
      have hz0 : cntU (setV n s a) (setV n s a k) k = 0 := cntU_0 _ _ _ (fun j hj e => by have := hmin.2 j hj; omega)
      refine v_aload_n 1 (pc' := 68) rfl dX8_settle_67 rfl rfl ?_
      refine v_iload 0 (pc' := 70) rfl dX8_settle_68 rfl ?_
      refine v_put (pc' := 73) rfl dX8_settle_70 fi_RX8_93 ly_7 rfl ?_
      refine v_nmw (fun w9 hw9 => ?_)
      have g6 : w9 7 6 = (((gathL n s (canS n s)).length : Nat) : Int) := by rw [hw9, up_ne _ _ (by omega)]; exact g6
      have g9 : w9 7 9 = ((cntU (setV n s a) (minU (setV n s a) k) k : Nat) : Int) := by rw [hw9, up_ne _ _ (by omega)]; exact g9
      have F7_8 : w9 7 8 = relabelled1 := by rw [hw9, up_eq]
      refine v_aload_n 1 (pc' := 74) rfl dX8_settle_73 rfl rfl ?_
      refine v_iconst (pc' := 75) rfl dX8_settle_74 ?_
      refine v_put (pc' := 78) rfl dX8_settle_75 fi_RX8_96 ly_7 rfl ?_
      refine v_nmw (fun w10 hw10 => ?_)
      have g6 : w10 7 6 = (((gathL n s (canS n s)).length : Nat) : Int) := by rw [hw10, up_ne _ _ (by omega)]; exact g6
      have F7_8 : w10 7 8 = relabelled1 := by rw [hw10, up_ne _ _ (by omega)]; exact F7_8
      have F7_9 : w10 7 9 = 0 := by rw [hw10, up_eq]
      refine v_iload 0 (pc' := 80) rfl dX8_settle_78 rfl ?_
      refine v_aload_n 1 (pc' := 81) rfl dX8_settle_80 rfl rfl ?_
      refine v_get (z := relabelled1) (pc' := 84) rfl dX8_settle_81 fk_RX8_93 ly_7 rfl (F7_8) ?_
      refine v_icmp_ne (pc' := 87) (tgt := 97) rfl dX8_settle_84 (by decide) (by omega) (by omega) (fun c2 => ?_) (fun c2 => ?_)
      ·
        exact absurd rfl c2
      ·
        refine v_aload_n 1 (pc' := 88) rfl dX8_settle_87 rfl rfl ?_
        refine v_dupR (pc' := 89) rfl dX8_settle_88 ?_
        refine v_get (z := 0) (pc' := 92) rfl dX8_settle_89 fk_RX8_96 ly_7 rfl (F7_9) ?_
        refine v_iconst (pc' := 93) rfl dX8_settle_92 ?_
        refine v_iadd (pc' := 94) rfl dX8_settle_93 ?_
        refine v_put (pc' := 97) rfl dX8_settle_94 fi_RX8_96 ly_7 rfl ?_
        refine v_nmw (fun w11 hw11 => ?_)
        have g6 : w11 7 6 = (((gathL n s (canS n s)).length : Nat) : Int) := by rw [hw11, up_ne _ _ (by omega)]; exact g6
        have F7_8 : w11 7 8 = relabelled1 := by rw [hw11, up_ne _ _ (by omega)]; exact F7_8
        have F7_9 : w11 7 9 = (0 + 1) := by rw [hw11, up_eq]
        refine v_iinc (ls' := [(4, _), (5, _), (0, _), (1, _), (2, _), (3, _)]) 5 (pc' := 100) rfl dX8_settle_97 rfl rfl rfl ?_
        refine v_nl (fun i' hi' => ?_)
        refine v_goto (tgt := 37) dX8_settle_100 (by decide) ?_
        refine v_ls [2, 3, 4, 5, 0] rfl ?_
        exact ih0 (i') w11 (⟨k + 1, by omega, by omega, ⟨by simp [hw11, hw10, hw9, up_at]; exact hGl.1, fun j hj => by simp [hw11, hw10, hw9, up_at]; exact hGl.2 j hj⟩, by simp [hw11, hw10, hw9, up_at, g7], by simp [hw11, hw10, hw9, up_at, minU, hless, hvk], by simp [hw11, hw10, hw9, up_at, minU, cntU, hless, hz0], by rw [hw11, hw10, hw9]; exact ((hfl.up rfl).up rfl).up rfl⟩) (by omega)
set_option maxHeartbeats 4000000 in
set_option maxRecDepth 100000 in
theorem c_symmetries (l : Launch) (G : Gx) {n0 p q : Int} {n : Nat} {s a : Nat → Nat} (hn : n0 = n) (hn1 : 1 ≤ n) (hn7 : n ≤ 7) (hs : Pm n s) (ha : Pm n a) (hp : p = (hx s : Nat)) (hq : q = (hx a : Nat)) (w : Wd)  : Sp l G 11 mX8_symmetries [aR 7, aI (n0), aI (p), aI (q)] w (fun z w' => Fr [7, 8, 9, 10] w w' ∧ z = (symM n s a 4 : Nat)) := by
  refine Sp_of RX8 rfl (by decide +kernel) rfl (Nat.le_of_ble_eq_true rfl) ?_
  refine v_iconst (pc' := 1) rfl dX8_symmetries_0 ?_
  refine v_istore (ls' := [(4, _), (0, _), (1, _), (2, _), (3, _)]) (pc' := 3) rfl dX8_symmetries_1 rfl rfl ?_
  refine v_iconst (pc' := 4) rfl dX8_symmetries_3 ?_
  refine v_istore (ls' := [(5, _), (4, _), (0, _), (1, _), (2, _), (3, _)]) (pc' := 6) rfl dX8_symmetries_4 rfl rfl ?_
  refine v_ls [2, 3, 4, 5, 1, 0] rfl ?_
  refine v_loop3 6 (fun (bits : Int) (what : Int) (wl : Wd) => ∃ k : Nat, what = k ∧ k ≤ 4 ∧ bits = (symM n s a k : Nat) ∧ Fr [7, 8, 9, 10] w wl) (fun (bits : Int) (what : Int) (wl : Wd) => (4 - what).toNat) (fun (bits : Int) (what : Int) (wl : Wd) => [(0, aR 7), (1, aI (n0)), (2, aI (p)), (3, aI (q)), (4, aI (bits)), (5, aI (what))]) (fun (bits : Int) (what : Int) (wl : Wd) => []) (fun (bits : Int) (what : Int) (wl : Wd) => wl) (fun bits what wl hI0 ih0 => ?_) (0) (0) w (⟨0, rfl, by omega, rfl, Fr.rf _ _⟩)
  obtain ⟨k, hwh, hk, hbits, hfl⟩ := hI0
  have hB := pblack_pm hn7 hs ha k
  have hW := pwhite_pm hn7 hs ha k
  refine v_iload 5 (pc' := 8) rfl dX8_symmetries_6 rfl ?_
  refine v_iconst (pc' := 9) rfl dX8_symmetries_8 ?_
  refine v_icmp_ge (pc' := 12) (tgt := 59) rfl dX8_symmetries_9 (by decide) (by omega) (by omega) (fun c0 => ?_) (fun c0 => ?_)
  ·
    refine v_iload 4 (pc' := 61) rfl dX8_symmetries_59 rfl ?_
    refine v_iret dX8_symmetries_61 (by decide) (rfl) ?_
    have e : k = 4 := by omega
    subst e
    exact ⟨hfl, hbits⟩
  ·
    refine v_iload 5 (pc' := 14) rfl dX8_symmetries_12 rfl ?_
    refine v_iload_n 2 (pc' := 15) rfl dX8_symmetries_14 rfl rfl ?_
    refine v_iload_n 3 (pc' := 16) rfl dX8_symmetries_15 rfl rfl ?_
    refine v_cSP (pc' := 19) rfl dX8_symmetries_16 lk_RX8_99 rfl (c_black l G hwh (by omega) hp hq (hs.mono hn7) (ha.mono hn7) wl) rfl rfl rfl ?_
    refine v_nm (fun black1 hblack1 => ?_)
    refine v_istore (ls' := [(6, _), (0, _), (1, _), (2, _), (3, _), (4, _), (5, _)]) (pc' := 21) rfl dX8_symmetries_19 rfl rfl ?_
    refine v_iload 6 (pc' := 23) rfl dX8_symmetries_21 rfl ?_
    refine v_iload_n 3 (pc' := 24) rfl dX8_symmetries_23 rfl rfl ?_
    refine v_iload_n 4 (pc' := 25) rfl dX8_symmetries_24 rfl rfl ?_
    refine v_cSP (pc' := 28) rfl dX8_symmetries_25 lk_RX8_102 rfl (c_white l G hwh (by omega) hp hq (hs.mono hn7) (ha.mono hn7) wl) rfl rfl rfl ?_
    refine v_nm (fun white1 hwhite1 => ?_)
    refine v_istore (ls' := [(7, _), (6, _), (0, _), (1, _), (2, _), (3, _), (4, _), (5, _)]) (pc' := 30) rfl dX8_symmetries_28 rfl rfl ?_
    refine v_aload_n 2 (pc' := 31) rfl dX8_symmetries_30 rfl rfl ?_
    refine v_iload_n 3 (pc' := 32) rfl dX8_symmetries_31 rfl rfl ?_
    refine v_iload_n 4 (pc' := 33) rfl dX8_symmetries_32 rfl rfl ?_
    refine v_iload_n 5 (pc' := 34) rfl dX8_symmetries_33 rfl rfl ?_
    refine v_iload 1 (pc' := 36) rfl dX8_symmetries_34 rfl ?_
    refine v_iload 0 (pc' := 38) rfl dX8_symmetries_36 rfl ?_
    refine v_cVi (pc' := 41) rfl dX8_symmetries_38 lk_RX8_105 ly_7 rfl (c_first l G hn hn1 hn7 hs ha hp hq hB hW hblack1 hwhite1 wl) rfl rfl rfl (fun first1 w3 hq3 => ?_)
    obtain ⟨hfr3, hF⟩ := hq3
    refine v_if_eq (pc' := 44) (tgt := 53) rfl dX8_symmetries_41 (by decide) (by rcases hF with ⟨h, -⟩ | ⟨r, h, -, -, e, -⟩; omega; have := hx_pos h hn7; omega) (fun c1 => ?_) (fun c1 => ?_)
    ·
      have hno : ¬ symP n s a k := fun ⟨r, h1, h2, h3⟩ => by
        rcases hF with ⟨-, h⟩ | ⟨r, h, -, -, e, -⟩
        · exact h r h1 h2 h3
        · have := hx_pos h hn7; omega
      refine v_iinc (ls' := [(5, _), (7, _), (6, _), (0, _), (1, _), (2, _), (3, _), (4, _)]) 7 (pc' := 56) rfl dX8_symmetries_53 rfl rfl rfl ?_
      refine v_nl (fun what' hwhat' => ?_)
      refine v_goto (tgt := 6) dX8_symmetries_56 (by decide) ?_
      refine v_ls [3, 4, 5, 6, 7, 0] rfl ?_
      exact ih0 (bits) (what') w3 (⟨k + 1, by omega, by omega, by simp only [symM]; rw [if_neg hno]; exact hbits, hfl.tr hfr3 (by decide) (by decide)⟩) (by omega)
    ·
      have hyes : symP n s a k := by
        rcases hF with ⟨h, -⟩ | ⟨r, h, h2, h3, -, -⟩
        · exact absurd h c1
        · exact ⟨r, h, h2, h3⟩
      refine v_iload 6 (pc' := 46) rfl dX8_symmetries_44 rfl ?_
      refine v_iconst (pc' := 47) rfl dX8_symmetries_46 ?_
      refine v_iload 7 (pc' := 49) rfl dX8_symmetries_47 rfl ?_
      refine v_ishl (z := ((2 ^ k : Nat) : Int)) (pc' := 50) rfl dX8_symmetries_49 (iz_one_shl hwh (by omega)) ?_
      refine v_ior (z := ((symM n s a k ||| 2 ^ k : Nat) : Int)) (pc' := 51) rfl dX8_symmetries_50 (iz_orE hbits rfl) ?_
      refine v_nm (fun bits' hbits' => ?_)
      refine v_istore (ls' := [(4, _), (7, _), (6, _), (0, _), (1, _), (2, _), (3, _), (5, _)]) (pc' := 53) rfl dX8_symmetries_51 rfl rfl ?_
      refine v_iinc (ls' := [(5, _), (4, _), (7, _), (6, _), (0, _), (1, _), (2, _), (3, _)]) 7 (pc' := 56) rfl dX8_symmetries_53 rfl rfl rfl ?_
      refine v_nl (fun what' hwhat' => ?_)
      refine v_goto (tgt := 6) dX8_symmetries_56 (by decide) ?_
      refine v_ls [4, 5, 6, 7, 1, 0] rfl ?_
      exact ih0 (bits') (what') w3 (⟨k + 1, by omega, by omega, by simp only [symM]; rw [if_pos hyes]; exact hbits', hfl.tr hfr3 (by decide) (by decide)⟩) (by omega)

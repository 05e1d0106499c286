/-! ===== Family ===== -/
abbrev PC : Type := Nat × Nat
def plt (p q : PC) : Prop := p.1 < q.1 ∨ (p.1 = q.1 ∧ p.2 < q.2)
theorem plt_tr {p q r : PC} (h1 : plt p q) (h2 : plt q r) : plt p r := by unfold plt at *; omega
theorem plt_tot {p q : PC} (h : p ≠ q) (h2 : ¬ plt q p) : plt p q := by
  unfold plt at *
  by_cases a : p.1 = q.1
  · by_cases b : p.2 = q.2
    · exact absurd (Prod.ext a b) h
    · omega
  · omega
theorem plt_ne {p q : PC} (h : plt p q) : p ≠ q := fun e => by subst e; unfold plt at h; omega
def swp (A : List PC) (k : Nat) : List PC := A.take (k - 1) ++ A.getD k (0, 0) :: A.getD (k - 1) (0, 0) :: A.drop (k + 1)
theorem swp_len {A : List PC} {k : Nat} (h1 : 1 ≤ k) (h2 : k < A.length) : (swp A k).length = A.length := by
  unfold swp; simp; omega
theorem swp_perm {A : List PC} {k : Nat} (h1 : 1 ≤ k) (h2 : k < A.length) : (swp A k).Perm A := by
  have e : A = A.take (k - 1) ++ A.getD (k - 1) (0, 0) :: A.getD k (0, 0) :: A.drop (k + 1) := by
    rw [List.getD_eq_getElem?_getD, List.getElem?_eq_getElem (by omega), List.getD_eq_getElem?_getD, List.getElem?_eq_getElem h2]
    have a : A.drop (k - 1) = A[k - 1] :: A.drop k := by
      have := List.drop_eq_getElem_cons (show k - 1 < A.length by omega)
      rw [show k - 1 + 1 = k by omega] at this
      exact this
    have b : A.drop k = A[k] :: A.drop (k + 1) := List.drop_eq_getElem_cons h2
    simp only [Option.getD_some]
    rw [← b, ← a, List.take_append_drop]
  conv => rhs; rw [e]
  unfold swp
  exact (List.Perm.swap _ _ _).append_left _
theorem swp_at {A : List PC} {k : Nat} (h1 : 1 ≤ k) (h2 : k < A.length) (j : Nat) (hj : j < A.length) : (swp A k).getD j (0, 0) = if j = k - 1 then A.getD k (0, 0) else if j = k then A.getD (k - 1) (0, 0) else A.getD j (0, 0) := by
  unfold swp
  rw [List.getD_eq_getElem?_getD]
  by_cases a : j < k - 1
  · rw [List.getElem?_append_left (by simp; omega), List.getElem?_take, if_pos a, if_neg (by omega), if_neg (by omega), List.getD_eq_getElem?_getD]
  · rw [List.getElem?_append_right (by simp; omega)]
    have l : (A.take (k - 1)).length = k - 1 := by simp; omega
    rw [l]
    by_cases b : j = k - 1
    · rw [if_pos b, b, Nat.sub_self]; rfl
    · by_cases c : j = k
      · rw [if_neg b, if_pos c, c, show k - (k - 1) = 1 by omega]; rfl
      · rw [if_neg b, if_neg c, show j - (k - 1) = (j - k - 1) + 2 by omega]
        show ((A.drop (k + 1))[j - k - 1]?).getD (0, 0) = _
        rw [List.getElem?_drop, show k + 1 + (j - k - 1) = j by omega, List.getD_eq_getElem?_getD]
def FW (w : Wd) (A : List PC) : Prop := w 27 2 = (A.length : Nat) ∧ ∀ j, j < A.length → w 28 j = ((A.getD j (0, 0)).1 : Nat) ∧ w 29 j = ((A.getD j (0, 0)).2 : Nat)
def FB28 (A : List PC) : Prop := A.length ≤ 12 ∧ ∀ p, p ∈ A → p.1 < 268435456 ∧ p.2 < 268435456
theorem FB28.at {A : List PC} (h : FB28 A) {j : Nat} (hj : j < A.length) : (A.getD j (0, 0)).1 < 268435456 ∧ (A.getD j (0, 0)).2 < 268435456 := h.2 _ (getD_mem hj)
def fAdd (A : List PC) (p : PC) : List PC := if p ∈ A then A else if A.length < 12 then A ++ [p] else A
def SI (A : List PC) (i k : Nat) : Prop := (∀ u v, u < v → v ≤ i → u ≠ k → v ≠ k → plt (A.getD u (0, 0)) (A.getD v (0, 0))) ∧ ∀ v, k < v → v ≤ i → plt (A.getD k (0, 0)) (A.getD v (0, 0))
def SO (A : List PC) (i : Nat) : Prop := ∀ u v, u < v → v < i → plt (A.getD u (0, 0)) (A.getD v (0, 0))
theorem SI.step {A : List PC} {i k : Nat} (h : SI A i k) (hk : 1 ≤ k) (hki : k ≤ i) (hi : i < A.length) (hb : plt (A.getD k (0, 0)) (A.getD (k - 1) (0, 0))) : SI (swp A k) i (k - 1) := by
  refine ⟨fun u v a b c d => ?_, fun v a b => ?_⟩
  · rw [swp_at hk (by omega) u (by omega), swp_at hk (by omega) v (by omega), if_neg c, if_neg d]
    by_cases e : u = k
    · rw [if_pos e, if_neg (by omega)]; exact h.1 (k - 1) v (by omega) b (by omega) (by omega)
    · rw [if_neg e]
      by_cases f : v = k
      · rw [if_pos f]; exact h.1 u (k - 1) (by omega) (by omega) e (by omega)
      · rw [if_neg f]; exact h.1 u v a b e f
  · rw [swp_at hk (by omega) (k - 1) (by omega), if_pos rfl, swp_at hk (by omega) v (by omega), if_neg (by omega)]
    by_cases f : v = k
    · rw [if_pos f]; exact hb
    · rw [if_neg f]; exact h.2 v (by omega) b
theorem SI.done {A : List PC} {i k : Nat} (h : SI A i k) (hki : k ≤ i) (hb : k = 0 ∨ plt (A.getD (k - 1) (0, 0)) (A.getD k (0, 0))) : SO A (i + 1) := fun u v a b => by
  by_cases e : u = k
  · rw [e]; exact h.2 v (by omega) (by omega)
  · by_cases f : v = k
    · subst f
      rcases hb with hb | hb
      · omega
      · by_cases q : u = v - 1
        · rw [q]; exact hb
        · exact plt_tr (h.1 u (v - 1) (by omega) (by omega) (by omega) (by omega)) hb
    · exact h.1 u v a (by omega) e f
theorem SO.start {A : List PC} {i : Nat} (h : SO A i) : SI A i i := ⟨fun u v a b c d => h u v a (by omega), fun v a b => by omega⟩
theorem FW.swp {w w' : Wd} {A : List PC} {k : Nat} (h : FW w A) (h1 : 1 ≤ k) (h2 : k < A.length) (e : w' = up (up (up (up w 28 k ((A.getD (k - 1) (0, 0)).1 : Nat)) 29 k ((A.getD (k - 1) (0, 0)).2 : Nat)) 28 (k - 1) ((A.getD k (0, 0)).1 : Nat)) 29 (k - 1) ((A.getD k (0, 0)).2 : Nat)) : FW w' (swp A k) := by
  subst e
  refine ⟨by rw [swp_len h1 h2]; simp [up_at]; exact h.1, fun j hj => ?_⟩
  rw [swp_len h1 h2] at hj
  rw [swp_at h1 h2 j hj]
  have hh := h.2 j hj
  simp only [up_at]
  by_cases a : j = k - 1
  · subst a; simp
  · by_cases b : j = k
    · subst b; simp [a]
    · simp [a, b, hh]
theorem FB28.perm {A B : List PC} (h : FB28 A) (p : B.Perm A) : FB28 B := ⟨by rw [p.length_eq]; exact h.1, fun q hq => h.2 q (p.mem_iff.mp hq)⟩
theorem FB28.add {A : List PC} (h : FB28 A) {p : PC} (hp : p.1 < 268435456 ∧ p.2 < 268435456) : FB28 (fAdd A p) := by
  unfold fAdd
  split
  · exact h
  · split
    · refine ⟨by rw [List.length_append]; simp; omega, fun q hq => ?_⟩
      rw [List.mem_append, List.mem_singleton] at hq
      rcases hq with r | r
      · exact h.2 q r
      · rw [r]; exact hp
    · exact h
theorem fAdd_nodup {A : List PC} (h : A.Nodup) (p : PC) : (fAdd A p).Nodup := by
  unfold fAdd
  split
  · exact h
  · rename_i q
    split
    · unfold List.Nodup
      rw [List.pairwise_append]
      refine ⟨h, by simp, fun a ha b hb e => ?_⟩
      rw [List.mem_singleton.mp hb] at e
      rw [e] at ha; exact q ha
    · exact h
set_option maxHeartbeats 4000000 in
set_option maxRecDepth 100000 in
theorem c_add3 (l : Launch) (G : Gx) {c0 d0 : Int} {A : List PC} {p : PC} (hc : c0 = (p.1 : Nat)) (hd : d0 = (p.2 : Nat)) (hp : p.1 < 268435456 ∧ p.2 < 268435456) (hB : FB28 A) (w : Wd) (hF : FW w A) : Sp l G 0 mX3_add [aR 27, aI (c0), aI (d0)] w (fun _ w' => FW w' (fAdd A p) ∧ Fr [27, 28, 29] w w') := by
  have fm := hF.1
  have hl := hB.1
  refine Sp_of RX3 rfl (by decide +kernel) rfl (Nat.le_of_ble_eq_true rfl) ?_
  refine v_iconst (pc' := 1) rfl dX3_add_0 ?_
  refine v_istore_n (ls' := [(3, _), (0, _), (1, _), (2, _)]) (pc' := 2) rfl dX3_add_1 rfl rfl rfl ?_
  refine v_ls [1, 2, 3, 0] rfl ?_
  refine v_loop1 2 (fun (i : Int) => ∃ k : Nat, i = k ∧ k ≤ A.length ∧ ∀ j, j < k → A.getD j (0, 0) ≠ p) (fun (i : Int) => (12 - i).toNat) (fun (i : Int) => [(0, aR 27), (1, aI (c0)), (2, aI (d0)), (3, aI (i))]) (fun (i : Int) => []) (fun (i : Int) => w) (fun i hI0 ih0 => ?_) (0) (⟨0, rfl, by omega, fun j h => by omega⟩)
  obtain ⟨k, hi, hk, hno⟩ := hI0
  refine v_iload_n 3 (pc' := 3) rfl dX3_add_2 rfl rfl ?_
  refine v_aload_n 0 (pc' := 4) rfl dX3_add_3 rfl rfl ?_
  refine v_get (z := ((A.length : Nat) : Int)) (pc' := 7) rfl dX3_add_4 fk_RX3_18 ly_27 rfl (fm) ?_
  refine v_icmp_ge (pc' := 10) (tgt := 43) rfl dX3_add_7 (by decide) (by omega) (by omega) (fun c0 => ?_) (fun c0 => ?_)
  ·
    have e : k = A.length := by omega
    have hnot : ¬ p ∈ A := fun q => by
      obtain ⟨j, hj, e2⟩ := mem_getD (d := (0, 0)) q
      exact hno j (by omega) e2
    refine v_aload_n 0 (pc' := 44) rfl dX3_add_43 rfl rfl ?_
    refine v_get (z := ((A.length : Nat) : Int)) (pc' := 47) rfl dX3_add_44 fk_RX3_18 ly_27 rfl (fm) ?_
    refine v_bipush (pc' := 49) rfl dX3_add_47 rfl ?_
    refine v_icmp_ge (pc' := 52) (tgt := 82) rfl dX3_add_49 (by decide) (by omega) (by omega) (fun c4 => ?_) (fun c4 => ?_)
    ·
      refine v_vret dX3_add_82 ?_
      refine ⟨?_, Fr.rf _ _⟩
      unfold fAdd
      rw [if_neg hnot, if_neg (by omega)]
      exact hF
    ·
      refine v_aload_n 0 (pc' := 53) rfl dX3_add_52 rfl rfl ?_
      refine v_getR (pc' := 56) rfl dX3_add_53 fk_RX3_11 ly_27 rfl ?_
      refine v_aload_n 0 (pc' := 57) rfl dX3_add_56 rfl rfl ?_
      refine v_get (z := ((A.length : Nat) : Int)) (pc' := 60) rfl dX3_add_57 fk_RX3_18 ly_27 rfl (fm) ?_
      refine v_iload_n 1 (pc' := 61) rfl dX3_add_60 rfl rfl ?_
      refine v_iast (pc' := 62) rfl dX3_add_61 ly_28 (by omega) (by omega) rfl ?_
      refine v_nmw (fun w1 hw1 => ?_)
      have fm : w1 27 2 = ((A.length : Nat) : Int) := by rw [hw1, up_ne _ _ (by omega)]; exact fm
      refine v_aload_n 0 (pc' := 63) rfl dX3_add_62 rfl rfl ?_
      refine v_getR (pc' := 66) rfl dX3_add_63 fk_RX3_15 ly_27 rfl ?_
      refine v_aload_n 0 (pc' := 67) rfl dX3_add_66 rfl rfl ?_
      refine v_get (z := ((A.length : Nat) : Int)) (pc' := 70) rfl dX3_add_67 fk_RX3_18 ly_27 rfl (fm) ?_
      refine v_iload_n 2 (pc' := 71) rfl dX3_add_70 rfl rfl ?_
      refine v_iast (pc' := 72) rfl dX3_add_71 ly_29 (by omega) (by omega) rfl ?_
      refine v_nmw (fun w2 hw2 => ?_)
      have fm : w2 27 2 = ((A.length : Nat) : Int) := by rw [hw2, up_ne _ _ (by omega)]; exact fm
      refine v_aload_n 0 (pc' := 73) rfl dX3_add_72 rfl rfl ?_
      refine v_dupR (pc' := 74) rfl dX3_add_73 ?_
      refine v_get (z := ((A.length : Nat) : Int)) (pc' := 77) rfl dX3_add_74 fk_RX3_18 ly_27 rfl (fm) ?_
      refine v_iconst (pc' := 78) rfl dX3_add_77 ?_
      refine v_iadd (pc' := 79) rfl dX3_add_78 ?_
      refine v_put (pc' := 82) rfl dX3_add_79 fi_RX3_18 ly_27 rfl ?_
      refine v_nmw (fun w3 hw3 => ?_)
      refine v_vret dX3_add_82 ?_
      refine ⟨?_, by rw [hw3, hw2, hw1]; exact (((Fr.rf _ _).up rfl).up rfl).up rfl⟩
      unfold fAdd
      rw [if_neg hnot, if_pos (by omega)]
      rw [hw3, hw2, hw1, hc, hd, show ((A.length : Nat) : Int).toNat = A.length from rfl]
      refine ⟨by rw [up_eq]; simp, fun j hj => ?_⟩
      rw [List.length_append] at hj
      simp at hj
      rw [List.getD_eq_getElem?_getD]
      by_cases q : j = A.length
      · subst q; simp [up_at]
      · rw [List.getElem?_append_left (by omega), ← List.getD_eq_getElem?_getD]; have := hF.2 j (by omega); simp [up_at, q, this]
  ·
    have hb := hB.at (show k < A.length by omega)
    refine v_iload_n 3 (pc' := 11) rfl dX3_add_10 rfl rfl ?_
    refine v_bipush (pc' := 13) rfl dX3_add_11 rfl ?_
    refine v_icmp_ge (pc' := 16) (tgt := 43) rfl dX3_add_13 (by decide) (by omega) (by omega) (fun c1 => ?_) (fun c1 => ?_)
    ·
      have e : k = A.length := by omega
      have hnot : ¬ p ∈ A := fun q => by
        obtain ⟨j, hj, e2⟩ := mem_getD (d := (0, 0)) q
        exact hno j (by omega) e2
      refine v_aload_n 0 (pc' := 44) rfl dX3_add_43 rfl rfl ?_
      refine v_get (z := ((A.length : Nat) : Int)) (pc' := 47) rfl dX3_add_44 fk_RX3_18 ly_27 rfl (fm) ?_
      refine v_bipush (pc' := 49) rfl dX3_add_47 rfl ?_
      refine v_icmp_ge (pc' := 52) (tgt := 82) rfl dX3_add_49 (by decide) (by omega) (by omega) (fun c4 => ?_) (fun c4 => ?_)
      ·
        refine v_vret dX3_add_82 ?_
        refine ⟨?_, Fr.rf _ _⟩
        unfold fAdd
        rw [if_neg hnot, if_neg (by omega)]
        exact hF
      ·
        refine v_aload_n 0 (pc' := 53) rfl dX3_add_52 rfl rfl ?_
        refine v_getR (pc' := 56) rfl dX3_add_53 fk_RX3_11 ly_27 rfl ?_
        refine v_aload_n 0 (pc' := 57) rfl dX3_add_56 rfl rfl ?_
        refine v_get (z := ((A.length : Nat) : Int)) (pc' := 60) rfl dX3_add_57 fk_RX3_18 ly_27 rfl (fm) ?_
        refine v_iload_n 1 (pc' := 61) rfl dX3_add_60 rfl rfl ?_
        refine v_iast (pc' := 62) rfl dX3_add_61 ly_28 (by omega) (by omega) rfl ?_
        refine v_nmw (fun w1 hw1 => ?_)
        have fm : w1 27 2 = ((A.length : Nat) : Int) := by rw [hw1, up_ne _ _ (by omega)]; exact fm
        refine v_aload_n 0 (pc' := 63) rfl dX3_add_62 rfl rfl ?_
        refine v_getR (pc' := 66) rfl dX3_add_63 fk_RX3_15 ly_27 rfl ?_
        refine v_aload_n 0 (pc' := 67) rfl dX3_add_66 rfl rfl ?_
        refine v_get (z := ((A.length : Nat) : Int)) (pc' := 70) rfl dX3_add_67 fk_RX3_18 ly_27 rfl (fm) ?_
        refine v_iload_n 2 (pc' := 71) rfl dX3_add_70 rfl rfl ?_
        refine v_iast (pc' := 72) rfl dX3_add_71 ly_29 (by omega) (by omega) rfl ?_
        refine v_nmw (fun w2 hw2 => ?_)
        have fm : w2 27 2 = ((A.length : Nat) : Int) := by rw [hw2, up_ne _ _ (by omega)]; exact fm
        refine v_aload_n 0 (pc' := 73) rfl dX3_add_72 rfl rfl ?_
        refine v_dupR (pc' := 74) rfl dX3_add_73 ?_
        refine v_get (z := ((A.length : Nat) : Int)) (pc' := 77) rfl dX3_add_74 fk_RX3_18 ly_27 rfl (fm) ?_
        refine v_iconst (pc' := 78) rfl dX3_add_77 ?_
        refine v_iadd (pc' := 79) rfl dX3_add_78 ?_
        refine v_put (pc' := 82) rfl dX3_add_79 fi_RX3_18 ly_27 rfl ?_
        refine v_nmw (fun w3 hw3 => ?_)
        refine v_vret dX3_add_82 ?_
        refine ⟨?_, by rw [hw3, hw2, hw1]; exact (((Fr.rf _ _).up rfl).up rfl).up rfl⟩
        unfold fAdd
        rw [if_neg hnot, if_pos (by omega)]
        rw [hw3, hw2, hw1, hc, hd, show ((A.length : Nat) : Int).toNat = A.length from rfl]
        refine ⟨by rw [up_eq]; simp, fun j hj => ?_⟩
        rw [List.length_append] at hj
        simp at hj
        rw [List.getD_eq_getElem?_getD]
        by_cases q : j = A.length
        · subst q; simp [up_at]
        · rw [List.getElem?_append_left (by omega), ← List.getD_eq_getElem?_getD]; have := hF.2 j (by omega); simp [up_at, q, this]
    ·
      refine v_aload_n 0 (pc' := 17) rfl dX3_add_16 rfl rfl ?_
      refine v_getR (pc' := 20) rfl dX3_add_17 fk_RX3_11 ly_27 rfl ?_
      refine v_iload_n 3 (pc' := 21) rfl dX3_add_20 rfl rfl ?_
      refine v_iald (z := (((A.getD k (0, 0)).1 : Nat) : Int)) (pc' := 22) rfl dX3_add_21 ly_28 (by omega) (by omega) rfl (by rw [show i.toNat = k by omega]; exact (hF.2 k (by omega)).1) ?_
      refine v_iload_n 1 (pc' := 23) rfl dX3_add_22 rfl rfl ?_
      refine v_icmp_ne (pc' := 26) (tgt := 37) rfl dX3_add_23 (by decide) (by omega) (by omega) (fun c2 => ?_) (fun c2 => ?_)
      ·
        have hne : A.getD k (0, 0) ≠ p := fun q => by rw [q] at c2; omega
        refine v_iinc (ls' := [(3, _), (0, _), (1, _), (2, _)]) 3 (pc' := 40) rfl dX3_add_37 rfl rfl rfl ?_
        refine v_nl (fun i' hi' => ?_)
        refine v_goto (tgt := 2) dX3_add_40 (by decide) ?_
        refine v_ls [1, 2, 3, 0] rfl ?_
        exact ih0 (i') (⟨k + 1, by omega, by omega, fun j h => by
            rcases Nat.lt_or_ge j k with q | q
            · exact hno j q
            · rw [show j = k by omega]; exact hne⟩) (by omega)
      ·
        refine v_aload_n 0 (pc' := 27) rfl dX3_add_26 rfl rfl ?_
        refine v_getR (pc' := 30) rfl dX3_add_27 fk_RX3_15 ly_27 rfl ?_
        refine v_iload_n 3 (pc' := 31) rfl dX3_add_30 rfl rfl ?_
        refine v_iald (z := (((A.getD k (0, 0)).2 : Nat) : Int)) (pc' := 32) rfl dX3_add_31 ly_29 (by omega) (by omega) rfl (by rw [show i.toNat = k by omega]; exact (hF.2 k (by omega)).2) ?_
        refine v_iload_n 2 (pc' := 33) rfl dX3_add_32 rfl rfl ?_
        refine v_icmp_ne (pc' := 36) (tgt := 37) rfl dX3_add_33 (by decide) (by omega) (by omega) (fun c3 => ?_) (fun c3 => ?_)
        ·
          have hne : A.getD k (0, 0) ≠ p := fun q => by rw [q] at c3; omega
          refine v_iinc (ls' := [(3, _), (0, _), (1, _), (2, _)]) 3 (pc' := 40) rfl dX3_add_37 rfl rfl rfl ?_
          refine v_nl (fun i' hi' => ?_)
          refine v_goto (tgt := 2) dX3_add_40 (by decide) ?_
          refine v_ls [1, 2, 3, 0] rfl ?_
          exact ih0 (i') (⟨k + 1, by omega, by omega, fun j h => by
              rcases Nat.lt_or_ge j k with q | q
              · exact hno j q
              · rw [show j = k by omega]; exact hne⟩) (by omega)
        ·
          refine v_vret dX3_add_36 ?_
          have heq : A.getD k (0, 0) = p := Prod.ext (by omega) (by omega)
          refine ⟨?_, Fr.rf _ _⟩
          unfold fAdd
          rw [if_pos (by rw [← heq]; exact getD_mem (by omega))]
          exact hF
set_option maxHeartbeats 4000000 in
set_option maxRecDepth 100000 in
theorem c_behind (l : Launch) (G : Gx) {i0 k0 : Int} {A : List PC} {i k : Nat} (hi : i0 = i) (hk : k0 = k) (hiA : i < A.length) (hkA : k < A.length) (hB : FB28 A) (w : Wd) (hF : FW w A) : SpR l G 0 mX3_behind [aR 27, aI (i0), aI (k0)] w (fun z => (z = 1 ∧ plt (A.getD k (0, 0)) (A.getD i (0, 0))) ∨ (z = 0 ∧ ¬ plt (A.getD k (0, 0)) (A.getD i (0, 0)))) := by
  have hl := hB.1
  have b1 := hB.at hiA
  have b2 := hB.at hkA
  refine Sp_of RX3 rfl (by decide +kernel) rfl (Nat.le_of_ble_eq_true rfl) ?_
  refine v_iload_n 1 (pc' := 1) rfl dX3_behind_0 rfl rfl ?_
  refine v_if_lt (pc' := 4) (tgt := 20) rfl dX3_behind_1 (by decide) (by omega) (fun c0 => absurd c0 (by omega)) (fun c0 => ?_)
  refine v_iload_n 2 (pc' := 5) rfl dX3_behind_4 rfl rfl ?_
  refine v_if_lt (pc' := 8) (tgt := 20) rfl dX3_behind_5 (by decide) (by omega) (fun c1 => absurd c1 (by omega)) (fun c1 => ?_)
  refine v_iload_n 1 (pc' := 9) rfl dX3_behind_8 rfl rfl ?_
  refine v_bipush (pc' := 11) rfl dX3_behind_9 rfl ?_
  refine v_icmp_ge (pc' := 14) (tgt := 20) rfl dX3_behind_11 (by decide) (by omega) (by omega) (fun c2 => absurd c2 (by omega)) (fun c2 => ?_)
  refine v_iload_n 2 (pc' := 15) rfl dX3_behind_14 rfl rfl ?_
  refine v_bipush (pc' := 17) rfl dX3_behind_15 rfl ?_
  refine v_icmp_lt (pc' := 20) (tgt := 22) rfl dX3_behind_17 (by decide) (by omega) (by omega) (fun c3 => ?_) (fun c3 => absurd c3 (by omega))
  refine v_aload_n 0 (pc' := 23) rfl dX3_behind_22 rfl rfl ?_
  refine v_getR (pc' := 26) rfl dX3_behind_23 fk_RX3_11 ly_27 rfl ?_
  refine v_iload_n 1 (pc' := 27) rfl dX3_behind_26 rfl rfl ?_
  refine v_iald (z := (((A.getD i (0, 0)).1 : Nat) : Int)) (pc' := 28) rfl dX3_behind_27 ly_28 (by omega) (by omega) rfl (by rw [show i0.toNat = i by omega]; exact (hF.2 i hiA).1) ?_
  refine v_aload_n 0 (pc' := 29) rfl dX3_behind_28 rfl rfl ?_
  refine v_getR (pc' := 32) rfl dX3_behind_29 fk_RX3_11 ly_27 rfl ?_
  refine v_iload_n 2 (pc' := 33) rfl dX3_behind_32 rfl rfl ?_
  refine v_iald (z := (((A.getD k (0, 0)).1 : Nat) : Int)) (pc' := 34) rfl dX3_behind_33 ly_28 (by omega) (by omega) rfl (by rw [show k0.toNat = k by omega]; exact (hF.2 k hkA).1) ?_
  refine v_icmp_gt (pc' := 37) (tgt := 67) rfl dX3_behind_34 (by decide) (by omega) (by omega) (fun c4 => ?_) (fun c4 => ?_)
  ·
    refine v_iconst (pc' := 68) rfl dX3_behind_67 ?_
    refine v_goto (tgt := 72) dX3_behind_68 (by decide) ?_
    refine v_iret dX3_behind_72 (by decide) (rfl) ?_
    first | exact ⟨Or.inl ⟨rfl, by unfold plt; omega⟩, rfl⟩ | exact ⟨Or.inr ⟨rfl, by unfold plt; omega⟩, rfl⟩
  ·
    refine v_aload_n 0 (pc' := 38) rfl dX3_behind_37 rfl rfl ?_
    refine v_getR (pc' := 41) rfl dX3_behind_38 fk_RX3_11 ly_27 rfl ?_
    refine v_iload_n 1 (pc' := 42) rfl dX3_behind_41 rfl rfl ?_
    refine v_iald (z := (((A.getD i (0, 0)).1 : Nat) : Int)) (pc' := 43) rfl dX3_behind_42 ly_28 (by omega) (by omega) rfl (by rw [show i0.toNat = i by omega]; exact (hF.2 i hiA).1) ?_
    refine v_aload_n 0 (pc' := 44) rfl dX3_behind_43 rfl rfl ?_
    refine v_getR (pc' := 47) rfl dX3_behind_44 fk_RX3_11 ly_27 rfl ?_
    refine v_iload_n 2 (pc' := 48) rfl dX3_behind_47 rfl rfl ?_
    refine v_iald (z := (((A.getD k (0, 0)).1 : Nat) : Int)) (pc' := 49) rfl dX3_behind_48 ly_28 (by omega) (by omega) rfl (by rw [show k0.toNat = k by omega]; exact (hF.2 k hkA).1) ?_
    refine v_icmp_ne (pc' := 52) (tgt := 71) rfl dX3_behind_49 (by decide) (by omega) (by omega) (fun c5 => ?_) (fun c5 => ?_)
    ·
      refine v_iconst (pc' := 72) rfl dX3_behind_71 ?_
      refine v_iret dX3_behind_72 (by decide) (rfl) ?_
      first | exact ⟨Or.inl ⟨rfl, by unfold plt; omega⟩, rfl⟩ | exact ⟨Or.inr ⟨rfl, by unfold plt; omega⟩, rfl⟩
    ·
      refine v_aload_n 0 (pc' := 53) rfl dX3_behind_52 rfl rfl ?_
      refine v_getR (pc' := 56) rfl dX3_behind_53 fk_RX3_15 ly_27 rfl ?_
      refine v_iload_n 1 (pc' := 57) rfl dX3_behind_56 rfl rfl ?_
      refine v_iald (z := (((A.getD i (0, 0)).2 : Nat) : Int)) (pc' := 58) rfl dX3_behind_57 ly_29 (by omega) (by omega) rfl (by rw [show i0.toNat = i by omega]; exact (hF.2 i hiA).2) ?_
      refine v_aload_n 0 (pc' := 59) rfl dX3_behind_58 rfl rfl ?_
      refine v_getR (pc' := 62) rfl dX3_behind_59 fk_RX3_15 ly_27 rfl ?_
      refine v_iload_n 2 (pc' := 63) rfl dX3_behind_62 rfl rfl ?_
      refine v_iald (z := (((A.getD k (0, 0)).2 : Nat) : Int)) (pc' := 64) rfl dX3_behind_63 ly_29 (by omega) (by omega) rfl (by rw [show k0.toNat = k by omega]; exact (hF.2 k hkA).2) ?_
      refine v_icmp_le (pc' := 67) (tgt := 71) rfl dX3_behind_64 (by decide) (by omega) (by omega) (fun c6 => ?_) (fun c6 => ?_)
      ·
        refine v_iconst (pc' := 72) rfl dX3_behind_71 ?_
        refine v_iret dX3_behind_72 (by decide) (rfl) ?_
        first | exact ⟨Or.inl ⟨rfl, by unfold plt; omega⟩, rfl⟩ | exact ⟨Or.inr ⟨rfl, by unfold plt; omega⟩, rfl⟩
      ·
        refine v_iconst (pc' := 68) rfl dX3_behind_67 ?_
        refine v_goto (tgt := 72) dX3_behind_68 (by decide) ?_
        refine v_iret dX3_behind_72 (by decide) (rfl) ?_
        first | exact ⟨Or.inl ⟨rfl, by unfold plt; omega⟩, rfl⟩ | exact ⟨Or.inr ⟨rfl, by unfold plt; omega⟩, rfl⟩
set_option maxHeartbeats 4000000 in
set_option maxRecDepth 100000 in
theorem c_sort3 (l : Launch) (G : Gx) {L : List PC} (hB : FB28 L) (hnd : L.Nodup) (w : Wd) (hF : FW w L) : Sp l G 1 mX3_sort [aR 27] w (fun _ w' => Fr [27, 28, 29] w w' ∧ ∃ A : List PC, A.Perm L ∧ FW w' A ∧ SO A A.length) := by
  have hl := hB.1
  refine Sp_of RX3 rfl (by decide +kernel) rfl (Nat.le_of_ble_eq_true rfl) ?_
  refine v_iconst (pc' := 1) rfl dX3_sort_0 ?_
  refine v_istore_n (ls' := [(1, _), (0, _)]) (pc' := 2) rfl dX3_sort_1 rfl rfl rfl ?_
  refine v_ls [1, 0] rfl ?_
  refine v_loop2 2 (fun (i : Int) (wl : Wd) => ∃ (iN : Nat) (A : List PC), i = iN ∧ 1 ≤ iN ∧ iN ≤ 13 ∧ (iN ≤ A.length ∨ A.length = 0) ∧ A.Perm L ∧ FW wl A ∧ SO A iN ∧ Fr [27, 28, 29] w wl) (fun (i : Int) (wl : Wd) => (12 - i).toNat) (fun (i : Int) (wl : Wd) => [(0, aR 27), (1, aI (i))]) (fun (i : Int) (wl : Wd) => []) (fun (i : Int) (wl : Wd) => wl) (fun i wl hI0 ih0 => ?_) (1) w (⟨1, L, rfl, by omega, by omega, by omega, List.Perm.refl _, hF, fun u v a b => by omega, Fr.rf _ _⟩)
  obtain ⟨iN, A, hi, hi1, hi13, hiA, hP, hFl, hS, hfl⟩ := hI0
  have hBl := hB.perm hP
  have hll := hBl.1
  have fm := hFl.1
  refine v_iload_n 1 (pc' := 3) rfl dX3_sort_2 rfl rfl ?_
  refine v_aload_n 0 (pc' := 4) rfl dX3_sort_3 rfl rfl ?_
  refine v_get (z := ((A.length : Nat) : Int)) (pc' := 7) rfl dX3_sort_4 fk_RX3_18 ly_27 rfl (fm) ?_
  refine v_icmp_ge (pc' := 10) (tgt := 107) rfl dX3_sort_7 (by decide) (by omega) (by omega) (fun c0 => ?_) (fun c0 => ?_)
  ·
    refine v_vret dX3_sort_107 ?_
    refine ⟨hfl, A, hP, hFl, fun u v a b => hS u v a (by omega)⟩
  ·
    refine v_iload_n 1 (pc' := 11) rfl dX3_sort_10 rfl rfl ?_
    refine v_bipush (pc' := 13) rfl dX3_sort_11 rfl ?_
    refine v_icmp_ge (pc' := 16) (tgt := 107) rfl dX3_sort_13 (by decide) (by omega) (by omega) (fun c1 => ?_) (fun c1 => ?_)
    ·
      refine v_vret dX3_sort_107 ?_
      refine ⟨hfl, A, hP, hFl, fun u v a b => hS u v a (by omega)⟩
    ·
      refine v_iload_n 1 (pc' := 17) rfl dX3_sort_16 rfl rfl ?_
      refine v_istore_n (ls' := [(2, _), (0, _), (1, _)]) (pc' := 18) rfl dX3_sort_17 rfl rfl rfl ?_
      refine v_ls [1, 2, 0] rfl ?_
      refine v_loop2 18 (fun (k : Int) (wm : Wd) => ∃ (kN : Nat) (A : List PC), k = kN ∧ kN ≤ iN ∧ iN < A.length ∧ A.Perm L ∧ FW wm A ∧ SI A iN kN ∧ Fr [27, 28, 29] w wm) (fun (k : Int) (wm : Wd) => k.toNat) (fun (k : Int) (wm : Wd) => [(0, aR 27), (1, aI (i)), (2, aI (k))]) (fun (k : Int) (wm : Wd) => []) (fun (k : Int) (wm : Wd) => wm) (fun k wm hI1 ih1 => ?_) (i) wl (⟨iN, A, hi, Nat.le_refl _, by omega, hP, hFl, hS.start, hfl⟩)
      clear hBl hll fm hiA hS hFl hfl hP
      obtain ⟨kN, A, hk, hki, hiA, hP, hFm, hSI, hfm⟩ := hI1
      have hBm := hB.perm hP
      have hlm := hBm.1
      refine v_iload_n 2 (pc' := 19) rfl dX3_sort_18 rfl rfl ?_
      refine v_if_le (pc' := 22) (tgt := 101) rfl dX3_sort_19 (by decide) (by omega) (fun c2 => ?_) (fun c2 => ?_)
      ·
        have hdone : kN = 0 ∨ plt (A.getD (kN - 1) (0, 0)) (A.getD kN (0, 0)) := Or.inl (by omega)
        refine v_iinc (ls' := [(1, _), (0, _), (2, _)]) 1 (pc' := 104) rfl dX3_sort_101 rfl rfl rfl ?_
        refine v_nl (fun i' hi' => ?_)
        refine v_goto (tgt := 2) dX3_sort_104 (by decide) ?_
        refine v_ls [1, 0] rfl ?_
        exact ih0 (i') wm (⟨iN + 1, A, by omega, by omega, by omega, by omega, hP, hFm, hSI.done (by omega) hdone, hfm⟩) (by omega)
      ·
        refine v_aload_n 0 (pc' := 23) rfl dX3_sort_22 rfl rfl ?_
        refine v_iload_n 2 (pc' := 24) rfl dX3_sort_23 rfl rfl ?_
        refine v_iconst (pc' := 25) rfl dX3_sort_24 ?_
        refine v_isub (pc' := 26) rfl dX3_sort_25 ?_
        refine v_iload_n 2 (pc' := 27) rfl dX3_sort_26 rfl rfl ?_
        refine v_cVR (pc' := 30) rfl dX3_sort_27 lk_RX3_50 ly_27 rfl (c_behind l G (i := kN - 1) (k := kN) (A := A) (by omega) hk (by omega) (by omega) hBm wm hFm) rfl rfl rfl (fun behind1 hbehind1 => ?_)
        refine v_if_eq (pc' := 33) (tgt := 101) rfl dX3_sort_30 (by decide) (by omega) (fun c3 => ?_) (fun c3 => ?_)
        ·
          have hnp : ¬ plt (A.getD kN (0, 0)) (A.getD (kN - 1) (0, 0)) := by
            rcases hbehind1 with h | h
            · omega
            · exact h.2
          have hdone : kN = 0 ∨ plt (A.getD (kN - 1) (0, 0)) (A.getD kN (0, 0)) := Or.inr (plt_tot (pw_getD (hP.nodup_iff.mpr hnd) (i := kN - 1) (j := kN) (by omega) (by omega)) hnp)
          refine v_iinc (ls' := [(1, _), (0, _), (2, _)]) 1 (pc' := 104) rfl dX3_sort_101 rfl rfl rfl ?_
          refine v_nl (fun i' hi' => ?_)
          refine v_goto (tgt := 2) dX3_sort_104 (by decide) ?_
          refine v_ls [1, 0] rfl ?_
          exact ih0 (i') wm (⟨iN + 1, A, by omega, by omega, by omega, by omega, hP, hFm, hSI.done (by omega) hdone, hfm⟩) (by omega)
        ·
          have hplt : plt (A.getD kN (0, 0)) (A.getD (kN - 1) (0, 0)) := by
            rcases hbehind1 with h | h
            · exact h.2
            · omega
          refine v_aload_n 0 (pc' := 34) rfl dX3_sort_33 rfl rfl ?_
          refine v_getR (pc' := 37) rfl dX3_sort_34 fk_RX3_11 ly_27 rfl ?_
          refine v_iload_n 2 (pc' := 38) rfl dX3_sort_37 rfl rfl ?_
          refine v_iald (z := (((A.getD (kN) (0, 0)).1 : Nat) : Int)) (pc' := 39) rfl dX3_sort_38 ly_28 (by omega) (by omega) rfl (by rw [show k.toNat = kN by omega]; exact (hFm.2 kN (by omega)).1) ?_
          refine v_nm (fun s' hs' => ?_)
          refine v_istore_n (ls' := [(3, _), (0, _), (1, _), (2, _)]) (pc' := 40) rfl dX3_sort_39 rfl rfl rfl ?_
          refine v_aload_n 1 (pc' := 41) rfl dX3_sort_40 rfl rfl ?_
          refine v_getR (pc' := 44) rfl dX3_sort_41 fk_RX3_15 ly_27 rfl ?_
          refine v_iload_n 3 (pc' := 45) rfl dX3_sort_44 rfl rfl ?_
          refine v_iald (z := (((A.getD (kN) (0, 0)).2 : Nat) : Int)) (pc' := 46) rfl dX3_sort_45 ly_29 (by omega) (by omega) rfl (by rw [show k.toNat = kN by omega]; exact (hFm.2 kN (by omega)).2) ?_
          refine v_nm (fun a' ha' => ?_)
          refine v_istore (ls' := [(4, _), (3, _), (0, _), (1, _), (2, _)]) (pc' := 48) rfl dX3_sort_46 rfl rfl ?_
          refine v_aload_n 2 (pc' := 49) rfl dX3_sort_48 rfl rfl ?_
          refine v_getR (pc' := 52) rfl dX3_sort_49 fk_RX3_11 ly_27 rfl ?_
          refine v_iload_n 4 (pc' := 53) rfl dX3_sort_52 rfl rfl ?_
          refine v_aload_n 2 (pc' := 54) rfl dX3_sort_53 rfl rfl ?_
          refine v_getR (pc' := 57) rfl dX3_sort_54 fk_RX3_11 ly_27 rfl ?_
          refine v_iload_n 4 (pc' := 58) rfl dX3_sort_57 rfl rfl ?_
          refine v_iconst (pc' := 59) rfl dX3_sort_58 ?_
          refine v_isub (pc' := 60) rfl dX3_sort_59 ?_
          refine v_iald (z := (((A.getD (kN - 1) (0, 0)).1 : Nat) : Int)) (pc' := 61) rfl dX3_sort_60 ly_28 (by omega) (by omega) rfl (by rw [show (k - 1).toNat = kN - 1 by omega]; exact (hFm.2 (kN - 1) (by omega)).1) ?_
          refine v_iast (pc' := 62) rfl dX3_sort_61 ly_28 (by omega) (by omega) rfl ?_
          refine v_nmw (fun w2 hw2 => ?_)
          refine v_aload_n 2 (pc' := 63) rfl dX3_sort_62 rfl rfl ?_
          refine v_getR (pc' := 66) rfl dX3_sort_63 fk_RX3_15 ly_27 rfl ?_
          refine v_iload_n 4 (pc' := 67) rfl dX3_sort_66 rfl rfl ?_
          refine v_aload_n 2 (pc' := 68) rfl dX3_sort_67 rfl rfl ?_
          refine v_getR (pc' := 71) rfl dX3_sort_68 fk_RX3_15 ly_27 rfl ?_
          refine v_iload_n 4 (pc' := 72) rfl dX3_sort_71 rfl rfl ?_
          refine v_iconst (pc' := 73) rfl dX3_sort_72 ?_
          refine v_isub (pc' := 74) rfl dX3_sort_73 ?_
          refine v_iald (z := (((A.getD (kN - 1) (0, 0)).2 : Nat) : Int)) (pc' := 75) rfl dX3_sort_74 ly_29 (by omega) (by omega) rfl (by rw [hw2, up_ne _ _ (by omega), show (k - 1).toNat = kN - 1 by omega]; exact (hFm.2 (kN - 1) (by omega)).2) ?_
          refine v_iast (pc' := 76) rfl dX3_sort_75 ly_29 (by omega) (by omega) rfl ?_
          refine v_nmw (fun w3 hw3 => ?_)
          refine v_aload_n 2 (pc' := 77) rfl dX3_sort_76 rfl rfl ?_
          refine v_getR (pc' := 80) rfl dX3_sort_77 fk_RX3_11 ly_27 rfl ?_
          refine v_iload_n 4 (pc' := 81) rfl dX3_sort_80 rfl rfl ?_
          refine v_iconst (pc' := 82) rfl dX3_sort_81 ?_
          refine v_isub (pc' := 83) rfl dX3_sort_82 ?_
          refine v_iload_n 1 (pc' := 84) rfl dX3_sort_83 rfl rfl ?_
          refine v_iast (pc' := 85) rfl dX3_sort_84 ly_28 (by omega) (by omega) rfl ?_
          refine v_nmw (fun w4 hw4 => ?_)
          refine v_aload_n 2 (pc' := 86) rfl dX3_sort_85 rfl rfl ?_
          refine v_getR (pc' := 89) rfl dX3_sort_86 fk_RX3_15 ly_27 rfl ?_
          refine v_iload_n 4 (pc' := 90) rfl dX3_sort_89 rfl rfl ?_
          refine v_iconst (pc' := 91) rfl dX3_sort_90 ?_
          refine v_isub (pc' := 92) rfl dX3_sort_91 ?_
          refine v_iload 0 (pc' := 94) rfl dX3_sort_92 rfl ?_
          refine v_iast (pc' := 95) rfl dX3_sort_94 ly_29 (by omega) (by omega) rfl ?_
          refine v_nmw (fun w5 hw5 => ?_)
          refine v_iinc (ls' := [(2, _), (4, _), (3, _), (0, _), (1, _)]) 4 (pc' := 98) rfl dX3_sort_95 rfl rfl rfl ?_
          refine v_nl (fun k' hk' => ?_)
          refine v_goto (tgt := 18) dX3_sort_98 (by decide) ?_
          refine v_ls [3, 4, 0] rfl ?_
          exact ih1 (k') w5 (⟨kN - 1, swp A kN, by omega, by omega, by rw [swp_len (by omega) (by omega)]; exact hiA, (swp_perm (by omega) (by omega)).trans hP, hFm.swp (k := kN) (by omega) (by omega) (by rw [hw5, hw4, hw3, hw2, hs', ha', show k.toNat = kN by omega, show (k - 1).toNat = kN - 1 by omega]), hSI.step (by omega) hki hiA hplt, by rw [hw5, hw4, hw3, hw2]; exact (((hfm.up rfl).up rfl).up rfl).up rfl⟩) (by omega)

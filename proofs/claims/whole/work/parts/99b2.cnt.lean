/-! counting: lists without doubles -/
theorem nd_le {α : Type} : ∀ (A B : List α), A.Pairwise (fun x y => x ≠ y) → (∀ x, x ∈ A → x ∈ B) → A.length ≤ B.length
  | [], _, _, _ => Nat.zero_le _
  | x :: A, B, hd, hs => by
    obtain ⟨B1, B2, e⟩ := List.append_of_mem (hs x List.mem_cons_self)
    have hp := List.pairwise_cons.mp hd
    have h := nd_le A (B1 ++ B2) hp.2 (fun y hy => by
      have h1 := hs y (List.mem_cons_of_mem _ hy)
      rw [e] at h1
      rcases List.mem_append.mp h1 with h2 | h2
      · exact List.mem_append_left _ h2
      · rcases List.mem_cons.mp h2 with h3 | h3
        · exact absurd h3.symm (hp.1 y hy)
        · exact List.mem_append_right _ h3)
    rw [e]
    rw [List.length_append] at h
    simp only [List.length_append, List.length_cons]
    omega
/-- a count goes into another by a map that holds numbers apart -/
theorem cnt_map {P Q : Nat → Bool} {k m : Nat} (f : Nat → Nat) (h1 : ∀ i, i < k → P i = true → f i < m ∧ Q (f i) = true) (h2 : ∀ i j, i < k → j < k → P i = true → P j = true → f i = f j → i = j) : cntI P k ≤ cntI Q m := by
  have len : ∀ (R : Nat → Bool) (k : Nat), cntI R k = ((List.range k).filter R).length := by
    intro R k
    induction k with
    | zero => rfl
    | succ k ih =>
      rw [List.range_succ, List.filter_append, List.length_append, ← ih, cntI_s]
      by_cases h : R k = true
      · rw [if_pos h]; simp [h]
      · rw [if_neg h]; simp [h]
  rw [len, len]
  have h := nd_le (((List.range k).filter P).map f) ((List.range m).filter Q) ?_ ?_
  · rwa [List.length_map] at h
  · rw [List.pairwise_map]
    have hn : ((List.range k).filter P).Pairwise (fun x y => x ≠ y) := (List.nodup_range).filter _
    refine hn.imp_of_mem (fun {a b} ha hb hab e => hab ?_)
    rw [List.mem_filter, List.mem_range] at ha hb
    exact h2 a b ha.1 hb.1 ha.2 hb.2 e
  · intro x hx
    obtain ⟨i, hi, rfl⟩ := List.mem_map.mp hx
    rw [List.mem_filter, List.mem_range] at hi
    obtain ⟨a, b⟩ := h1 i hi.1 hi.2
    exact List.mem_filter.mpr ⟨List.mem_range.mpr a, b⟩
theorem cntU_I (v : Nat → Nat) (t : Nat) : ∀ k, cntU v t k = cntI (fun i => decide (v i = t)) k
  | 0 => rfl
  | k + 1 => by
    show cntU v t k + _ = _
    rw [cntU_I v t k, cntI_s]
    by_cases h : v k = t
    · simp [h]
    · simp [h]
theorem cntG_I (P : (Nat → Nat) → Bool) (L : List (Nat → Nat)) : ∀ k, cntG P L k = cntI (fun i => P (L.getD i pid)) k
  | 0 => rfl
  | k + 1 => by
    rw [cntG_s, cntG_I P L k, cntI_s]
/-- a place of what is in a list -/
theorem at_mem {α : Type} {L : List α} {d x : α} (h : x ∈ L) : ∃ i, i < L.length ∧ L.getD i d = x := by
  obtain ⟨i, hi, e⟩ := List.getElem_of_mem h
  exact ⟨i, hi, by rw [List.getD_eq_getElem?_getD, List.getElem?_eq_getElem hi, e]; rfl⟩
theorem gath_inj {n : Nat} {f t : Nat → Nat} (h7 : n ≤ 7) (hf : Pm n f) (ht : Pm n t) {i j : Nat} (hi : i < (gathL n f t).length) (hj : j < (gathL n f t).length) (e : (gathL n f t).getD i pid = (gathL n f t).getD j pid) : i = j := by
  have hs := gathL_sorted h7 hf ht
  have hp := List.pairwise_iff_getElem.mp hs
  rw [List.getD_eq_getElem?_getD, List.getD_eq_getElem?_getD, List.getElem?_eq_getElem hi, List.getElem?_eq_getElem hj] at e
  have e2 : (gathL n f t)[i] = (gathL n f t)[j] := e
  rcases Nat.lt_trichotomy i j with h | h | h
  · have := hp i j hi hj h; rw [e2] at this; omega
  · exact h
  · have := hp j i hj hi h; rw [e2] at this; omega
/-- r by which a map becomes its least form, and those by which it stays: as many -/
theorem hyp_SETC : SETC := by
  intro n s a h1 h7 hs ha
  obtain ⟨r0, hr0, e1, e2, -⟩ := canA_ok h1 h7 hs ha
  have hcS := canS_pm h1 h7 hs
  have hca := Pm.conj h7 ha hr0
  have hr0i := hr0.inv h7
  have e1' : pconj (canS n s) (pinv r0) = s := by rw [← e1]; exact conj_back h7 hr0
  have e2' : pconj (pconj a r0) (pinv r0) = a := conj_back h7 hr0
  unfold setC autI
  rw [cntU_I]
  have hmem : ∀ i, i < (gathL n s (canS n s)).length → Pm n ((gathL n s (canS n s)).getD i pid) ∧ pconj s ((gathL n s (canS n s)).getD i pid) = canS n s := fun i hi => (gathL_mem h7 hs hcS _).mp (getD_mem hi)
  apply Nat.le_antisymm
  · refine cnt_map (fun i => rankN (pcomp ((gathL n s (canS n s)).getD i pid) (pinv r0)) n) (fun i hi hP => ?_) (fun i j hi hj hPi hPj e => ?_)
    · obtain ⟨hm1, hm2⟩ := hmem i hi
      have hc := hm1.comp hr0i
      obtain ⟨q1, q2⟩ := pn_rank h1 h7 hc
      refine ⟨q1, ?_⟩
      have hv : setV n s a i = setA n s a := of_decide_eq_true hP
      have e3 : pconj a ((gathL n s (canS n s)).getD i pid) = pconj a r0 := (hx_inj (Pm.conj h7 ha hm1) hca h7 h7).mp (by rw [← e2]; exact hv)
      unfold autB
      rw [q2, ← conj_conj h7 hm1 hr0i, ← conj_conj h7 hm1 hr0i, hm2, e3, e1', e2']
      simp
    · have h := rank_inj h1 h7 ((hmem i hi).1.comp hr0i) ((hmem j hj).1.comp hr0i) e
      refine gath_inj h7 hs hcS hi hj ?_
      funext x
      have hx := congrFun h x
      exact hr0i.inj hx
  · have hP : ∀ j, j < facN n → autB n s a s a j = true → Pm n (pcomp (pn n j) r0) ∧ pcomp (pn n j) r0 ∈ gathL n s (canS n s) ∧ pconj a (pcomp (pn n j) r0) = pconj a r0 := fun j hj hP => by
      have hp := (pn_at h1 h7 hj).1
      unfold autB at hP
      rw [Bool.and_eq_true, beq_iff_eq, beq_iff_eq] at hP
      have u1 := (hx_inj (Pm.conj h7 hs hp) hs h7 h7).mp hP.1
      have u2 := (hx_inj (Pm.conj h7 ha hp) ha h7 h7).mp hP.2
      exact ⟨hp.comp hr0, (gathL_mem h7 hs hcS _).mpr ⟨hp.comp hr0, by rw [← conj_conj h7 hp hr0, u1, e1]⟩, by rw [← conj_conj h7 hp hr0, u2]⟩
    have hidx : ∀ j, ∃ i, j < facN n → autB n s a s a j = true → i < (gathL n s (canS n s)).length ∧ (gathL n s (canS n s)).getD i pid = pcomp (pn n j) r0 := fun j => by
      by_cases h : j < facN n ∧ autB n s a s a j = true
      · obtain ⟨i, hi, e⟩ := at_mem (d := pid) (hP j h.1 h.2).2.1
        exact ⟨i, fun _ _ => ⟨hi, e⟩⟩
      · exact ⟨0, fun a b => absurd ⟨a, b⟩ h⟩
    refine cnt_map (fun j => Classical.choose (hidx j)) (fun j hj hPj => ?_) (fun i j hi hj hPi hPj e => ?_)
    · obtain ⟨q1, q2⟩ := Classical.choose_spec (hidx j) hj hPj
      refine ⟨q1, decide_eq_true ?_⟩
      show hx (pconj a _) = _
      rw [q2, (hP j hj hPj).2.2, e2]
    · have q1 := (Classical.choose_spec (hidx i) hi hPi).2
      have q2 := (Classical.choose_spec (hidx j) hj hPj).2
      rw [show Classical.choose (hidx i) = Classical.choose (hidx j) from e] at q1
      have h := q1.symm.trans q2
      refine pn_inj h1 h7 hi hj ?_
      funext x
      exact hr0.inj (congrFun h x)
/-! the group: what the words give is in it -/
theorem bAdd_sub {n : Nat} {p q : Nat → Nat} {d : Int} {B : BS} (h : q ∈ B.1) : q ∈ (bAdd n p d B).1 := by
  unfold bAdd
  split
  · exact List.mem_append_left _ h
  · exact h
theorem bAdd_in {n : Nat} {p : Nat → Nat} {d : Int} {B : BS} (h : BI n B) (hp : Pm n p) : p ∈ (bAdd n p d B).1 := by
  unfold bAdd
  by_cases q : B.2 (rankN p n) = -1
  · rw [if_pos q]; exact List.mem_append_right _ (List.mem_singleton.mpr rfl)
  · rw [if_neg q]
    exact Classical.byContradiction (fun hno => q ((h.2.2.1 p hp).mpr hno))
theorem bExp_sub {n : Nat} {s a q : Nat → Nat} {i : Nat} {B : BS} (h : q ∈ B.1) : q ∈ (bExp n s a i B).1 := by
  unfold bExp
  split
  · exact bAdd_sub (bAdd_sub (bAdd_sub (bAdd_sub h)))
  · exact h
theorem bExp_pre {n : Nat} {s a : Nat → Nat} {i j : Nat} {B : BS} (hj : j < B.1.length) : (bExp n s a i B).1.getD j pid = B.1.getD j pid := by
  have l : ∀ (p : Nat → Nat) (d : Int) (B : BS), j < B.1.length → j < (bAdd n p d B).1.length := fun p d B h => Nat.lt_of_lt_of_le h (bAdd_len p d)
  unfold bExp
  split
  · rw [bAdd_pre _ _ (l _ _ _ (l _ _ _ (l _ _ _ hj))), bAdd_pre _ _ (l _ _ _ (l _ _ _ hj)), bAdd_pre _ _ (l _ _ _ hj), bAdd_pre _ _ hj]
  · rfl
/-- behind step i, whatever stands ahead of place i has its four neighbours -/
theorem bfs_nb {n : Nat} {s a : Nat → Nat} (h1 : 1 ≤ n) (h7 : n ≤ 7) (hs : Pm n s) (ha : Pm n a) : ∀ i j, j < i → j < (bfsI n s a i).1.length → ∀ t, (t = s ∨ t = a ∨ t = pinv s ∨ t = pinv a) → pcomp ((bfsI n s a i).1.getD j pid) t ∈ (bfsI n s a i).1
  | 0, j, h, _ => by omega
  | i + 1, j, h, hj => by
    intro t ht
    have hB := bfsI_BI h1 h7 hs ha i
    by_cases hlt : j < (bfsI n s a i).1.length
    · show pcomp ((bExp n s a i (bfsI n s a i)).1.getD j pid) t ∈ (bExp n s a i (bfsI n s a i)).1
      rw [bExp_pre hlt]
      by_cases hji : j < i
      · exact bExp_sub (bfs_nb h1 h7 hs ha i j hji hlt t ht)
      · have hji2 : j = i := by omega
        subst hji2
        have hp := hB.1 _ (getD_mem (L := (bfsI n s a j).1) (i := j) (d := pid) hlt)
        have hd := hB.2.2.2 (rankN ((bfsI n s a j).1.getD j pid) n)
        have hne : (bfsI n s a j).2 (rankN ((bfsI n s a j).1.getD j pid) n) ≠ -1 := fun e => (hB.2.2.1 _ hp).mp e (getD_mem hlt)
        have l0 := bAdd_len (n := n) (B := bfsI n s a j) (pcomp ((bfsI n s a j).1.getD j pid) s) ((bfsI n s a j).2 (rankN ((bfsI n s a j).1.getD j pid) n) + 1)
        have B1 := hB.add h1 h7 (hp.comp hs) (d := (bfsI n s a j).2 (rankN ((bfsI n s a j).1.getD j pid) n) + 1) (by omega) (by omega)
        have B2 := B1.add h1 h7 (hp.comp ha) (d := (bfsI n s a j).2 (rankN ((bfsI n s a j).1.getD j pid) n) + 1) (by omega) (by omega)
        have l1 := bAdd_len (n := n) (B := bAdd n (pcomp ((bfsI n s a j).1.getD j pid) s) ((bfsI n s a j).2 (rankN ((bfsI n s a j).1.getD j pid) n) + 1) (bfsI n s a j)) (pcomp ((bfsI n s a j).1.getD j pid) a) ((bfsI n s a j).2 (rankN ((bfsI n s a j).1.getD j pid) n) + 1)
        have B3 := B2.add h1 h7 (hp.comp (hs.inv h7)) (d := (bfsI n s a j).2 (rankN ((bfsI n s a j).1.getD j pid) n) + 1) (by omega) (by omega)
        unfold bExp
        rw [if_pos hlt]
        rcases ht with rfl | rfl | rfl | rfl
        · exact bAdd_sub (bAdd_sub (bAdd_sub (bAdd_in hB (hp.comp hs))))
        · exact bAdd_sub (bAdd_sub (bAdd_in B1 (hp.comp ha)))
        · exact bAdd_sub (bAdd_in B2 (hp.comp (hs.inv h7)))
        · exact bAdd_in B3 (hp.comp (ha.inv h7))
    · exfalso
      by_cases hi : i < (bfsI n s a i).1.length
      · omega
      · have e : bfsI n s a (i + 1) = bfsI n s a i := by
          show bExp n s a i (bfsI n s a i) = _
          unfold bExp
          rw [if_neg hi]
        rw [e] at hj
        omega
theorem facN_le {n : Nat} (h7 : n ≤ 7) : facN n ≤ 5040 := (by decide +kernel : ∀ n, n < 8 → facN n ≤ 5040) n (by omega)
theorem bfs_BI {n : Nat} {s a : Nat → Nat} (h1 : 1 ≤ n) (h7 : n ≤ 7) (hs : Pm n s) (ha : Pm n a) : BI n (bfs n s a) := bfsI_BI h1 h7 hs ha 5040
/-- the list of the group is closed -/
theorem bfs_cl {n : Nat} {s a p : Nat → Nat} (h1 : 1 ≤ n) (h7 : n ≤ 7) (hs : Pm n s) (ha : Pm n a) (hp : p ∈ (bfs n s a).1) {t : Nat → Nat} (ht : t = s ∨ t = a ∨ t = pinv s ∨ t = pinv a) : pcomp p t ∈ (bfs n s a).1 := by
  obtain ⟨j, hj, e⟩ := at_mem (d := pid) hp
  have hl := (bfs_BI h1 h7 hs ha).len h1 h7
  have hf := facN_le h7
  have h := bfs_nb h1 h7 hs ha 5040 j (by omega) hj t ht
  have e2 : (bfsI n s a 5040).1.getD j pid = p := e
  rw [e2] at h
  exact h
theorem bfs_id {n : Nat} {s a : Nat → Nat} (h1 : 1 ≤ n) (h7 : n ≤ 7) (hs : Pm n s) (ha : Pm n a) : pid ∈ (bfs n s a).1 := by
  have key : ∀ i, pid ∈ (bfsI n s a i).1 := by
    intro i
    induction i with
    | zero => exact bAdd_in (BI.nil n) (pm_id n)
    | succ i ih => exact bExp_sub ih
  exact key 5040
theorem bfs_dist {n : Nat} {s a p : Nat → Nat} (h1 : 1 ≤ n) (h7 : n ≤ 7) (hs : Pm n s) (ha : Pm n a) (hp : p ∈ (bfs n s a).1) : 0 ≤ (bfs n s a).2 (rankN p n) := by
  have hB := bfs_BI h1 h7 hs ha
  have h1 := (hB.2.2.2 (rankN p n)).1
  have h2 : (bfs n s a).2 (rankN p n) ≠ -1 := fun e => (hB.2.2.1 p (hB.1 p hp)).mp e hp
  omega
theorem bfs_face {n : Nat} {s a p : Nat → Nat} (h1 : 1 ≤ n) (h7 : n ≤ 7) (hs : Pm n s) (ha : Pm n a) (hp : p ∈ (bfs n s a).1) : pcomp p (pface s a) ∈ (bfs n s a).1 ∧ pcomp p (pinv (pface s a)) ∈ (bfs n s a).1 := by
  have e1 : pface s a = pcomp (pinv a) (pinv s) := inv_comp h7 hs ha
  have e2 : pinv (pface s a) = pcomp s a := inv_inv h7 (hs.comp ha)
  refine ⟨?_, ?_⟩
  · rw [e1]
    exact bfs_cl h1 h7 hs ha (bfs_cl h1 h7 hs ha hp (t := pinv a) (Or.inr (Or.inr (Or.inr rfl)))) (t := pinv s) (Or.inr (Or.inr (Or.inl rfl)))
  · rw [e2]
    exact bfs_cl h1 h7 hs ha (bfs_cl h1 h7 hs ha hp (t := s) (Or.inl rfl)) (t := a) (Or.inr (Or.inl rfl))
theorem spI_mem {n : Nat} {s a : Nat → Nat} {T : Nat → Int} (h1 : 1 ≤ n) (h7 : n ≤ 7) (hs : Pm n s) (ha : Pm n a) {g : Nat → Nat} (hg : Pm n g) : ∀ m i f, f ∈ (bfs n s a).1 → spI s a T m i f = (hx g : Nat) → g ∈ (bfs n s a).1
  | 0, i, f, hf, e => by
    have hpf := (bfs_BI h1 h7 hs ha).1 f hf
    have e2 : f = g := (hx_inj hpf hg h7 h7).mp (by have e3 : (hx f : Int) = (hx g : Int) := e; omega)
    rw [← e2]; exact hf
  | m + 1, i, f, hf, e => by
    unfold spI at e
    by_cases h : letOk (T i)
    · rw [if_pos h] at e
      refine spI_mem h1 h7 hs ha hg m (i + 1) _ ?_ e
      obtain ⟨u1, u2⟩ := bfs_face h1 h7 hs ha hf
      unfold letF
      split
      · exact bfs_cl h1 h7 hs ha hf (Or.inl rfl)
      · split
        · exact bfs_cl h1 h7 hs ha hf (Or.inr (Or.inl rfl))
        · split
          · exact u1
          · split
            · exact bfs_cl h1 h7 hs ha hf (Or.inr (Or.inr (Or.inl rfl)))
            · split
              · exact bfs_cl h1 h7 hs ha hf (Or.inr (Or.inr (Or.inr rfl)))
              · exact u2
    · rw [if_neg h] at e
      omega
theorem hyp_MADE : MADE := by
  intro n s a T k g hV hg e
  have hm := spI_mem hV.1.1 hV.1.2 hV.2.1 hV.2.2 hg k 0 pid (bfs_id hV.1.1 hV.1.2 hV.2.1 hV.2.2) e
  have hd := bfs_dist hV.1.1 hV.1.2 hV.2.1 hV.2.2 hm
  unfold lenI
  rw [if_neg (by omega)]

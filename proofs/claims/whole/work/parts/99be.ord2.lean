/-! the order, told -/
section Cnt
variable {n : Nat} {G : (Nat → Nat) → Prop} {C : ChS} {P : List (Nat × Nat)}
noncomputable def ML (n : Nat) (C : ChS) (k : Nat) : List (Nat → Nat) := ((List.range (facN n)).map (pn n)).filter (fun r => @decide (Mk n C k r) (Classical.propDecidable _))
theorem al_nd (h1 : 1 ≤ n) (h7 : n ≤ 7) : ((List.range (facN n)).map (pn n)).Pairwise (fun x y => x ≠ y) := by
  rw [List.pairwise_map]
  refine (List.nodup_range (n := facN n)).imp_of_mem (fun {x y} hx hy hne e => hne ?_)
  rw [List.mem_range] at hx hy
  have x1 := (pn_at h1 h7 hx).2
  have y1 := (pn_at h1 h7 hy).2
  rw [← x1, e, y1]
theorem ml_nd (h1 : 1 ≤ n) (h7 : n ≤ 7) (C : ChS) (k : Nat) : (ML n C k).Pairwise (fun x y => x ≠ y) := by
  unfold ML
  exact (al_nd h1 h7).filter _
theorem ml_mem (h1 : 1 ≤ n) (h7 : n ≤ 7) (C : ChS) (k : Nat) (r : Nat → Nat) : r ∈ ML n C k ↔ Mk n C k r := by
  unfold ML
  rw [List.mem_filter]
  refine ⟨fun h => @of_decide_eq_true _ (Classical.propDecidable _) h.2, fun h => ⟨?_, @decide_eq_true _ (Classical.propDecidable _) h⟩⟩
  have q := pn_rank h1 h7 h.1
  exact List.mem_map.mpr ⟨rankN r n, List.mem_range.mpr q.1, q.2⟩
theorem wys_len (C : ChS) (k : Nat) : ∀ t, wysL C k t = 1 + ((List.range t).filter (fun t => (C.2 k (k + 1 + t)).isSome)).length
  | 0 => rfl
  | t + 1 => by
    show wysL C k t + _ = _
    rw [wys_len C k t, List.range_succ, List.filter_append, List.length_append]
    by_cases h : (C.2 k (k + 1 + t)).isSome = true
    · rw [if_pos h]; simp [h]; omega
    · rw [if_neg h]; simp [h]
def YL (C : ChS) (k : Nat) : List Nat := k :: ((List.range (7 - k)).filter (fun t => (C.2 k (k + 1 + t)).isSome)).map (fun t => k + 1 + t)
def tkF (C : ChS) (k y : Nat) : Nat → Nat := if y = k then pid else (C.2 k y).getD pid
theorem yl_tk (h7 : n ≤ 7) (h : TV n G C P) {k y : Nat} (hy : y ∈ YL C k) : TT C k (tkF C k y) ∧ tkF C k y k = y := by
  unfold tkF
  rcases List.mem_cons.mp hy with rfl | hy
  · rw [if_pos rfl]; exact ⟨Or.inl rfl, rfl⟩
  · obtain ⟨t, ht, rfl⟩ := List.mem_map.mp hy
    have hs := (List.mem_filter.mp ht).2
    rw [if_neg (by omega)]
    rcases ho : C.2 k (k + 1 + t) with _ | g
    · rw [ho] at hs; exact absurd hs (by decide)
    · exact ⟨Or.inr ⟨_, ho⟩, (h.2.2.1 _ _ _ ho).2.2.2.2⟩
theorem ml_step (h1 : 1 ≤ n) (h7 : n ≤ 7) (gp : ∀ g, G g → Pm n g) (h : TV n G C P) {k : Nat} (k1 : 1 ≤ k) (kn : k < n) : wysL C k (7 - k) * (ML n C (k + 1)).length = (ML n C k).length := by
  have hl : (YL C k).length = wysL C k (7 - k) := by
    rw [wys_len]
    unfold YL
    rw [List.length_cons, List.length_map]; omega
  have ttp : ∀ g, TT C k g → Pm n g := by
    rintro g (rfl | ⟨y, hy⟩)
    · exact pm_id n
    · exact gp g (h.2.2.1 k y g hy).2.1
  rw [← hl, ← sum_const]
  refine fib_sum (YL C k) (fun _ => ML n C (k + 1)) (ML n C k) (fun y m => pcomp m (tkF C k y)) ?_ (ml_nd h1 h7 C k) (fun _ _ => ml_nd h1 h7 C _) (fun y hy m hm => ?_) (fun y hy y' hy' m hm m' hm' e => ?_) (fun r hr => ?_)
  · refine List.pairwise_cons.mpr ⟨fun y hy e => ?_, ?_⟩
    · obtain ⟨t, -, rfl⟩ := List.mem_map.mp hy
      omega
    · rw [List.pairwise_map]
      exact (fl_nd _ _).imp (fun h e => h (by omega))
  · rw [ml_mem h1 h7] at hm ⊢
    exact Mk.mul h7 gp h kn k1 hm (yl_tk h7 h hy).1
  · rw [ml_mem h1 h7] at hm hm'
    obtain ⟨t1, t2⟩ := yl_tk h7 h hy
    obtain ⟨u1, u2⟩ := yl_tk h7 h hy'
    have e : pcomp m (tkF C k y) = pcomp m' (tkF C k y') := e
    have ek := congrFun e k
    have ek : tkF C k y (m k) = tkF C k y' (m' k) := ek
    rw [hm.2.1 k k1 (by omega), hm'.2.1 k k1 (by omega), t2, u2] at ek
    subst ek
    refine ⟨rfl, ?_⟩
    have hp := ttp _ t1
    funext x
    have ex := congrFun e x
    have ex : tkF C k y (m x) = tkF C k y (m' x) := ex
    rw [← hp.inv_f h7 (m x), ex, hp.inv_f h7]
  · rw [ml_mem h1 h7] at hr
    obtain ⟨m, g, a1, a2, rfl⟩ := Mk.dec h7 gp h k1 kn hr
    rcases id a2 with eg | ⟨y, hy⟩
    · refine ⟨k, List.mem_cons_self, m, (ml_mem h1 h7 C _ m).mpr a1, ?_⟩
      show pcomp m (tkF C k k) = _
      rw [eg]; unfold tkF; rw [if_pos rfl]
    · have hb := (h.2.2.1 k y g hy).1
      refine ⟨y, List.mem_cons_of_mem _ (List.mem_map.mpr ⟨y - (k + 1), List.mem_filter.mpr ⟨List.mem_range.mpr (by omega), ?_⟩, by omega⟩), m, (ml_mem h1 h7 C _ m).mpr a1, ?_⟩
      · rw [show k + 1 + (y - (k + 1)) = y by omega, hy]; rfl
      · show pcomp m (tkF C k y) = _
        unfold tkF
        rw [if_neg (by omega), hy]; rfl
theorem ml_fnd (h1 : 1 ≤ n) (h7 : n ≤ 7) (gp : ∀ g, G g → Pm n g) (h : TV n G C P) : ∀ j, j + 1 ≤ n → fndL C j * (ML n C (j + 1)).length = (ML n C 1).length
  | 0, _ => Nat.one_mul _
  | j + 1, hj => by
    have ih := ml_fnd h1 h7 gp h j (by omega)
    have st := ml_step h1 h7 gp h (k := j + 1) (by omega) (by omega)
    rw [show 7 - (j + 1) = 6 - j by omega] at st
    show fndL C j * wysL C (j + 1) (6 - j) * _ = _
    rw [Nat.mul_assoc, st, ih]
theorem ml_len (h1 : 1 ≤ n) (h7 : n ≤ 7) (gp : ∀ g, G g → Pm n g) (h : TV n G C P) : fndL C (n - 1) = (ML n C 1).length := by
  have e := ml_fnd h1 h7 gp h (n - 1) (by omega)
  rw [show n - 1 + 1 = n by omega] at e
  have a := nd_le (ML n C n) [pid] (ml_nd h1 h7 C n) (fun r hr => by
    rw [ml_mem h1 h7] at hr
    exact List.mem_singleton.mpr (fx_id hr.1 hr.2.1))
  have b := nd_le [pid] (ML n C n) (by simp) (fun r hr => by
    rw [List.mem_singleton.mp hr, ml_mem h1 h7]; exact Mk.one)
  have c : (ML n C n).length = 1 := by
    simp only [List.length_cons, List.length_nil] at a b
    omega
  rw [c, Nat.mul_one] at e
  exact e
theorem ml_inv (h1 : 1 ≤ n) (h7 : n ≤ 7) (hc : ∀ m q, Mk n C 1 m → Mk n C 1 q → Mk n C 1 (pcomp m q)) {t : Nat → Nat} (ht : Mk n C 1 t) : Mk n C 1 (pinv t) := by
  have h := nd_full (A := (ML n C 1).map (fun m => pcomp m t)) (B := ML n C 1) (by
    rw [List.pairwise_map]
    refine (ml_nd h1 h7 C 1).imp (fun {x y} hne e => hne ?_)
    funext z
    have ez := congrFun e z
    have ez : t (x z) = t (y z) := ez
    rw [← ht.1.inv_f h7 (x z), ez, ht.1.inv_f h7]) (fun x hx => by
    obtain ⟨m, hm, rfl⟩ := List.mem_map.mp hx
    rw [ml_mem h1 h7] at hm ⊢
    exact hc m t hm ht) (by rw [List.length_map]; exact Nat.le_refl _) (b := pid) ((ml_mem h1 h7 C 1 pid).mpr Mk.one)
  obtain ⟨m, hm, e⟩ := List.mem_map.mp h
  rw [ml_mem h1 h7] at hm
  have : pinv t = m := by
    funext x
    have ex := congrFun e x
    have ex : t (m x) = x := ex
    conv => lhs; rw [← ex]
    exact ht.1.inv_f h7 (m x)
  rw [this]; exact hm
theorem Mk.mono {D : ChS} (h : ChLe C D) {k : Nat} {r : Nat → Nat} (hr : Mk n C k r) : Mk n D k r := ⟨hr.1, hr.2.1, hr.2.2.mono h _ _⟩
abbrev QQ (n : Nat) (C : ChS) (i j : Nat) : Prop := Mk n C 1 (pcomp (C.1.getD i pid) (C.1.getD j pid))
def Nxt (C D : ChS) : Prop := ChLe C D ∧ C.1.length ≤ D.1.length ∧ ∀ j, j < C.1.length → D.1.getD j pid = C.1.getD j pid
theorem Nxt.tr {A B D : ChS} (h : Nxt A B) (g : Nxt B D) : Nxt A D := ⟨fun k y x e => g.1 _ _ _ (h.1 _ _ _ e), Nat.le_trans h.2.1 g.2.1, fun j hj => by rw [g.2.2 j (by have := h.2.1; omega), h.2.2 j hj]⟩
theorem Nxt.rf (A : ChS) : Nxt A A := ⟨fun _ _ _ e => e, Nat.le_refl _, fun _ _ => rfl⟩
theorem Nxt.q {D : ChS} (h : Nxt C D) {i j : Nat} (hi : i < C.1.length) (hj : j < C.1.length) (hq : QQ n C i j) : QQ n D i j := by
  unfold QQ
  rw [h.2.2 i hi, h.2.2 j hj]
  exact hq.mono h.1
theorem sft_ok (h1 : 1 ≤ n) (h7 : n ≤ 7) (gp : ∀ g, G g → Pm n g) (gm : ∀ p q, G p → G q → G (pcomp p q)) (gi : ∀ p, G p → G (pinv p)) (hJ : ∃ P, TV n G C P) {p : Nat → Nat} (hp : G p) : (∃ P, TV n G (sft n C p) P) ∧ Mk n (sft n C p) 1 p ∧ Nxt C (sft n C p) := by
  obtain ⟨P, h⟩ := hJ
  obtain ⟨a1, a2, a3⟩ := TV.sf h7 gp gm gi h (n - 1) 1 p hp (fun i i1 i2 => by omega) (Nat.le_refl 1) (by omega)
  exact ⟨a1, ⟨gp p hp, fun i i1 i2 => by omega, a2⟩, a3, sfL_pre _ _ _⟩
theorem chJ_ok (h1 : 1 ≤ n) (h7 : n ≤ 7) (gp : ∀ g, G g → Pm n g) (gm : ∀ p q, G p → G q → G (pcomp p q)) (gi : ∀ p, G p → G (pinv p)) (M : Int) (i : Nat) : ∀ m j C, (∃ P, TV n G C P) → i < C.1.length → j + m = i + 1 → (∀ j', j' < j → QQ n C i j' ∧ QQ n C j' i) → (∃ P, TV n G (chJ n M i m j C) P) ∧ Nxt C (chJ n M i m j C) ∧ (M ≤ ((chJ n M i m j C).1.length : Int) ∨ ∀ j', j' ≤ i → QQ n (chJ n M i m j C) i j' ∧ QQ n (chJ n M i m j C) j' i)
  | 0, j, C, hJ, _, hj, hq => ⟨hJ, Nxt.rf C, Or.inr (fun j' hj' => hq j' (by omega))⟩
  | m + 1, j, C, hJ, hi, hj, hq => by
    by_cases hM : (C.1.length : Int) < M
    · have gi' : ∀ D : ChS, (∃ P, TV n G D P) → ∀ x, x < D.1.length → G (D.1.getD x pid) := fun D ⟨P, h⟩ x hx => h.2.2.2 _ (getD_mem hx)
      have hj2 : j < C.1.length := by omega
      obtain ⟨a1, a2, a3⟩ := sft_ok h1 h7 gp gm gi hJ (gm _ _ (gi' C hJ i hi) (gi' C hJ j hj2))
      obtain ⟨C1, e1⟩ : ∃ C1, C1 = sft n C (pcomp (C.1.getD i pid) (C.1.getD j pid)) := ⟨_, rfl⟩
      rw [← e1] at a1 a2 a3
      have l1 := a3.2.1
      obtain ⟨b1, b2, b3⟩ := sft_ok h1 h7 gp gm gi a1 (gm _ _ (gi' C1 a1 j (by omega)) (gi' C1 a1 i (by omega)))
      obtain ⟨C2, e2⟩ : ∃ C2, C2 = sft n C1 (pcomp (C1.1.getD j pid) (C1.1.getD i pid)) := ⟨_, rfl⟩
      rw [← e2] at b1 b2 b3
      have nx := a3.tr b3
      have e : chJ n M i (m + 1) j C = chJ n M i m (j + 1) C2 := by
        simp only [chJ]
        rw [if_pos hM, ← e1, ← e2]
      rw [e]
      have l2 := b3.2.1
      have q1 : QQ n C2 i j := by
        unfold QQ
        rw [nx.2.2 i hi, nx.2.2 j hj2]
        exact a2.mono b3.1
      have q2 : QQ n C2 j i := by
        unfold QQ
        rw [b3.2.2 i (by omega), b3.2.2 j (by omega)]
        exact b2
      obtain ⟨c1, c2, c3⟩ := chJ_ok h1 h7 gp gm gi M i m (j + 1) C2 b1 (by omega) (by omega) (fun j' hj' => by
        by_cases q : j' = j
        · rw [q]; exact ⟨q1, q2⟩
        · have := hq j' (by omega)
          exact ⟨nx.q hi (by omega) this.1, nx.q (by omega) hi this.2⟩)
      exact ⟨c1, nx.tr c2, c3⟩
    · rw [chJ_stop hM]
      exact ⟨hJ, Nxt.rf C, Or.inl (by omega)⟩
theorem chI_ok (h1 : 1 ≤ n) (h7 : n ≤ 7) (gp : ∀ g, G g → Pm n g) (gm : ∀ p q, G p → G q → G (pcomp p q)) (gi : ∀ p, G p → G (pinv p)) (M : Int) : ∀ m i C, (∃ P, TV n G C P) → i + m = 21 → i ≤ C.1.length → (∀ i' j', i' < i → j' ≤ i' → QQ n C i' j' ∧ QQ n C j' i') → (∃ P, TV n G (chI n M m i C) P) ∧ Nxt C (chI n M m i C) ∧ (M ≤ ((chI n M m i C).1.length : Int) ∨ ∀ i' j', i' < (chI n M m i C).1.length → j' < (chI n M m i C).1.length → QQ n (chI n M m i C) i' j')
  | 0, i, C, hJ, hm, hi, hq => by
    refine ⟨hJ, Nxt.rf C, Or.inr (fun i' j' hi' hj' => ?_)⟩
    obtain ⟨P, h⟩ := hJ
    have hl := h.len h7
    show QQ n C i' j'
    have hi' : i' < C.1.length := hi'
    have hj' : j' < C.1.length := hj'
    rcases Nat.le_total j' i' with q | q
    · exact (hq i' j' (by omega) q).1
    · exact (hq j' i' (by omega) q).2
  | m + 1, i, C, hJ, hm, hi, hq => by
    by_cases hc : i < C.1.length ∧ (C.1.length : Int) < M
    · have e : chI n M (m + 1) i C = chI n M m (i + 1) (chJ n M i (i + 1) 0 C) := by
        simp only [chI]
        rw [if_pos hc]
      rw [e]
      obtain ⟨a1, a2, a3⟩ := chJ_ok h1 h7 gp gm gi M i (i + 1) 0 C hJ hc.1 (by omega) (fun j' hj' => by omega)
      obtain ⟨D, eD⟩ : ∃ D, D = chJ n M i (i + 1) 0 C := ⟨_, rfl⟩
      rw [← eD] at a1 a2 a3 ⊢
      have l1 := a2.2.1
      by_cases hM : M ≤ (D.1.length : Int)
      · rw [chI_stop (fun z => by omega)]
        exact ⟨a1, a2, Or.inl hM⟩
      · have a3 := a3.elim (fun z => absurd z hM) (fun z => z)
        obtain ⟨b1, b2, b3⟩ := chI_ok h1 h7 gp gm gi M m (i + 1) D a1 (by omega) (by omega) (fun i' j' hi' hj' => by
          by_cases q : i' = i
          · rw [q]; exact a3 j' (by omega)
          · have := hq i' j' (by omega) hj'
            exact ⟨a2.q (by omega) (by omega) this.1, a2.q (by omega) (by omega) this.2⟩)
        exact ⟨b1, a2.tr b2, b3⟩
    · rw [chI_stop hc]
      refine ⟨hJ, Nxt.rf C, ?_⟩
      by_cases hM : M ≤ (C.1.length : Int)
      · exact Or.inl hM
      · refine Or.inr (fun i' j' hi' hj' => ?_)
        have hl : C.1.length ≤ i := by omega
        rcases Nat.le_total j' i' with q | q
        · exact (hq i' j' (by omega) q).1
        · exact (hq j' i' (by omega) q).2
end Cnt
/-- the two last darts changed: out of order once -/
theorem swp_odd {n : Nat} {r : Nat → Nat} (h7 : n ≤ 7) (hr : Pm n r) (h2 : 2 ≤ n) (hf : Fx (n - 1) r) (h : r (n - 1) ≠ n - 1) : invN r % 2 = 1 := by
  have hu := fx_up hr hf (by omega) (by omega) h
  have e1 : r (n - 1) = n := by omega
  have e2 : r n = n - 1 := by
    have hb := hr.1 n (by omega) (Nat.le_refl _)
    rcases Nat.lt_or_ge (r n) (n - 1) with q | q
    · have := hf (r n) hb.1 q
      have := hr.2.1 _ _ hb.1 hb.2 (by omega) (Nat.le_refl n) this
      omega
    · by_cases q2 : r n = n
      · have := hr.2.1 (n - 1) n (by omega) (by omega) (by omega) (Nat.le_refl n) (by omega)
        omega
      · omega
  have v : r = fun i => if i = n - 1 then n else if i = n then n - 1 else i := by
    funext i
    by_cases q1 : i = n - 1
    · rw [if_pos q1, q1, e1]
    · by_cases q2 : i = n
      · rw [if_neg q1, if_pos q2, q2, e2]
      · rw [if_neg q1, if_neg q2]
        by_cases q : 1 ≤ i ∧ i ≤ n
        · exact hf i q.1 (by omega)
        · exact hr.2.2 i (by omega)
  rw [v]
  clear hr hf h hu e1 e2 v
  rcases (show n = 2 ∨ n = 3 ∨ n = 4 ∨ n = 5 ∨ n = 6 ∨ n = 7 by omega) with rfl | rfl | rfl | rfl | rfl | rfl <;> decide
theorem hyp_ORD : ORD := by
  intro n s a h1 h7 hs ha
  have gp : ∀ g, g ∈ (bfs n s a).1 → Pm n g := (bfs_BI h1 h7 hs ha).1
  have gm : ∀ p q, p ∈ (bfs n s a).1 → q ∈ (bfs n s a).1 → pcomp p q ∈ (bfs n s a).1 := fun p q hp hq => bfs_ind (n := n) (s := s) (a := a) (X := fun q => pcomp p q ∈ (bfs n s a).1) hp (fun q hq t ht => bfs_cl h1 h7 hs ha hq ht) 5040 q hq
  have g1 := bfs_id h1 h7 hs ha
  have gt : ∀ t, (t = s ∨ t = a ∨ t = pinv s ∨ t = pinv a) → t ∈ (bfs n s a).1 := fun t ht => bfs_cl h1 h7 hs ha g1 ht
  have tp : ∀ t, (t = s ∨ t = a ∨ t = pinv s ∨ t = pinv a) → Pm n t := fun t ht => gp t (gt t ht)
  have gi : ∀ p, p ∈ (bfs n s a).1 → pinv p ∈ (bfs n s a).1 := fun p hp => (bfs_ind (n := n) (s := s) (a := a) (X := fun q => Pm n q ∧ pinv q ∈ (bfs n s a).1) ⟨pm_id n, by
    have : pinv pid = pid := by funext x; exact (pm_id n).inv_f h7 x
    rw [this]; exact g1⟩ (fun q hq t ht => ⟨hq.1.comp (tp t ht), by
    rw [inv_comp h7 hq.1 (tp t ht)]
    refine gm _ _ ?_ hq.2
    rcases ht with rfl | rfl | rfl | rfl
    · exact gt _ (Or.inr (Or.inr (Or.inl rfl)))
    · exact gt _ (Or.inr (Or.inr (Or.inr rfl)))
    · rw [inv_inv h7 hs]; exact gt _ (Or.inl rfl)
    · rw [inv_inv h7 ha]; exact gt _ (Or.inr (Or.inl rfl))⟩) 5040 p hp).2
  obtain ⟨a1, a2, a3⟩ := sft_ok (G := fun g => g ∈ (bfs n s a).1) h1 h7 gp gm gi (C := chn0) ⟨[], TV.nil⟩ (gt s (Or.inl rfl))
  obtain ⟨b1, b2, b3⟩ := sft_ok (G := fun g => g ∈ (bfs n s a).1) h1 h7 gp gm gi a1 (gt a (Or.inr (Or.inl rfl)))
  obtain ⟨c1, c2, c3⟩ := chI_ok (G := fun g => g ∈ (bfs n s a).1) h1 h7 gp gm gi (mostI n s a) 21 0 _ b1 (by omega) (Nat.zero_le _) (fun i' j' hi' => by omega)
  have eC : chnC n s a = chI n (mostI n s a) 21 0 (sft n (sft n chn0 s) a) := rfl
  rw [← eC] at c1 c2 c3
  have ms : Mk n (chnC n s a) 1 s := (a2.mono b3.1).mono c2.1
  have ma : Mk n (chnC n s a) 1 a := b2.mono c2.1
  obtain ⟨P, hT⟩ := c1
  show fndL (chnC n s a) (n - 1) = _
  generalize chnC n s a = C at c3 ms ma hT
  rw [ml_len h1 h7 gp hT]
  have hin : ∀ q, q ∈ (bfs n s a).1 → Mk n C 1 q := by
    rcases c3 with c3 | c3
    · -- all but one at most are filled
      have hF : ∀ k r, r ∈ (bfs n s a).1 → Fx k r → 1 ≤ k → k < n → r k ≠ k → C.2 k (r k) ≠ none := by
        intro k r hr hf k1 kn hne
        have hu := fx_up (gp r hr) hf k1 (by omega) hne
        have hmem : (k, r k) ∈ SPos n := spos_mem.mpr ⟨k1, hu.1, hu.2⟩
        have hl := spos_len n (by omega)
        have hPl := hT.1.2
        rw [← hT.2.1 k (r k)]
        unfold mostI at c3
        by_cases hc : ((n : Int) - (ringsN s (full n) : Int)) % 2 = 0 ∧ ((n : Int) - (ringsN a (full n) : Int)) % 2 = 0
        · rw [if_pos hc, rings_full hs h7, rings_full ha h7] at *
          have ps := lst_sgn h1 h7 hs
          have pa := lst_sgn h1 h7 ha
          have es : invN s % 2 = 0 := by omega
          have ea : invN a % 2 = 0 := by omega
          have i0 : invN pid % 2 = 0 := by decide
          have einv : ∀ t, Pm n t → invN t % 2 = 0 → invN (pinv t) % 2 = 0 := fun t ht h0 => by
            have h := sgn_comp h7 ht (ht.inv h7)
            rw [pinv_comp_id h7 ht] at h
            omega
          have even : ∀ q, q ∈ (bfs n s a).1 → invN q % 2 = 0 := fun q hq => (bfs_ind (n := n) (s := s) (a := a) (X := fun q => Pm n q ∧ invN q % 2 = 0) ⟨pm_id n, i0⟩ (fun q hq t ht => ⟨hq.1.comp (tp t ht), by
            have h := sgn_comp h7 hq.1 (tp t ht)
            have ht0 : invN t % 2 = 0 := by
              rcases ht with rfl | rfl | rfl | rfl
              · exact es
              · exact ea
              · exact einv s hs es
              · exact einv a ha ea
            have hq2 := hq.2
            omega⟩) 5040 q hq).2
          have last : ∀ g, g ∈ (bfs n s a).1 → Fx (n - 1) g → g (n - 1) = n - 1 := fun g hg hfg => Classical.byContradiction (fun z => by
            have := swp_odd h7 (gp g hg) (by omega) hfg z
            have := even g hg
            omega)
          have hno : (n - 1, n) ∉ P := fun z => by
            have z1 := (hT.2.1 (n - 1) n).mp z
            rcases ho : C.2 (n - 1) n with _ | g
            · exact z1 ho
            · obtain ⟨d1, d2, d3, d4, d5⟩ := hT.2.2.1 _ _ _ ho
              have := last g d2 d4
              omega
          have hk : k ≠ n - 1 := fun z => by
            subst z
            exact hne (last r hr hf)
          have hfull := nd_full (A := P ++ [(n - 1, n)]) (B := SPos n) (by
            rw [List.pairwise_append]
            refine ⟨hT.1.1, by simp, fun x hx y hy e => ?_⟩
            rw [List.mem_singleton.mp hy] at e
            rw [e] at hx
            exact hno hx) (fun x hx => by
            rcases List.mem_append.mp hx with hx | hx
            · exact hT.sub x hx
            · rw [List.mem_singleton.mp hx]; exact spos_mem.mpr ⟨by omega, by omega, Nat.le_refl _⟩) (by
            rw [List.length_append, List.length_singleton]; omega) hmem
          rcases List.mem_append.mp hfull with z | z
          · exact z
          · exact absurd (congrArg Prod.fst (List.mem_singleton.mp z)) hk
        · rw [if_neg hc] at c3
          exact nd_full (A := P) (B := SPos n) hT.1.1 hT.sub (by omega) hmem
      intro q hq
      exact ⟨gp q hq, fun i i1 i2 => by omega, Sif.filled (G := fun g => g ∈ (bfs n s a).1) h7 gp gm gi hT hF (n - 1) 1 q hq (fun i i1 i2 => by omega) (Nat.le_refl 1) (by omega)⟩
    · have hc := Mk.closed h1 h7 gp hT (fun g q hg hq => by
        obtain ⟨i, hi, rfl⟩ := at_mem (d := pid) hg
        obtain ⟨j, hj, rfl⟩ := at_mem (d := pid) hq
        exact c3 i j hi hj) (n - 1) 1 (Nat.le_refl 1) (by omega)
      intro q hq
      refine bfs_ind (n := n) (s := s) (a := a) (X := fun q => Mk n C 1 q) Mk.one (fun q hq t ht => hc q t hq ?_) 5040 q hq
      rcases ht with rfl | rfl | rfl | rfl
      · exact ms
      · exact ma
      · exact ml_inv h1 h7 hc ms
      · exact ml_inv h1 h7 hc ma
  refine Nat.le_antisymm (nd_le _ _ (ml_nd h1 h7 C 1) (fun r hr => ?_)) (nd_le _ _ (bfs_BI h1 h7 hs ha).2.1 (fun r hr => ?_))
  · rw [ml_mem h1 h7] at hr
    exact Mk.inG (G := fun g => g ∈ (bfs n s a).1) h7 gp gm g1 hT (n - 1) 1 (Nat.le_refl 1) (by omega) r hr
  · rw [ml_mem h1 h7]
    exact hin r hr

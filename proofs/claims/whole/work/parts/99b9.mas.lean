/-! masses: orbits counted -/
theorem fib_sum {α β γ : Type} (A : List α) (B : α → List β) (C : List γ) (g : α → β → γ) (hA : A.Pairwise (fun x y => x ≠ y)) (hC : C.Pairwise (fun x y => x ≠ y)) (hB : ∀ a ∈ A, (B a).Pairwise (fun x y => x ≠ y)) (hin : ∀ a ∈ A, ∀ b ∈ B a, g a b ∈ C) (inj : ∀ a ∈ A, ∀ a' ∈ A, ∀ b ∈ B a, ∀ b' ∈ B a', g a b = g a' b' → a = a' ∧ b = b') (sur : ∀ c ∈ C, ∃ a ∈ A, ∃ b ∈ B a, g a b = c) : (A.map (fun a => (B a).length)).sum = C.length := by
  have hl : (A.flatMap (fun a => (B a).map (g a))).length = (A.map (fun a => (B a).length)).sum := by
    rw [List.length_flatMap]
    simp only [List.length_map]
  rw [← hl]
  refine Nat.le_antisymm (nd_le _ _ ?_ (fun x hx => ?_)) (nd_le _ _ hC (fun x hx => ?_))
  · rw [List.pairwise_flatMap]
    refine ⟨fun a ha => ?_, ?_⟩
    · rw [List.pairwise_map]
      exact (hB a ha).imp_of_mem (fun {x y} hx hy hxy e => hxy (inj a ha a ha x hx y hy e).2)
    · refine hA.imp_of_mem (fun {a b} ha hb hab x hx y hy e => hab ?_)
      obtain ⟨u, hu, rfl⟩ := List.mem_map.mp hx
      obtain ⟨v, hv, rfl⟩ := List.mem_map.mp hy
      exact (inj a ha b hb u hu v hv e).1
  · obtain ⟨a, ha, h⟩ := List.mem_flatMap.mp hx
    obtain ⟨b, hb, rfl⟩ := List.mem_map.mp h
    exact hin a ha b hb
  · obtain ⟨a, ha, b, hb, rfl⟩ := sur x hx
    exact List.mem_flatMap.mpr ⟨a, ha, List.mem_map.mpr ⟨b, hb, rfl⟩⟩
theorem sum_const {α : Type} (A : List α) (m : Nat) : (A.map (fun _ => m)).sum = A.length * m := by
  induction A with
  | nil => simp
  | cons x A ih => simp only [List.map_cons, List.sum_cons, List.length_cons, ih, Nat.succ_mul]; omega
theorem fl_nd (P : Nat → Bool) (k : Nat) : ((List.range k).filter P).Pairwise (fun x y => x ≠ y) := (List.nodup_range).filter _
theorem cntI_fl (P : Nat → Bool) (k : Nat) : cntI P k = ((List.range k).filter P).length := by
  induction k with
  | zero => rfl
  | succ k ih =>
    rw [List.range_succ, List.filter_append, List.length_append, ← ih, cntI_s]
    by_cases h : P k = true
    · rw [if_pos h]; simp [h]
    · rw [if_neg h]; simp [h]
theorem cntG_fl (P : (Nat → Nat) → Bool) (L : List (Nat → Nat)) : ∀ k, k ≤ L.length → cntG P L k = ((L.take k).filter P).length
  | 0, _ => by simp; rfl
  | k + 1, hk => by
    rw [cntG_s, cntG_fl P L k (by omega), List.take_succ, List.filter_append, List.length_append, List.getElem?_eq_getElem (show k < L.length by omega)]
    have e : L.getD k pid = L[k] := by rw [List.getD_eq_getElem?_getD, List.getElem?_eq_getElem (show k < L.length by omega)]; rfl
    rw [e]
    by_cases h : P L[k] = true
    · simp [h]
    · simp [h]
section Mas
variable {n : Nat} {s : Nat → Nat}
def stbL (n : Nat) (s a : Nat → Nat) : List (Nat → Nat) := (gathL n s s).filter (fun r => hx (pconj a r) == hx a)
def orbL (n : Nat) (s : Nat → Nat) (i : Nat) : List Nat := (List.range (facN n)).filter (fun j => (gathL n s s).any (fun r => rankN (pconj (pn n i) r) n == j))
theorem cen_nd (h7 : n ≤ 7) (hs : Pm n s) : (gathL n s s).Pairwise (fun x y => x ≠ y) := (gathL_sorted h7 hs hs).imp (fun {x y} h e => by rw [e] at h; omega)
theorem stb_nd (h7 : n ≤ 7) (hs : Pm n s) (a : Nat → Nat) : (stbL n s a).Pairwise (fun x y => x ≠ y) := (cen_nd h7 hs).filter _
theorem stb_len (a : Nat → Nat) : (stbL n s a).length = autN n s a := by
  unfold autN
  rw [cntG_fl _ _ _ (Nat.le_refl _), List.take_length]
  rfl
theorem stb_mem (h7 : n ≤ 7) (hs : Pm n s) {a : Nat → Nat} (ha : Pm n a) (r : Nat → Nat) : r ∈ stbL n s a ↔ (Pm n r ∧ pconj s r = s) ∧ pconj a r = a := by
  unfold stbL
  rw [List.mem_filter, cen_mem h7 hs, beq_iff_eq]
  constructor
  · rintro ⟨h, e⟩
    exact ⟨h, (hx_inj (Pm.conj h7 ha h.1) ha h7 h7).mp e⟩
  · rintro ⟨h, e⟩
    exact ⟨h, by rw [e]⟩
theorem orb_mem (h1 : 1 ≤ n) (h7 : n ≤ 7) (hs : Pm n s) {i : Nat} (hi : i < facN n) (j : Nat) : j ∈ orbL n s i ↔ Orb n s i j := by
  unfold orbL
  rw [List.mem_filter, List.mem_range, List.any_eq_true]
  constructor
  · rintro ⟨-, r, hr, e⟩
    exact ⟨r, hr, beq_iff_eq.mp e⟩
  · intro h
    obtain ⟨r, hr, e⟩ := id h
    exact ⟨(h.at h1 h7 hs hi).1, r, hr, beq_iff_eq.mpr e⟩
/-- an orbit by what stays is all that leaves s -/
theorem orb_stb (h1 : 1 ≤ n) (h7 : n ≤ 7) (hs : Pm n s) {k : Nat} (hk : k < facN n) : (orbL n s k).length * autN n s (pn n k) = (gathL n s s).length := by
  have hp := (pn_at h1 h7 hk).1
  have hr : ∀ j, ∃ r, Orb n s k j → (r ∈ gathL n s s ∧ pn n j = pconj (pn n k) r) := by
    intro j
    by_cases q : Orb n s k j
    · obtain ⟨-, r, h, e⟩ := q.at h1 h7 hs hk
      exact ⟨r, fun _ => ⟨h, e⟩⟩
    · exact ⟨pid, fun h => absurd h q⟩
  obtain ⟨rj, hrj⟩ := Classical.axiomOfChoice hr
  rw [← stb_len, ← sum_const]
  have val : ∀ j, Orb n s k j → ∀ u ∈ stbL n s (pn n k), (Pm n (pcomp u (rj j)) ∧ pconj s (pcomp u (rj j)) = s) ∧ pconj (pn n k) (pcomp u (rj j)) = pn n j := by
    intro j hj u hu
    obtain ⟨⟨u1, u2⟩, u3⟩ := (stb_mem h7 hs hp u).mp hu
    obtain ⟨r1, r2⟩ := hrj j hj
    obtain ⟨r3, r4⟩ := (cen_mem h7 hs _).mp r1
    refine ⟨⟨u1.comp r3, ?_⟩, ?_⟩
    · rw [← conj_conj h7 u1 r3, u2, r4]
    · rw [← conj_conj h7 u1 r3, u3, r2]
  refine fib_sum (orbL n s k) (fun _ => stbL n s (pn n k)) (gathL n s s) (fun j u => pcomp u (rj j)) (fl_nd _ _) (cen_nd h7 hs) (fun _ _ => stb_nd h7 hs _) (fun j hj u hu => ?_) (fun j hj j' hj' u hu u' hu' e => ?_) (fun c hc => ?_)
  · rw [orb_mem h1 h7 hs hk] at hj
    exact (cen_mem h7 hs _).mpr (val j hj u hu).1
  · rw [orb_mem h1 h7 hs hk] at hj hj'
    have e : pcomp u (rj j) = pcomp u' (rj j') := e
    have v1 := (val j hj u hu).2
    have v2 := (val j' hj' u' hu').2
    rw [e, v2] at v1
    have ej : j = j' := by
      have a1 := (pn_at h1 h7 (hj.at h1 h7 hs hk).1).2
      have a2 := (pn_at h1 h7 (hj'.at h1 h7 hs hk).1).2
      rw [← v1] at a1
      exact a1.symm.trans a2
    subst ej
    refine ⟨rfl, ?_⟩
    have r3 := ((cen_mem h7 hs _).mp (hrj j hj).1).1
    funext x
    have h := congrFun e x
    have h : rj j (u x) = rj j (u' x) := h
    rw [← r3.inv_f h7 (u x), h, r3.inv_f h7]
  · obtain ⟨c1, c2⟩ := (cen_mem h7 hs c).mp hc
    have ho : Orb n s k (rankN (pconj (pn n k) c) n) := ⟨c, hc, rfl⟩
    have hrk := pn_rank h1 h7 (Pm.conj h7 hp c1)
    refine ⟨rankN (pconj (pn n k) c) n, (orb_mem h1 h7 hs hk _).mpr ho, ?_⟩
    obtain ⟨r1, r2⟩ := hrj _ ho
    obtain ⟨r3, r4⟩ := (cen_mem h7 hs _).mp r1
    rw [hrk.2] at r2
    generalize rj (rankN (pconj (pn n k) c) n) = r at r1 r2 r3 r4 ⊢
    have hi := r3.inv h7
    refine ⟨pcomp c (pinv r), (stb_mem h7 hs hp _).mpr ⟨⟨c1.comp hi, ?_⟩, ?_⟩, ?_⟩
    · rw [← conj_conj h7 c1 hi, c2]
      conv => lhs; rw [← r4]
      rw [conj_conj h7 r3 hi, pinv_comp_id h7 r3, conj_id h7]
    · rw [← conj_conj h7 c1 hi, r2, conj_conj h7 r3 hi, pinv_comp_id h7 r3, conj_id h7]
    · funext x
      show r (pinv r (c x)) = c x
      exact r3.f_inv h7 (c x)
/-- the classes part what is counted -/
theorem cls_sum (h1 : 1 ≤ n) (h7 : n ≤ 7) (hs : Pm n s) (t2 t3 : Nat) : ((opnL n s t2 t3 (facN n)).map (fun k => (orbL n s k).length)).sum = cntI (tPC n s t2 t3) (facN n) := by
  rw [cntI_fl]
  have tc : ∀ i, tPC n s t2 t3 i = cndB n s t2 t3 (pn n i) := fun i => by
    unfold tPC tPA cndB
    cases kindN (pn n i) n == t2 <;> cases kindN (pcomp s (pn n i)) n == t3 <;> cases joinB s (pn n i) n <;> rfl
  have om : ∀ k, k ∈ opnL n s t2 t3 (facN n) → k < facN n ∧ opnB n s t2 t3 k = true := fun k hk => by
    unfold opnL at hk
    rw [List.mem_filter, List.mem_range] at hk
    exact hk
  refine fib_sum (opnL n s t2 t3 (facN n)) (orbL n s) ((List.range (facN n)).filter (tPC n s t2 t3)) (fun _ j => j) (fl_nd _ _) (fl_nd _ _) (fun _ _ => fl_nd _ _) (fun k hk j hj => ?_) (fun k hk k' hk' j hj j' hj' e => ?_) (fun c hc => ?_)
  · obtain ⟨k1, k2⟩ := om k hk
    rw [orb_mem h1 h7 hs k1] at hj
    rw [List.mem_filter, List.mem_range, tc]
    exact ⟨(hj.at h1 h7 hs k1).1, hj.cnd h1 h7 hs k1 (opnB_iff.mp k2).1⟩
  · obtain ⟨k1, k2⟩ := om k hk
    obtain ⟨k3, k4⟩ := om k' hk'
    rw [orb_mem h1 h7 hs k1] at hj
    rw [orb_mem h1 h7 hs k3] at hj'
    have e : j = j' := e
    subst e
    have jf := (hj.at h1 h7 hs k1).1
    have o1 := hj.tr h1 h7 hs k1 (hj'.sym h1 h7 hs k3)
    have o2 := hj'.tr h1 h7 hs k3 (hj.sym h1 h7 hs k1)
    exact ⟨Nat.le_antisymm ((opnB_iff.mp k2).2 _ o1) ((opnB_iff.mp k4).2 _ o2), rfl⟩
  · rw [List.mem_filter, List.mem_range, tc] at hc
    by_cases q : opnB n s t2 t3 c = true
    · refine ⟨c, List.mem_filter.mpr ⟨List.mem_range.mpr hc.1, q⟩, c, (orb_mem h1 h7 hs hc.1 c).mpr ?_, rfl⟩
      exact Orb.of h1 h7 hc.1 (r := pid) ((cen_mem h7 hs _).mpr ⟨pm_id n, conj_id h7 _⟩) (conj_id h7 _).symm
    · rw [opn_seen h1 h7 hs hc.1 hc.2] at q
      obtain ⟨i, i1, i2, i3⟩ := Classical.not_not.mp q
      exact ⟨i, List.mem_filter.mpr ⟨List.mem_range.mpr (by omega), i2⟩, c, (orb_mem h1 h7 hs (by omega) c).mpr i3, rfl⟩
/-- what leaves a joined map and fixes or agrees at one dart agrees everywhere -/
theorem aut_eq (h1 : 1 ≤ n) (h7 : n ≤ 7) (hs : Pm n s) {a r q : Nat → Nat} (ha : Pm n a) (hj : joinB s a n = true) (hr : Pm n r ∧ pconj s r = s ∧ pconj a r = a) (hq : Pm n q ∧ pconj s q = s ∧ pconj a q = a) {z : Nat} (z1 : 1 ≤ z) (zn : z ≤ n) (e : r z = q z) : r = q := by
  have com : ∀ {p r : Nat → Nat}, Pm n r → pconj p r = p → ∀ x, r (p x) = p (r x) := fun {p r} hr e x => by
    have h := congrFun e (r x)
    have h : r (p (pinv r (r x))) = p (r x) := h
    rwa [hr.inv_f h7] at h
  have rs := com hr.1 hr.2.1
  have ra := com hr.1 hr.2.2
  have qs := com hq.1 hq.2.1
  have qa := com hq.1 hq.2.2
  have all1 := (joinB_iff h1 h7 hs ha).mp hj
  have zr : hasb (reachN s a z) 1 := reach_sym (hs.mono h7) (ha.mono h7) (Nat.le_refl _) (by omega) z1 (by omega) (all1 z z1 zn)
  have sp := (reach_spec (hs.b7 h7) (ha.b7 h7) z1 (by omega)).2.2
  funext x
  by_cases hx : 1 ≤ x ∧ x ≤ n
  · have h := sp (fun y => r y = q y) e (fun y _ _ h => by
      have h : r y = q y := h
      constructor
      · show r (s y) = q (s y)
        rw [rs, qs, h]
      · show r (a y) = q (a y)
        rw [ra, qa, h])
    exact h x hx.1 (by omega) (reach_tr (hs.b7 h7) (ha.b7 h7) z1 (by omega) (Nat.le_refl _) (by omega) hx.1 (by omega) zr (all1 x hx.1 hx.2))
  · rw [hr.1.2.2 x (by omega), hq.1.2.2 x (by omega)]
theorem aut_le (h1 : 1 ≤ n) (h7 : n ≤ 7) (hs : Pm n s) {a : Nat → Nat} (ha : Pm n a) (hj : joinB s a n = true) : autN n s a ≤ n := by
  have h := nd_le ((stbL n s a).map (fun r => r 1)) ((List.range n).map (fun i => i + 1)) (by
    rw [List.pairwise_map]
    refine (stb_nd h7 hs a).imp_of_mem (fun {r q} hr hq hne e => hne ?_)
    have r1 := (stb_mem h7 hs ha r).mp hr
    have q1 := (stb_mem h7 hs ha q).mp hq
    exact aut_eq h1 h7 hs ha hj ⟨r1.1.1, r1.1.2, r1.2⟩ ⟨q1.1.1, q1.1.2, q1.2⟩ (Nat.le_refl 1) h1 e) (fun x hx => by
    obtain ⟨r, hr, rfl⟩ := List.mem_map.mp hx
    have r1 := ((stb_mem h7 hs ha r).mp hr).1.1.1 1 (Nat.le_refl 1) h1
    exact List.mem_map.mpr ⟨r 1 - 1, by rw [List.mem_range]; omega, by omega⟩)
  rwa [List.length_map, List.length_map, List.length_range, stb_len] at h
end Mas
theorem cen_size : ∀ n, n < 8 → 1 ≤ n → ∀ i, i < kmany n → (gathL n (leastF (kT n i) n) (leastF (kT n i) n)).length * membersN (kT n i) n = facN n := by decide +kernel
theorem div420 : ∀ a, a < 8 → 1 ≤ a → 420 / a * a = 420 := by decide
theorem masN_sum (n : Nat) (S : Nat → Nat) (L : List Nat) : ∀ k, k ≤ L.length → masN n S L k = ((L.take k).map (fun k => 420 / autN n S (pn n k))).sum
  | 0, _ => by simp; rfl
  | k + 1, hk => by
    rw [List.take_succ, List.getElem?_eq_getElem (show k < L.length by omega)]
    have e : L.getD k 0 = L[k] := by rw [List.getD_eq_getElem?_getD, List.getElem?_eq_getElem (show k < L.length by omega)]; rfl
    show masN n S L k + 420 / autN n S (pn n (L.getD k 0)) = _
    rw [masN_sum n S L k (by omega), e, List.map_append, List.sum_append]
    simp only [Option.toList_some, List.map_cons, List.map_nil, List.sum_cons, List.sum_nil, Nat.add_zero]
theorem sum_mul (L : List Nat) (f g : Nat → Nat) (a b : Nat) (h : ∀ k ∈ L, f k * a = b * g k) : (L.map f).sum * a = b * (L.map g).sum := by
  induction L with
  | nil => simp
  | cons x L ih =>
    simp only [List.map_cons, List.sum_cons, Nat.add_mul, Nat.mul_add]
    rw [h x List.mem_cons_self, ih (fun k hk => h k (List.mem_cons_of_mem _ hk))]
theorem hyp_MAS : MAS := by
  intro n i1 i2 i3 h1 h7 k1 k2 k3
  have hs := lp_pm h7 k1
  have hz := cen_size n (by omega) h1 i1 k1
  have e : (conI n i1 i2 i3).toNat = membersN (kT n i1) n * cntI (tPC n (leastF (kT n i1) n) (kT n i2) (kT n i3)) (facN n) := by
    unfold conI
    rw [← Int.natCast_mul, Int.toNat_natCast]
  rw [e, masN_sum _ _ _ _ (Nat.le_refl _), List.take_length, ← cls_sum h1 h7 hs, ← Nat.mul_assoc]
  refine sum_mul _ _ _ _ _ (fun k hk => ?_)
  have hk : k ∈ opnL n (leastF (kT n i1) n) (kT n i2) (kT n i3) (facN n) := hk
  unfold opnL at hk
  rw [List.mem_filter, List.mem_range] at hk
  have hp := (pn_at h1 h7 hk.1).1
  have hc := (opnB_iff.mp hk.2).1
  have hj : joinB (leastF (kT n i1) n) (pn n k) n = true := by
    unfold cndB at hc
    simp only [Bool.and_eq_true] at hc
    exact hc.2.1
  have ho := orb_stb h1 h7 hs hk.1
  have hd := div420 (autN n (leastF (kT n i1) n) (pn n k)) (by have := aut_le h1 h7 hs hp hj; omega) (autN_1 h7 hs)
  rw [← hz, ← ho]
  generalize autN n (leastF (kT n i1) n) (pn n k) = A at hd ⊢
  generalize (orbL n (leastF (kT n i1) n) k).length = O
  generalize membersN (kT n i1) n = M
  calc 420 / A * (O * A * M) = (420 / A * A) * (M * O) := by simp only [Nat.mul_assoc, Nat.mul_left_comm, Nat.mul_comm]
    _ = 420 * M * O := by rw [hd, Nat.mul_assoc]

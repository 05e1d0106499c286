/-! at most sixty-four classes of three types: told -/
theorem cnt_zip (f g : Nat → Nat) (a b : Nat) : ∀ l : List Nat, l.countP (fun c => f c == a && g c == b) = ((l.map f).zip (l.map g)).countP (fun q => q.1 == a && q.2 == b)
  | [] => rfl
  | c :: l => by
    rw [List.map_cons, List.map_cons, List.zip_cons_cons, List.countP_cons, List.countP_cons, cnt_zip f g a b l]
theorem cntI_mono {P Q : Nat → Bool} (h : ∀ i, P i = true → Q i = true) : ∀ k, cntI P k ≤ cntI Q k
  | 0 => Nat.le_refl _
  | k + 1 => by
    have ih := cntI_mono h k
    rw [cntI_s, cntI_s]
    by_cases q : P k = true
    · rw [if_pos q, if_pos (h k q)]; omega
    · rw [if_neg q]; omega
theorem sum_ge (L : List Nat) (g : Nat → Nat) (c u : Nat) (h : ∀ k ∈ L, c ≤ g k * u) : L.length * c ≤ (L.map g).sum * u := by
  induction L with
  | nil => simp
  | cons x L ih =>
    have h1 := h x List.mem_cons_self
    have h2 := ih (fun k hk => h k (List.mem_cons_of_mem _ hk))
    rw [List.map_cons, List.sum_cons, List.length_cons, Nat.add_mul, Nat.add_mul]
    omega
theorem sum_ge2 (L : List Nat) (g : Nat → Nat) (b : Nat → Bool) (c : Nat) (h : ∀ k ∈ L, b k = false → c ≤ g k) : L.length * c ≤ (L.map g).sum + (L.filter b).length * c := by
  induction L with
  | nil => simp
  | cons x L ih =>
    have h2 := ih (fun k hk => h k (List.mem_cons_of_mem _ hk))
    rw [List.map_cons, List.sum_cons, List.length_cons, Nat.add_mul]
    by_cases q : b x = true
    · rw [List.filter_cons_of_pos q, List.length_cons, Nat.add_mul]; omega
    · have h1 := h x List.mem_cons_self (by simpa using q)
      rw [List.filter_cons_of_neg q]; omega
section Op
variable {n : Nat}
theorem op_of {s : Nat → Nat} {t2 t3 k : Nat} (hk : k ∈ opnL n s t2 t3 (facN n)) : k < facN n ∧ opnB n s t2 t3 k = true := by
  unfold opnL at hk
  rw [List.mem_filter, List.mem_range] at hk
  exact hk
theorem op_j {s : Nat → Nat} {t2 t3 k : Nat} (hk : opnB n s t2 t3 k = true) : joinB s (pn n k) n = true := by
  have hc := (opnB_iff.mp hk).1
  unfold cndB at hc
  simp only [Bool.and_eq_true] at hc
  exact hc.2.1
theorem op_u (h1 : 1 ≤ n) (h7 : n ≤ 7) {i1 t2 t3 u A : Nat} (k1 : i1 < kmany n) (hu : ∀ k ∈ opnL n (leastF (kT n i1) n) t2 t3 (facN n), autN n (leastF (kT n i1) n) (pn n k) ≤ u) (hA : cntI (tPC n (leastF (kT n i1) n) t2 t3) (facN n) ≤ A) (hb : u * A * membersN (kT n i1) n ≤ 64 * facN n) : (opnL n (leastF (kT n i1) n) t2 t3 (facN n)).length ≤ 64 := by
  have hs := lp_pm h7 k1
  have hz := cen_size n (by omega) h1 i1 k1
  have h := sum_ge (opnL n (leastF (kT n i1) n) t2 t3 (facN n)) (fun k => (orbL n (leastF (kT n i1) n) k).length) (gathL n (leastF (kT n i1) n) (leastF (kT n i1) n)).length u (fun k hk => by
    rw [← orb_stb h1 h7 hs (op_of hk).1]
    exact Nat.mul_le_mul_left _ (hu k hk))
  rw [cls_sum h1 h7 hs] at h
  have h2 := Nat.mul_le_mul_right (membersN (kT n i1) n) h
  rw [Nat.mul_assoc, hz] at h2
  have h3 : cntI (tPC n (leastF (kT n i1) n) t2 t3) (facN n) * u * membersN (kT n i1) n ≤ u * A * membersN (kT n i1) n := by
    rw [Nat.mul_comm u A]
    exact Nat.mul_le_mul_right _ (Nat.mul_le_mul_right _ hA)
  have hf : 0 < facN n := by
    rcases (show n = 1 ∨ n = 2 ∨ n = 3 ∨ n = 4 ∨ n = 5 ∨ n = 6 ∨ n = 7 by omega) with rfl | rfl | rfl | rfl | rfl | rfl | rfl <;> decide
  exact Nat.le_of_mul_le_mul_right (Nat.le_trans h2 (Nat.le_trans h3 hb)) hf
theorem A_m2 (h1 : 1 ≤ n) (h7 : n ≤ 7) (s : Nat → Nat) {i2 : Nat} (k2 : i2 < kmany n) (t3 : Nat) : cntI (tPC n s (kT n i2) t3) (facN n) ≤ membersN (kT n i2) n := by
  rw [← hyp_OPSZ n i2 h1 h7 k2]
  refine cntI_mono (fun i h => ?_) _
  unfold tPC tPA at h
  simp only [Bool.and_eq_true] at h
  exact h.1.1
theorem A_m23 (h1 : 1 ≤ n) (h7 : n ≤ 7) (s : Nat → Nat) (t2 t3 : Nat) : cntI (tPC n s t2 t3) (facN n) ≤ (PH n).countP (fun c => kindN (dg c) n == t2 && kindN (pcomp s (dg c)) n == t3) := by
  have hl := (ph_chk n (by omega) h1).2.1
  have h := cntI_take (PH n) (fun c => kindN (dg c) n == t2 && kindN (pcomp s (dg c)) n == t3) (facN n) (by omega)
  rw [← hl, List.take_length] at h
  rw [← h, ← hl]
  refine cntI_mono (fun i h => ?_) _
  unfold tPC tPA at h
  simp only [Bool.and_eq_true] at h
  simp only [Bool.and_eq_true]
  exact h.1
theorem pw_stb (h7 : n ≤ 7) {s a r : Nat → Nat} (hr : Pm n r) (hs : pconj s r = s) (ha : pconj a r = a) : ∀ j, Pm n (fun y => pstep r j y) ∧ pconj s (fun y => pstep r j y) = s ∧ pconj a (fun y => pstep r j y) = a
  | 0 => ⟨pm_id n, conj_id h7 _, conj_id h7 _⟩
  | j + 1 => by
    obtain ⟨p1, p2, p3⟩ := pw_stb h7 hr hs ha j
    have e : (fun y => pstep r (j + 1) y) = pcomp r (fun y => pstep r j y) := rfl
    rw [e]
    refine ⟨hr.comp p1, ?_, ?_⟩
    · rw [← conj_conj h7 hr p1, hs, p2]
    · rw [← conj_conj h7 hr p1, ha, p3]
end Op
theorem all_id {r : Nat → Nat} (hr : Pm 7 r) : seven.all (fun x => r x == x) = true ↔ r = pid := by
  rw [List.all_eq_true]
  constructor
  · intro h
    funext x
    by_cases q : 1 ≤ x ∧ x ≤ 7
    · exact beq_iff_eq.mp (h x (by unfold seven; simp only [List.mem_cons, List.not_mem_nil, or_false]; omega))
    · exact hr.2.2 x (by omega)
  · intro h x _
    rw [h]; exact beq_self_eq_true _
theorem aut_1 {i : Nat} (hi : i < 15) (h0 : i ≠ 0) (h14 : i ≠ 14) {a : Nat → Nat} (ha : Pm 7 a) (hj : joinB (leastF (kT 7 i) 7) a 7 = true) : autN 7 (leastF (kT 7 i) 7) a ≤ 1 := by
  have hs := lp_pm (n := 7) (Nat.le_refl _) (show i < kmany 7 from hi)
  have hq := List.all_eq_true.mp (fixq i hi h0 h14)
  have h := nd_le (stbL 7 (leastF (kT 7 i) 7) a) [pid] (stb_nd (Nat.le_refl _) hs a) (fun r hr => by
    obtain ⟨⟨r1, r2⟩, r3⟩ := (stb_mem (Nat.le_refl _) hs ha r).mp hr
    have c := hq r ((cen_mem (Nat.le_refl _) hs r).mpr ⟨r1, r2⟩)
    rw [List.mem_singleton]
    rw [Bool.or_eq_true] at c
    rcases c with c | c
    · exact (all_id r1).mp c
    · exfalso
      rw [List.any_eq_true] at c
      obtain ⟨j, -, c⟩ := c
      rw [Bool.and_eq_true, List.any_eq_true] at c
      obtain ⟨⟨x, hx, c1⟩, c2⟩ := c
      have hx : 1 ≤ x ∧ x ≤ 7 := by
        unfold seven at hx; simp only [List.mem_cons, List.not_mem_nil, or_false] at hx; omega
      obtain ⟨p1, p2, p3⟩ := pw_stb (n := 7) (Nat.le_refl _) r1 r2 r3 j
      have e := aut_eq (n := 7) (by decide) (Nat.le_refl _) hs ha hj ⟨p1, p2, p3⟩ ⟨pm_id 7, conj_id (n := 7) (Nat.le_refl _) _, conj_id (n := 7) (Nat.le_refl _) _⟩ hx.1 hx.2 (beq_iff_eq.mp c1)
      have e2 := (all_id p1).mpr e
      rw [e2] at c2
      exact absurd c2 (by decide))
  rwa [stb_len] at h
theorem A_y {i1 i2 i3 : Nat} (hi : i1 < 15) (h3 : i3 < 15) (hc : S7L.any (fun S => S.1 == i1 && S.2.2.contains (kT 7 i2)) = true) : cntI (tPC 7 (leastF (kT 7 i1) 7) (kT 7 i2) (kT 7 i3)) (facN 7) * membersN (kT 7 i1) 7 ≤ 287280 := by
  rw [List.any_eq_true] at hc
  obtain ⟨⟨i, S, T⟩, hS, hc⟩ := hc
  rw [Bool.and_eq_true] at hc
  obtain ⟨e1, e2⟩ := hc
  have e1 : i = i1 := beq_iff_eq.mp e1
  have e2 : T.contains (kT 7 i2) = true := e2
  subst e1
  have hs := beq_iff_eq.mp (List.all_eq_true.mp y7s _ hS)
  have hs : hx (leastF (kT 7 i) 7) = S := hs
  have ed := lp_dg (n := 7) (Nat.le_refl _) (show i < kmany 7 from hi)
  rw [hs] at ed
  have b := List.all_eq_true.mp (List.all_eq_true.mp (List.all_eq_true.mp y7 _ hS) (kT 7 i2) (List.contains_iff_mem.mp e2)) i3 (List.mem_range.mpr h3)
  have b := Nat.le_of_ble_eq_true b
  rw [cnt_fil _ _ (fun v hv => by
    have hk := y7k i3 h3
    rw [beq_iff_eq] at hv ⊢
    rw [hv]
    show ((i * 10000 + kT 7 i2) * 10000000 + kT 7 i3) / 10000000 = i * 10000 + kT 7 i2
    omega)] at b
  refine Nat.le_trans (Nat.mul_le_mul_right _ ?_) b
  have m := A_m23 (n := 7) (by decide) (Nat.le_refl _) (leastF (kT 7 i) 7) (kT 7 i2) (kT 7 i3)
  rw [ph7, ed] at m
  rw [ed]
  exact Nat.le_trans m (yt_0 hS e2)
/-- the cycle of all: what commutes with it is of its powers -/
theorem bad_7 {S : Nat → Nat} (hs : Pm 7 S) (hC : (gathL 7 S S).length = 7) {t2 t3 : Nat} : ((opnL 7 S t2 t3 (facN 7)).filter (fun k => autN 7 S (pn 7 k) != 1)).length ≤ 7 := by
  have h := nd_le (((opnL 7 S t2 t3 (facN 7)).filter (fun k => autN 7 S (pn 7 k) != 1)).map (pn 7)) (gathL 7 S S) (by
    rw [List.pairwise_map]
    have hn : ((opnL 7 S t2 t3 (facN 7)).filter (fun k => autN 7 S (pn 7 k) != 1)).Pairwise (fun x y => x ≠ y) := by
      unfold opnL
      exact (fl_nd _ _).filter _
    refine hn.imp_of_mem (fun {x y} hx hy hne e => hne ?_)
    have x1 := (pn_at (n := 7) (by decide) (Nat.le_refl _) (op_of (List.mem_filter.mp hx).1).1).2
    have y1 := (pn_at (n := 7) (by decide) (Nat.le_refl _) (op_of (List.mem_filter.mp hy).1).1).2
    rw [← x1, e, y1]) (fun p hp => by
    obtain ⟨k, hk, rfl⟩ := List.mem_map.mp hp
    obtain ⟨k1, k2⟩ := List.mem_filter.mp hk
    obtain ⟨k3, k4⟩ := op_of k1
    have hp := (pn_at (n := 7) (by decide) (Nat.le_refl _) k3).1
    have hj := op_j k4
    have a1 := autN_1 (A := pn 7 k) (Nat.le_refl 7) hs
    have a7 := aut_le (n := 7) (by decide) (Nat.le_refl _) hs hp hj
    have ho := orb_stb (n := 7) (by decide) (Nat.le_refl _) hs k3
    rw [hC] at ho
    have hne : autN 7 S (pn 7 k) ≠ 1 := by simpa using k2
    have hl : (orbL 7 S k).length = 1 := by
      generalize autN 7 S (pn 7 k) = A at a1 a7 ho hne
      generalize (orbL 7 S k).length = O at ho
      rcases (show A = 2 ∨ A = 3 ∨ A = 4 ∨ A = 5 ∨ A = 6 ∨ A = 7 by omega) with rfl | rfl | rfl | rfl | rfl | rfl <;> omega
    have hSC : S ∈ gathL 7 S S := (cen_mem (Nat.le_refl _) hs S).mpr ⟨hs, conj_self (n := 7) (Nat.le_refl _) hs⟩
    have o1 : Orb 7 S k (rankN (pconj (pn 7 k) S) 7) := ⟨S, hSC, rfl⟩
    have o2 : Orb 7 S k k := Orb.of (by decide) (Nat.le_refl _) k3 (r := pid) ((cen_mem (Nat.le_refl _) hs _).mpr ⟨pm_id 7, conj_id (n := 7) (Nat.le_refl _) _⟩) (conj_id (n := 7) (Nat.le_refl _) _).symm
    have m1 := (orb_mem (n := 7) (by decide) (Nat.le_refl _) hs k3 _).mpr o1
    have m2 := (orb_mem (n := 7) (by decide) (Nat.le_refl _) hs k3 _).mpr o2
    have eq : rankN (pconj (pn 7 k) S) 7 = k := by
      obtain ⟨z, hz⟩ := List.length_eq_one_iff.mp hl
      rw [hz, List.mem_singleton] at m1 m2
      rw [m1, m2]
    have hr := (pn_rank (n := 7) (by decide) (Nat.le_refl _) (Pm.conj (Nat.le_refl 7) hp hs)).2
    rw [eq] at hr
    refine (cen_mem (Nat.le_refl _) hs _).mpr ⟨hp, ?_⟩
    funext x
    show pn 7 k (S (pinv (pn 7 k) x)) = S x
    have h := congrFun hr (S (pinv (pn 7 k) x))
    have h : pn 7 k (S (pinv (pn 7 k) x)) = S (pn 7 k (pinv S (S (pinv (pn 7 k) x)))) := h
    rw [h, hs.inv_f (Nat.le_refl _), hp.f_inv (Nat.le_refl _)])
  rw [List.length_map, hC] at h
  exact h
theorem hyp_OP64 : OP64 := by
  intro n i1 i2 i3 h1 h7 k1 k2 k3
  have hs := lp_pm h7 k1
  have hn : ∀ k ∈ opnL n (leastF (kT n i1) n) (kT n i2) (kT n i3) (facN n), autN n (leastF (kT n i1) n) (pn n k) ≤ n := fun k hk => aut_le h1 h7 hs (pn_at h1 h7 (op_of hk).1).1 (op_j (op_of hk).2)
  by_cases h5 : n < 6
  · exact op_u h1 h7 k1 hn (A_m2 h1 h7 _ k2 _) (y5c n h5 h1 i1 k1 i2 k2)
  rcases (show n = 6 ∨ n = 7 by omega) with rfl | rfl
  · have c := List.all_eq_true.mp (List.all_eq_true.mp y6c i1 (List.mem_range.mpr k1)) i2 (List.mem_range.mpr k2)
    rw [Bool.or_eq_true] at c
    rcases c with c | c
    · exact op_u h1 h7 k1 hn (A_m2 h1 h7 _ k2 _) (Nat.le_of_ble_eq_true c)
    · have fin : ∀ (S : Nat) (L : List Nat), hx (leastF (kT 6 i1) 6) = S → (PH 6).map (fun c => kindN (pcomp (dg S) (dg c)) 6) = L → z6 i1 L = true → (opnL 6 (leastF (kT 6 i1) 6) (kT 6 i2) (kT 6 i3) (facN 6)).length ≤ 64 := by
        intro S L e1 e2 e3
        have ed := lp_dg (n := 6) h7 k1
        rw [e1] at ed
        have m := A_m23 (n := 6) h1 h7 (leastF (kT 6 i1) 6) (kT 6 i2) (kT 6 i3)
        rw [cnt_zip (fun c => kindN (dg c) 6) (fun c => kindN (pcomp (leastF (kT 6 i1) 6) (dg c)) 6), km6, ed, e2, ← ed] at m
        exact op_u h1 h7 k1 hn m (Nat.le_of_ble_eq_true (List.all_eq_true.mp (List.all_eq_true.mp e3 i2 (List.mem_range.mpr k2)) i3 (List.mem_range.mpr k3)))
      simp only [Bool.or_eq_true, beq_iff_eq] at c
      rcases c with rfl | rfl | rfl | rfl | rfl
      · exact fin _ _ yd_7 ys_7 z6_7
      · exact fin _ _ yd_5 ys_5 z6_5
      · exact fin _ _ yd_8 ys_8 z6_8
      · exact fin _ _ yd_4 ys_4 z6_4
      · exact fin _ _ yd_10 ys_10 z6_10
  · have k1' : i1 < 15 := k1
    have k2' : i2 < 15 := k2
    have k3' : i3 < 15 := k3
    by_cases h0 : i1 = 0
    · subst h0
      exact op_u h1 h7 k1 hn (A := 5040) (cntI_le _ _) (by decide +kernel)
    have c := List.all_eq_true.mp y7c i1 (List.mem_range.mpr k1')
    rw [Bool.or_eq_true, beq_iff_eq] at c
    have c := List.all_eq_true.mp (c.elim (fun z => absurd z h0) id) i2 (List.mem_range.mpr k2')
    rw [Bool.or_eq_true] at c
    by_cases h14 : i1 = 14
    · subst h14
      have hA : cntI (tPC 7 (leastF (kT 7 14) 7) (kT 7 i2) (kT 7 i3)) (facN 7) * membersN (kT 7 14) 7 ≤ 287280 := by
        rcases c with c | c
        · exact Nat.le_trans (Nat.mul_le_mul_right _ (A_m2 h1 h7 _ k2 _)) (Nat.le_of_ble_eq_true c)
        · exact A_y k1' k3' c
      have hm : membersN (kT 7 14) 7 = 720 := by decide +kernel
      have hz := cen_size 7 (by decide) h1 14 k1
      have hf : facN 7 = 5040 := rfl
      rw [hm] at hz hA
      rw [hf] at hz
      have hC : (gathL 7 (leastF (kT 7 14) 7) (leastF (kT 7 14) 7)).length = 7 := by
        generalize (gathL 7 (leastF (kT 7 14) 7) (leastF (kT 7 14) 7)).length = g at hz
        omega
      have hb := bad_7 hs hC (t2 := kT 7 i2) (t3 := kT 7 i3)
      have h := sum_ge2 (opnL 7 (leastF (kT 7 14) 7) (kT 7 i2) (kT 7 i3) (facN 7)) (fun k => (orbL 7 (leastF (kT 7 14) 7) k).length) (fun k => autN 7 (leastF (kT 7 14) 7) (pn 7 k) != 1) 7 (fun k hk hb => by
        have ho := orb_stb h1 h7 hs (op_of hk).1
        have e : autN 7 (leastF (kT 7 14) 7) (pn 7 k) = 1 := by simpa using hb
        rw [hC, e, Nat.mul_one] at ho
        exact Nat.le_of_eq ho.symm)
      rw [cls_sum h1 h7 hs] at h
      generalize (opnL 7 (leastF (kT 7 14) 7) (kT 7 i2) (kT 7 i3) (facN 7)).length = L at h ⊢
      generalize ((opnL 7 (leastF (kT 7 14) 7) (kT 7 i2) (kT 7 i3) (facN 7)).filter (fun k => autN 7 (leastF (kT 7 14) 7) (pn 7 k) != 1)).length = B at h hb
      generalize cntI (tPC 7 (leastF (kT 7 14) 7) (kT 7 i2) (kT 7 i3)) (facN 7) = A at h hA
      omega
    · have hu : ∀ k ∈ opnL 7 (leastF (kT 7 i1) 7) (kT 7 i2) (kT 7 i3) (facN 7), autN 7 (leastF (kT 7 i1) 7) (pn 7 k) ≤ 1 := fun k hk => aut_1 k1' h0 h14 (pn_at h1 h7 (op_of hk).1).1 (op_j (op_of hk).2)
      have hf : facN 7 = 5040 := rfl
      refine op_u h1 h7 k1 hu (Nat.le_refl _) ?_
      rw [Nat.one_mul]
      rcases c with c | c
      · have c := Nat.le_of_ble_eq_true c
        rw [if_neg h14] at c
        have := Nat.le_trans (Nat.mul_le_mul_right (membersN (kT 7 i1) 7) (A_m2 h1 h7 (leastF (kT 7 i1) 7) k2 (kT 7 i3))) c
        omega
      · have := A_y (i2 := i2) k1' k3' c
        omega

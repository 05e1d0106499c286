/-! ===== the reference: laysAll ===== -/
def insT : List Nat → Nat → List Nat
  | [], t => [t]
  | x :: xs, t => if t < x then x :: insT xs t else if x = t then x :: xs else t :: x :: xs
def klL (n : Nat) : Nat → List Nat
  | 0 => []
  | j + 1 => insT (klL n j) (kindN (pn n j) n)
theorem insT_mem {t y : Nat} : ∀ L : List Nat, y ∈ insT L t ↔ y = t ∨ y ∈ L
  | [] => by simp [insT]
  | x :: xs => by
    simp only [insT]
    split
    · rw [List.mem_cons, insT_mem xs, List.mem_cons]
      constructor
      · rintro (h | h | h)
        · exact Or.inr (Or.inl h)
        · exact Or.inl h
        · exact Or.inr (Or.inr h)
      · rintro (h | h | h)
        · exact Or.inr (Or.inl h)
        · exact Or.inl h
        · exact Or.inr (Or.inr h)
    · split
      · rename_i h; rw [List.mem_cons, h]
        exact ⟨fun q => q.elim Or.inl (fun q => Or.inr (Or.inr q)), fun q => q.elim Or.inl (fun q => q.elim Or.inl Or.inr)⟩
      · rw [List.mem_cons]
def Dsc (L : List Nat) : Prop := L.Pairwise (fun x y => y < x)
theorem insT_dsc {t : Nat} : ∀ L : List Nat, Dsc L → Dsc (insT L t)
  | [], _ => by simp [insT, Dsc]
  | x :: xs, h => by
    have h1 := List.pairwise_cons.mp h
    simp only [insT]
    split
    · rename_i q
      refine List.pairwise_cons.mpr ⟨fun y hy => ?_, insT_dsc xs h1.2⟩
      rcases (insT_mem xs).mp hy with e | e
      · omega
      · exact h1.1 y e
    · split
      · exact h
      · rename_i q r
        refine List.pairwise_cons.mpr ⟨fun y hy => ?_, h⟩
        rcases List.mem_cons.mp hy with e | e
        · omega
        · have := h1.1 y e; omega
theorem dsc_at {L : List Nat} (h : Dsc L) {i j : Nat} (hij : i < j) (hj : j < L.length) : L.getD j 0 < L.getD i 0 := pw_getD h hij hj
theorem insT_at {t : Nat} : ∀ (L : List Nat) (k : Nat), k ≤ L.length → (∀ i, i < k → t < L.getD i 0) → (k < L.length → L.getD k 0 < t) → insT L t = L.take k ++ t :: L.drop k
  | [], k, hk, _, _ => by
    have : k = 0 := by simpa using hk
    subst this; rfl
  | x :: xs, 0, _, _, h2 => by
    have h3 : x < t := h2 (by simp)
    simp only [insT]
    rw [if_neg (by omega), if_neg (by omega)]; rfl
  | x :: xs, k + 1, hk, h1, h2 => by
    have h3 : t < x := h1 0 (by omega)
    simp only [insT]
    rw [if_pos h3, insT_at xs k (by simpa using hk) (fun i hi => h1 (i + 1) (by omega)) (fun h => h2 (by simpa using h))]
    rfl
theorem insT_hit {t : Nat} : ∀ (L : List Nat) (k : Nat), Dsc L → k < L.length → L.getD k 0 = t → insT L t = L
  | [], k, _, hk, _ => by simp at hk
  | x :: xs, 0, _, _, h2 => by
    have h3 : x = t := h2
    simp only [insT]
    rw [if_neg (by omega), if_pos h3]
  | x :: xs, k + 1, hd, hk, h2 => by
    have h1 := List.pairwise_cons.mp hd
    have hk' : k < xs.length := by simpa using hk
    have h3 : t < x := by
      have : xs.getD k 0 ∈ xs := getD_mem hk'
      have h4 : xs.getD k 0 = t := h2
      rw [h4] at this
      exact h1.1 t this
    simp only [insT]
    rw [if_pos h3, insT_hit xs k h1.2 hk' h2]
theorem ins_get {L : List Nat} {t k : Nat} (hk : k ≤ L.length) (i : Nat) (hi : i ≤ L.length) : (L.take k ++ t :: L.drop k).getD i 0 = if i < k then L.getD i 0 else if i = k then t else L.getD (i - 1) 0 := by
  rw [List.getD_eq_getElem?_getD]
  have hl : (L.take k).length = k := by simp; omega
  by_cases a : i < k
  · rw [if_pos a, List.getElem?_append_left (by omega), List.getElem?_take, if_pos a, List.getD_eq_getElem?_getD]
  · rw [if_neg a, List.getElem?_append_right (by omega), hl]
    by_cases b : i = k
    · rw [if_pos b, b, Nat.sub_self]; rfl
    · rw [if_neg b, show i - k = (i - k - 1) + 1 by omega, List.getElem?_cons_succ, List.getElem?_drop, show k + (i - k - 1) = i - 1 by omega, List.getD_eq_getElem?_getD]
theorem klL_dsc (n : Nat) : ∀ j, Dsc (klL n j)
  | 0 => List.Pairwise.nil
  | j + 1 => insT_dsc _ (klL_dsc n j)
theorem klL_mem {n y : Nat} : ∀ j, y ∈ klL n j ↔ ∃ i, i < j ∧ kindN (pn n i) n = y
  | 0 => by simp [klL]
  | j + 1 => by
    simp only [klL]
    rw [insT_mem, klL_mem j]
    constructor
    · rintro (h | ⟨i, h, e⟩)
      · exact ⟨j, by omega, h.symm⟩
      · exact ⟨i, by omega, e⟩
    · rintro ⟨i, h, e⟩
      by_cases q : i = j
      · left; rw [← e, q]
      · exact Or.inr ⟨i, by omega, e⟩
def kTL (n : Nat) : List Nat := (List.range (kmany n)).map (kT n)
theorem dsc_len {n : Nat} (hn7 : n ≤ 7) {L : List Nat} (h : Dsc L) (hm : ∀ y, y ∈ L → ∃ k, k < kmany n ∧ kT n k = y) : L.length ≤ kmany n := by
  refine fb_holes (kmany n) L.length (fun i => if h : i < L.length then Classical.choose (hm _ (getD_mem (d := 0) h)) else 0) (fun i hi => ?_) (fun i j hij hj e => ?_)
  · simp only [dif_pos hi]
    exact (Classical.choose_spec (hm _ (getD_mem (d := 0) hi))).1
  · have hi : i < L.length := by omega
    simp only [dif_pos hi, dif_pos hj] at e
    have a := (Classical.choose_spec (hm _ (getD_mem (d := 0) hi))).2
    have b := (Classical.choose_spec (hm _ (getD_mem (d := 0) hj))).2
    rw [e] at a
    have := dsc_at h hij hj
    omega
theorem klL_len {n j : Nat} (hn1 : 1 ≤ n) (hn7 : n ≤ 7) (hj : j ≤ facN n) : (klL n j).length ≤ kmany n := dsc_len hn7 (klL_dsc n j) (fun y hy => by
  obtain ⟨i, hi, e⟩ := (klL_mem j).mp hy
  obtain ⟨k, hk, e2⟩ := kf_type hn1 hn7 (pn_at hn1 hn7 (show i < facN n by omega)).1
  exact ⟨k, hk, by rw [← e2, e]⟩)
theorem dsc_ext : ∀ (L M : List Nat), Dsc L → Dsc M → (∀ y, y ∈ L ↔ y ∈ M) → L = M
  | [], M, _, _, h => by
    cases M with
    | nil => rfl
    | cons y ys => exact absurd ((h y).mpr List.mem_cons_self) List.not_mem_nil
  | x :: xs, M, hL, hM, h => by
    cases M with
    | nil => exact absurd ((h x).mp List.mem_cons_self) List.not_mem_nil
    | cons y ys =>
      have a := List.pairwise_cons.mp hL
      have b := List.pairwise_cons.mp hM
      have e : x = y := by
        rcases List.mem_cons.mp ((h x).mp List.mem_cons_self) with q | q
        · exact q
        · rcases List.mem_cons.mp ((h y).mpr List.mem_cons_self) with r | r
          · exact r.symm
          · have := b.1 x q; have := a.1 y r; omega
      subst e
      rw [dsc_ext xs ys a.2 b.2 (fun z => ?_)]
      constructor
      · intro hz
        rcases List.mem_cons.mp ((h z).mp (List.mem_cons_of_mem _ hz)) with q | q
        · have := a.1 z hz; omega
        · exact q
      · intro hz
        rcases List.mem_cons.mp ((h z).mpr (List.mem_cons_of_mem _ hz)) with q | q
        · have := b.1 z hz; omega
        · exact q
theorem kTL_dsc {n : Nat} (hn7 : n ≤ 7) : Dsc (kTL n) := by
  unfold Dsc kTL
  rw [List.pairwise_map]
  refine List.Pairwise.imp_of_mem (R := fun a b => a < b) (fun {a b} ha hb hab => ?_) List.pairwise_lt_range
  exact kT_desc n (by omega) b (List.mem_range.mp hb) a hab
theorem klL_all {n : Nat} (hn1 : 1 ≤ n) (hn7 : n ≤ 7) : klL n (facN n) = kTL n := dsc_ext _ _ (klL_dsc n _) (kTL_dsc hn7) (fun y => by
  rw [klL_mem]
  unfold kTL
  rw [List.mem_map]
  constructor
  · rintro ⟨i, hi, e⟩
    obtain ⟨k, hk, e2⟩ := kf_type hn1 hn7 (pn_at hn1 hn7 hi).1
    exact ⟨k, List.mem_range.mpr hk, by rw [← e2, e]⟩
  · rintro ⟨k, hk, e⟩
    have hk' := List.mem_range.mp hk
    have hp := lp_pm hn7 hk'
    have hr := pn_rank hn1 hn7 hp
    exact ⟨_, hr.1, by rw [hr.2, (lp_ok n (by omega) k hk').2.2, e]⟩)
theorem kTL_get {n k : Nat} (hk : k < kmany n) : (kTL n).length = kmany n ∧ (kTL n).getD k 0 = kT n k := by
  unfold kTL
  refine ⟨by simp, ?_⟩
  rw [List.getD_eq_getElem?_getD, List.getElem?_map, List.getElem?_range hk]; rfl
theorem cntI_s (P : Nat → Bool) (k : Nat) : cntI P (k + 1) = cntI P k + if P k then 1 else 0 := rfl
theorem cntI_pos {P : Nat → Bool} {i : Nat} (hP : P i = true) : ∀ m, i < m → 0 < cntI P m
  | 0, h => by omega
  | m + 1, h => by
    rw [cntI_s]
    by_cases q : i = m
    · subst q; rw [if_pos hP]; omega
    · have := cntI_pos hP m (by omega); omega
theorem cntI_zero {P : Nat → Bool} {m : Nat} (h : cntI P m = 0) {i : Nat} (hi : i < m) : ¬ P i = true := fun hP => by have := cntI_pos hP m hi; omega
/-- the first of a type is the least of it -/
theorem first_least {n k j : Nat} (hn1 : 1 ≤ n) (hn7 : n ≤ 7) (hk : k < kmany n) (hj : j < facN n) (hkj : kT n k = kindN (pn n j) n) (h0 : cntI (fun i => kindN (pn n i) n == kT n k) j = 0) : pn n j = leastF (kT n k) n := by
  have hp := lp_pm hn7 hk
  have hr := pn_rank hn1 hn7 hp
  have hl := (least_conj hn1 hn7 _ (pn n j) (Nat.le_refl _) (pn_at hn1 hn7 hj).1).2
  rw [← hkj] at hl
  have kr : kindN (pn n (rankN (leastF (kT n k) n) n)) n = kT n k := by rw [hr.2]; exact (lp_ok n (by omega) k hk).2.2
  rcases Nat.lt_trichotomy (rankN (leastF (kT n k) n) n) j with q | q | q
  · exact absurd (by rw [beq_iff_eq]; exact kr) (cntI_zero h0 q)
  · rw [← q]; exact hr.2
  · have := pn_lt hn1 hn7 hr.1 q
    rw [hr.2] at this; omega

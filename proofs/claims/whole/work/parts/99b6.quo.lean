/-! blocks: the two ways to number the sets agree -/
theorem cnt_take {α : Type} (L : List α) (d : α) (P : α → Bool) {k : Nat} (hk : k < L.length) : (L.take (k + 1)).countP P = (L.take k).countP P + (if P (L.getD k d) = true then 1 else 0) := by
  rw [List.take_succ, List.countP_append, List.getElem?_eq_getElem hk]
  have e : L.getD k d = L[k] := by rw [List.getD_eq_getElem?_getD, List.getElem?_eq_getElem hk]; rfl
  rw [e]
  by_cases h : P L[k] = true
  · simp [h]
  · simp [h]
theorem nbN_take (L : List Nat) (x : Nat) : ∀ k, k ≤ L.length → nbN L x k = 1 + (L.take k).countP (fun y => decide (lowN y < lowN x))
  | 0, _ => by simp; rfl
  | k + 1, hk => by
    show nbN L x k + _ = _
    rw [nbN_take L x k (by omega), cnt_take L 0 _ (show k < L.length by omega)]
    by_cases h : lowN (L.getD k 0) < lowN x
    · rw [if_pos h, if_pos (decide_eq_true h)]; omega
    · rw [if_neg h, if_neg (fun e => h (of_decide_eq_true e))]; omega
theorem srt_take {A : List PC} (hS : ∀ u v, u < v → v < A.length → (A.getD u (0, 0)).1 < (A.getD v (0, 0)).1) {i : Nat} (hi : i < A.length) : ∀ k, k ≤ A.length → (A.take k).countP (fun q => decide (q.1 < (A.getD i (0, 0)).1)) = if k ≤ i then k else i
  | 0, _ => by simp
  | k + 1, hk => by
    rw [cnt_take A (0, 0) _ (show k < A.length by omega), srt_take hS hi k (by omega)]
    rcases Nat.lt_trichotomy k i with h | h | h
    · rw [if_pos (by omega), if_pos (decide_eq_true (hS k i h hi)), if_pos (by omega)]
    · subst h
      rw [if_pos (Nat.le_refl _), if_neg (fun e => Nat.lt_irrefl _ (of_decide_eq_true e)), if_neg (by omega), Nat.add_zero]
    · rw [if_neg (by omega), if_neg (fun e => by
        have a := of_decide_eq_true e
        have b := hS i k h (by omega)
        omega), if_neg (by omega), Nat.add_zero]
theorem smI_one {A : List PC} {goal t c : Nat} (h : ∀ k, k < A.length → ((A.getD k (0, 0)).2 &&& goal ≠ 0 ↔ k = t)) : ∀ j, j ≤ A.length → smI A goal j c = if t < j then 10 * c + t + 1 else c
  | 0, _ => by rw [if_neg (by omega)]; rfl
  | j + 1, hj => by
    show (if (A.getD j (0, 0)).2 &&& goal = 0 then smI A goal j c else 10 * smI A goal j c + j + 1) = _
    rw [smI_one h j (by omega)]
    have hh := h j (by omega)
    by_cases e : j = t
    · subst e
      rw [if_neg (hh.mpr rfl), if_neg (by omega), if_pos (by omega)]
    · have hz : (A.getD j (0, 0)).2 &&& goal = 0 := Classical.byContradiction (fun hne => e (hh.mp hne))
      rw [if_pos hz]
      by_cases f : t < j
      · rw [if_pos f, if_pos (by omega)]
      · rw [if_neg f, if_neg (by omega)]
theorem qtI_one {L : List Nat} {p : Nat → Nat} {num acc t : Nat} (h : ∀ k, k < L.length → (nbN L (L.getD k 0) L.length = num ↔ k = t)) : ∀ j, j ≤ L.length → qtI L p num acc j = if t < j then 10 * acc + nbN L (mvd p (L.getD t 0)) L.length else acc
  | 0, _ => by rw [if_neg (by omega)]; rfl
  | j + 1, hj => by
    show (if nbN L (L.getD j 0) L.length = num then 10 * qtI L p num acc j + nbN L (mvd p (L.getD j 0)) L.length else qtI L p num acc j) = _
    rw [qtI_one h j (by omega)]
    have hh := h j (by omega)
    by_cases e : j = t
    · subst e
      rw [if_pos (hh.mpr rfl), if_neg (by omega), if_pos (by omega)]
    · rw [if_neg (fun hne => e (hh.mp hne))]
      by_cases f : t < j
      · rw [if_pos f, if_pos (by omega)]
      · rw [if_neg f, if_neg (by omega)]
section Quo
variable {L : List Nat} {A : List PC}
theorem quo_mem (hS : SrtOf L A) {x : Nat} : x ∈ L ↔ (lowN x, x) ∈ A := by
  rw [hS.1.mem_iff]
  unfold prs
  rw [List.mem_map]
  constructor
  · exact fun h => ⟨x, h, rfl⟩
  · rintro ⟨y, hy, e⟩
    have : y = x := congrArg Prod.snd e
    rw [← this]; exact hy
theorem quo_lt (hA : BPV A) (hS : SrtOf L A) {u v : Nat} (huv : u < v) (hv : v < A.length) : (A.getD u (0, 0)).1 < (A.getD v (0, 0)).1 := by
  have h := hS.2 u v huv hv
  have d := hA.dis huv hv
  unfold plt at h
  omega
theorem quo_len (hS : SrtOf L A) : A.length = L.length := by rw [hS.1.length_eq, prs_len]
/-- the number of the set that stands at place i -/
theorem quo_nb (hA : BPV A) (hS : SrtOf L A) {i : Nat} (hi : i < A.length) : nbN L (A.getD i (0, 0)).2 L.length = i + 1 := by
  rw [nbN_take L _ L.length (Nat.le_refl _), List.take_length]
  have h1 : L.countP (fun y => decide (lowN y < lowN (A.getD i (0, 0)).2)) = A.countP (fun q => decide (q.1 < (A.getD i (0, 0)).1)) := by
    rw [hS.1.countP_eq]
    unfold prs
    rw [List.countP_map, (hA.at hi).1]
    rfl
  rw [h1]
  have h2 := srt_take (fun u v a b => quo_lt hA hS a b) hi A.length (Nat.le_refl _)
  rw [List.take_length, if_neg (by omega)] at h2
  omega
theorem quo_at (hS : SrtOf L A) {x : Nat} (hx : x ∈ L) : ∃ t, t < A.length ∧ (A.getD t (0, 0)).2 = x := by
  obtain ⟨t, ht, e⟩ := at_mem (d := ((0, 0) : PC)) ((quo_mem hS).mp hx)
  exact ⟨t, ht, by rw [e]⟩
theorem quo_in (hA : BPV A) (hS : SrtOf L A) {t : Nat} (ht : t < A.length) : (A.getD t (0, 0)).2 ∈ L := by
  have h : A.getD t (0, 0) ∈ A := getD_mem ht
  have h2 := (hA.at ht).1
  rw [quo_mem hS]
  rw [show (lowN (A.getD t (0, 0)).2, (A.getD t (0, 0)).2) = A.getD t (0, 0) from Prod.ext h2.symm rfl]
  exact h
theorem quo_eq (hB : BO L) (hA : BPV A) (hS : SrtOf L A) {p : Nat → Nat} (hp : P7 p) (hcl : ∀ x, x ∈ L → mvd p x ∈ L) : ∀ k, k ≤ L.length → smO p A k = qtO L p k
  | 0, _ => rfl
  | k + 1, hk => by
    have hlen := quo_len hS
    show smI A (bt (p (A.getD k (0, 0)).1)) A.length (smO p A k) = qtI L p (k + 1) (qtO L p k) L.length
    rw [quo_eq hB hA hS hp hcl k (by omega)]
    have hkA : k < A.length := by omega
    have hx := quo_in hA hS hkA
    obtain ⟨l1, l2, l3⟩ := hA.at hkA
    have li := low_in _ l2 l3
    have pl := hp _ li.1 li.2
    have hm := hcl _ hx
    obtain ⟨t, ht, et⟩ := quo_at hS hm
    have hb : hasb (A.getD t (0, 0)).2 (p (A.getD k (0, 0)).1) := by
      rw [et, l1]
      exact (mvd_has hp pl.1 pl.2).mpr ⟨_, li.1, li.2, low_has _ l2 l3, rfl⟩
    have disj : ∀ u v, u < A.length → v < A.length → ∀ y, 1 ≤ y → y ≤ 7 → hasb (A.getD u (0, 0)).2 y → hasb (A.getD v (0, 0)).2 y → u = v := by
      intro u v hu hv y y1 y2 h1 h2
      obtain ⟨i, hi, ei⟩ := at_mem (d := 0) (quo_in hA hS hu)
      obtain ⟨j, hj, ej⟩ := at_mem (d := 0) (quo_in hA hS hv)
      have hne : ∀ i j, i < j → j < L.length → L.getD i 0 &&& L.getD j 0 = 0 := fun i j a b => by
        have := List.pairwise_iff_getElem.mp hB.2 i j (by omega) b a
        rw [List.getD_eq_getElem?_getD, List.getD_eq_getElem?_getD, List.getElem?_eq_getElem (show i < L.length by omega), List.getElem?_eq_getElem b]
        exact this
      have bu := (hA.at hu).2.1
      have bv := (hA.at hv).2.1
      have hij : i = j := by
        rcases Nat.lt_trichotomy i j with h | h | h
        · exact absurd (by have := hne i j h hj; rw [ei, ej] at this; exact this) (both_has _ _ bu bv y1 y2 h1 h2)
        · exact h
        · exact absurd (by have := hne j i h hi; rw [ei, ej] at this; exact this) (both_has _ _ bv bu y1 y2 h2 h1)
      subst hij
      have e : (A.getD u (0, 0)).2 = (A.getD v (0, 0)).2 := ei.symm.trans ej
      rcases Nat.lt_trichotomy u v with h | h | h
      · exact absurd (by rw [(hA.at hu).1, (hA.at hv).1, e]) (hA.dis h hv)
      · exact h
      · exact absurd (by rw [(hA.at hu).1, (hA.at hv).1, e]) (hA.dis h hu)
    rw [smI_one (t := t) (fun j hj => ⟨fun h => disj j t hj ht _ pl.1 pl.2 (by rw [l1] at h; exact h) (by rw [l1] at hb; exact hb), fun h => by rw [h]; exact hb⟩) A.length (Nat.le_refl _), if_pos ht]
    obtain ⟨i0, hi0, e0⟩ := at_mem (d := 0) hx
    have huniq : ∀ j, j < L.length → (nbN L (L.getD j 0) L.length = k + 1 ↔ j = i0) := by
      intro j hj
      obtain ⟨u, hu, eu⟩ := quo_at hS (getD_mem (L := L) (i := j) (d := 0) hj)
      have hn := quo_nb hA hS hu
      rw [eu] at hn
      rw [hn]
      constructor
      · intro h
        have huk : u = k := by omega
        subst huk
        have ee : L.getD j 0 = L.getD i0 0 := eu.symm.trans e0.symm
        rcases Nat.lt_trichotomy j i0 with h2 | h2 | h2
        · exfalso
          have := List.pairwise_iff_getElem.mp hB.2 j i0 hj hi0 h2
          rw [List.getD_eq_getElem?_getD, List.getD_eq_getElem?_getD, List.getElem?_eq_getElem hj, List.getElem?_eq_getElem hi0] at ee
          have ee2 : L[j] = L[i0] := ee
          rw [ee2, Nat.and_self] at this
          exact (hB.1 _ (List.getElem_mem hi0)).2 this
        · exact h2
        · exfalso
          have := List.pairwise_iff_getElem.mp hB.2 i0 j hi0 hj h2
          rw [List.getD_eq_getElem?_getD, List.getD_eq_getElem?_getD, List.getElem?_eq_getElem hj, List.getElem?_eq_getElem hi0] at ee
          have ee2 : L[j] = L[i0] := ee
          rw [ee2, Nat.and_self] at this
          exact (hB.1 _ (List.getElem_mem hi0)).2 this
      · intro h
        subst h
        have e2 : (A.getD u (0, 0)).2 = (A.getD k (0, 0)).2 := eu.trans e0
        rcases Nat.lt_trichotomy u k with h2 | h2 | h2
        · exact absurd (by rw [(hA.at hu).1, (hA.at hkA).1, e2]) (hA.dis h2 hkA)
        · omega
        · exact absurd (by rw [(hA.at hu).1, (hA.at hkA).1, e2]) (hA.dis h2 hu)
    rw [qtI_one huniq L.length (Nat.le_refl _), if_pos hi0, e0, ← et, quo_nb hA hS ht]
    omega
end Quo
theorem hyp_BLKE : BLKE := by
  intro n s a i what z z' hV h h'
  rcases h with ⟨a1, a2⟩ | ⟨a1, a2, a3⟩ | ⟨a1, a2, a3, L, A, eL, hA, hS, h0, a4⟩ <;> rcases h' with ⟨b1, b2⟩ | ⟨b1, b2, b3⟩ | ⟨b1, b2, b3, L', eL', b4⟩
  · omega
  · exact absurd b1 a1
  · exact absurd b1 a1
  · exact absurd a1 b1
  · omega
  · rcases a2 with a2 | a2
    · rw [a2] at b2; exact absurd b2 (by decide)
    · omega
  · exact absurd a1 b1
  · rcases b2 with b2 | b2
    · rw [b2] at a2; exact absurd a2 (by decide)
    · omega
  · rw [eL] at eL'
    have eLL : L = L' := Option.some.inj eL'
    subst eLL
    have hs7 := hV.2.1.mono hV.1.2
    have ha7 := hV.2.2.mono hV.1.2
    have hm := getD_mem (L := sysL n s a) (i := i.toNat) (d := 0) (by omega)
    generalize (sysL n s a).getD i.toNat 0 = v at hm eL a4 b4
    obtain ⟨⟨m1, m2⟩, m3, m4⟩ := sysL_mem.mp hm
    have h2 := two_pow7 hV.1.1 hV.1.2
    obtain ⟨hB, hM, -⟩ := sys_all hV.1.1 hV.1.2 hV.2.1 hV.2.2 a2 (show v < 2 ^ n by omega) m1 eL
    have hlen := quo_len hS
    have q1 := quo_eq hB hA hS (hs7.b7 (Nat.le_refl 7)) (fun x hx => (hM x hx).1.1) L.length (Nat.le_refl _)
    have q2 := quo_eq hB hA hS (ha7.b7 (Nat.le_refl 7)) (fun x hx => (hM x hx).1.2) L.length (Nat.le_refl _)
    have hv1 : v ∈ L := by
      obtain ⟨_, r1, r2⟩ := layN_BO (hs7.b7 (Nat.le_refl 7)) (ha7.b7 (Nat.le_refl 7)) (show v < 128 by omega) (show v ≠ 0 by omega) eL
      rw [← r2]; exact getD_mem r1
    have hlow : lowN v = 1 := by
      have hb1 : hasb v 1 := (bit7b v (by omega) 0 (by decide)).mp (by rw [Nat.pow_zero, Nat.div_one]; exact m1)
      have := low_min (show v < 128 by omega) (by decide) (by decide) hb1
      have := (low_in v (by omega) (by omega)).1
      omega
    have hfirst : (A.getD 0 (0, 0)).2 = v := by
      obtain ⟨t, ht, et⟩ := quo_at hS hv1
      by_cases ht0 : t = 0
      · subst ht0; exact et
      · exfalso
        have hlt := quo_lt hA hS (show 0 < t by omega) ht
        have e1 := (hA.at ht).1
        rw [et, hlow] at e1
        have e2 := (hA.at h0).1
        have e3 := (low_in _ (hA.at h0).2.1 (hA.at h0).2.2).1
        omega
    rw [hlen, hfirst, q1, q2] at a4
    rw [a4, b4]

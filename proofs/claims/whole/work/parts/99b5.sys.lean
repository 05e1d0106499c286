/-! block systems: closed, of one size, and the numbers of their sets -/
theorem admG_mem {S : Nat} : ∀ {L : List Nat}, admG S L = 1 → S ∈ L
  | [], h => by unfold admG at h; omega
  | x :: xs, h => by
    unfold admG at h
    by_cases e : x = S
    · rw [e]; exact List.mem_cons_self
    · rw [if_neg e] at h
      by_cases f : x &&& S = 0
      · rw [if_pos f] at h; exact List.mem_cons_of_mem _ (admG_mem h)
      · rw [if_neg f] at h; omega
theorem adm_sub {L M : List Nat} {S : Nat} (e : admL L S = some M) : (S ∈ M ∧ ∀ x, x ∈ L → x ∈ M) ∧ L.length ≤ M.length ∧ ∀ j, j < L.length → M.getD j 0 = L.getD j 0 := by
  unfold admL at e
  by_cases h1 : admG S L = 1
  · rw [if_pos h1] at e
    cases e
    exact ⟨⟨admG_mem h1, fun x hx => hx⟩, Nat.le_refl _, fun _ _ => rfl⟩
  · rw [if_neg h1] at e
    by_cases h2 : admG S L = 2
    · rw [if_pos h2] at e; cases e
    · rw [if_neg h2] at e
      by_cases h3 : 7 ≤ L.length
      · rw [if_pos h3] at e; cases e
      · rw [if_neg h3] at e
        cases e
        refine ⟨⟨List.mem_append_right _ (List.mem_singleton.mpr rfl), fun x hx => List.mem_append_left _ hx⟩, by rw [List.length_append]; omega, fun j hj => ?_⟩
        rw [List.getD_eq_getElem?_getD, List.getD_eq_getElem?_getD, List.getElem?_append_left hj]
theorem layF_cl {s a : Nat → Nat} (hs : P7 s) (ha : P7 a) (P : Nat → Prop) (hP : ∀ x, x < 128 → x ≠ 0 → P x → P (mvd s x) ∧ P (mvd a x)) : ∀ k i (L M : List Nat), BO L → 7 ≤ k + i → (∀ j, j < i → j < L.length → mvd s (L.getD j 0) ∈ L ∧ mvd a (L.getD j 0) ∈ L) → (∀ x, x ∈ L → P x) → layF s a k i L = some M → BO M ∧ (∀ x, x ∈ M → (mvd s x ∈ M ∧ mvd a x ∈ M) ∧ P x)
  | 0, i, L, M, hB, hk, hc, hp, e => by
    have e1 : L = M := Option.some.inj e
    subst e1
    refine ⟨hB, fun x hx => ⟨?_, hp x hx⟩⟩
    obtain ⟨j, hj, ej⟩ := at_mem (d := 0) hx
    have := hc j (by have := hB.le7; omega) hj
    rw [ej] at this
    exact this
  | k + 1, i, L, M, hB, hk, hc, hp, e => by
    unfold layF at e
    by_cases h : i < L.length
    · rw [if_pos h] at e
      have hx := hB.1 (L.getD i 0) (getD_mem h)
      cases e1 : admL L (mvd s (L.getD i 0)) with
      | none => rw [e1] at e; cases e
      | some M1 =>
        rw [e1] at e
        dsimp only at e
        have hm1 := mvd_nz hs hx.1 hx.2
        have hB1 := hB.adm hm1.1 hm1.2 e1
        obtain ⟨⟨s1, s2⟩, s4, s3⟩ := adm_sub e1
        have hp1 : ∀ x, x ∈ M1 → P x := adm_all hp (hP _ hx.1 hx.2 (hp _ (getD_mem h))).1 e1
        have e3 : M1.getD i 0 = L.getD i 0 := s3 i h
        cases e2 : admL M1 (mvd a (M1.getD i 0)) with
        | none =>
          rw [e2] at e; dsimp only at e; cases e
        | some K =>
          rw [e2] at e
          dsimp only at e
          have hm2 := mvd_nz ha hx.1 hx.2
          obtain ⟨⟨t1, t2⟩, t4, t3⟩ := adm_sub e2
          rw [e3] at e2 t1
          have hB2 := hB1.adm hm2.1 hm2.2 e2
          have hp2 : ∀ x, x ∈ K → P x := adm_all hp1 (hP _ hx.1 hx.2 (hp _ (getD_mem h))).2 e2
          refine layF_cl hs ha P hP k (i + 1) K M hB2 (by omega) (fun j hj hjK => ?_) hp2 e
          have hjL : j < L.length := by omega
          rw [t3 j (by omega), s3 j hjL]
          by_cases hji : j < i
          · obtain ⟨u1, u2⟩ := hc j hji hjL
            exact ⟨t2 _ (s2 _ u1), t2 _ (s2 _ u2)⟩
          · have hji2 : j = i := by omega
            subst hji2
            exact ⟨t2 _ s1, t1⟩
    · rw [if_neg h] at e
      cases e
      refine ⟨hB, fun x hx => ⟨?_, hp x hx⟩⟩
      obtain ⟨j, hj, ej⟩ := at_mem (d := 0) hx
      have := hc j (by omega) hj
      rw [ej] at this
      exact this
theorem layN_cl {s a : Nat → Nat} (hs : P7 s) (ha : P7 a) (P : Nat → Prop) (hP : ∀ x, x < 128 → x ≠ 0 → P x → P (mvd s x) ∧ P (mvd a x)) {v : Nat} {M : List Nat} (hv : v < 128) (h0 : v ≠ 0) (hPv : P v) (e : layN s a v = some M) : BO M ∧ (∀ x, x ∈ M → (mvd s x ∈ M ∧ mvd a x ∈ M) ∧ P x) :=
  layF_cl hs ha P hP 7 0 [v] M ⟨fun x hx => by rw [List.mem_singleton.mp hx]; exact ⟨hv, h0⟩, by simp⟩ (by omega) (fun j hj => by omega) (fun x hx => by rw [List.mem_singleton.mp hx]; exact hPv) e
theorem pop_bit : ∀ u : Nat, u < 128 → ∀ k : Nat, k < 7 → popc (u % 2 ^ (k + 1)) = popc (u % 2 ^ k) + (if u &&& bt (k + 1) = 0 then 0 else 1) := by decide +kernel
theorem mvL_pop {p : Nat → Nat} (hp : Pm 7 p) {S : Nat} (hS : S < 128) : ∀ k, k ≤ 7 → popc (mvL p S k) = popc (S % 2 ^ k)
  | 0, _ => by
    show popc 0 = popc (S % 1)
    rw [Nat.mod_one]
  | k + 1, hk => by
    have hP := hp.b7 (Nat.le_refl 7)
    rw [pop_bit S hS k (by omega), ← mvL_pop hp hS k (by omega)]
    show popc (if S &&& bt (k + 1) = 0 then mvL p S k else mvL p S k ||| bt (p (k + 1))) = _
    by_cases h : S &&& bt (k + 1) = 0
    · rw [if_pos h, if_pos h]; rfl
    · rw [if_neg h, if_neg h]
      have hpk := hP (k + 1) (by omega) (by omega)
      have hno : ¬ hasb (mvL p S k) (p (k + 1)) := fun hh => by
        obtain ⟨x, h1, h2, h3, h4⟩ := (mvL_has hP hpk.1 hpk.2 k (by omega)).mp hh
        have := hp.inj h4
        omega
      have hz : mvL p S k &&& bt (p (k + 1)) = 0 := Classical.byContradiction hno
      obtain ⟨y, hy⟩ : ∃ y, p (k + 1) = y + 1 := ⟨p (k + 1) - 1, by omega⟩
      rw [hy] at hz ⊢
      exact popc_or _ (mvL_lt hP S k (by omega)) y (by omega) hz
theorem mvd_pop {p : Nat → Nat} (hp : Pm 7 p) {S : Nat} (hS : S < 128) : popc (mvd p S) = popc S := by
  have h := mvL_pop hp hS 7 (Nat.le_refl _)
  rw [Nat.mod_eq_of_lt (show S < 2 ^ 7 from hS)] at h
  exact h
theorem orL_has {L : List Nat} (hB : ∀ x, x ∈ L → x < 128) {y : Nat} (h1 : 1 ≤ y) (h2 : y ≤ 7) : orL L < 128 ∧ (hasb (orL L) y ↔ ∃ x, x ∈ L ∧ hasb x y) := by
  induction L with
  | nil => exact ⟨by decide, fun h => absurd (Nat.zero_and _) h, fun ⟨x, hx, _⟩ => absurd hx List.not_mem_nil⟩
  | cons x xs ih =>
    obtain ⟨i1, i2⟩ := ih (fun z hz => hB z (List.mem_cons_of_mem _ hz))
    have hx := hB x List.mem_cons_self
    refine ⟨Nat.or_lt_two_pow (n := 7) hx i1, ?_⟩
    show hasb (x ||| orL xs) y ↔ _
    rw [hasb_or2 hx i1 h1 h2, i2]
    constructor
    · rintro (h | ⟨z, hz, h⟩)
      · exact ⟨x, List.mem_cons_self, h⟩
      · exact ⟨z, List.mem_cons_of_mem _ hz, h⟩
    · rintro ⟨z, hz, h⟩
      rcases List.mem_cons.mp hz with e | e
      · left; rw [← e]; exact h
      · exact Or.inr ⟨z, e, h⟩
theorem orL_popd {d : Nat} : ∀ {L : List Nat}, (∀ x, x ∈ L → x < 128 ∧ popc x = d) → L.Pairwise (fun x y => x &&& y = 0) → orL L < 128 ∧ popc (orL L) = d * L.length
  | [], _, _ => ⟨by decide, by show popc 0 = d * 0; rw [Nat.mul_zero]; rfl⟩
  | x :: xs, h, hp => by
    have hq := List.pairwise_cons.mp hp
    obtain ⟨i1, i2⟩ := orL_popd (fun z hz => h z (List.mem_cons_of_mem _ hz)) hq.2
    have hx := h x List.mem_cons_self
    have hz : x &&& orL xs = 0 := by
      rw [Nat.and_comm]
      exact orL_and (fun z hz => by rw [Nat.and_comm]; exact hq.1 z hz)
    obtain ⟨j1, j2⟩ := popc_dis x hx.1 (orL xs) i1 hz
    refine ⟨j2, ?_⟩
    show popc (x ||| orL xs) = _
    rw [j1, i2, hx.2, List.length_cons, Nat.mul_succ]
    omega
/-- the sets of a system: apart, closed, all darts in them -/
theorem sys_all {n : Nat} {s a : Nat → Nat} (h1 : 1 ≤ n) (h7 : n ≤ 7) (hs : Pm n s) (ha : Pm n a) (hj : joinB s a n = true) {v : Nat} {M : List Nat} (hv : v < 2 ^ n) (hodd : v % 2 = 1) (e : layN s a v = some M) : BO M ∧ (∀ x, x ∈ M → (mvd s x ∈ M ∧ mvd a x ∈ M) ∧ (x < 2 ^ n ∧ popc x = popc v)) ∧ ∀ y, 1 ≤ y → y ≤ n → ∃ x, x ∈ M ∧ hasb x y := by
  have hs7 := hs.mono h7
  have ha7 := ha.mono h7
  have p7s := hs7.b7 (Nat.le_refl 7)
  have p7a := ha7.b7 (Nat.le_refl 7)
  have h128 : (2 : Nat) ^ n ≤ 128 := (two_pow7 h1 h7).2.1
  have hv0 : v ≠ 0 := fun h => by rw [h] at hodd; omega
  obtain ⟨hB, hM⟩ := layN_cl p7s p7a (fun x => x < 2 ^ n ∧ popc x = popc v) (fun x hx _ hPx => by
    have k1 := mvL_ltn hs x n (Nat.le_refl _)
    have k2 := mvL_ltn ha x n (Nat.le_refl _)
    refine ⟨⟨?_, by rw [mvd_pop hs7 hx]; exact hPx.2⟩, ⟨?_, by rw [mvd_pop ha7 hx]; exact hPx.2⟩⟩
    · rw [mvd_n h7 hPx.1]; exact k1
    · rw [mvd_n h7 hPx.1]; exact k2) (by omega) hv0 ⟨hv, rfl⟩ e
  refine ⟨hB, hM, ?_⟩
  have hv1 : v ∈ M := by
    obtain ⟨_, q1, q2⟩ := layN_BO p7s p7a (show v < 128 by omega) hv0 e
    rw [← q2]; exact getD_mem q1
  have hb1 : hasb v 1 := (bit7b v (by omega) 0 (by decide)).mp (by rw [Nat.pow_zero, Nat.div_one]; exact hodd)
  have hr := (reach_spec p7s p7a (x := 1) (by decide) (by decide)).2.2 (fun y => ∃ x, x ∈ M ∧ hasb x y) ⟨v, hv1, hb1⟩ (fun y y1 y2 ⟨x, hx, hxy⟩ => by
    have hx128 := (hB.1 x hx).1
    have b1 := p7s y y1 y2
    have b2 := p7a y y1 y2
    exact ⟨⟨mvd s x, (hM x hx).1.1, (mvd_has p7s b1.1 b1.2).mpr ⟨y, y1, y2, hxy, rfl⟩⟩, ⟨mvd a x, (hM x hx).1.2, (mvd_has p7a b2.1 b2.2).mpr ⟨y, y1, y2, hxy, rfl⟩⟩⟩)
  intro y y1 y2
  exact hr y y1 (by omega) ((joinB_iff h1 h7 hs ha).mp hj y y1 y2)
theorem hyp_BLKD : BLKD := by
  intro n s a h1 h7 hs ha hj d hd1 hd2 hd3
  apply List.eq_nil_iff_forall_not_mem.mpr
  intro x hx
  obtain ⟨j, hj1, hj2, hj3⟩ := (sysI_mem (2 ^ (n - 1))).mp hx
  unfold sysP at hj3
  rw [Bool.and_eq_true, beq_iff_eq] at hj3
  obtain ⟨hpop, hsome⟩ := hj3
  obtain ⟨M, e⟩ := Option.isSome_iff_exists.mp hsome
  have h2 := two_pow7 h1 h7
  have hxn : x < 2 ^ n := by omega
  obtain ⟨hB, hM, hall⟩ := sys_all h1 h7 hs ha hj hxn (by omega) e
  obtain ⟨o1, o2⟩ := orL_popd (d := d) (L := M) (fun z hz => ⟨(hB.1 z hz).1, by rw [(hM z hz).2.2]; exact hpop⟩) hB.2
  have hf : orL M = full n := full_ext h7 o1 (fun y y1 y2 => by
    rw [(orL_has (fun z hz => (hB.1 z hz).1) y1 y2).2]
    constructor
    · rintro ⟨z, hz, hzy⟩
      exact Classical.byContradiction (fun hny => hzy (by
        obtain ⟨t, ht⟩ : ∃ t, y = t + 1 := ⟨y - 1, by omega⟩
        have hh := (bit7b z (hB.1 z hz).1 t (by omega))
        have hz2 := (hM z hz).2.1
        have : z / 2 ^ t = 0 := Nat.div_eq_of_lt (Nat.lt_of_lt_of_le hz2 (Nat.pow_le_pow_right (by decide) (by omega)))
        rw [ht]
        exact Classical.byContradiction (fun hc => by
          have := hh.mpr hc
          omega)))
    · exact fun hy => hall y y1 hy)
  rw [hf, popc_full n (by omega)] at o2
  exact hd3 (by rw [o2]; exact Nat.mul_mod_right d _)

/-! families: sorted, and picked by how many stand ahead -/
theorem lesN_take (F : List PC) (p : PC) : ∀ k, k ≤ F.length → lesN F p k = (F.take k).countP (fun x => pltB x p)
  | 0, _ => by simp; rfl
  | k + 1, hk => by
    show lesN F p k + _ = _
    rw [lesN_take F p k (by omega), List.take_succ, List.countP_append, List.getElem?_eq_getElem (show k < F.length by omega)]
    have e : F.getD k (0, 0) = F[k] := by rw [List.getD_eq_getElem?_getD, List.getElem?_eq_getElem (show k < F.length by omega)]; rfl
    rw [e]
    by_cases h : pltB F[k] p = true
    · simp [h]
    · simp [h]
theorem lesN_all (F : List PC) (p : PC) : lesN F p F.length = F.countP (fun x => pltB x p) := by
  rw [lesN_take F p F.length (Nat.le_refl _), List.take_length]
theorem lesN_sorted {A : List PC} (hS : SO A A.length) {i : Nat} (hi : i < A.length) : ∀ k, k ≤ A.length → lesN A (A.getD i (0, 0)) k = if k ≤ i then k else i
  | 0, _ => by rw [if_pos (Nat.zero_le _)]; rfl
  | k + 1, hk => by
    show lesN A (A.getD i (0, 0)) k + _ = _
    rw [lesN_sorted hS hi k (by omega)]
    rcases Nat.lt_trichotomy k i with h | h | h
    · rw [if_pos (by omega), if_pos (pltB_iff.mpr (hS k i h hi)), if_pos (by omega)]
    · subst h
      have hn : ¬ pltB (A.getD k (0, 0)) (A.getD k (0, 0)) = true := fun e => by
        have := pltB_iff.mp e
        unfold plt at this
        omega
      rw [if_pos (Nat.le_refl _), if_neg hn, if_neg (by omega), Nat.add_zero]
    · have hn : ¬ pltB (A.getD k (0, 0)) (A.getD i (0, 0)) = true := fun e => by
        have a := pltB_iff.mp e
        have b := hS i k h (by omega)
        unfold plt at a b
        omega
      rw [if_neg (by omega), if_neg hn, if_neg (by omega), Nat.add_zero]
theorem hyp_FAME : FAME := by
  intro n s a i what z z' hV h h'
  rcases h with ⟨a1, a2⟩ | ⟨a1, A, hp, hS, a2⟩ <;> rcases h' with ⟨b1, b2⟩ | ⟨b1, b2⟩
  · omega
  · exact absurd b1 a1
  · exact absurd a1 b1
  · have hlen := hp.length_eq
    have rank : ∀ p, lesN (fam n s a) p (fam n s a).length = lesN A p A.length := fun p => by
      rw [lesN_all, lesN_all]
      exact (hp.countP_eq _).symm
    rcases b2 with ⟨e, b2⟩ | ⟨e, ⟨j, hj, r, b2⟩ | ⟨hno, b2⟩⟩
    · rw [if_pos e] at a2
      omega
    · rw [if_neg e] at a2
      have hm : (fam n s a).getD j (0, 0) ∈ A := hp.mem_iff.mpr (getD_mem hj)
      obtain ⟨m, hm1, hm2⟩ := at_mem (d := ((0, 0) : PC)) hm
      rw [rank, ← hm2, lesN_sorted hS hm1 A.length (Nat.le_refl _), if_neg (by omega)] at r
      have e2 : i.toNat = m := by omega
      rw [if_neg (by omega), e2, hm2] at a2
      rw [a2, b2]
    · rw [if_neg e] at a2
      by_cases hle : (A.length : Int) ≤ i
      · rw [if_pos hle] at a2
        omega
      · exfalso
        have hi : i.toNat < A.length := by omega
        have hm : A.getD i.toNat (0, 0) ∈ fam n s a := hp.mem_iff.mp (getD_mem hi)
        obtain ⟨m, hm1, hm2⟩ := at_mem (d := ((0, 0) : PC)) hm
        refine hno m hm1 ?_
        rw [rank, hm2, lesN_sorted hS hi A.length (Nat.le_refl _), if_neg (by omega)]
        omega

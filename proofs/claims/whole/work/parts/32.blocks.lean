/-! ===== Blocks ===== -/
def admG (set : Nat) : List Nat → Nat
  | [] => 0
  | x :: xs => if x = set then 1 else if x &&& set = 0 then admG set xs else 2
def admL (L : List Nat) (set : Nat) : Option (List Nat) := if admG set L = 1 then some L else if admG set L = 2 then none else if 7 ≤ L.length then none else some (L ++ [set])
theorem admG_drop {set : Nat} {L : List Nat} : ∀ k, k ≤ L.length → (∀ j, j < k → L.getD j 0 ≠ set ∧ L.getD j 0 &&& set = 0) → admG set L = admG set (L.drop k)
  | 0, _, _ => by rw [List.drop_zero]
  | k + 1, hk, h => by
    rw [admG_drop k (by omega) (fun j hj => h j (by omega)), List.drop_eq_getElem_cons (show k < L.length by omega)]
    have := h k (by omega)
    rw [List.getD_eq_getElem?_getD, List.getElem?_eq_getElem (by omega), Option.getD_some] at this
    simp only [admG]
    rw [if_neg this.1, if_pos this.2]
theorem admG_hit {set k : Nat} {L : List Nat} (hk : k < L.length) (h : ∀ j, j < k → L.getD j 0 ≠ set ∧ L.getD j 0 &&& set = 0) : (L.getD k 0 = set → admG set L = 1) ∧ (L.getD k 0 ≠ set → L.getD k 0 &&& set ≠ 0 → admG set L = 2) := by
  rw [admG_drop k (by omega) h, List.drop_eq_getElem_cons hk, List.getD_eq_getElem?_getD, List.getElem?_eq_getElem hk, Option.getD_some]
  simp only [admG]
  exact ⟨fun e => if_pos e, fun e f => by rw [if_neg e, if_neg f]⟩
def BW (w : Wd) (L : List Nat) : Prop := w 17 1 = (L.length : Nat) ∧ ∀ j, j < L.length → w 18 j = (L.getD j 0 : Nat)
def BV (L : List Nat) : Prop := L.length ≤ 7 ∧ ∀ x, x ∈ L → x < 128
theorem BV.at {L : List Nat} (h : BV L) {j : Nat} (hj : j < L.length) : L.getD j 0 < 128 := h.2 _ (getD_mem hj)
theorem BV.adm {L M : List Nat} {set : Nat} (h : BV L) (hs : set < 128) (e : admL L set = some M) : BV M ∧ L.length ≤ M.length ∧ ∀ j, j < L.length → M.getD j 0 = L.getD j 0 := by
  unfold admL at e
  split at e
  · cases e; exact ⟨h, Nat.le_refl _, fun _ _ => rfl⟩
  · split at e
    · cases e
    · split at e
      · cases e
      · cases e
        refine ⟨⟨by rw [List.length_append]; simp; omega, fun x hx => ?_⟩, by simp, fun j hj => ?_⟩
        · rw [List.mem_append, List.mem_singleton] at hx
          rcases hx with q | q
          · exact h.2 x q
          · rw [q]; exact hs
        · rw [List.getD_eq_getElem?_getD, List.getElem?_append_left hj, ← List.getD_eq_getElem?_getD]
def mvL (p : Nat → Nat) (set : Nat) : Nat → Nat
  | 0 => 0
  | k + 1 => if set &&& bt (k + 1) = 0 then mvL p set k else mvL p set k ||| bt (p (k + 1))
def mvd (p : Nat → Nat) (set : Nat) : Nat := mvL p set 7
theorem mvL_lt {p : Nat → Nat} (hp : P7 p) (set : Nat) : ∀ k, k ≤ 7 → mvL p set k < 128
  | 0, _ => by show 0 < 128; decide
  | k + 1, h => by
    have a := mvL_lt hp set k (by omega)
    have b := hp (k + 1) (by omega) h
    simp only [mvL]
    split
    · exact a
    · exact or_lt7 a (bt_lt b.1 b.2)
def layF (s a : Nat → Nat) : Nat → Nat → List Nat → Option (List Nat)
  | 0, _, L => some L
  | k + 1, i, L => if i < L.length then (match admL L (mvd s (L.getD i 0)) with | none => none | some M => (match admL M (mvd a (M.getD i 0)) with | none => none | some K => layF s a k (i + 1) K)) else some L
def layN (s a : Nat → Nat) (set : Nat) : Option (List Nat) := layF s a 7 0 [set]
theorem layF_stop {s a : Nat → Nat} {k : Nat} {L : List Nat} (h : ¬ k < L.length) : ∀ j, layF s a j k L = some L
  | 0 => rfl
  | j + 1 => by simp only [layF]; rw [if_neg h]
theorem BW.push {w w' : Wd} {L : List Nat} {set : Nat} (h : BW w L) (e : w' = up (up w 18 L.length (set : Nat)) 17 1 ((L.length : Nat) + 1)) : BW w' (L ++ [set]) := by
  subst e
  refine ⟨by rw [up_eq, List.length_append]; simp, fun j hj => ?_⟩
  rw [List.length_append] at hj
  simp at hj
  rw [up_ne _ _ (by omega), List.getD_eq_getElem?_getD]
  by_cases q : j = L.length
  · subst q; rw [up_eq, List.getElem?_append_right (Nat.le_refl _)]; simp
  · rw [up_ne _ _ (by omega), List.getElem?_append_left (by omega), ← List.getD_eq_getElem?_getD]; exact h.2 j (by omega)
set_option maxHeartbeats 4000000 in
set_option maxRecDepth 100000 in
theorem c_moved (l : Launch) (G : Gx) {p0 s0 : Int} {p : Nat → Nat} {set : Nat} (hp : p0 = (hx p : Nat)) (hp7 : P7 p) (hs : s0 = set) (hset : set < 128) (w : Wd)  : SpP l G 1 mX0_moved [aI (p0), aI (s0)] w (((mvd p set : Nat) : Int)) := by
  refine Sp_of RX0 rfl (by decide +kernel) rfl (Nat.le_of_ble_eq_true rfl) ?_
  refine v_iconst (pc' := 1) rfl dX0_moved_0 ?_
  refine v_istore_n (ls' := [(2, _), (0, _), (1, _)]) (pc' := 2) rfl dX0_moved_1 rfl rfl rfl ?_
  refine v_iconst (pc' := 3) rfl dX0_moved_2 ?_
  refine v_istore_n (ls' := [(3, _), (2, _), (0, _), (1, _)]) (pc' := 4) rfl dX0_moved_3 rfl rfl rfl ?_
  refine v_ls [2, 3, 1, 0] rfl ?_
  refine v_loop2 4 (fun (im : Int) (x : Int) => ∃ k : Nat, x = k + 1 ∧ k ≤ 7 ∧ im = (mvL p set k : Nat)) (fun (im : Int) (x : Int) => (8 - x).toNat) (fun (im : Int) (x : Int) => [(0, aI (p0)), (1, aI (s0)), (2, aI (im)), (3, aI (x))]) (fun (im : Int) (x : Int) => []) (fun (im : Int) (x : Int) => w) (fun im x hI0 ih0 => ?_) (0) (1) (⟨0, rfl, by omega, rfl⟩)
  obtain ⟨k, hk, hk7, him⟩ := hI0
  refine v_iload_n 3 (pc' := 5) rfl dX0_moved_4 rfl rfl ?_
  refine v_bipush (pc' := 7) rfl dX0_moved_5 rfl ?_
  refine v_icmp_gt (pc' := 10) (tgt := 36) rfl dX0_moved_7 (by decide) (by omega) (by omega) (fun c0 => ?_) (fun c0 => ?_)
  ·
    refine v_iload_n 2 (pc' := 37) rfl dX0_moved_36 rfl rfl ?_
    refine v_iret dX0_moved_37 (by decide) (rfl) ?_
    have e7 : k = 7 := by omega
    subst e7
    exact ⟨him, rfl⟩
  ·
    have hpk := hp7 (k + 1) (by omega) (by omega)
    refine v_iload_n 1 (pc' := 11) rfl dX0_moved_10 rfl rfl ?_
    refine v_iload_n 3 (pc' := 12) rfl dX0_moved_11 rfl rfl ?_
    refine v_cSP (pc' := 15) rfl dX0_moved_12 lk_RX0_44 rfl (c_bit l G (x := k + 1) (by omega) (by omega) (by omega) w) rfl rfl rfl ?_
    refine v_nm (fun bit1 hbit1 => ?_)
    refine v_iand (z := ((set &&& bt (k + 1) : Nat) : Int)) (pc' := 16) rfl dX0_moved_15 (iz_andE hs hbit1) ?_
    refine v_if_eq (pc' := 19) (tgt := 30) rfl dX0_moved_16 (by decide) (by have := and_lt7 (b := bt (k + 1)) hset; omega) (fun c1 => ?_) (fun c1 => ?_)
    ·
      have hA : set &&& bt (k + 1) = 0 := by omega
      refine v_iinc (ls' := [(3, _), (0, _), (1, _), (2, _)]) 3 (pc' := 33) rfl dX0_moved_30 rfl rfl rfl ?_
      refine v_nl (fun x' hx' => ?_)
      refine v_goto (tgt := 4) dX0_moved_33 (by decide) ?_
      refine v_ls [1, 2, 3, 0] rfl ?_
      exact ih0 (im) (x') (⟨k + 1, by omega, by omega, by simp only [mvL]; rw [if_pos hA, him]⟩) (by omega)
    ·
      have hA : ¬ set &&& bt (k + 1) = 0 := by omega
      refine v_iload_n 2 (pc' := 20) rfl dX0_moved_19 rfl rfl ?_
      refine v_iload_n 0 (pc' := 21) rfl dX0_moved_20 rfl rfl ?_
      refine v_iload_n 3 (pc' := 22) rfl dX0_moved_21 rfl rfl ?_
      refine v_cSP (pc' := 25) rfl dX0_moved_22 lk_RX0_49 rfl (c_at l G hp hp7.B (x := k + 1) (by omega) (by omega) (by omega) w) rfl rfl rfl ?_
      refine v_nm (fun at1 hat1 => ?_)
      refine v_cSP (pc' := 28) rfl dX0_moved_25 lk_RX0_44 rfl (c_bit l G hat1 hpk.1 (by omega) w) rfl rfl rfl ?_
      refine v_nm (fun bit2 hbit2 => ?_)
      refine v_ior (z := ((mvL p set k ||| bt (p (k + 1)) : Nat) : Int)) (pc' := 29) rfl dX0_moved_28 (iz_orE him hbit2) ?_
      refine v_nm (fun im' him' => ?_)
      refine v_istore_n (ls' := [(2, _), (0, _), (1, _), (3, _)]) (pc' := 30) rfl dX0_moved_29 rfl rfl rfl ?_
      refine v_iinc (ls' := [(3, _), (2, _), (0, _), (1, _)]) 3 (pc' := 33) rfl dX0_moved_30 rfl rfl rfl ?_
      refine v_nl (fun x' hx' => ?_)
      refine v_goto (tgt := 4) dX0_moved_33 (by decide) ?_
      refine v_ls [2, 3, 1, 0] rfl ?_
      exact ih0 (im') (x') (⟨k + 1, by omega, by omega, by simp only [mvL]; rw [if_neg hA, him']⟩) (by omega)
set_option maxHeartbeats 4000000 in
set_option maxRecDepth 100000 in
theorem c_admit (l : Launch) (G : Gx) {s0 : Int} {set : Nat} {L : List Nat} (hs : s0 = set) (hset : set < 128) (hV : BV L) (w : Wd) (hB : BW w L) : Sp l G 0 mX0_admit [aR 17, aI (s0)] w (fun z w' => ((z = 1 ∧ ∃ M, admL L set = some M ∧ BW w' M) ∨ (z = 0 ∧ admL L set = none ∧ w' = w)) ∧ Fr [17, 18] w w') := by
  have bm := hB.1
  have hl := hV.1
  refine Sp_of RX0 rfl (by decide +kernel) rfl (Nat.le_of_ble_eq_true rfl) ?_
  refine v_iconst (pc' := 1) rfl dX0_admit_0 ?_
  refine v_istore_n (ls' := [(2, _), (0, _), (1, _)]) (pc' := 2) rfl dX0_admit_1 rfl rfl rfl ?_
  refine v_ls [1, 2, 0] rfl ?_
  refine v_loop1 2 (fun (i : Int) => ∃ k : Nat, i = k ∧ k ≤ L.length ∧ ∀ j, j < k → L.getD j 0 ≠ set ∧ L.getD j 0 &&& set = 0) (fun (i : Int) => (7 - i).toNat) (fun (i : Int) => [(0, aR 17), (1, aI (s0)), (2, aI (i))]) (fun (i : Int) => []) (fun (i : Int) => w) (fun i hI0 ih0 => ?_) (0) (⟨0, rfl, by omega, fun j h => by omega⟩)
  obtain ⟨k, hi, hk, hno⟩ := hI0
  refine v_iload_n 2 (pc' := 3) rfl dX0_admit_2 rfl rfl ?_
  refine v_aload_n 0 (pc' := 4) rfl dX0_admit_3 rfl rfl ?_
  refine v_get (z := ((L.length : Nat) : Int)) (pc' := 7) rfl dX0_admit_4 fk_RX0_32 ly_17 rfl (bm) ?_
  refine v_icmp_ge (pc' := 10) (tgt := 47) rfl dX0_admit_7 (by decide) (by omega) (by omega) (fun c0 => ?_) (fun c0 => ?_)
  ·
    have hz : admG set L = 0 := by rw [admG_drop L.length (Nat.le_refl _) (fun j hj => hno j (by omega)), List.drop_length]; rfl
    refine v_aload_n 0 (pc' := 48) rfl dX0_admit_47 rfl rfl ?_
    refine v_get (z := ((L.length : Nat) : Int)) (pc' := 51) rfl dX0_admit_48 fk_RX0_32 ly_17 rfl (bm) ?_
    refine v_bipush (pc' := 53) rfl dX0_admit_51 rfl ?_
    refine v_icmp_lt (pc' := 56) (tgt := 58) rfl dX0_admit_53 (by decide) (by omega) (by omega) (fun c4 => ?_) (fun c4 => ?_)
    ·
      refine v_aload_n 0 (pc' := 59) rfl dX0_admit_58 rfl rfl ?_
      refine v_getR (pc' := 62) rfl dX0_admit_59 fk_RX0_9 ly_17 rfl ?_
      refine v_aload_n 0 (pc' := 63) rfl dX0_admit_62 rfl rfl ?_
      refine v_get (z := ((L.length : Nat) : Int)) (pc' := 66) rfl dX0_admit_63 fk_RX0_32 ly_17 rfl (bm) ?_
      refine v_iload_n 1 (pc' := 67) rfl dX0_admit_66 rfl rfl ?_
      refine v_iast (pc' := 68) rfl dX0_admit_67 ly_18 (by omega) (by omega) rfl ?_
      refine v_nmw (fun w1 hw1 => ?_)
      have bm : w1 17 1 = ((L.length : Nat) : Int) := by rw [hw1, up_ne _ _ (by omega)]; exact bm
      refine v_aload_n 0 (pc' := 69) rfl dX0_admit_68 rfl rfl ?_
      refine v_dupR (pc' := 70) rfl dX0_admit_69 ?_
      refine v_get (z := ((L.length : Nat) : Int)) (pc' := 73) rfl dX0_admit_70 fk_RX0_32 ly_17 rfl (bm) ?_
      refine v_iconst (pc' := 74) rfl dX0_admit_73 ?_
      refine v_iadd (pc' := 75) rfl dX0_admit_74 ?_
      refine v_put (pc' := 78) rfl dX0_admit_75 fi_RX0_32 ly_17 rfl ?_
      refine v_nmw (fun w2 hw2 => ?_)
      refine v_iconst (pc' := 79) rfl dX0_admit_78 ?_
      refine v_iret dX0_admit_79 (by decide) (rfl) ?_
      exact ⟨Or.inl ⟨rfl, L ++ [set], by unfold admL; rw [hz, if_neg (by decide), if_neg (by decide), if_neg (by omega)], hB.push (by rw [hw2, hw1, hs]; rfl)⟩, by rw [hw2, hw1]; exact ((Fr.rf _ _).up rfl).up rfl⟩
    ·
      refine v_iconst (pc' := 57) rfl dX0_admit_56 ?_
      refine v_iret dX0_admit_57 (by decide) (rfl) ?_
      exact ⟨Or.inr ⟨rfl, by unfold admL; rw [hz, if_neg (by decide), if_neg (by decide), if_pos (by omega)], rfl⟩, Fr.rf _ _⟩
  ·
    have hx1 := hV.at (show k < L.length by omega)
    have hh := admG_hit (show k < L.length by omega) hno
    refine v_iload_n 2 (pc' := 11) rfl dX0_admit_10 rfl rfl ?_
    refine v_bipush (pc' := 13) rfl dX0_admit_11 rfl ?_
    refine v_icmp_ge (pc' := 16) (tgt := 47) rfl dX0_admit_13 (by decide) (by omega) (by omega) (fun c1 => ?_) (fun c1 => ?_)
    ·
      have hz : admG set L = 0 := by rw [admG_drop L.length (Nat.le_refl _) (fun j hj => hno j (by omega)), List.drop_length]; rfl
      refine v_aload_n 0 (pc' := 48) rfl dX0_admit_47 rfl rfl ?_
      refine v_get (z := ((L.length : Nat) : Int)) (pc' := 51) rfl dX0_admit_48 fk_RX0_32 ly_17 rfl (bm) ?_
      refine v_bipush (pc' := 53) rfl dX0_admit_51 rfl ?_
      refine v_icmp_lt (pc' := 56) (tgt := 58) rfl dX0_admit_53 (by decide) (by omega) (by omega) (fun c4 => ?_) (fun c4 => ?_)
      ·
        refine v_aload_n 0 (pc' := 59) rfl dX0_admit_58 rfl rfl ?_
        refine v_getR (pc' := 62) rfl dX0_admit_59 fk_RX0_9 ly_17 rfl ?_
        refine v_aload_n 0 (pc' := 63) rfl dX0_admit_62 rfl rfl ?_
        refine v_get (z := ((L.length : Nat) : Int)) (pc' := 66) rfl dX0_admit_63 fk_RX0_32 ly_17 rfl (bm) ?_
        refine v_iload_n 1 (pc' := 67) rfl dX0_admit_66 rfl rfl ?_
        refine v_iast (pc' := 68) rfl dX0_admit_67 ly_18 (by omega) (by omega) rfl ?_
        refine v_nmw (fun w1 hw1 => ?_)
        have bm : w1 17 1 = ((L.length : Nat) : Int) := by rw [hw1, up_ne _ _ (by omega)]; exact bm
        refine v_aload_n 0 (pc' := 69) rfl dX0_admit_68 rfl rfl ?_
        refine v_dupR (pc' := 70) rfl dX0_admit_69 ?_
        refine v_get (z := ((L.length : Nat) : Int)) (pc' := 73) rfl dX0_admit_70 fk_RX0_32 ly_17 rfl (bm) ?_
        refine v_iconst (pc' := 74) rfl dX0_admit_73 ?_
        refine v_iadd (pc' := 75) rfl dX0_admit_74 ?_
        refine v_put (pc' := 78) rfl dX0_admit_75 fi_RX0_32 ly_17 rfl ?_
        refine v_nmw (fun w2 hw2 => ?_)
        refine v_iconst (pc' := 79) rfl dX0_admit_78 ?_
        refine v_iret dX0_admit_79 (by decide) (rfl) ?_
        exact ⟨Or.inl ⟨rfl, L ++ [set], by unfold admL; rw [hz, if_neg (by decide), if_neg (by decide), if_neg (by omega)], hB.push (by rw [hw2, hw1, hs]; rfl)⟩, by rw [hw2, hw1]; exact ((Fr.rf _ _).up rfl).up rfl⟩
      ·
        refine v_iconst (pc' := 57) rfl dX0_admit_56 ?_
        refine v_iret dX0_admit_57 (by decide) (rfl) ?_
        exact ⟨Or.inr ⟨rfl, by unfold admL; rw [hz, if_neg (by decide), if_neg (by decide), if_pos (by omega)], rfl⟩, Fr.rf _ _⟩
    ·
      refine v_aload_n 0 (pc' := 17) rfl dX0_admit_16 rfl rfl ?_
      refine v_getR (pc' := 20) rfl dX0_admit_17 fk_RX0_9 ly_17 rfl ?_
      refine v_iload_n 2 (pc' := 21) rfl dX0_admit_20 rfl rfl ?_
      refine v_iald (z := ((L.getD k 0 : Nat) : Int)) (pc' := 22) rfl dX0_admit_21 ly_18 (by omega) (by omega) rfl (by rw [show i.toNat = k by omega]; exact hB.2 k (by omega)) ?_
      refine v_iload_n 1 (pc' := 23) rfl dX0_admit_22 rfl rfl ?_
      refine v_icmp_ne (pc' := 26) (tgt := 28) rfl dX0_admit_23 (by decide) (by omega) (by omega) (fun c2 => ?_) (fun c2 => ?_)
      ·
        have hne : L.getD k 0 ≠ set := by omega
        refine v_aload_n 0 (pc' := 29) rfl dX0_admit_28 rfl rfl ?_
        refine v_getR (pc' := 32) rfl dX0_admit_29 fk_RX0_9 ly_17 rfl ?_
        refine v_iload_n 2 (pc' := 33) rfl dX0_admit_32 rfl rfl ?_
        refine v_iald (z := ((L.getD k 0 : Nat) : Int)) (pc' := 34) rfl dX0_admit_33 ly_18 (by omega) (by omega) rfl (by rw [show i.toNat = k by omega]; exact hB.2 k (by omega)) ?_
        refine v_iload_n 1 (pc' := 35) rfl dX0_admit_34 rfl rfl ?_
        refine v_iand (z := ((L.getD k 0 &&& set : Nat) : Int)) (pc' := 36) rfl dX0_admit_35 (iz_andE rfl hs) ?_
        refine v_if_eq (pc' := 39) (tgt := 41) rfl dX0_admit_36 (by decide) (by have := and_lt7 (b := set) hx1; omega) (fun c3 => ?_) (fun c3 => ?_)
        ·
          have hdis : L.getD k 0 &&& set = 0 := by omega
          refine v_iinc (ls' := [(2, _), (0, _), (1, _)]) 2 (pc' := 44) rfl dX0_admit_41 rfl rfl rfl ?_
          refine v_nl (fun i' hi' => ?_)
          refine v_goto (tgt := 2) dX0_admit_44 (by decide) ?_
          refine v_ls [1, 2, 0] rfl ?_
          exact ih0 (i') (⟨k + 1, by omega, by omega, fun j h => by
              rcases Nat.lt_or_ge j k with q | q
              · exact hno j q
              · rw [show j = k by omega]; exact ⟨hne, hdis⟩⟩) (by omega)
        ·
          have hdis : L.getD k 0 &&& set ≠ 0 := by omega
          refine v_iconst (pc' := 40) rfl dX0_admit_39 ?_
          refine v_iret dX0_admit_40 (by decide) (rfl) ?_
          exact ⟨Or.inr ⟨rfl, by unfold admL; rw [hh.2 hne hdis]; rfl, rfl⟩, Fr.rf _ _⟩
      ·
        have heq : L.getD k 0 = set := by omega
        refine v_iconst (pc' := 27) rfl dX0_admit_26 ?_
        refine v_iret dX0_admit_27 (by decide) (rfl) ?_
        exact ⟨Or.inl ⟨rfl, L, by unfold admL; rw [if_pos (hh.1 heq)], hB⟩, Fr.rf _ _⟩
set_option maxHeartbeats 4000000 in
set_option maxRecDepth 100000 in
theorem c_lay (l : Launch) (G : Gx) {p q s0 : Int} {s a : Nat → Nat} {set : Nat} (hp : p = (hx s : Nat)) (hq : q = (hx a : Nat)) (hs7 : P7 s) (ha7 : P7 a) (hs : s0 = set) (hset : set < 128) (w : Wd)  : Sp l G 2 mX0_lay [aR 17, aI (p), aI (q), aI (s0)] w (fun z w' => ((z = 1 ∧ ∃ M, layN s a set = some M ∧ BV M ∧ BW w' M) ∨ (z = 0 ∧ layN s a set = none)) ∧ Fr [17, 18] w w') := by
  refine Sp_of RX0 rfl (by decide +kernel) rfl (Nat.le_of_ble_eq_true rfl) ?_
  refine v_aload_n 0 (pc' := 1) rfl dX0_lay_0 rfl rfl ?_
  refine v_iconst (pc' := 2) rfl dX0_lay_1 ?_
  refine v_put (pc' := 5) rfl dX0_lay_2 fi_RX0_32 ly_17 rfl ?_
  refine v_nmw (fun w1 hw1 => ?_)
  refine v_aload_n 0 (pc' := 6) rfl dX0_lay_5 rfl rfl ?_
  refine v_iload_n 3 (pc' := 7) rfl dX0_lay_6 rfl rfl ?_
  refine v_cVi (pc' := 10) rfl dX0_lay_7 lk_RX0_36 ly_17 rfl (c_admit l G (L := []) hs hset ⟨by decide, fun x h => absurd h List.not_mem_nil⟩ w1 ⟨by rw [hw1, up_eq]; rfl, fun j hj => absurd hj (Nat.not_lt_zero _)⟩) rfl rfl rfl (fun admit1 w2 hq2 => ?_)
  obtain ⟨hq2a, hq2b⟩ := hq2
  have hfr2 : Fr [17, 18] w w2 := (show Fr [17, 18] w w1 by rw [hw1]; exact (Fr.rf _ _).up rfl).trs hq2b
  refine v_if_ne (pc' := 13) (tgt := 15) rfl dX0_lay_10 (by decide) (by rcases hq2a with ⟨h, -⟩ | ⟨h, -⟩ <;> omega) (fun c0 => ?_) (fun c0 => ?_)
  ·
    have hBs : BW w2 [set] := by
      rcases hq2a with ⟨-, M, e, h⟩ | ⟨h, -⟩
      · have : M = [set] := (Option.some.inj e).symm
        rw [this] at h; exact h
      · omega
    refine v_iconst (pc' := 16) rfl dX0_lay_15 ?_
    refine v_istore (ls' := [(4, _), (0, _), (1, _), (2, _), (3, _)]) (pc' := 18) rfl dX0_lay_16 rfl rfl ?_
    refine v_ls [1, 2, 3, 4, 0] rfl ?_
    refine v_loop2 18 (fun (i : Int) (wl : Wd) => ∃ (k j : Nat) (L : List Nat), i = k ∧ k + j = 7 ∧ BV L ∧ BW wl L ∧ layF s a j k L = layN s a set ∧ Fr [17, 18] w wl) (fun (i : Int) (wl : Wd) => (7 - i).toNat) (fun (i : Int) (wl : Wd) => [(0, aR 17), (1, aI (p)), (2, aI (q)), (3, aI (s0)), (4, aI (i))]) (fun (i : Int) (wl : Wd) => []) (fun (i : Int) (wl : Wd) => wl) (fun i wl hI0 ih0 => ?_) (0) w2 (⟨0, 7, [set], rfl, rfl, ⟨by simp, fun x h => by rw [List.mem_singleton.mp h]; exact hset⟩, hBs, rfl, hfr2⟩)
    obtain ⟨k, j, L, hi, hkj, hV, hB, hR, hfl⟩ := hI0
    have bm := hB.1
    have hl := hV.1
    refine v_iload 4 (pc' := 20) rfl dX0_lay_18 rfl ?_
    refine v_aload_n 0 (pc' := 21) rfl dX0_lay_20 rfl rfl ?_
    refine v_get (z := ((L.length : Nat) : Int)) (pc' := 24) rfl dX0_lay_21 fk_RX0_32 ly_17 rfl (bm) ?_
    refine v_icmp_ge (pc' := 27) (tgt := 78) rfl dX0_lay_24 (by decide) (by omega) (by omega) (fun c1 => ?_) (fun c1 => ?_)
    ·
      have hnk : ¬ k < L.length := by omega
      refine v_iconst (pc' := 79) rfl dX0_lay_78 ?_
      refine v_iret dX0_lay_79 (by decide) (rfl) ?_
      have hy : layN s a set = some L := by
        rw [← hR]; exact layF_stop hnk _
      exact ⟨Or.inl ⟨rfl, L, hy, hV, hB⟩, hfl⟩
    ·
      have hkl : k < L.length := by omega
      obtain ⟨j, rfl⟩ : ∃ x, j = x + 1 := ⟨j - 1, by omega⟩
      refine v_iload 4 (pc' := 29) rfl dX0_lay_27 rfl ?_
      refine v_bipush (pc' := 31) rfl dX0_lay_29 rfl ?_
      refine v_icmp_ge (pc' := 34) (tgt := 78) rfl dX0_lay_31 (by decide) (by omega) (by omega) (fun c2 => ?_) (fun c2 => ?_)
      ·
        have hnk : ¬ k < L.length := by omega
        refine v_iconst (pc' := 79) rfl dX0_lay_78 ?_
        refine v_iret dX0_lay_79 (by decide) (rfl) ?_
        have hy : layN s a set = some L := by
          rw [← hR]; exact layF_stop hnk _
        exact ⟨Or.inl ⟨rfl, L, hy, hV, hB⟩, hfl⟩
      ·
        refine v_aload_n 0 (pc' := 35) rfl dX0_lay_34 rfl rfl ?_
        refine v_iload_n 1 (pc' := 36) rfl dX0_lay_35 rfl rfl ?_
        refine v_aload_n 0 (pc' := 37) rfl dX0_lay_36 rfl rfl ?_
        refine v_getR (pc' := 40) rfl dX0_lay_37 fk_RX0_9 ly_17 rfl ?_
        refine v_iload 4 (pc' := 42) rfl dX0_lay_40 rfl ?_
        refine v_iald (z := ((L.getD k 0 : Nat) : Int)) (pc' := 43) rfl dX0_lay_42 ly_18 (by omega) (by omega) rfl (by rw [show i.toNat = k by omega]; exact hB.2 k hkl) ?_
        refine v_cSP (pc' := 46) rfl dX0_lay_43 lk_RX0_40 rfl (c_moved l G hp hs7 (set := L.getD k 0) rfl (hV.at hkl) wl) rfl rfl rfl ?_
        refine v_nm (fun moved1 hmoved1 => ?_)
        refine v_cVi (pc' := 49) rfl dX0_lay_46 lk_RX0_36 ly_17 rfl (c_admit l G hmoved1 (mvL_lt hs7 _ 7 (by omega)) hV wl hB) rfl rfl rfl (fun admit2 w4 hq4 => ?_)
        obtain ⟨hq4a, hq4b⟩ := hq4
        refine v_if_eq (pc' := 52) (tgt := 70) rfl dX0_lay_49 (by decide) (by rcases hq4a with ⟨h, -⟩ | ⟨h, -⟩ <;> omega) (fun c3 => ?_) (fun c3 => ?_)
        ·
          have hno : layN s a set = none := by
            rcases hq4a with ⟨h, -⟩ | ⟨-, e, -⟩
            · omega
            · rw [← hR]; simp only [layF]; rw [if_pos hkl, e]
          have hfz := hfl.trs hq4b
          refine v_iconst (pc' := 71) rfl dX0_lay_70 ?_
          refine v_iret dX0_lay_71 (by decide) (rfl) ?_
          exact ⟨Or.inr ⟨rfl, hno⟩, hfz⟩
        ·
          obtain ⟨M, hM, hBM⟩ : ∃ M, admL L (mvd s (L.getD k 0)) = some M ∧ BW w4 M := by
            rcases hq4a with ⟨-, M, e, h⟩ | ⟨h, -⟩
            · exact ⟨M, e, h⟩
            · omega
          obtain ⟨hVM, hlM, -⟩ := hV.adm (mvL_lt hs7 _ 7 (by omega)) hM
          refine v_aload_n 0 (pc' := 53) rfl dX0_lay_52 rfl rfl ?_
          refine v_iload_n 2 (pc' := 54) rfl dX0_lay_53 rfl rfl ?_
          refine v_aload_n 0 (pc' := 55) rfl dX0_lay_54 rfl rfl ?_
          refine v_getR (pc' := 58) rfl dX0_lay_55 fk_RX0_9 ly_17 rfl ?_
          refine v_iload 4 (pc' := 60) rfl dX0_lay_58 rfl ?_
          refine v_iald (z := ((M.getD k 0 : Nat) : Int)) (pc' := 61) rfl dX0_lay_60 ly_18 (by omega) (by omega) rfl (by rw [show i.toNat = k by omega]; exact hBM.2 k (by omega)) ?_
          refine v_cSP (pc' := 64) rfl dX0_lay_61 lk_RX0_40 rfl (c_moved l G hq ha7 (set := M.getD k 0) rfl (hVM.at (by omega)) w4) rfl rfl rfl ?_
          refine v_nm (fun moved2 hmoved2 => ?_)
          refine v_cVi (pc' := 67) rfl dX0_lay_64 lk_RX0_36 ly_17 rfl (c_admit l G hmoved2 (mvL_lt ha7 _ 7 (by omega)) hVM w4 hBM) rfl rfl rfl (fun admit3 w6 hq6 => ?_)
          obtain ⟨hq6a, hq6b⟩ := hq6
          refine v_if_ne (pc' := 70) (tgt := 72) rfl dX0_lay_67 (by decide) (by rcases hq6a with ⟨h, -⟩ | ⟨h, -⟩ <;> omega) (fun c4 => ?_) (fun c4 => ?_)
          ·
            obtain ⟨K, hK, hBK⟩ : ∃ K, admL M (mvd a (M.getD k 0)) = some K ∧ BW w6 K := by
              rcases hq6a with ⟨-, K, e, h⟩ | ⟨h, -⟩
              · exact ⟨K, e, h⟩
              · omega
            refine v_iinc (ls' := [(4, _), (0, _), (1, _), (2, _), (3, _)]) 4 (pc' := 75) rfl dX0_lay_72 rfl rfl rfl ?_
            refine v_nl (fun i' hi' => ?_)
            refine v_goto (tgt := 18) dX0_lay_75 (by decide) ?_
            refine v_ls [1, 2, 3, 4, 0] rfl ?_
            exact ih0 (i') w6 (⟨k + 1, j, K, by omega, by omega, (hVM.adm (mvL_lt ha7 _ 7 (by omega)) hK).1, hBK, by rw [← hR]; simp only [layF]; rw [if_pos hkl, hM]; simp only []; rw [hK], (hfl.trs hq4b).trs hq6b⟩) (by omega)
          ·
            have hno : layN s a set = none := by
              rcases hq6a with ⟨h, -⟩ | ⟨-, e, -⟩
              · omega
              · rw [← hR]; simp only [layF]; rw [if_pos hkl, hM]; simp only []; rw [e]
            have hfz := (hfl.trs hq4b).trs hq6b
            refine v_iconst (pc' := 71) rfl dX0_lay_70 ?_
            refine v_iret dX0_lay_71 (by decide) (rfl) ?_
            exact ⟨Or.inr ⟨rfl, hno⟩, hfz⟩
  ·
    exfalso
    exact (by rcases hq2a with ⟨h, -⟩ | ⟨-, e, -⟩; omega; exact absurd e (by unfold admL admG; simp) : False)
set_option maxHeartbeats 4000000 in
set_option maxRecDepth 100000 in
theorem c_withDartOne (l : Launch) (G : Gx)  (w : Wd)  : SpP l G 0 mX0_withDartOne [aR 17] w (w 18 0) := by
  refine Sp_of RX0 rfl (by decide +kernel) rfl (Nat.le_of_ble_eq_true rfl) ?_
  refine v_aload_n 0 (pc' := 1) rfl dX0_withDartOne_0 rfl rfl ?_
  refine v_getR (pc' := 4) rfl dX0_withDartOne_1 fk_RX0_9 ly_17 rfl ?_
  refine v_iconst (pc' := 5) rfl dX0_withDartOne_4 ?_
  refine v_iald (pc' := 6) rfl dX0_withDartOne_5 ly_18 (by omega) (by omega) rfl (rfl) ?_
  refine v_iret dX0_withDartOne_6 (by decide) (rfl) ?_
  exact ⟨rfl, rfl⟩

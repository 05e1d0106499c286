/-! ===== Blocks: find, systems, smaller ===== -/
def sysP (s a : Nat → Nat) (d set : Nat) : Bool := popc set == d && (layN s a set).isSome
def sysI (s a : Nat → Nat) (d : Nat) : Nat → List Nat
  | 0 => []
  | m + 1 => if sysP s a d (2 * m + 1) then sysI s a d m ++ [2 * m + 1] else sysI s a d m
def sysA (n : Nat) (s a : Nat → Nat) : Nat → List Nat
  | 0 => []
  | e + 1 => sysA n s a e ++ sysI s a (e + 2) (2 ^ (n - 1))
def sysL (n : Nat) (s a : Nat → Nat) : List Nat := sysA n s a (n - 2)
theorem sysI_mem {s a : Nat → Nat} {d x : Nat} : ∀ m, x ∈ sysI s a d m ↔ ∃ j, j < m ∧ x = 2 * j + 1 ∧ sysP s a d x = true
  | 0 => by simp only [sysI, List.not_mem_nil]; exact ⟨fun h => h.elim, fun ⟨j, h, _⟩ => by omega⟩
  | m + 1 => by
    simp only [sysI]
    by_cases q : sysP s a d (2 * m + 1) = true
    · rw [if_pos q, List.mem_append, List.mem_singleton, sysI_mem m]
      constructor
      · rintro (⟨j, p, e, r⟩ | e)
        · exact ⟨j, by omega, e, r⟩
        · exact ⟨m, by omega, e, by rw [e]; exact q⟩
      · rintro ⟨j, p, e, r⟩
        by_cases z : j = m
        · right; rw [e, z]
        · exact Or.inl ⟨j, by omega, e, r⟩
    · rw [if_neg q, sysI_mem m]
      constructor
      · rintro ⟨j, p, e, r⟩; exact ⟨j, by omega, e, r⟩
      · rintro ⟨j, p, e, r⟩
        by_cases z : j = m
        · rw [e, z] at r; exact absurd r q
        · exact ⟨j, by omega, e, r⟩
theorem sysI_nd {s a : Nat → Nat} {d : Nat} : ∀ m, (sysI s a d m).Nodup
  | 0 => List.nodup_nil
  | m + 1 => by
    simp only [sysI]
    split
    · unfold List.Nodup
      rw [List.pairwise_append]
      refine ⟨sysI_nd m, by simp, fun x hx y hy e => ?_⟩
      obtain ⟨j, p, q, r⟩ := (sysI_mem m).mp hx
      rw [List.mem_singleton.mp hy] at e
      omega
    · exact sysI_nd m
theorem sysA_mem {n x : Nat} {s a : Nat → Nat} : ∀ e, x ∈ sysA n s a e ↔ ∃ d, d < e ∧ x ∈ sysI s a (d + 2) (2 ^ (n - 1))
  | 0 => by simp only [sysA, List.not_mem_nil]; exact ⟨fun h => h.elim, fun ⟨d, h, _⟩ => by omega⟩
  | e + 1 => by
    simp only [sysA, List.mem_append, sysA_mem e]
    constructor
    · rintro (⟨d, p, q⟩ | q)
      · exact ⟨d, by omega, q⟩
      · exact ⟨e, by omega, q⟩
    · rintro ⟨d, p, q⟩
      by_cases z : d = e
      · subst z; exact Or.inr q
      · exact Or.inl ⟨d, by omega, q⟩
theorem sysA_nd {n : Nat} {s a : Nat → Nat} : ∀ e, (sysA n s a e).Nodup
  | 0 => List.nodup_nil
  | e + 1 => by
    simp only [sysA]
    unfold List.Nodup
    rw [List.pairwise_append]
    refine ⟨sysA_nd e, sysI_nd _, fun x hx y hy q => ?_⟩
    obtain ⟨d, p, r⟩ := (sysA_mem e).mp hx
    obtain ⟨_, _, _, u⟩ := (sysI_mem _).mp r
    obtain ⟨_, _, _, v⟩ := (sysI_mem _).mp hy
    rw [q] at u
    unfold sysP at u v
    simp only [Bool.and_eq_true, beq_iff_eq] at u v
    omega
theorem sysL_mem {n x : Nat} {s a : Nat → Nat} : x ∈ sysL n s a ↔ (x % 2 = 1 ∧ x / 2 < 2 ^ (n - 1)) ∧ (2 ≤ popc x ∧ popc x < n) ∧ (layN s a x).isSome = true := by
  unfold sysL
  rw [sysA_mem]
  constructor
  · rintro ⟨d, p, r⟩
    obtain ⟨j, q, e, u⟩ := (sysI_mem _).mp r
    unfold sysP at u
    simp only [Bool.and_eq_true, beq_iff_eq] at u
    refine ⟨⟨by omega, by omega⟩, ⟨by omega, by omega⟩, u.2⟩
  · rintro ⟨⟨h1, h2⟩, ⟨h3, h4⟩, h5⟩
    refine ⟨popc x - 2, by omega, (sysI_mem _).mpr ⟨x / 2, h2, by omega, ?_⟩⟩
    unfold sysP
    simp only [Bool.and_eq_true, beq_iff_eq]
    exact ⟨by omega, h5⟩
theorem sysL_len (n : Nat) (s a : Nat → Nat) : (sysL n s a).length ≤ 2 ^ (n - 1) := by
  refine fb_holes (2 ^ (n - 1)) _ (fun i => (sysL n s a).getD i 0 / 2) (fun i hi => (sysL_mem.mp (getD_mem (d := 0) hi)).1.2) (fun i j hij hj e => ?_)
  have a1 := (sysL_mem.mp (getD_mem (d := 0) (show i < (sysL n s a).length from Nat.lt_trans hij hj))).1.1
  have a2 := (sysL_mem.mp (getD_mem (d := 0) hj)).1.1
  have e' : (sysL n s a).getD i 0 / 2 = (sysL n s a).getD j 0 / 2 := e
  have : (sysL n s a).getD i 0 = (sysL n s a).getD j 0 := by omega
  exact pw_getD (sysA_nd (n := n) (s := s) (a := a) (n - 2)) hij hj this
theorem two_pow7 {n : Nat} (h1 : 1 ≤ n) (h7 : n ≤ 7) : 2 ^ n = 2 * 2 ^ (n - 1) ∧ 2 ^ n ≤ 128 ∧ 1 ≤ 2 ^ (n - 1) := by
  rcases (show n = 1 ∨ n = 2 ∨ n = 3 ∨ n = 4 ∨ n = 5 ∨ n = 6 ∨ n = 7 by omega) with rfl | rfl | rfl | rfl | rfl | rfl | rfl <;> decide
/-- the sets of a system, by their least darts -/
def SrtOf (L : List Nat) (A : List PC) : Prop := A.Perm (prs L) ∧ SO A A.length
theorem prs_BPW {w : Wd} {L : List Nat} (h : BW w L) : BPW w (prs L) := ⟨by rw [prs_len]; exact h.1, fun j hj => by rw [prs_len] at hj; rw [prs_at L hj]; exact h.2 j hj⟩
theorem find_at {n e m : Nat} {s a : Nat → Nat} (he : e < n - 2) (hm : m < 2 ^ (n - 1)) (hy : sysP s a (e + 2) (2 * m + 1) = true) : (sysA n s a e).length + (sysI s a (e + 2) m).length < (sysL n s a).length ∧ (sysL n s a).getD ((sysA n s a e).length + (sysI s a (e + 2) m).length) 0 = 2 * m + 1 := by
  have preI : ∀ k, m + 1 ≤ k → ∃ Y, sysI s a (e + 2) k = sysI s a (e + 2) m ++ (2 * m + 1) :: Y := by
    intro k hk
    induction k with
    | zero => omega
    | succ k ih =>
      by_cases q : k = m
      · subst q; exact ⟨[], by simp only [sysI]; rw [if_pos hy]⟩
      · obtain ⟨Y, h⟩ := ih (by omega)
        simp only [sysI]
        split
        · exact ⟨Y ++ [2 * k + 1], by rw [h]; simp⟩
        · exact ⟨Y, h⟩
  have preA : ∀ k, e + 1 ≤ k → ∃ Z, sysA n s a k = sysA n s a e ++ (sysI s a (e + 2) (2 ^ (n - 1)) ++ Z) := by
    intro k hk
    induction k with
    | zero => omega
    | succ k ih =>
      by_cases q : k = e
      · subst q; exact ⟨[], by simp [sysA]⟩
      · obtain ⟨Z, h⟩ := ih (by omega)
        exact ⟨Z ++ sysI s a (k + 2) (2 ^ (n - 1)), by simp only [sysA]; rw [h]; simp⟩
  obtain ⟨Y, hY⟩ := preI (2 ^ (n - 1)) (by omega)
  obtain ⟨Z, hZ⟩ := preA (n - 2) (by omega)
  have hl : sysL n s a = (sysA n s a e ++ sysI s a (e + 2) m) ++ (2 * m + 1) :: (Y ++ Z) := by unfold sysL; rw [hZ, hY]; simp
  rw [hl]
  refine ⟨by simp only [List.length_append, List.length_cons]; omega, ?_⟩
  rw [List.getD_eq_getElem?_getD, List.getElem?_append_right (by rw [List.length_append]; omega), List.length_append, Nat.sub_self]
  rfl
set_option maxHeartbeats 4000000 in
set_option maxRecDepth 100000 in
theorem c_find (l : Launch) (G : Gx) {p q n0 i0 : Int} {n : Nat} {s a : Nat → Nat} (hn : n0 = n) (hn1 : 1 ≤ n) (hn7 : n ≤ 7) (hp : p = (hx s : Nat)) (hq : q = (hx a : Nat)) (hs7 : P7 s) (ha7 : P7 a) {i : Nat} (hi : i0 = i) (hi2 : i ≤ 2147483647) (w : Wd)  : Sp l G 3 mX0_find [aR 17, aI (n0), aI (p), aI (q), aI (i0)] w (fun z w' => ((z = 1 ∧ i < (sysL n s a).length ∧ ∃ L A, layN s a ((sysL n s a).getD i 0) = some L ∧ BPW w' A ∧ SrtOf L A) ∨ (z = 0 ∧ (sysL n s a).length ≤ i)) ∧ Fr [17, 18] w w') := by
  have h2n := two_pow7 hn1 hn7
  refine Sp_of RX0 rfl (by decide +kernel) rfl (Nat.le_of_ble_eq_true rfl) ?_
  refine v_iload 4 (pc' := 2) rfl dX0_find_0 rfl ?_
  refine v_istore (ls' := [(5, _), (0, _), (1, _), (2, _), (3, _), (4, _)]) (pc' := 4) rfl dX0_find_2 rfl rfl ?_
  refine v_iconst (pc' := 5) rfl dX0_find_4 ?_
  refine v_istore (ls' := [(6, _), (5, _), (0, _), (1, _), (2, _), (3, _), (4, _)]) (pc' := 7) rfl dX0_find_5 rfl rfl ?_
  refine v_ls [2, 3, 4, 5, 6, 1, 0] rfl ?_
  refine v_loop3 7 (fun (left : Int) (d : Int) (wl : Wd) => ∃ e j : Nat, d = e + 2 ∧ (e + 2 ≤ n ∨ e = 0) ∧ left = j ∧ j + (sysA n s a e).length = i ∧ Fr [17, 18] w wl) (fun (left : Int) (d : Int) (wl : Wd) => (n0 - d).toNat) (fun (left : Int) (d : Int) (wl : Wd) => [(0, aR 17), (1, aI (n0)), (2, aI (p)), (3, aI (q)), (4, aI (i0)), (5, aI (left)), (6, aI (d))]) (fun (left : Int) (d : Int) (wl : Wd) => []) (fun (left : Int) (d : Int) (wl : Wd) => wl) (fun left d wl hI0 ih0 => ?_) (i0) (2) w (⟨0, i, rfl, by omega, hi, rfl, Fr.rf _ _⟩)
  obtain ⟨e, j, hd, hen, hleft, hj, hfl⟩ := hI0
  refine v_iload 6 (pc' := 9) rfl dX0_find_7 rfl ?_
  refine v_iload_n 1 (pc' := 10) rfl dX0_find_9 rfl rfl ?_
  refine v_icmp_ge (pc' := 13) (tgt := 71) rfl dX0_find_10 (by decide) (by omega) (by omega) (fun c0 => ?_) (fun c0 => ?_)
  ·
    have hee : e + 2 = n ∨ (e = 0 ∧ n ≤ 2) := by omega
    refine v_iconst (pc' := 72) rfl dX0_find_71 ?_
    refine v_iret dX0_find_72 (by decide) (rfl) ?_
    refine ⟨Or.inr ⟨rfl, ?_⟩, hfl⟩
    have hl : sysL n s a = sysA n s a e := by
      unfold sysL
      congr 1
      omega
    rw [hl]; omega
  ·
    refine v_iconst (pc' := 14) rfl dX0_find_13 ?_
    refine v_istore (ls' := [(7, _), (0, _), (1, _), (2, _), (3, _), (4, _), (5, _), (6, _)]) (pc' := 16) rfl dX0_find_14 rfl rfl ?_
    refine v_ls [1, 2, 3, 4, 5, 6, 7, 0] rfl ?_
    refine v_loop3 16 (fun (left : Int) (set : Int) (wm : Wd) => ∃ m u : Nat, set = 2 * (m : Int) + 1 ∧ m ≤ 2 ^ (n - 1) ∧ left = u ∧ u + (sysA n s a e).length + (sysI s a (e + 2) m).length = i ∧ Fr [17, 18] w wm) (fun (left : Int) (set : Int) (wm : Wd) => (128 - set).toNat) (fun (left : Int) (set : Int) (wm : Wd) => [(0, aR 17), (1, aI (n0)), (2, aI (p)), (3, aI (q)), (4, aI (i0)), (5, aI (left)), (6, aI (d)), (7, aI (set))]) (fun (left : Int) (set : Int) (wm : Wd) => []) (fun (left : Int) (set : Int) (wm : Wd) => wm) (fun left set wm hI1 ih1 => ?_) (left) (1) wl (⟨0, j, rfl, by omega, hleft, by simp only [sysI, List.length_nil]; omega, hfl⟩)
    obtain ⟨m, u, hset, hm, hleft2, hu, hfm⟩ := hI1
    refine v_iload 7 (pc' := 18) rfl dX0_find_16 rfl ?_
    refine v_iconst (pc' := 19) rfl dX0_find_18 ?_
    refine v_iload_n 1 (pc' := 20) rfl dX0_find_19 rfl rfl ?_
    refine v_ishl (z := ((2 ^ n : Nat) : Int)) (pc' := 21) rfl dX0_find_20 (iz_one_shl hn (by omega)) ?_
    refine v_icmp_ge (pc' := 24) (tgt := 65) rfl dX0_find_21 (by decide) (by omega) (by omega) (fun c1 => ?_) (fun c1 => ?_)
    ·
      have hme : m = 2 ^ (n - 1) := by omega
      refine v_iinc (ls' := [(6, _), (0, _), (1, _), (2, _), (3, _), (4, _), (5, _), (7, _)]) 6 (pc' := 68) rfl dX0_find_65 rfl rfl rfl ?_
      refine v_nl (fun d' hd' => ?_)
      refine v_goto (tgt := 7) dX0_find_68 (by decide) ?_
      refine v_ls [1, 2, 3, 4, 5, 6, 0] rfl ?_
      exact ih0 (left) (d') wm (⟨e + 1, u, by omega, by omega, hleft2, by simp only [sysA, List.length_append]; rw [← hme]; omega, hfm⟩) (by omega)
    ·
      refine v_iload 7 (pc' := 26) rfl dX0_find_24 rfl ?_
      refine v_cSP (pc' := 29) rfl dX0_find_26 lk_RX0_19 rfl (c_bitCount l G (n := 2 * m + 1) (by omega) (by omega) wm) rfl rfl rfl ?_
      refine v_nm (fun bitCount1 hbitCount1 => ?_)
      refine v_iload 6 (pc' := 31) rfl dX0_find_29 rfl ?_
      refine v_icmp_ne (pc' := 34) (tgt := 59) rfl dX0_find_31 (by decide) (by have := popc_le14 (2 * m + 1); omega) (by omega) (fun c2 => ?_) (fun c2 => ?_)
      ·
        have hno : ¬ sysP s a (e + 2) (2 * m + 1) = true := by unfold sysP; rw [beq_false_of_ne (by omega)]; simp
        refine v_iinc (ls' := [(7, _), (0, _), (1, _), (2, _), (3, _), (4, _), (5, _), (6, _)]) 7 (pc' := 62) rfl dX0_find_59 rfl rfl rfl ?_
        refine v_nl (fun set' hset' => ?_)
        refine v_goto (tgt := 16) dX0_find_62 (by decide) ?_
        refine v_ls [1, 2, 3, 4, 5, 6, 7, 0] rfl ?_
        exact ih1 (left) (set') wm (⟨m + 1, u, by omega, by omega, hleft2, by simp only [sysI]; rw [if_neg hno]; exact hu, hfm⟩) (by omega)
      ·
        have hpc : popc (2 * m + 1) = e + 2 := by omega
        refine v_aload_n 0 (pc' := 35) rfl dX0_find_34 rfl rfl ?_
        refine v_iload_n 2 (pc' := 36) rfl dX0_find_35 rfl rfl ?_
        refine v_iload_n 3 (pc' := 37) rfl dX0_find_36 rfl rfl ?_
        refine v_iload 7 (pc' := 39) rfl dX0_find_37 rfl ?_
        refine v_cVi (pc' := 42) rfl dX0_find_39 lk_RX0_25 ly_17 rfl (c_lay l G hp hq hs7 ha7 (set := 2 * m + 1) (by omega) (by omega) wm) rfl rfl rfl (fun lay1 w2 hq2 => ?_)
        obtain ⟨hq2a, hq2b⟩ := hq2
        refine v_if_eq (pc' := 45) (tgt := 59) rfl dX0_find_42 (by decide) (by rcases hq2a with ⟨h, -⟩ | ⟨h, -⟩ <;> omega) (fun c3 => ?_) (fun c3 => ?_)
        ·
          have hno : ¬ sysP s a (e + 2) (2 * m + 1) = true := by
            rcases hq2a with ⟨h, -⟩ | ⟨-, h⟩
            · omega
            · unfold sysP; rw [h]; simp
          refine v_iinc (ls' := [(7, _), (0, _), (1, _), (2, _), (3, _), (4, _), (5, _), (6, _)]) 7 (pc' := 62) rfl dX0_find_59 rfl rfl rfl ?_
          refine v_nl (fun set' hset' => ?_)
          refine v_goto (tgt := 16) dX0_find_62 (by decide) ?_
          refine v_ls [1, 2, 3, 4, 5, 6, 7, 0] rfl ?_
          exact ih1 (left) (set') w2 (⟨m + 1, u, by omega, by omega, hleft2, by simp only [sysI]; rw [if_neg hno]; exact hu, hfm.trs hq2b⟩) (by omega)
        ·
          obtain ⟨L, hL, hVL, hBL⟩ : ∃ M, layN s a (2 * m + 1) = some M ∧ BV M ∧ BW w2 M := by
            rcases hq2a with ⟨-, h⟩ | ⟨h, -⟩
            · exact h
            · omega
          have hyes : sysP s a (e + 2) (2 * m + 1) = true := by unfold sysP; rw [hL, hpc]; simp
          have hBO := layN_BO hs7 ha7 (set := 2 * m + 1) (by omega) (by omega) hL
          refine v_iload 5 (pc' := 47) rfl dX0_find_45 rfl ?_
          refine v_if_ne (pc' := 50) (tgt := 56) rfl dX0_find_47 (by decide) (by omega) (fun c4 => ?_) (fun c4 => ?_)
          ·
            refine v_iinc (ls' := [(5, _), (0, _), (1, _), (2, _), (3, _), (4, _), (6, _), (7, _)]) 5 (pc' := 59) rfl dX0_find_56 rfl rfl rfl ?_
            refine v_nl (fun left' hleft' => ?_)
            refine v_iinc (ls' := [(7, _), (5, _), (0, _), (1, _), (2, _), (3, _), (4, _), (6, _)]) 7 (pc' := 62) rfl dX0_find_59 rfl rfl rfl ?_
            refine v_nl (fun set' hset' => ?_)
            refine v_goto (tgt := 16) dX0_find_62 (by decide) ?_
            refine v_ls [2, 3, 4, 5, 6, 1, 7, 0] rfl ?_
            exact ih1 (left') (set') w2 (⟨m + 1, u - 1, by omega, by omega, by omega, by simp only [sysI]; rw [if_pos hyes, List.length_append]; simp; omega, hfm.trs hq2b⟩) (by omega)
          ·
            have hu0 : u = 0 := by omega
            refine v_aload_n 0 (pc' := 51) rfl dX0_find_50 rfl rfl ?_
            refine v_cVv (pc' := 54) rfl dX0_find_51 lk_RX0_29 ly_17 rfl (c_sort0 l G (hBO.1.prs hVL.1) w2 (prs_BPW hBL)) rfl rfl rfl (fun sort1 w3 hq3 => ?_)
            obtain ⟨hq3a, A, hA1, hA2, hA3⟩ := hq3
            refine v_iconst (pc' := 55) rfl dX0_find_54 ?_
            refine v_iret dX0_find_55 (by decide) (rfl) ?_
            refine ⟨Or.inl ⟨rfl, ?_⟩, (hfm.trs hq2b).trs hq3a⟩
            have key := find_at (n := n) (s := s) (a := a) (e := e) (m := m) (by omega) (by omega) hyes
            rw [show (sysA n s a e).length + (sysI s a (e + 2) m).length = i by omega] at key
            exact ⟨key.1, L, A, by rw [key.2]; exact hL, hA2, hA1, hA3⟩
set_option maxHeartbeats 4000000 in
set_option maxRecDepth 100000 in
theorem c_systems (l : Launch) (G : Gx) {p q n0 : Int} {n : Nat} {s a : Nat → Nat} (hn : n0 = n) (hn1 : 1 ≤ n) (hn7 : n ≤ 7) (hp : p = (hx s : Nat)) (hq : q = (hx a : Nat)) (hs7 : P7 s) (ha7 : P7 a) (w : Wd)  : Sp l G 4 mX0_systems [aR 17, aI (n0), aI (p), aI (q)] w (fun z w' => z = ((sysL n s a).length : Nat) ∧ Fr [17, 18] w w') := by
  have h2n := two_pow7 hn1 hn7
  have hsl := sysL_len n s a
  refine Sp_of RX0 rfl (by decide +kernel) rfl (Nat.le_of_ble_eq_true rfl) ?_
  refine v_iconst (pc' := 1) rfl dX0_systems_0 ?_
  refine v_istore (ls' := [(4, _), (0, _), (1, _), (2, _), (3, _)]) (pc' := 3) rfl dX0_systems_1 rfl rfl ?_
  refine v_ls [1, 2, 3, 4, 0] rfl ?_
  refine v_loop2 3 (fun (fnd : Int) (wl : Wd) => ∃ k : Nat, fnd = k ∧ k ≤ (sysL n s a).length ∧ Fr [17, 18] w wl) (fun (fnd : Int) (wl : Wd) => (128 - fnd).toNat) (fun (fnd : Int) (wl : Wd) => [(0, aR 17), (1, aI (n0)), (2, aI (p)), (3, aI (q)), (4, aI (fnd))]) (fun (fnd : Int) (wl : Wd) => []) (fun (fnd : Int) (wl : Wd) => wl) (fun fnd wl hI0 ih0 => ?_) (0) w (⟨0, rfl, by omega, Fr.rf _ _⟩)
  obtain ⟨k, hf, hk, hfl⟩ := hI0
  refine v_iload 4 (pc' := 5) rfl dX0_systems_3 rfl ?_
  refine v_iconst (pc' := 6) rfl dX0_systems_5 ?_
  refine v_iload_n 1 (pc' := 7) rfl dX0_systems_6 rfl rfl ?_
  refine v_ishl (z := ((2 ^ n : Nat) : Int)) (pc' := 8) rfl dX0_systems_7 (iz_one_shl hn (by omega)) ?_
  refine v_icmp_ge (pc' := 11) (tgt := 29) rfl dX0_systems_8 (by decide) (by omega) (by omega) (fun c0 => ?_) (fun c0 => ?_)
  ·
    omega
  ·
    refine v_aload_n 0 (pc' := 12) rfl dX0_systems_11 rfl rfl ?_
    refine v_iload_n 1 (pc' := 13) rfl dX0_systems_12 rfl rfl ?_
    refine v_iload_n 2 (pc' := 14) rfl dX0_systems_13 rfl rfl ?_
    refine v_iload_n 3 (pc' := 15) rfl dX0_systems_14 rfl rfl ?_
    refine v_iload 4 (pc' := 17) rfl dX0_systems_15 rfl ?_
    refine v_cVi (pc' := 20) rfl dX0_systems_17 lk_RX0_15 ly_17 rfl (c_find l G hn hn1 hn7 hp hq hs7 ha7 (i := k) hf (by omega) wl) rfl rfl rfl (fun find1 w1 hq1 => ?_)
    obtain ⟨hq1a, hq1b⟩ := hq1
    refine v_if_eq (pc' := 23) (tgt := 29) rfl dX0_systems_20 (by decide) (by rcases hq1a with ⟨h, -⟩ | ⟨h, -⟩ <;> omega) (fun c1 => ?_) (fun c1 => ?_)
    ·
      have hke : k = (sysL n s a).length := by
        rcases hq1a with ⟨h, -⟩ | ⟨-, h⟩
        · omega
        · omega
      refine v_iload 4 (pc' := 31) rfl dX0_systems_29 rfl ?_
      refine v_iret dX0_systems_31 (by decide) (rfl) ?_
      exact ⟨by rw [hf, hke], hfl.trs hq1b⟩
    ·
      have hkl : k < (sysL n s a).length := by
        rcases hq1a with ⟨-, h, -⟩ | ⟨h, -⟩
        · exact h
        · omega
      refine v_iinc (ls' := [(4, _), (0, _), (1, _), (2, _), (3, _)]) 4 (pc' := 26) rfl dX0_systems_23 rfl rfl rfl ?_
      refine v_nl (fun fnd' hfnd' => ?_)
      refine v_goto (tgt := 3) dX0_systems_26 (by decide) ?_
      refine v_ls [1, 2, 3, 4, 0] rfl ?_
      exact ih0 (fnd') w1 (⟨k + 1, by omega, by omega, hfl.trs hq1b⟩) (by omega)

/-! ===== Blocks: sort, find ===== -/
def BO (L : List Nat) : Prop := (∀ x, x ∈ L → x < 128 ∧ x ≠ 0) ∧ L.Pairwise (fun x y => x &&& y = 0)
theorem admG_0 {set : Nat} : ∀ {L : List Nat}, admG set L ≠ 1 → admG set L ≠ 2 → ∀ x, x ∈ L → x ≠ set ∧ x &&& set = 0
  | [], _, _, x, h => absurd h List.not_mem_nil
  | y :: L, h1, h2, x, h => by
    simp only [admG] at h1 h2
    by_cases q : y = set
    · rw [if_pos q] at h1; exact absurd rfl h1
    · rw [if_neg q] at h1 h2
      by_cases r : y &&& set = 0
      · rw [if_pos r] at h1 h2
        rcases List.mem_cons.mp h with e | e
        · rw [e]; exact ⟨q, r⟩
        · exact admG_0 h1 h2 x e
      · rw [if_neg r] at h2; exact absurd rfl h2
theorem BO.adm {L M : List Nat} {set : Nat} (h : BO L) (hs : set < 128) (h0 : set ≠ 0) (e : admL L set = some M) : BO M := by
  unfold admL at e
  split at e
  · cases e; exact h
  · split at e
    · cases e
    · split at e
      · cases e
      · rename_i q1 q2 q3
        cases e
        refine ⟨fun x hx => ?_, ?_⟩
        · rw [List.mem_append, List.mem_singleton] at hx
          rcases hx with q | q
          · exact h.1 x q
          · rw [q]; exact ⟨hs, h0⟩
        · rw [List.pairwise_append]
          refine ⟨h.2, by simp, fun x hx y hy => ?_⟩
          rw [List.mem_singleton.mp hy]
          exact (admG_0 q1 q2 x hx).2
theorem mvL_has {p : Nat → Nat} (hp : P7 p) {set y : Nat} (h1 : 1 ≤ y) (h2 : y ≤ 7) : ∀ k, k ≤ 7 → (hasb (mvL p set k) y ↔ ∃ x, 1 ≤ x ∧ x ≤ k ∧ hasb set x ∧ p x = y)
  | 0, _ => by
    show hasb 0 y ↔ _
    unfold hasb
    rw [Nat.zero_and]
    exact ⟨fun h => absurd rfl h, fun ⟨x, a, b, _⟩ => by omega⟩
  | k + 1, hk => by
    have b := hp (k + 1) (by omega) hk
    have ih := mvL_has hp (set := set) h1 h2 k (by omega)
    simp only [mvL]
    by_cases q : set &&& bt (k + 1) = 0
    · rw [if_pos q, ih]
      constructor
      · rintro ⟨x, a, b, c, d⟩; exact ⟨x, a, by omega, c, d⟩
      · rintro ⟨x, a, b, c, d⟩
        by_cases r : x = k + 1
        · rw [r] at c; exact absurd q c
        · exact ⟨x, a, by omega, c, d⟩
    · rw [if_neg q, hasb_or (mvL_lt hp set k (by omega)) b.1 b.2 h1 h2, ih]
      constructor
      · rintro (⟨x, a, b, c, d⟩ | e)
        · exact ⟨x, a, by omega, c, d⟩
        · exact ⟨k + 1, by omega, by omega, q, e.symm⟩
      · rintro ⟨x, a, b, c, d⟩
        by_cases r : x = k + 1
        · right; rw [← d, r]
        · exact Or.inl ⟨x, a, by omega, c, d⟩
theorem mvd_has {p : Nat → Nat} (hp : P7 p) {set y : Nat} (h1 : 1 ≤ y) (h2 : y ≤ 7) : hasb (mvd p set) y ↔ ∃ x, 1 ≤ x ∧ x ≤ 7 ∧ hasb set x ∧ p x = y := mvL_has hp h1 h2 7 (by omega)
theorem mvd_nz {p : Nat → Nat} (hp : P7 p) {set : Nat} (hs : set < 128) (h0 : set ≠ 0) : mvd p set < 128 ∧ mvd p set ≠ 0 := by
  refine ⟨mvL_lt hp set 7 (by omega), fun e => ?_⟩
  have a := low_in set hs h0
  have b := hp _ a.1 a.2
  have c := (mvd_has hp (set := set) b.1 b.2).mpr ⟨_, a.1, a.2, low_has set hs h0, rfl⟩
  rw [e] at c
  exact c (Nat.zero_and _)
theorem layF_BO {s a : Nat → Nat} (hs : P7 s) (ha : P7 a) : ∀ k i (L M : List Nat), BO L → layF s a k i L = some M → BO M ∧ L.length ≤ M.length ∧ ∀ j, j < L.length → M.getD j 0 = L.getD j 0
  | 0, _, L, M, h, e => by cases e; exact ⟨h, Nat.le_refl _, fun _ _ => rfl⟩
  | k + 1, i, L, M, h, e => by
    simp only [layF] at e
    by_cases q : i < L.length
    · rw [if_pos q] at e
      have hx := h.1 _ (getD_mem (d := 0) q)
      cases h1 : admL L (mvd s (L.getD i 0)) with
      | none => rw [h1] at e; cases e
      | some K =>
        rw [h1] at e
        simp only [] at e
        have m1 := mvd_nz hs hx.1 hx.2
        have b1 := h.adm m1.1 m1.2 h1
        have pre : ∀ {A B : List Nat} {v : Nat}, admL A v = some B → A.length ≤ B.length ∧ ∀ j, j < A.length → B.getD j 0 = A.getD j 0 := fun {A B v} e => by
          unfold admL at e
          split at e
          · cases e; exact ⟨Nat.le_refl _, fun _ _ => rfl⟩
          · split at e
            · cases e
            · split at e
              · cases e
              · cases e
                refine ⟨by simp, fun j hj => ?_⟩
                rw [List.getD_eq_getElem?_getD, List.getElem?_append_left hj, ← List.getD_eq_getElem?_getD]
        have p1 := pre h1
        have hx2 := b1.1 _ (getD_mem (d := 0) (show i < K.length by omega))
        cases h2 : admL K (mvd a (K.getD i 0)) with
        | none => rw [h2] at e; cases e
        | some J =>
          rw [h2] at e
          simp only [] at e
          have m2 := mvd_nz ha hx2.1 hx2.2
          have p2 := pre h2
          obtain ⟨r1, r2, r3⟩ := layF_BO hs ha k (i + 1) J M (b1.adm m2.1 m2.2 h2) e
          exact ⟨r1, by omega, fun j hj => by rw [r3 j (by omega), p2.2 j (by omega), p1.2 j hj]⟩
    · rw [if_neg q] at e
      cases e; exact ⟨h, Nat.le_refl _, fun _ _ => rfl⟩
theorem layN_BO {s a : Nat → Nat} (hs : P7 s) (ha : P7 a) {set : Nat} {M : List Nat} (h : set < 128) (h0 : set ≠ 0) (e : layN s a set = some M) : BO M ∧ 0 < M.length ∧ M.getD 0 0 = set := by
  obtain ⟨a1, a2, a3⟩ := layF_BO hs ha 7 0 [set] M ⟨fun x hx => by rw [List.mem_singleton.mp hx]; exact ⟨h, h0⟩, by simp⟩ e
  exact ⟨a1, by simp at a2; omega, by rw [a3 0 (by simp)]; rfl⟩
/-- pairs of a set's least dart and the set -/
def prs (L : List Nat) : List PC := L.map (fun x => (lowN x, x))
def BPW (w : Wd) (A : List PC) : Prop := w 17 1 = (A.length : Nat) ∧ ∀ j, j < A.length → w 18 j = ((A.getD j (0, 0)).2 : Nat)
def BPV (A : List PC) : Prop := A.length ≤ 7 ∧ (∀ p, p ∈ A → p.1 = lowN p.2 ∧ p.2 < 128 ∧ p.2 ≠ 0) ∧ A.Pairwise (fun p q => p.1 ≠ q.1)
theorem prs_at (L : List Nat) {j : Nat} (hj : j < L.length) : (prs L).getD j (0, 0) = (lowN (L.getD j 0), L.getD j 0) := by
  unfold prs
  rw [List.getD_eq_getElem?_getD, List.getElem?_map, List.getD_eq_getElem?_getD, List.getElem?_eq_getElem hj]
  rfl
theorem prs_df (L : List Nat) : prs L = L.map (fun x => (lowN x, x)) := rfl
theorem prs_len (L : List Nat) : (prs L).length = L.length := by unfold prs; simp
theorem BO.prs {L : List Nat} (h : BO L) (hl : L.length ≤ 7) : BPV (prs L) := by
  refine ⟨by rw [prs_len]; exact hl, fun p hp => ?_, ?_⟩
  · rw [prs_df, List.mem_map] at hp
    obtain ⟨x, hx, rfl⟩ := hp
    exact ⟨rfl, h.1 x hx⟩
  · rw [prs_df, List.pairwise_map, List.pairwise_iff_getElem]
    intro i j hi hj hij e
    have a := h.1 _ (List.getElem_mem hi)
    have b := h.1 _ (List.getElem_mem hj)
    have c := List.pairwise_iff_getElem.mp h.2 i j hi hj hij
    have e' : lowN L[i] = lowN L[j] := e
    have key : ∀ x : Nat, x < 128 → x ≠ 0 → x &&& bt (lowN x) = bt (lowN x) ∧ 1 ≤ bt (lowN x) := by decide +kernel
    have k1 := key _ a.1 a.2
    have k2 := key _ b.1 b.2
    have : bt (lowN L[i]) = 0 := by
      rw [← k1.1]
      conv => lhs; rw [e', ← k2.1, ← Nat.and_assoc, c, Nat.zero_and]
    omega
theorem BPV.perm {A B : List PC} (h : BPV A) (p : B.Perm A) : BPV B := ⟨by rw [p.length_eq]; exact h.1, fun q hq => h.2.1 q (p.mem_iff.mp hq), p.symm.pairwise h.2.2 (fun h e => h e.symm)⟩
theorem BPV.dis {A : List PC} (h : BPV A) {u v : Nat} (huv : u < v) (hv : v < A.length) : (A.getD u (0, 0)).1 ≠ (A.getD v (0, 0)).1 := pw_getD h.2.2 huv hv
theorem BPV.at {A : List PC} (h : BPV A) {j : Nat} (hj : j < A.length) : (A.getD j (0, 0)).1 = lowN (A.getD j (0, 0)).2 ∧ (A.getD j (0, 0)).2 < 128 ∧ (A.getD j (0, 0)).2 ≠ 0 := h.2.1 _ (getD_mem hj)
theorem BPW.swp {w w' : Wd} {A : List PC} {k : Nat} (h : BPW w A) (h1 : 1 ≤ k) (h2 : k < A.length) (e : w' = up (up w 18 k ((A.getD (k - 1) (0, 0)).2 : Nat)) 18 (k - 1) ((A.getD k (0, 0)).2 : Nat)) : BPW w' (swp A k) := by
  subst e
  refine ⟨by rw [swp_len h1 h2]; simp [up_at]; exact h.1, fun j hj => ?_⟩
  rw [swp_len h1 h2] at hj
  rw [swp_at h1 h2 j hj]
  have hh := h.2 j hj
  simp only [up_at]
  by_cases a : j = k - 1
  · subst a; simp
  · by_cases b : j = k
    · subst b; simp [a]
    · simp [a, b, hh]
set_option maxHeartbeats 4000000 in
set_option maxRecDepth 100000 in
theorem c_sort0 (l : Launch) (G : Gx) {B : List PC} (hV : BPV B) (w : Wd) (hB : BPW w B) : Sp l G 2 mX0_sort [aR 17] w (fun _ w' => Fr [17, 18] w w' ∧ ∃ A : List PC, A.Perm B ∧ BPW w' A ∧ SO A A.length) := by
  refine Sp_of RX0 rfl (by decide +kernel) rfl (Nat.le_of_ble_eq_true rfl) ?_
  refine v_iconst (pc' := 1) rfl dX0_sort_0 ?_
  refine v_istore_n (ls' := [(1, _), (0, _)]) (pc' := 2) rfl dX0_sort_1 rfl rfl rfl ?_
  refine v_ls [1, 0] rfl ?_
  refine v_loop2 2 (fun (i : Int) (wl : Wd) => ∃ (iN : Nat) (A : List PC), i = iN ∧ 1 ≤ iN ∧ iN ≤ 8 ∧ (iN ≤ A.length ∨ A.length = 0) ∧ A.Perm B ∧ BPW wl A ∧ SO A iN ∧ Fr [17, 18] w wl) (fun (i : Int) (wl : Wd) => (8 - i).toNat) (fun (i : Int) (wl : Wd) => [(0, aR 17), (1, aI (i))]) (fun (i : Int) (wl : Wd) => []) (fun (i : Int) (wl : Wd) => wl) (fun i wl hI0 ih0 => ?_) (1) w (⟨1, B, rfl, by omega, by omega, by omega, List.Perm.refl _, hB, fun u v a b => by omega, Fr.rf _ _⟩)
  obtain ⟨iN, A, hi, hi1, hi8, hiA, hP, hFl, hS, hfl⟩ := hI0
  have hBl := hV.perm hP
  have hll := hBl.1
  have fm := hFl.1
  refine v_iload_n 1 (pc' := 3) rfl dX0_sort_2 rfl rfl ?_
  refine v_aload_n 0 (pc' := 4) rfl dX0_sort_3 rfl rfl ?_
  refine v_get (z := ((A.length : Nat) : Int)) (pc' := 7) rfl dX0_sort_4 fk_RX0_32 ly_17 rfl (fm) ?_
  refine v_icmp_ge (pc' := 10) (tgt := 82) rfl dX0_sort_7 (by decide) (by omega) (by omega) (fun c0 => ?_) (fun c0 => ?_)
  ·
    refine v_vret dX0_sort_82 ?_
    exact ⟨hfl, A, hP, hFl, fun u v a b => hS u v a (by omega)⟩
  ·
    refine v_iload_n 1 (pc' := 11) rfl dX0_sort_10 rfl rfl ?_
    refine v_bipush (pc' := 13) rfl dX0_sort_11 rfl ?_
    refine v_icmp_ge (pc' := 16) (tgt := 82) rfl dX0_sort_13 (by decide) (by omega) (by omega) (fun c1 => ?_) (fun c1 => ?_)
    ·
      refine v_vret dX0_sort_82 ?_
      exact ⟨hfl, A, hP, hFl, fun u v a b => hS u v a (by omega)⟩
    ·
      refine v_iload_n 1 (pc' := 17) rfl dX0_sort_16 rfl rfl ?_
      refine v_istore_n (ls' := [(2, _), (0, _), (1, _)]) (pc' := 18) rfl dX0_sort_17 rfl rfl rfl ?_
      refine v_ls [1, 2, 0] rfl ?_
      refine v_loop2 18 (fun (k : Int) (wm : Wd) => ∃ (kN : Nat) (A : List PC), k = kN ∧ kN ≤ iN ∧ iN < A.length ∧ A.Perm B ∧ BPW wm A ∧ (SI A iN kN ∨ SO A (iN + 1)) ∧ Fr [17, 18] w wm) (fun (k : Int) (wm : Wd) => k.toNat) (fun (k : Int) (wm : Wd) => [(0, aR 17), (1, aI (i)), (2, aI (k))]) (fun (k : Int) (wm : Wd) => []) (fun (k : Int) (wm : Wd) => wm) (fun k wm hI1 ih1 => ?_) (i) wl (⟨iN, A, hi, Nat.le_refl _, by omega, hP, hFl, Or.inl hS.start, hfl⟩)
      clear hBl hll fm hiA hS hFl hfl hP
      obtain ⟨kN, A, hk, hki, hiA, hP, hFm, hSI, hfm⟩ := hI1
      have hBm := hV.perm hP
      have hlm := hBm.1
      refine v_iload_n 2 (pc' := 19) rfl dX0_sort_18 rfl rfl ?_
      refine v_if_le (pc' := 22) (tgt := 76) rfl dX0_sort_19 (by decide) (by omega) (fun c2 => ?_) (fun c2 => ?_)
      ·
        have hdone : SO A (iN + 1) := by
          rcases hSI with h | h
          · exact h.done hki (Or.inl (by omega))
          · exact h
        refine v_iinc (ls' := [(1, _), (0, _), (2, _)]) 1 (pc' := 79) rfl dX0_sort_76 rfl rfl rfl ?_
        refine v_nl (fun i' hi' => ?_)
        refine v_goto (tgt := 2) dX0_sort_79 (by decide) ?_
        refine v_ls [1, 0] rfl ?_
        exact ih0 (i') wm (⟨iN + 1, A, by omega, by omega, by omega, by omega, hP, hFm, hdone, hfm⟩) (by omega)
      ·
        have hat1 := hBm.at (show kN < A.length by omega)
        have hat2 := hBm.at (show kN - 1 < A.length by omega)
        have hdis := hBm.dis (show kN - 1 < kN by omega) (show kN < A.length by omega)
        refine v_aload_n 0 (pc' := 23) rfl dX0_sort_22 rfl rfl ?_
        refine v_getR (pc' := 26) rfl dX0_sort_23 fk_RX0_9 ly_17 rfl ?_
        refine v_iload_n 2 (pc' := 27) rfl dX0_sort_26 rfl rfl ?_
        refine v_iald (z := (((A.getD (kN) (0, 0)).2 : Nat) : Int)) (pc' := 28) rfl dX0_sort_27 ly_18 (by omega) (by omega) rfl (by rw [show k.toNat = kN by omega]; exact hFm.2 kN (by omega)) ?_
        refine v_nm (fun set' hset' => ?_)
        refine v_istore_n (ls' := [(3, _), (0, _), (1, _), (2, _)]) (pc' := 29) rfl dX0_sort_28 rfl rfl rfl ?_
        refine v_iload_n 0 (pc' := 30) rfl dX0_sort_29 rfl rfl ?_
        refine v_cSP (pc' := 33) rfl dX0_sort_30 lk_RX0_52 rfl (c_lowest l G hset' hat1.2.1 hat1.2.2 wm) rfl rfl rfl ?_
        refine v_nm (fun lowest1 hlowest1 => ?_)
        refine v_aload_n 1 (pc' := 34) rfl dX0_sort_33 rfl rfl ?_
        refine v_getR (pc' := 37) rfl dX0_sort_34 fk_RX0_9 ly_17 rfl ?_
        refine v_iload_n 3 (pc' := 38) rfl dX0_sort_37 rfl rfl ?_
        refine v_iconst (pc' := 39) rfl dX0_sort_38 ?_
        refine v_isub (pc' := 40) rfl dX0_sort_39 ?_
        refine v_iald (z := (((A.getD (kN - 1) (0, 0)).2 : Nat) : Int)) (pc' := 41) rfl dX0_sort_40 ly_18 (by omega) (by omega) rfl (by rw [show (k - 1).toNat = kN - 1 by omega]; exact hFm.2 (kN - 1) (by omega)) ?_
        refine v_cSP (pc' := 44) rfl dX0_sort_41 lk_RX0_52 rfl (c_lowest l G (s := (A.getD (kN - 1) (0, 0)).2) rfl hat2.2.1 hat2.2.2 wm) rfl rfl rfl ?_
        refine v_nm (fun lowest2 hlowest2 => ?_)
        refine v_icmp_ge (pc' := 47) (tgt := 70) rfl dX0_sort_44 (by decide) (by have := low_in _ hat1.2.1 hat1.2.2; omega) (by have := low_in _ hat2.2.1 hat2.2.2; omega) (fun c3 => ?_) (fun c3 => ?_)
        ·
          have hso : SO A (iN + 1) := by
            rcases hSI with h | h
            · exact h.done hki (Or.inr (Or.inl (by omega)))
            · exact h
          refine v_iinc (ls' := [(2, _), (3, _), (0, _), (1, _)]) 3 (pc' := 73) rfl dX0_sort_70 rfl rfl rfl ?_
          refine v_nl (fun k' hk' => ?_)
          refine v_goto (tgt := 18) dX0_sort_73 (by decide) ?_
          refine v_ls [2, 3, 0] rfl ?_
          exact ih1 (k') wm (⟨kN - 1, A, by omega, by omega, hiA, hP, hFm, Or.inr hso, hfm⟩) (by omega)
        ·
          have hplt : plt (A.getD kN (0, 0)) (A.getD (kN - 1) (0, 0)) := Or.inl (by omega)
          have hsi : SI A iN kN := by
            rcases hSI with h | h
            · exact h
            · have := h (kN - 1) kN (by omega) (by omega)
              unfold plt at this hplt
              omega
          refine v_aload_n 1 (pc' := 48) rfl dX0_sort_47 rfl rfl ?_
          refine v_getR (pc' := 51) rfl dX0_sort_48 fk_RX0_9 ly_17 rfl ?_
          refine v_iload_n 3 (pc' := 52) rfl dX0_sort_51 rfl rfl ?_
          refine v_aload_n 1 (pc' := 53) rfl dX0_sort_52 rfl rfl ?_
          refine v_getR (pc' := 56) rfl dX0_sort_53 fk_RX0_9 ly_17 rfl ?_
          refine v_iload_n 3 (pc' := 57) rfl dX0_sort_56 rfl rfl ?_
          refine v_iconst (pc' := 58) rfl dX0_sort_57 ?_
          refine v_isub (pc' := 59) rfl dX0_sort_58 ?_
          refine v_iald (z := (((A.getD (kN - 1) (0, 0)).2 : Nat) : Int)) (pc' := 60) rfl dX0_sort_59 ly_18 (by omega) (by omega) rfl (by rw [show (k - 1).toNat = kN - 1 by omega]; exact hFm.2 (kN - 1) (by omega)) ?_
          refine v_iast (pc' := 61) rfl dX0_sort_60 ly_18 (by omega) (by omega) rfl ?_
          refine v_nmw (fun w3 hw3 => ?_)
          refine v_aload_n 1 (pc' := 62) rfl dX0_sort_61 rfl rfl ?_
          refine v_getR (pc' := 65) rfl dX0_sort_62 fk_RX0_9 ly_17 rfl ?_
          refine v_iload_n 3 (pc' := 66) rfl dX0_sort_65 rfl rfl ?_
          refine v_iconst (pc' := 67) rfl dX0_sort_66 ?_
          refine v_isub (pc' := 68) rfl dX0_sort_67 ?_
          refine v_iload_n 0 (pc' := 69) rfl dX0_sort_68 rfl rfl ?_
          refine v_iast (pc' := 70) rfl dX0_sort_69 ly_18 (by omega) (by omega) rfl ?_
          refine v_nmw (fun w4 hw4 => ?_)
          refine v_iinc (ls' := [(2, _), (3, _), (0, _), (1, _)]) 3 (pc' := 73) rfl dX0_sort_70 rfl rfl rfl ?_
          refine v_nl (fun k' hk' => ?_)
          refine v_goto (tgt := 18) dX0_sort_73 (by decide) ?_
          refine v_ls [2, 3, 0] rfl ?_
          exact ih1 (k') w4 (⟨kN - 1, swp A kN, by omega, by omega, by rw [swp_len (by omega) (by omega)]; exact hiA, (swp_perm (by omega) (by omega)).trans hP, hFm.swp (k := kN) (by omega) (by omega) (by rw [hw4, hw3, hset', show k.toNat = kN by omega, show (k - 1).toNat = kN - 1 by omega]), Or.inl (hsi.step (by omega) hki hiA hplt), by rw [hw4, hw3]; exact (hfm.up rfl).up rfl⟩) (by omega)

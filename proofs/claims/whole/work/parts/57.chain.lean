/-! ===== Chain: steps and slots ===== -/
abbrev ChS : Type := List (Nat → Nat) × (Nat → Nat → Option (Nat → Nat))
def slI (o : Option (Nat → Nat)) : Int := match o with
  | none => 0
  | some g => (hx (pinv g) : Nat)
def ChW (w : Wd) (C : ChS) : Prop := w 11 2 = (C.1.length : Nat) ∧ (∀ j, j < C.1.length → w 13 j = (hx (C.1.getD j pid) : Nat)) ∧ ∀ k y, k ≤ 6 → y ≤ 7 → w 12 (8 * k + y) = slI (C.2 k y)
def ChV (n : Nat) (C : ChS) : Prop := C.1.length ≤ 21 ∧ (∀ g, g ∈ C.1 → Pm n g) ∧ ∀ k y g, C.2 k y = some g → Pm n g
def chPut (C : ChS) (k : Nat) (r : Nat → Nat) : ChS := if C.1.length < 21 then (C.1 ++ [r], fun k' y' => if k' = k ∧ y' = r k then some r else C.2 k' y') else C
def sfL (C : ChS) : Nat → Nat → (Nat → Nat) → ChS
  | 0, _, _ => C
  | m + 1, k, r => if r k = k then sfL C m (k + 1) r else match C.2 k (r k) with
    | none => chPut C k r
    | some g => sfL C m (k + 1) (pcomp r (pinv g))
def sft (n : Nat) (C : ChS) (p : Nat → Nat) : ChS := sfL C (n - 1) 1 p
theorem sfL_stay {C : ChS} {m k : Nat} {r : Nat → Nat} (h : r k = k) : sfL C (m + 1) k r = sfL C m (k + 1) r := by simp only [sfL]; rw [if_pos h]
theorem sfL_none {C : ChS} {m k : Nat} {r : Nat → Nat} (h : r k ≠ k) (h2 : C.2 k (r k) = none) : sfL C (m + 1) k r = chPut C k r := by simp only [sfL]; rw [if_neg h, h2]
theorem sfL_some {C : ChS} {m k : Nat} {r g : Nat → Nat} (h : r k ≠ k) (h2 : C.2 k (r k) = some g) : sfL C (m + 1) k r = sfL C m (k + 1) (pcomp r (pinv g)) := by simp only [sfL]; rw [if_neg h, h2]
theorem ChV.put {n k : Nat} {C : ChS} {r : Nat → Nat} (h : ChV n C) (hr : Pm n r) : ChV n (chPut C k r) := by
  unfold chPut
  split
  · refine ⟨by simp; omega, fun g hg => ?_, fun k' y' g hg => ?_⟩
    · rw [List.mem_append, List.mem_singleton] at hg
      rcases hg with q | q
      · exact h.2.1 g q
      · rw [q]; exact hr
    · by_cases q : k' = k ∧ y' = r k
      · have hg' : (if k' = k ∧ y' = r k then some r else C.2 k' y') = some g := hg
        rw [if_pos q] at hg'
        rw [← Option.some.inj hg']; exact hr
      · have hg' : (if k' = k ∧ y' = r k then some r else C.2 k' y') = some g := hg
        rw [if_neg q] at hg'
        exact h.2.2 k' y' g hg'
  · exact h
theorem ChV.sfL {n : Nat} (hn7 : n ≤ 7) {C : ChS} (h : ChV n C) : ∀ m k r, Pm n r → ChV n (sfL C m k r)
  | 0, _, _, _ => h
  | m + 1, k, r, hr => by
    by_cases e : r k = k
    · rw [sfL_stay e]; exact ChV.sfL hn7 h m _ _ hr
    · rcases ho : C.2 k (r k) with _ | g
      · rw [sfL_none e ho]; exact h.put hr
      · rw [sfL_some e ho]; exact ChV.sfL hn7 h m _ _ (hr.comp ((h.2.2 _ _ _ ho).inv hn7))
theorem ChV.sft {n : Nat} (hn7 : n ≤ 7) {C : ChS} (h : ChV n C) {p : Nat → Nat} (hp : Pm n p) : ChV n (sft n C p) := ChV.sfL hn7 h _ _ _ hp
theorem chPut_pre {C : ChS} {k : Nat} {r : Nat → Nat} : C.1.length ≤ (chPut C k r).1.length ∧ ∀ j, j < C.1.length → (chPut C k r).1.getD j pid = C.1.getD j pid := by
  unfold chPut
  split
  · refine ⟨by simp, fun j hj => ?_⟩
    show (C.1 ++ [r]).getD j pid = _
    rw [List.getD_eq_getElem?_getD, List.getElem?_append_left hj, ← List.getD_eq_getElem?_getD]
  · exact ⟨Nat.le_refl _, fun _ _ => rfl⟩
theorem sfL_pre {C : ChS} : ∀ m k r, C.1.length ≤ (sfL C m k r).1.length ∧ ∀ j, j < C.1.length → (sfL C m k r).1.getD j pid = C.1.getD j pid
  | 0, _, _ => ⟨Nat.le_refl _, fun _ _ => rfl⟩
  | m + 1, k, r => by
    by_cases e : r k = k
    · rw [sfL_stay e]; exact sfL_pre m _ _
    · rcases ho : C.2 k (r k) with _ | g
      · rw [sfL_none e ho]; exact chPut_pre
      · rw [sfL_some e ho]; exact sfL_pre m _ _
theorem slI_in {n : Nat} {C : ChS} (hn7 : n ≤ 7) (h : ChV n C) (k y : Nat) : rg (slI (C.2 k y)) := by
  rcases ho : C.2 k y with _ | g
  · decide
  · have := hx_pos ((h.2.2 _ _ _ ho).inv hn7) hn7
    unfold slI; simp only []; omega
theorem slI_0 {n : Nat} {C : ChS} (hn7 : n ≤ 7) (h : ChV n C) {k y : Nat} (e : slI (C.2 k y) = 0) : C.2 k y = none := by
  rcases ho : C.2 k y with _ | g
  · rfl
  · have := hx_pos ((h.2.2 _ _ _ ho).inv hn7) hn7
    rw [ho] at e; unfold slI at e; simp only [] at e; omega
theorem slI_1 {n : Nat} {C : ChS} (hn7 : n ≤ 7) (h : ChV n C) {k y : Nat} (e : slI (C.2 k y) ≠ 0) : ∃ g, C.2 k y = some g ∧ Pm n g ∧ slI (C.2 k y) = (hx (pinv g) : Nat) := by
  rcases ho : C.2 k y with _ | g
  · rw [ho] at e; exact absurd rfl e
  · exact ⟨g, rfl, h.2.2 _ _ _ ho, rfl⟩
theorem ChW.put {w w' : Wd} {C : ChS} {k : Nat} {r : Nat → Nat} (h : ChW w C) (hk : k ≤ 6) (hr : r k ≤ 7) (hl : C.1.length < 21) (e : w' = up (up (up w 12 (8 * k + r k) (hx (pinv r) : Nat)) 13 C.1.length (hx r : Nat)) 11 2 ((C.1.length : Int) + 1)) : ChW w' (chPut C k r) := by
  unfold chPut
  rw [if_pos hl, e]
  refine ⟨by simp [up_at], fun j hj => ?_, fun k' y' h1 h2 => ?_⟩
  · have hj' : j < (C.1 ++ [r]).length := hj
    rw [List.length_append] at hj'
    simp only [List.length_singleton] at hj'
    show _ = ((hx ((C.1 ++ [r]).getD j pid) : Nat) : Int)
    rw [List.getD_eq_getElem?_getD]
    by_cases q : j = C.1.length
    · subst q; simp [up_at]
    · rw [List.getElem?_append_left (by omega), ← List.getD_eq_getElem?_getD]
      have := h.2.1 j (by omega)
      simp [up_at, q, this]
  · show _ = slI (if k' = k ∧ y' = r k then some r else C.2 k' y')
    rw [up_ne _ _ (by omega), up_ne _ _ (by omega), up_at]
    by_cases q : k' = k ∧ y' = r k
    · rw [if_pos q, if_pos (by omega)]; rfl
    · rw [if_neg q, if_neg (by omega)]; exact h.2.2 k' y' h1 h2
set_option maxHeartbeats 4000000 in
set_option maxRecDepth 100000 in
theorem c_sift (l : Launch) (G : Gx) {n0 p0 : Int} {n : Nat} {C : ChS} {f : Nat → Nat} (hn : n0 = n) (hn1 : 1 ≤ n) (hn7 : n ≤ 7) (hp0 : p0 = (hx f : Nat)) (hf : Pm n f) (hV : ChV n C) (w : Wd) (hW : ChW w C) : Sp l G 2 mX2_sift [aR 11, aI (p0), aI (n0)] w (fun _ w' => ChW w' (sft n C f) ∧ Fr [11, 12, 13] w w') := by
  have h21 := hV.1
  refine Sp_of RX2 rfl (by decide +kernel) rfl (Nat.le_of_ble_eq_true rfl) ?_
  refine v_iload_n 1 (pc' := 1) rfl dX2_sift_0 rfl rfl ?_
  refine v_istore_n (ls' := [(3, _), (0, _), (1, _), (2, _)]) (pc' := 2) rfl dX2_sift_1 rfl rfl rfl ?_
  refine v_iconst (pc' := 3) rfl dX2_sift_2 ?_
  refine v_istore (ls' := [(4, _), (3, _), (0, _), (1, _), (2, _)]) (pc' := 5) rfl dX2_sift_3 rfl rfl ?_
  refine v_ls [2, 3, 4, 1, 0] rfl ?_
  refine v_loop3 5 (fun (p : Int) (k : Int) (wl : Wd) => ∃ (m kN : Nat) (r : Nat → Nat), k = kN ∧ kN + m = n ∧ 1 ≤ kN ∧ Pm n r ∧ p = (hx r : Nat) ∧ sfL C m kN r = sft n C f ∧ ChW wl C ∧ Fr [11, 12, 13] w wl) (fun (p : Int) (k : Int) (wl : Wd) => (n0 - k).toNat) (fun (p : Int) (k : Int) (wl : Wd) => [(0, aR 11), (1, aI (p0)), (2, aI (n0)), (3, aI (p)), (4, aI (k))]) (fun (p : Int) (k : Int) (wl : Wd) => []) (fun (p : Int) (k : Int) (wl : Wd) => wl) (fun p k wl hI0 ih0 => ?_) (p0) (1) w (⟨n - 1, 1, f, rfl, by omega, by omega, hf, hp0, rfl, hW, Fr.rf _ _⟩)
  obtain ⟨m, kN, r, hk, hkm, hk1, hr, hp, hR, hC, hfr⟩ := hI0
  have hm11 := hC.1
  refine v_iload 4 (pc' := 7) rfl dX2_sift_5 rfl ?_
  refine v_iload_n 2 (pc' := 8) rfl dX2_sift_7 rfl rfl ?_
  refine v_icmp_ge (pc' := 11) (tgt := 115) rfl dX2_sift_8 (by decide) (by omega) (by omega) (fun c0 => ?_) (fun c0 => ?_)
  ·
    have hm0 : m = 0 := by omega
    subst hm0
    refine v_vret dX2_sift_115 ?_
    exact ⟨by rw [← hR]; exact hC, hfr⟩
  ·
    obtain ⟨m0, rfl⟩ : ∃ j, m = j + 1 := ⟨m - 1, by omega⟩
    have hrk := hr.b7 hn7 kN (by omega) (by omega)
    refine v_iload_n 3 (pc' := 12) rfl dX2_sift_11 rfl rfl ?_
    refine v_iload 4 (pc' := 14) rfl dX2_sift_12 rfl ?_
    refine v_cSP (pc' := 17) rfl dX2_sift_14 lk_RX2_44 rfl (c_at l G hp (hr.B hn7) hk (by omega) (by omega) wl) rfl rfl rfl ?_
    refine v_nm (fun at1 hat1 => ?_)
    refine v_istore (ls' := [(5, _), (0, _), (1, _), (2, _), (3, _), (4, _)]) (pc' := 19) rfl dX2_sift_17 rfl rfl ?_
    refine v_bipush (pc' := 21) rfl dX2_sift_19 rfl ?_
    refine v_iload 5 (pc' := 23) rfl dX2_sift_21 rfl ?_
    refine v_imul (pc' := 24) rfl dX2_sift_23 ?_
    refine v_iload 0 (pc' := 26) rfl dX2_sift_24 rfl ?_
    refine v_iadd (pc' := 27) rfl dX2_sift_26 ?_
    refine v_nm (fun slot' hslot' => ?_)
    refine v_istore (ls' := [(6, _), (5, _), (0, _), (1, _), (2, _), (3, _), (4, _)]) (pc' := 29) rfl dX2_sift_27 rfl rfl ?_
    refine v_iload 1 (pc' := 31) rfl dX2_sift_29 rfl ?_
    refine v_iload 6 (pc' := 33) rfl dX2_sift_31 rfl ?_
    refine v_icmp_eq (pc' := 36) (tgt := 109) rfl dX2_sift_33 (by decide) (by omega) (by omega) (fun c1 => ?_) (fun c1 => ?_)
    ·
      refine v_iinc (ls' := [(4, _), (6, _), (5, _), (0, _), (1, _), (2, _), (3, _)]) 6 (pc' := 112) rfl dX2_sift_109 rfl rfl rfl ?_
      refine v_nl (fun k' hk' => ?_)
      refine v_goto (tgt := 5) dX2_sift_112 (by decide) ?_
      refine v_ls [3, 4, 5, 6, 0] rfl ?_
      exact ih0 (p) (k') wl (⟨m0, kN + 1, r, by omega, by omega, by omega, hr, hp, by rw [← hR, sfL_stay (by omega)], hC, hfr⟩) (by omega)
    ·
      refine v_iload 0 (pc' := 38) rfl dX2_sift_36 rfl ?_
      refine v_bipush (pc' := 40) rfl dX2_sift_38 rfl ?_
      refine v_icmp_lt (pc' := 43) (tgt := 46) rfl dX2_sift_40 (by decide) (by omega) (by omega) (fun c2 => ?_) (fun c2 => absurd c2 (by omega))
      refine v_aload_n 2 (pc' := 47) rfl dX2_sift_46 rfl rfl ?_
      refine v_getR (pc' := 50) rfl dX2_sift_47 fk_RX2_9 ly_11 rfl ?_
      refine v_iload 0 (pc' := 52) rfl dX2_sift_50 rfl ?_
      refine v_iald (z := (slI (C.2 kN (r kN)))) (pc' := 53) rfl dX2_sift_52 ly_12 (by omega) (by omega) rfl (by rw [show slot'.toNat = 8 * kN + r kN by omega]; exact hC.2.2 kN (r kN) (by omega) (by omega)) ?_
      refine v_if_ne (pc' := 56) (tgt := 97) rfl dX2_sift_53 (by decide) (slI_in hn7 hV _ _) (fun c3 => ?_) (fun c3 => ?_)
      ·
        obtain ⟨g, ho, hg, hsg⟩ := slI_1 hn7 hV c3
        refine v_iload_n 5 (pc' := 98) rfl dX2_sift_97 rfl rfl ?_
        refine v_aload_n 2 (pc' := 99) rfl dX2_sift_98 rfl rfl ?_
        refine v_getR (pc' := 102) rfl dX2_sift_99 fk_RX2_9 ly_11 rfl ?_
        refine v_iload 0 (pc' := 104) rfl dX2_sift_102 rfl ?_
        refine v_iald (z := (slI (C.2 kN (r kN)))) (pc' := 105) rfl dX2_sift_104 ly_12 (by omega) (by omega) rfl (by rw [show slot'.toNat = 8 * kN + r kN by omega]; exact hC.2.2 kN (r kN) (by omega) (by omega)) ?_
        refine v_cSP (pc' := 108) rfl dX2_sift_105 lk_RX2_28 rfl (c_then l G hp hsg (hr.b7 hn7) ((hg.inv hn7).B hn7) wl) rfl rfl rfl ?_
        refine v_nm (fun then1 hthen1 => ?_)
        refine v_istore_n (ls' := [(3, _), (6, _), (5, _), (0, _), (1, _), (2, _), (4, _)]) (pc' := 109) rfl dX2_sift_108 rfl rfl rfl ?_
        refine v_iinc (ls' := [(4, _), (3, _), (6, _), (5, _), (0, _), (1, _), (2, _)]) 6 (pc' := 112) rfl dX2_sift_109 rfl rfl rfl ?_
        refine v_nl (fun k' hk' => ?_)
        refine v_goto (tgt := 5) dX2_sift_112 (by decide) ?_
        refine v_ls [4, 5, 6, 1, 0] rfl ?_
        exact ih0 (then1) (k') wl (⟨m0, kN + 1, pcomp r (pinv g), by omega, by omega, by omega, hr.comp (hg.inv hn7), hthen1, by rw [← hR, sfL_some (by omega) ho], hC, hfr⟩) (by omega)
      ·
        have ho := slI_0 hn7 hV (k := kN) (y := r kN) (by omega)
        refine v_aload_n 2 (pc' := 57) rfl dX2_sift_56 rfl rfl ?_
        refine v_get (z := ((C.1.length : Nat) : Int)) (pc' := 60) rfl dX2_sift_57 fk_RX2_16 ly_11 rfl (hm11) ?_
        refine v_bipush (pc' := 62) rfl dX2_sift_60 rfl ?_
        refine v_icmp_ge (pc' := 65) (tgt := 96) rfl dX2_sift_62 (by decide) (by omega) (by omega) (fun c4 => ?_) (fun c4 => ?_)
        ·
          refine v_vret dX2_sift_96 ?_
          refine ⟨?_, hfr⟩
          rw [← hR, sfL_none (by omega) ho]
          unfold chPut
          rw [if_neg (by omega)]
          exact hC
        ·
          refine v_aload_n 2 (pc' := 66) rfl dX2_sift_65 rfl rfl ?_
          refine v_getR (pc' := 69) rfl dX2_sift_66 fk_RX2_9 ly_11 rfl ?_
          refine v_iload 0 (pc' := 71) rfl dX2_sift_69 rfl ?_
          refine v_iload_n 5 (pc' := 72) rfl dX2_sift_71 rfl rfl ?_
          refine v_cSP (pc' := 75) rfl dX2_sift_72 lk_RX2_47 rfl (c_back l G hp (hr.mono hn7) wl) rfl rfl rfl ?_
          refine v_nm (fun back1 hback1 => ?_)
          refine v_iast (pc' := 76) rfl dX2_sift_75 ly_12 (by omega) (by omega) rfl ?_
          refine v_nmw (fun w3 hw3 => ?_)
          have hm11 : w3 11 2 = ((C.1.length : Nat) : Int) := by rw [hw3, up_ne _ _ (by omega)]; exact hm11
          refine v_aload_n 2 (pc' := 77) rfl dX2_sift_76 rfl rfl ?_
          refine v_getR (pc' := 80) rfl dX2_sift_77 fk_RX2_13 ly_11 rfl ?_
          refine v_aload_n 2 (pc' := 81) rfl dX2_sift_80 rfl rfl ?_
          refine v_get (z := ((C.1.length : Nat) : Int)) (pc' := 84) rfl dX2_sift_81 fk_RX2_16 ly_11 rfl (hm11) ?_
          refine v_iload_n 5 (pc' := 85) rfl dX2_sift_84 rfl rfl ?_
          refine v_iast (pc' := 86) rfl dX2_sift_85 ly_13 (by omega) (by omega) rfl ?_
          refine v_nmw (fun w4 hw4 => ?_)
          have hm11 : w4 11 2 = ((C.1.length : Nat) : Int) := by rw [hw4, up_ne _ _ (by omega)]; exact hm11
          refine v_aload_n 2 (pc' := 87) rfl dX2_sift_86 rfl rfl ?_
          refine v_dupR (pc' := 88) rfl dX2_sift_87 ?_
          refine v_get (z := ((C.1.length : Nat) : Int)) (pc' := 91) rfl dX2_sift_88 fk_RX2_16 ly_11 rfl (hm11) ?_
          refine v_iconst (pc' := 92) rfl dX2_sift_91 ?_
          refine v_iadd (pc' := 93) rfl dX2_sift_92 ?_
          refine v_put (pc' := 96) rfl dX2_sift_93 fi_RX2_16 ly_11 rfl ?_
          refine v_nmw (fun w5 hw5 => ?_)
          refine v_vret dX2_sift_96 ?_
          refine ⟨?_, by rw [hw5, hw4, hw3]; exact ((hfr.up rfl).up rfl).up rfl⟩
          rw [← hR, sfL_none (by omega) ho]
          refine hC.put (k := kN) (r := r) (by omega) (by omega) (by omega) ?_
          rw [hw5, hw4, hw3, hback1, hp, show slot'.toNat = 8 * kN + r kN by omega]; rfl
def wysL (C : ChS) (k : Nat) : Nat → Nat
  | 0 => 1
  | t + 1 => wysL C k t + (if (C.2 k (k + 1 + t)).isSome then 1 else 0)
def fndL (C : ChS) : Nat → Nat
  | 0 => 1
  | j + 1 => fndL C j * wysL C (j + 1) (6 - j)
theorem slI_s {n : Nat} {C : ChS} (hn7 : n ≤ 7) (h : ChV n C) (k y : Nat) : slI (C.2 k y) = 0 ↔ ¬ (C.2 k y).isSome = true := by
  constructor
  · intro e; rw [slI_0 hn7 h e]; decide
  · intro e
    rcases ho : C.2 k y with _ | g
    · rfl
    · rw [ho] at e; exact absurd rfl e
theorem wysL_le (C : ChS) (k : Nat) : ∀ t, wysL C k t ≤ t + 1
  | 0 => Nat.le_refl _
  | t + 1 => by have := wysL_le C k t; simp only [wysL]; split <;> omega
theorem fndL_le (C : ChS) : ∀ j, j ≤ 6 → fndL C j ≤ 7 ^ j
  | 0, _ => Nat.le_refl _
  | j + 1, h => by
    have a := fndL_le C j (by omega)
    have b := wysL_le C (j + 1) (6 - j)
    simp only [fndL]
    rw [Nat.pow_succ]
    exact Nat.mul_le_mul a (by omega)
set_option maxHeartbeats 4000000 in
set_option maxRecDepth 100000 in
theorem c_found2 (l : Launch) (G : Gx) {n0 : Int} {n : Nat} {C : ChS} (hn : n0 = n) (hn1 : 1 ≤ n) (hn7 : n ≤ 7) (hV : ChV n C) (w : Wd) (hW : ChW w C) : SpP l G 0 mX2_found [aR 11, aI (n0)] w (((fndL C (n - 1) : Nat) : Int)) := by
  refine Sp_of RX2 rfl (by decide +kernel) rfl (Nat.le_of_ble_eq_true rfl) ?_
  refine v_iconst (pc' := 1) rfl dX2_found_0 ?_
  refine v_istore_n (ls' := [(2, _), (0, _), (1, _)]) (pc' := 2) rfl dX2_found_1 rfl rfl rfl ?_
  refine v_iconst (pc' := 3) rfl dX2_found_2 ?_
  refine v_istore_n (ls' := [(3, _), (2, _), (0, _), (1, _)]) (pc' := 4) rfl dX2_found_3 rfl rfl rfl ?_
  refine v_ls [2, 3, 1, 0] rfl ?_
  refine v_loop2 4 (fun (all : Int) (k : Int) => ∃ j : Nat, k = ((j + 1 : Nat) : Int) ∧ j + 1 ≤ n ∧ all = (fndL C j : Nat)) (fun (all : Int) (k : Int) => (8 - k).toNat) (fun (all : Int) (k : Int) => [(0, aR 11), (1, aI (n0)), (2, aI (all)), (3, aI (k))]) (fun (all : Int) (k : Int) => []) (fun (all : Int) (k : Int) => w) (fun all k hI0 ih0 => ?_) (1) (1) (⟨0, rfl, by omega, rfl⟩)
  obtain ⟨j, hk, hj, hall⟩ := hI0
  refine v_iload_n 3 (pc' := 5) rfl dX2_found_4 rfl rfl ?_
  refine v_iload_n 1 (pc' := 6) rfl dX2_found_5 rfl rfl ?_
  refine v_icmp_ge (pc' := 9) (tgt := 65) rfl dX2_found_6 (by decide) (by omega) (by omega) (fun c0 => ?_) (fun c0 => ?_)
  ·
    refine v_iload_n 2 (pc' := 66) rfl dX2_found_65 rfl rfl ?_
    refine v_iret dX2_found_66 (by decide) (rfl) ?_
    exact ⟨by rw [hall, show n - 1 = j by omega], rfl⟩
  ·
    refine v_iload_n 3 (pc' := 10) rfl dX2_found_9 rfl rfl ?_
    refine v_bipush (pc' := 12) rfl dX2_found_10 rfl ?_
    refine v_icmp_ge (pc' := 15) (tgt := 65) rfl dX2_found_12 (by decide) (by omega) (by omega) (fun c1 => absurd c1 (by omega)) (fun c1 => ?_)
    refine v_iconst (pc' := 16) rfl dX2_found_15 ?_
    refine v_istore (ls' := [(4, _), (0, _), (1, _), (2, _), (3, _)]) (pc' := 18) rfl dX2_found_16 rfl rfl ?_
    refine v_iload_n 4 (pc' := 19) rfl dX2_found_18 rfl rfl ?_
    refine v_iconst (pc' := 20) rfl dX2_found_19 ?_
    refine v_iadd (pc' := 21) rfl dX2_found_20 ?_
    refine v_nm (fun y' hy' => ?_)
    refine v_istore (ls' := [(5, _), (4, _), (0, _), (1, _), (2, _), (3, _)]) (pc' := 23) rfl dX2_found_21 rfl rfl ?_
    refine v_ls [2, 3, 4, 5, 1, 0] rfl ?_
    refine v_loop2 23 (fun (ways : Int) (y : Int) => ∃ t : Nat, y = ((j + 2 + t : Nat) : Int) ∧ j + t ≤ 6 ∧ ways = (wysL C (j + 1) t : Nat)) (fun (ways : Int) (y : Int) => (8 - y).toNat) (fun (ways : Int) (y : Int) => [(0, aR 11), (1, aI (n0)), (2, aI (all)), (3, aI (k)), (4, aI (ways)), (5, aI (y))]) (fun (ways : Int) (y : Int) => []) (fun (ways : Int) (y : Int) => w) (fun ways y hI1 ih1 => ?_) (1) (y') (⟨0, by omega, by omega, rfl⟩)
    obtain ⟨t, hy, ht, hways⟩ := hI1
    refine v_iload 5 (pc' := 25) rfl dX2_found_23 rfl ?_
    refine v_bipush (pc' := 27) rfl dX2_found_25 rfl ?_
    refine v_icmp_ge (pc' := 30) (tgt := 54) rfl dX2_found_27 (by decide) (by omega) (by omega) (fun c2 => ?_) (fun c2 => ?_)
    ·
      refine v_iload_n 2 (pc' := 55) rfl dX2_found_54 rfl rfl ?_
      refine v_iload 4 (pc' := 57) rfl dX2_found_55 rfl ?_
      refine v_imul (pc' := 58) rfl dX2_found_57 ?_
      refine v_nm (fun all' hall' => ?_)
      refine v_istore_n (ls' := [(2, _), (0, _), (1, _), (3, _), (4, _), (5, _)]) (pc' := 59) rfl dX2_found_58 rfl rfl rfl ?_
      refine v_iinc (ls' := [(3, _), (2, _), (0, _), (1, _), (4, _), (5, _)]) 3 (pc' := 62) rfl dX2_found_59 rfl rfl rfl ?_
      refine v_nl (fun k' hk' => ?_)
      refine v_goto (tgt := 4) dX2_found_62 (by decide) ?_
      refine v_ls [2, 3, 1, 0] rfl ?_
      exact ih0 (all') (k') (⟨j + 1, by omega, by omega, by rw [hall', hall, hways, show t = 6 - j by omega]; simp only [fndL]; rw [Int.natCast_mul]⟩) (by omega)
    ·
      refine v_aload_n 0 (pc' := 31) rfl dX2_found_30 rfl rfl ?_
      refine v_getR (pc' := 34) rfl dX2_found_31 fk_RX2_9 ly_11 rfl ?_
      refine v_bipush (pc' := 36) rfl dX2_found_34 rfl ?_
      refine v_iload_n 3 (pc' := 37) rfl dX2_found_36 rfl rfl ?_
      refine v_imul (pc' := 38) rfl dX2_found_37 ?_
      refine v_iload 5 (pc' := 40) rfl dX2_found_38 rfl ?_
      refine v_iadd (pc' := 41) rfl dX2_found_40 ?_
      refine v_iald (z := (slI (C.2 (j + 1) (j + 2 + t)))) (pc' := 42) rfl dX2_found_41 ly_12 (by omega) (by omega) rfl (by rw [show (8 * k + y).toNat = 8 * (j + 1) + (j + 2 + t) by omega]; exact hW.2.2 (j + 1) (j + 2 + t) (by omega) (by omega)) ?_
      refine v_if_eq (pc' := 45) (tgt := 48) rfl dX2_found_42 (by decide) (slI_in hn7 hV _ _) (fun c3 => ?_) (fun c3 => ?_)
      ·
        have hno := (slI_s hn7 hV (j + 1) (j + 2 + t)).mp (by omega)
        refine v_iinc (ls' := [(5, _), (0, _), (1, _), (2, _), (3, _), (4, _)]) 5 (pc' := 51) rfl dX2_found_48 rfl rfl rfl ?_
        refine v_nl (fun y' hy' => ?_)
        refine v_goto (tgt := 23) dX2_found_51 (by decide) ?_
        refine v_ls [1, 2, 3, 4, 5, 0] rfl ?_
        exact ih1 (ways) (y') (⟨t + 1, by omega, by omega, by simp only [wysL]; rw [show j + 1 + 1 + t = j + 2 + t by omega, if_neg hno]; exact hways⟩) (by omega)
      ·
        have hso : (C.2 (j + 1) (j + 2 + t)).isSome = true := Classical.byContradiction (fun q => c3 ((slI_s hn7 hV (j + 1) (j + 2 + t)).mpr q))
        refine v_iinc (ls' := [(4, _), (0, _), (1, _), (2, _), (3, _), (5, _)]) 4 (pc' := 48) rfl dX2_found_45 rfl rfl rfl ?_
        refine v_nl (fun ways' hways' => ?_)
        refine v_iinc (ls' := [(5, _), (4, _), (0, _), (1, _), (2, _), (3, _)]) 5 (pc' := 51) rfl dX2_found_48 rfl rfl rfl ?_
        refine v_nl (fun y' hy' => ?_)
        refine v_goto (tgt := 23) dX2_found_51 (by decide) ?_
        refine v_ls [2, 3, 4, 5, 1, 0] rfl ?_
        exact ih1 (ways') (y') (⟨t + 1, by omega, by omega, by simp only [wysL]; rw [show j + 1 + 1 + t = j + 2 + t by omega, if_pos hso]; omega⟩) (by omega)
theorem bor_1 (a b : Int) : band (bor a b) 1 = 0 ↔ (a % 2 = 0 ∧ b % 2 = 0) := by
  have e : iz (bor a b) &&& iz 1 = iz (((((a % 4294967296).toNat ||| (b % 4294967296).toNat) % 2 : Nat)) : Int) := by
    unfold bor
    rw [iz_of, iz_mod (a := a) (b := ((a % 4294967296).toNat : Nat)) (by omega), iz_mod (a := b) (b := ((b % 4294967296).toNat : Nat)) (by omega), iz_or]
    exact iz_and1 rfl
  have h : band (bor a b) 1 = (((((a % 4294967296).toNat ||| (b % 4294967296).toNat) % 2 : Nat)) : Int) := by
    unfold band
    rw [e, iz_toInt ⟨by omega, by omega⟩]
  rw [h]
  have k : ∀ m j : Nat, (m ||| j) % 2 = 0 ↔ (m % 2 = 0 ∧ j % 2 = 0) := fun m j => by
    have t := Nat.testBit_or m j 0
    simp only [Nat.testBit_zero] at t
    have a0 : m % 2 = 0 ∨ m % 2 = 1 := by omega
    have b0 : j % 2 = 0 ∨ j % 2 = 1 := by omega
    have c0 : (m ||| j) % 2 = 0 ∨ (m ||| j) % 2 = 1 := by omega
    rcases a0 with a0 | a0 <;> rcases b0 with b0 | b0 <;> rcases c0 with c0 | c0 <;> rw [a0, b0, c0] at t <;> first | (exact absurd t (by decide)) | (rw [a0, b0, c0]; decide)
  have := k (a % 4294967296).toNat (b % 4294967296).toNat
  omega
def evB (n : Nat) (f : Nat → Nat) : Prop := (n + ringsN f (full n)) % 2 = 0
def mostI (n : Nat) (s a : Nat → Nat) : Int := ((n * (n - 1) / 2 : Nat) : Int) - (if ((n : Int) - (ringsN s (full n) : Int)) % 2 = 0 ∧ ((n : Int) - (ringsN a (full n) : Int)) % 2 = 0 then 1 else 0)
theorem nn1 {n : Nat} (hn1 : 1 ≤ n) (hn7 : n ≤ 7) : ((n : Int) * ((n : Int) - 1)) = ((n * (n - 1) : Nat) : Int) ∧ n * (n - 1) ≤ 42 := by
  rcases (show n = 1 ∨ n = 2 ∨ n = 3 ∨ n = 4 ∨ n = 5 ∨ n = 6 ∨ n = 7 by omega) with rfl | rfl | rfl | rfl | rfl | rfl | rfl <;> decide
theorem band_r (a b : Int) : rg (band a b) := rg_toInt _
set_option maxHeartbeats 4000000 in
set_option maxRecDepth 100000 in
theorem c_most (l : Launch) (G : Gx) {n0 p q : Int} {n : Nat} {s a : Nat → Nat} (hn : n0 = n) (hn1 : 1 ≤ n) (hn7 : n ≤ 7) (hp : p = (hx s : Nat)) (hq : q = (hx a : Nat)) (hs : Pm n s) (ha : Pm n a) (w : Wd)  : SpP l G 3 mX2_most [aI (n0), aI (p), aI (q)] w (mostI n s a) := by
  have hnn := nn1 hn1 hn7
  refine Sp_of RX2 rfl (by decide +kernel) rfl (Nat.le_of_ble_eq_true rfl) ?_
  refine v_iload_n 0 (pc' := 1) rfl dX2_most_0 rfl rfl ?_
  refine v_iload_n 1 (pc' := 2) rfl dX2_most_1 rfl rfl ?_
  refine v_iload_n 0 (pc' := 3) rfl dX2_most_2 rfl rfl ?_
  refine v_cSP (pc' := 6) rfl dX2_most_3 lk_RX2_38 rfl (c_darts l G hn hn7 w) rfl rfl rfl ?_
  refine v_nm (fun darts1 hdarts1 => ?_)
  refine v_cSP (pc' := 9) rfl dX2_most_6 lk_RX2_41 rfl (c_rings l G hp (hs.b7 hn7) hdarts1 (full_lt hn7) w) rfl rfl rfl ?_
  refine v_nm (fun rings1 hrings1 => ?_)
  refine v_isub (pc' := 10) rfl dX2_most_9 ?_
  refine v_iload_n 0 (pc' := 11) rfl dX2_most_10 rfl rfl ?_
  refine v_iload_n 2 (pc' := 12) rfl dX2_most_11 rfl rfl ?_
  refine v_iload_n 0 (pc' := 13) rfl dX2_most_12 rfl rfl ?_
  refine v_cSP (pc' := 16) rfl dX2_most_13 lk_RX2_38 rfl (c_darts l G hn hn7 w) rfl rfl rfl ?_
  refine v_nm (fun darts2 hdarts2 => ?_)
  refine v_cSP (pc' := 19) rfl dX2_most_16 lk_RX2_41 rfl (c_rings l G hq (ha.b7 hn7) hdarts2 (full_lt hn7) w) rfl rfl rfl ?_
  refine v_nm (fun rings2 hrings2 => ?_)
  refine v_isub (pc' := 20) rfl dX2_most_19 ?_
  refine v_ior (pc' := 21) rfl dX2_most_20 (bor_iz (n0 - rings1) (n0 - rings2)) ?_
  refine v_nm (fun odd' hodd' => ?_)
  refine v_istore_n (ls' := [(3, _), (0, _), (1, _), (2, _)]) (pc' := 22) rfl dX2_most_21 rfl rfl rfl ?_
  refine v_iload_n 1 (pc' := 23) rfl dX2_most_22 rfl rfl ?_
  refine v_iload_n 1 (pc' := 24) rfl dX2_most_23 rfl rfl ?_
  refine v_iconst (pc' := 25) rfl dX2_most_24 ?_
  refine v_isub (pc' := 26) rfl dX2_most_25 ?_
  refine v_imul (pc' := 27) rfl dX2_most_26 ?_
  refine v_iconst (pc' := 28) rfl dX2_most_27 ?_
  refine v_idiv (z := ((n * (n - 1) / 2 : Nat) : Int)) (pc' := 29) rfl dX2_most_28 (iz_ne (by decide) (by omega)) (by rw [hn, hnn.1]; exact iz_divN (by omega) (by omega) (by omega) (by omega)) ?_
  refine v_iload_n 0 (pc' := 30) rfl dX2_most_29 rfl rfl ?_
  refine v_iconst (pc' := 31) rfl dX2_most_30 ?_
  refine v_iand (pc' := 32) rfl dX2_most_31 (band_iz odd' 1) ?_
  refine v_if_ne (pc' := 35) (tgt := 39) rfl dX2_most_32 (by decide) (band_r _ _) (fun c0 => ?_) (fun c0 => ?_)
  ·
    have hz : ¬ (((n : Int) - (ringsN s (full n) : Int)) % 2 = 0 ∧ ((n : Int) - (ringsN a (full n) : Int)) % 2 = 0) := fun e => c0 (by rw [hodd', bor_1, hrings1, hrings2, hn]; exact e)
    refine v_iconst (pc' := 40) rfl dX2_most_39 ?_
    refine v_isub (pc' := 41) rfl dX2_most_40 ?_
    refine v_iret dX2_most_41 (by decide) (rfl) ?_
    first | exact ⟨by unfold mostI; rw [if_pos hz], rfl⟩ | exact ⟨by unfold mostI; rw [if_neg hz], rfl⟩
  ·
    have hz : ((n : Int) - (ringsN s (full n) : Int)) % 2 = 0 ∧ ((n : Int) - (ringsN a (full n) : Int)) % 2 = 0 := by
      have c0b : band odd' 1 = 0 := c0
      rw [hodd', bor_1, hrings1, hrings2, hn] at c0b
      exact c0b
    refine v_iconst (pc' := 36) rfl dX2_most_35 ?_
    refine v_goto (tgt := 40) dX2_most_36 (by decide) ?_
    refine v_isub (pc' := 41) rfl dX2_most_40 ?_
    refine v_iret dX2_most_41 (by decide) (rfl) ?_
    first | exact ⟨by unfold mostI; rw [if_pos hz], rfl⟩ | exact ⟨by unfold mostI; rw [if_neg hz], rfl⟩
def chJ (n : Nat) (M : Int) (i : Nat) : Nat → Nat → ChS → ChS
  | 0, _, C => C
  | m + 1, j, C => if (C.1.length : Int) < M then
      chJ n M i m (j + 1) (sft n (sft n C (pcomp (C.1.getD i pid) (C.1.getD j pid))) (pcomp ((sft n C (pcomp (C.1.getD i pid) (C.1.getD j pid))).1.getD j pid) ((sft n C (pcomp (C.1.getD i pid) (C.1.getD j pid))).1.getD i pid))) else C
def chI (n : Nat) (M : Int) : Nat → Nat → ChS → ChS
  | 0, _, C => C
  | m + 1, i, C => if i < C.1.length ∧ (C.1.length : Int) < M then chI n M m (i + 1) (chJ n M i (i + 1) 0 C) else C
def chn0 : ChS := ([], fun _ _ => none)
def chnC (n : Nat) (s a : Nat → Nat) : ChS := chI n (mostI n s a) 21 0 (sft n (sft n chn0 s) a)
def chnN (n : Nat) (s a : Nat → Nat) : Nat := fndL (chnC n s a) (n - 1)
theorem chI_stop {n i : Nat} {M : Int} {C : ChS} (h : ¬ (i < C.1.length ∧ (C.1.length : Int) < M)) : ∀ m, chI n M m i C = C
  | 0 => rfl
  | m + 1 => by simp only [chI]; rw [if_neg h]
theorem chJ_stop {n i j : Nat} {M : Int} {C : ChS} (h : ¬ (C.1.length : Int) < M) : ∀ m, chJ n M i m j C = C
  | 0 => rfl
  | m + 1 => by simp only [chJ]; rw [if_neg h]
theorem ChV.nil (n : Nat) : ChV n chn0 := ⟨by decide, fun g h => absurd h List.not_mem_nil, fun k y g h => by cases h⟩
theorem mostI_r {n : Nat} (hn1 : 1 ≤ n) (hn7 : n ≤ 7) (s a : Nat → Nat) : -1 ≤ mostI n s a ∧ mostI n s a ≤ 21 := by
  have := (nn1 hn1 hn7).2
  unfold mostI
  split <;> omega
set_option maxHeartbeats 4000000 in
set_option maxRecDepth 100000 in
theorem c_order2 (l : Launch) (G : Gx) {n0 p q : Int} {n : Nat} {s a : Nat → Nat} (hn : n0 = n) (hn1 : 1 ≤ n) (hn7 : n ≤ 7) (hp : p = (hx s : Nat)) (hq : q = (hx a : Nat)) (hs : Pm n s) (ha : Pm n a) (w : Wd)  : Sp l G 4 mX2_order [aR 11, aI (n0), aI (p), aI (q)] w (fun z w' => z = (chnN n s a : Nat) ∧ Fr [11, 12, 13] w w') := by
  have hmr := mostI_r hn1 hn7 s a
  have hV0 := ChV.nil n
  have hVs := hV0.sft hn7 hs
  have hVa := hVs.sft hn7 ha
  refine Sp_of RX2 rfl (by decide +kernel) rfl (Nat.le_of_ble_eq_true rfl) ?_
  refine v_iconst (pc' := 1) rfl dX2_order_0 ?_
  refine v_istore (ls' := [(4, _), (0, _), (1, _), (2, _), (3, _)]) (pc' := 3) rfl dX2_order_1 rfl rfl ?_
  refine v_ls [1, 2, 3, 4, 0] rfl ?_
  refine v_loop2 3 (fun (u : Int) (wl : Wd) => ∃ k : Nat, u = k ∧ k ≤ 64 ∧ (∀ j, j < k → wl 12 j = 0) ∧ Fr [11, 12, 13] w wl) (fun (u : Int) (wl : Wd) => (64 - u).toNat) (fun (u : Int) (wl : Wd) => [(0, aR 11), (1, aI (n0)), (2, aI (p)), (3, aI (q)), (4, aI (u))]) (fun (u : Int) (wl : Wd) => []) (fun (u : Int) (wl : Wd) => wl) (fun u wl hI0 ih0 => ?_) (0) w (⟨0, rfl, by omega, fun j h => by omega, Fr.rf _ _⟩)
  obtain ⟨k, hu, hk, hA, hfl⟩ := hI0
  refine v_iload 4 (pc' := 5) rfl dX2_order_3 rfl ?_
  refine v_bipush (pc' := 7) rfl dX2_order_5 rfl ?_
  refine v_icmp_ge (pc' := 10) (tgt := 24) rfl dX2_order_7 (by decide) (by omega) (by omega) (fun c0 => ?_) (fun c0 => ?_)
  ·
    have hW2 : ChW (up wl 11 2 0) chn0 := ⟨by rw [up_eq]; rfl, fun j h => absurd h (Nat.not_lt_zero _), fun k y h1 h2 => by rw [up_ne _ _ (by omega)]; exact hA _ (by omega)⟩
    have hf2 : Fr [11, 12, 13] w (up wl 11 2 0) := hfl.up rfl
    refine v_aload_n 0 (pc' := 25) rfl dX2_order_24 rfl rfl ?_
    refine v_iconst (pc' := 26) rfl dX2_order_25 ?_
    refine v_put (pc' := 29) rfl dX2_order_26 fi_RX2_16 ly_11 rfl ?_
    refine v_nmw (fun w2 hw2 => ?_)
    rw [← hw2] at hW2 hf2
    refine v_aload_n 0 (pc' := 30) rfl dX2_order_29 rfl rfl ?_
    refine v_iload_n 2 (pc' := 31) rfl dX2_order_30 rfl rfl ?_
    refine v_iload_n 1 (pc' := 32) rfl dX2_order_31 rfl rfl ?_
    refine v_cVv (pc' := 35) rfl dX2_order_32 lk_RX2_20 ly_11 rfl (c_sift l G (C := chn0) hn hn1 hn7 hp hs hV0 w2 hW2) rfl rfl rfl (fun sift1 w3 hq3 => ?_)
    obtain ⟨c3, f3⟩ := hq3
    refine v_aload_n 0 (pc' := 36) rfl dX2_order_35 rfl rfl ?_
    refine v_iload_n 3 (pc' := 37) rfl dX2_order_36 rfl rfl ?_
    refine v_iload_n 1 (pc' := 38) rfl dX2_order_37 rfl rfl ?_
    refine v_cVv (pc' := 41) rfl dX2_order_38 lk_RX2_20 ly_11 rfl (c_sift l G (C := sft n chn0 s) hn hn1 hn7 hq ha hVs w3 c3) rfl rfl rfl (fun sift2 w4 hq4 => ?_)
    obtain ⟨c4, f4⟩ := hq4
    refine v_iload_n 1 (pc' := 42) rfl dX2_order_41 rfl rfl ?_
    refine v_iload_n 2 (pc' := 43) rfl dX2_order_42 rfl rfl ?_
    refine v_iload_n 3 (pc' := 44) rfl dX2_order_43 rfl rfl ?_
    refine v_cSP (pc' := 47) rfl dX2_order_44 lk_RX2_24 rfl (c_most l G hn hn1 hn7 hp hq hs ha w4) rfl rfl rfl ?_
    refine v_nm (fun most1 hmost1 => ?_)
    refine v_istore (ls' := [(4, _), (0, _), (1, _), (2, _), (3, _)]) (pc' := 49) rfl dX2_order_47 rfl rfl ?_
    refine v_iconst (pc' := 50) rfl dX2_order_49 ?_
    refine v_istore (ls' := [(5, _), (4, _), (0, _), (1, _), (2, _), (3, _)]) (pc' := 52) rfl dX2_order_50 rfl rfl ?_
    refine v_ls [2, 3, 4, 5, 1, 0] rfl ?_
    refine v_loop2 52 (fun (i : Int) (wm : Wd) => ∃ (iN m : Nat) (C : ChS), i = iN ∧ iN + m = 21 ∧ ChV n C ∧ ChW wm C ∧ chI n (mostI n s a) m iN C = chnC n s a ∧ Fr [11, 12, 13] w wm) (fun (i : Int) (wm : Wd) => (21 - i).toNat) (fun (i : Int) (wm : Wd) => [(0, aR 11), (1, aI (n0)), (2, aI (p)), (3, aI (q)), (4, aI (most1)), (5, aI (i))]) (fun (i : Int) (wm : Wd) => []) (fun (i : Int) (wm : Wd) => wm) (fun i wm hI1 ih1 => ?_) (0) w4 (⟨0, 21, sft n (sft n chn0 s) a, rfl, rfl, hVa, c4, rfl, (hf2.trs f3).trs f4⟩)
    clear c4 f4 f3 c3 hW2 hf2
    obtain ⟨iN, m, C, hi, him, hV, hC, hR, hfm⟩ := hI1
    have h21 := hV.1
    have hm11 := hC.1
    refine v_iload 5 (pc' := 54) rfl dX2_order_52 rfl ?_
    refine v_aload_n 0 (pc' := 55) rfl dX2_order_54 rfl rfl ?_
    refine v_get (z := ((C.1.length : Nat) : Int)) (pc' := 58) rfl dX2_order_55 fk_RX2_16 ly_11 rfl (hm11) ?_
    refine v_icmp_ge (pc' := 61) (tgt := 152) rfl dX2_order_58 (by decide) (by omega) (by omega) (fun c1 => ?_) (fun c1 => ?_)
    ·
      have hst : chnC n s a = C := by rw [← hR]; exact chI_stop (by omega) m
      refine v_aload_n 0 (pc' := 153) rfl dX2_order_152 rfl rfl ?_
      refine v_iload_n 1 (pc' := 154) rfl dX2_order_153 rfl rfl ?_
      refine v_cVP (pc' := 157) rfl dX2_order_154 lk_RX2_34 ly_11 rfl (c_found2 l G hn hn1 hn7 hV wm hC) rfl rfl rfl ?_
      refine v_nm (fun found1 hfound1 => ?_)
      refine v_iret dX2_order_157 (by decide) (rfl) ?_
      exact ⟨by rw [hfound1]; unfold chnN; rw [hst], hfm⟩
    ·
      refine v_iload 5 (pc' := 63) rfl dX2_order_61 rfl ?_
      refine v_bipush (pc' := 65) rfl dX2_order_63 rfl ?_
      refine v_icmp_ge (pc' := 68) (tgt := 152) rfl dX2_order_65 (by decide) (by omega) (by omega) (fun c2 => ?_) (fun c2 => ?_)
      ·
        have hst : chnC n s a = C := by rw [← hR, show m = 0 by omega]; rfl
        refine v_aload_n 0 (pc' := 153) rfl dX2_order_152 rfl rfl ?_
        refine v_iload_n 1 (pc' := 154) rfl dX2_order_153 rfl rfl ?_
        refine v_cVP (pc' := 157) rfl dX2_order_154 lk_RX2_34 ly_11 rfl (c_found2 l G hn hn1 hn7 hV wm hC) rfl rfl rfl ?_
        refine v_nm (fun found1 hfound1 => ?_)
        refine v_iret dX2_order_157 (by decide) (rfl) ?_
        exact ⟨by rw [hfound1]; unfold chnN; rw [hst], hfm⟩
      ·
        obtain ⟨m0, rfl⟩ : ∃ x, m = x + 1 := ⟨m - 1, by omega⟩
        refine v_aload_n 0 (pc' := 69) rfl dX2_order_68 rfl rfl ?_
        refine v_get (z := ((C.1.length : Nat) : Int)) (pc' := 72) rfl dX2_order_69 fk_RX2_16 ly_11 rfl (hm11) ?_
        refine v_iload 4 (pc' := 74) rfl dX2_order_72 rfl ?_
        refine v_icmp_ge (pc' := 77) (tgt := 152) rfl dX2_order_74 (by decide) (by omega) (by omega) (fun c3 => ?_) (fun c3 => ?_)
        ·
          have hst : chnC n s a = C := by rw [← hR]; exact chI_stop (by omega) _
          refine v_aload_n 0 (pc' := 153) rfl dX2_order_152 rfl rfl ?_
          refine v_iload_n 1 (pc' := 154) rfl dX2_order_153 rfl rfl ?_
          refine v_cVP (pc' := 157) rfl dX2_order_154 lk_RX2_34 ly_11 rfl (c_found2 l G hn hn1 hn7 hV wm hC) rfl rfl rfl ?_
          refine v_nm (fun found1 hfound1 => ?_)
          refine v_iret dX2_order_157 (by decide) (rfl) ?_
          exact ⟨by rw [hfound1]; unfold chnN; rw [hst], hfm⟩
        ·
          refine v_iconst (pc' := 78) rfl dX2_order_77 ?_
          refine v_istore (ls' := [(6, _), (0, _), (1, _), (2, _), (3, _), (4, _), (5, _)]) (pc' := 80) rfl dX2_order_78 rfl rfl ?_
          refine v_ls [1, 2, 3, 4, 5, 6, 0] rfl ?_
          refine v_loop2 80 (fun (j : Int) (wn : Wd) => ∃ (jN m2 : Nat) (D : ChS), j = jN ∧ jN + m2 = iN + 1 ∧ ChV n D ∧ ChW wn D ∧ C.1.length ≤ D.1.length ∧ chJ n (mostI n s a) iN m2 jN D = chJ n (mostI n s a) iN (iN + 1) 0 C ∧ Fr [11, 12, 13] w wn) (fun (j : Int) (wn : Wd) => (i + 1 - j).toNat) (fun (j : Int) (wn : Wd) => [(0, aR 11), (1, aI (n0)), (2, aI (p)), (3, aI (q)), (4, aI (most1)), (5, aI (i)), (6, aI (j))]) (fun (j : Int) (wn : Wd) => []) (fun (j : Int) (wn : Wd) => wn) (fun j wn hI2 ih2 => ?_) (0) wm (⟨0, iN + 1, C, rfl, by omega, hV, hC, Nat.le_refl _, rfl, hfm⟩)
          obtain ⟨jN, m2, D, hj, hjm, hVD, hD, hCD, hRD, hfn⟩ := hI2
          have d21 := hVD.1
          have dm := hD.1
          refine v_iload 6 (pc' := 82) rfl dX2_order_80 rfl ?_
          refine v_iload 5 (pc' := 84) rfl dX2_order_82 rfl ?_
          refine v_icmp_gt (pc' := 87) (tgt := 146) rfl dX2_order_84 (by decide) (by omega) (by omega) (fun c4 => ?_) (fun c4 => ?_)
          ·
            have hstop : chJ n (mostI n s a) iN m2 jN D = D := by rw [show m2 = 0 by omega]; rfl
            refine v_iinc (ls' := [(5, _), (0, _), (1, _), (2, _), (3, _), (4, _), (6, _)]) 5 (pc' := 149) rfl dX2_order_146 rfl rfl rfl ?_
            refine v_nl (fun i' hi' => ?_)
            refine v_goto (tgt := 52) dX2_order_149 (by decide) ?_
            refine v_ls [1, 2, 3, 4, 5, 0] rfl ?_
            exact ih1 (i') wn (⟨iN + 1, m0, D, by omega, by omega, hVD, hD, by rw [← hR]; simp only [chI]; rw [if_pos ⟨by omega, by omega⟩, ← hRD, hstop], hfn⟩) (by omega)
          ·
            obtain ⟨m3, rfl⟩ : ∃ x, m2 = x + 1 := ⟨m2 - 1, by omega⟩
            refine v_aload_n 0 (pc' := 88) rfl dX2_order_87 rfl rfl ?_
            refine v_get (z := ((D.1.length : Nat) : Int)) (pc' := 91) rfl dX2_order_88 fk_RX2_16 ly_11 rfl (dm) ?_
            refine v_iload 4 (pc' := 93) rfl dX2_order_91 rfl ?_
            refine v_icmp_ge (pc' := 96) (tgt := 146) rfl dX2_order_93 (by decide) (by omega) (by omega) (fun c5 => ?_) (fun c5 => ?_)
            ·
              have hstop : chJ n (mostI n s a) iN (m3 + 1) jN D = D := chJ_stop (by omega) _
              refine v_iinc (ls' := [(5, _), (0, _), (1, _), (2, _), (3, _), (4, _), (6, _)]) 5 (pc' := 149) rfl dX2_order_146 rfl rfl rfl ?_
              refine v_nl (fun i' hi' => ?_)
              refine v_goto (tgt := 52) dX2_order_149 (by decide) ?_
              refine v_ls [1, 2, 3, 4, 5, 0] rfl ?_
              exact ih1 (i') wn (⟨iN + 1, m0, D, by omega, by omega, hVD, hD, by rw [← hR]; simp only [chI]; rw [if_pos ⟨by omega, by omega⟩, ← hRD, hstop], hfn⟩) (by omega)
            ·
              have hiD : iN < D.1.length := by omega
              have hjD : jN < D.1.length := by omega
              have hgi := hVD.2.1 _ (getD_mem (d := pid) hiD)
              have hgj := hVD.2.1 _ (getD_mem (d := pid) hjD)
              refine v_aload_n 0 (pc' := 97) rfl dX2_order_96 rfl rfl ?_
              refine v_aload_n 0 (pc' := 98) rfl dX2_order_97 rfl rfl ?_
              refine v_getR (pc' := 101) rfl dX2_order_98 fk_RX2_13 ly_11 rfl ?_
              refine v_iload 5 (pc' := 103) rfl dX2_order_101 rfl ?_
              refine v_iald (z := ((hx (D.1.getD iN pid) : Nat) : Int)) (pc' := 104) rfl dX2_order_103 ly_13 (by omega) (by omega) rfl (by rw [show i.toNat = iN by omega]; exact hD.2.1 iN hiD) ?_
              refine v_aload_n 0 (pc' := 105) rfl dX2_order_104 rfl rfl ?_
              refine v_getR (pc' := 108) rfl dX2_order_105 fk_RX2_13 ly_11 rfl ?_
              refine v_iload 6 (pc' := 110) rfl dX2_order_108 rfl ?_
              refine v_iald (z := ((hx (D.1.getD jN pid) : Nat) : Int)) (pc' := 111) rfl dX2_order_110 ly_13 (by omega) (by omega) rfl (by rw [show j.toNat = jN by omega]; exact hD.2.1 jN hjD) ?_
              refine v_cSP (pc' := 114) rfl dX2_order_111 lk_RX2_28 rfl (c_then l G rfl rfl (hgi.b7 hn7) (hgj.B hn7) wn) rfl rfl rfl ?_
              refine v_nm (fun then1 hthen1 => ?_)
              refine v_iload_n 1 (pc' := 115) rfl dX2_order_114 rfl rfl ?_
              refine v_cVv (pc' := 118) rfl dX2_order_115 lk_RX2_20 ly_11 rfl (c_sift l G (C := D) hn hn1 hn7 hthen1 (hgi.comp hgj) hVD wn hD) rfl rfl rfl (fun sift3 w7 hq7 => ?_)
              obtain ⟨c7, f7⟩ := hq7
              have hVD1 := hVD.sft hn7 (hgi.comp hgj)
              have hpre := sfL_pre (C := D) (n - 1) 1 (pcomp (D.1.getD iN pid) (D.1.getD jN pid))
              have hgi1 := hVD1.2.1 _ (getD_mem (d := pid) (show iN < _ from Nat.lt_of_lt_of_le hiD hpre.1))
              have hgj1 := hVD1.2.1 _ (getD_mem (d := pid) (show jN < _ from Nat.lt_of_lt_of_le hjD hpre.1))
              refine v_aload_n 0 (pc' := 119) rfl dX2_order_118 rfl rfl ?_
              refine v_aload_n 0 (pc' := 120) rfl dX2_order_119 rfl rfl ?_
              refine v_getR (pc' := 123) rfl dX2_order_120 fk_RX2_13 ly_11 rfl ?_
              refine v_iload 6 (pc' := 125) rfl dX2_order_123 rfl ?_
              refine v_iald (z := ((hx ((sft n D (pcomp (D.1.getD iN pid) (D.1.getD jN pid))).1.getD jN pid) : Nat) : Int)) (pc' := 126) rfl dX2_order_125 ly_13 (by omega) (by omega) rfl (by rw [show j.toNat = jN by omega]; exact c7.2.1 jN (Nat.lt_of_lt_of_le hjD hpre.1)) ?_
              refine v_aload_n 0 (pc' := 127) rfl dX2_order_126 rfl rfl ?_
              refine v_getR (pc' := 130) rfl dX2_order_127 fk_RX2_13 ly_11 rfl ?_
              refine v_iload 5 (pc' := 132) rfl dX2_order_130 rfl ?_
              refine v_iald (z := ((hx ((sft n D (pcomp (D.1.getD iN pid) (D.1.getD jN pid))).1.getD iN pid) : Nat) : Int)) (pc' := 133) rfl dX2_order_132 ly_13 (by omega) (by omega) rfl (by rw [show i.toNat = iN by omega]; exact c7.2.1 iN (Nat.lt_of_lt_of_le hiD hpre.1)) ?_
              refine v_cSP (pc' := 136) rfl dX2_order_133 lk_RX2_28 rfl (c_then l G rfl rfl (hgj1.b7 hn7) (hgi1.B hn7) w7) rfl rfl rfl ?_
              refine v_nm (fun then2 hthen2 => ?_)
              refine v_iload_n 1 (pc' := 137) rfl dX2_order_136 rfl rfl ?_
              refine v_cVv (pc' := 140) rfl dX2_order_137 lk_RX2_20 ly_11 rfl (c_sift l G hn hn1 hn7 hthen2 (hgj1.comp hgi1) hVD1 w7 c7) rfl rfl rfl (fun sift4 w9 hq9 => ?_)
              obtain ⟨c9, f9⟩ := hq9
              have hVE := hVD1.sft hn7 (hgj1.comp hgi1)
              have hpre2 := sfL_pre (C := sft n D (pcomp (D.1.getD iN pid) (D.1.getD jN pid))) (n - 1) 1 (pcomp ((sft n D (pcomp (D.1.getD iN pid) (D.1.getD jN pid))).1.getD jN pid) ((sft n D (pcomp (D.1.getD iN pid) (D.1.getD jN pid))).1.getD iN pid))
              refine v_iinc (ls' := [(6, _), (0, _), (1, _), (2, _), (3, _), (4, _), (5, _)]) 6 (pc' := 143) rfl dX2_order_140 rfl rfl rfl ?_
              refine v_nl (fun j' hj' => ?_)
              refine v_goto (tgt := 80) dX2_order_143 (by decide) ?_
              refine v_ls [1, 2, 3, 4, 5, 6, 0] rfl ?_
              exact ih2 (j') w9 (⟨jN + 1, m3, _, by omega, by omega, hVE, c9, Nat.le_trans hCD (Nat.le_trans hpre.1 hpre2.1), by rw [← hRD]; simp only [chJ]; rw [if_pos (by omega)], (hfn.trs f7).trs f9⟩) (by omega)
  ·
    refine v_aload_n 0 (pc' := 11) rfl dX2_order_10 rfl rfl ?_
    refine v_getR (pc' := 14) rfl dX2_order_11 fk_RX2_9 ly_11 rfl ?_
    refine v_iload 4 (pc' := 16) rfl dX2_order_14 rfl ?_
    refine v_iconst (pc' := 17) rfl dX2_order_16 ?_
    refine v_iast (pc' := 18) rfl dX2_order_17 ly_12 (by omega) (by omega) rfl ?_
    refine v_nmw (fun w1 hw1 => ?_)
    refine v_iinc (ls' := [(4, _), (0, _), (1, _), (2, _), (3, _)]) 4 (pc' := 21) rfl dX2_order_18 rfl rfl rfl ?_
    refine v_nl (fun u' hu' => ?_)
    refine v_goto (tgt := 3) dX2_order_21 (by decide) ?_
    refine v_ls [1, 2, 3, 4, 0] rfl ?_
    exact ih0 (u') w1 (⟨k + 1, by omega, by omega, fun j h => by
        rw [hw1, up_at, show u.toNat = k by omega]
        split
        · rfl
        · exact hA j (by omega), by rw [hw1]; exact hfl.up rfl⟩) (by omega)

/-! ===== what the look at every permutation gives ===== -/
theorem sumN_eq (h : Nat → Nat) : ∀ n, sumN h n = ((List.range' 1 n).map h).sum
  | 0 => rfl
  | n + 1 => by
    simp only [sumN]
    rw [sumN_eq h n, List.range'_concat]
    simp [Nat.add_comm]
theorem sumN_congr {h g : Nat → Nat} : ∀ n, (∀ x, 1 ≤ x → x ≤ n → h x = g x) → sumN h n = sumN g n
  | 0, _ => rfl
  | n + 1, e => by simp only [sumN]; rw [sumN_congr n (fun x a b => e x a (by omega)), e (n + 1) (by omega) (Nat.le_refl _)]
theorem pm_range {n : Nat} {r : Nat → Nat} (hr : Pm n r) : ((List.range' 1 n).map r).Perm (List.range' 1 n) := by
  have nd : (List.range' 1 n).Nodup := List.nodup_range'
  refine (List.perm_ext_iff_of_nodup ?_ nd).mpr (fun a => ?_)
  · unfold List.Nodup
    rw [List.pairwise_map]
    exact List.Pairwise.imp (fun {a b} h e => h (hr.inj e)) nd
  · rw [List.mem_map]
    simp only [List.mem_range'_1]
    constructor
    · rintro ⟨x, h, rfl⟩
      have := hr.1 x h.1 (by omega)
      omega
    · intro h
      obtain ⟨x, a1, a2, a3⟩ := hr.onto h.1 (show a ≤ n by omega)
      exact ⟨x, by omega, a3⟩
theorem perm_sum {L M : List Nat} (h : L.Perm M) : L.sum = M.sum := by
  induction h with
  | nil => rfl
  | cons x _ ih => simp [ih]
  | swap x y l => simp; omega
  | trans _ _ a b => rw [a, b]
theorem sumN_re {n : Nat} {r : Nat → Nat} (hr : Pm n r) (h : Nat → Nat) : sumN (fun x => h (r x)) n = sumN h n := by
  rw [sumN_eq, sumN_eq, ← perm_sum ((pm_range hr).map h), List.map_map]
  rfl
theorem typL_congr {g h : Nat → Nat} : ∀ k t, (∀ x, 1 ≤ x → x ≤ k → g x = h x) → typL g k t = typL h k t
  | 0, _, _ => rfl
  | k + 1, t, e => by simp only [typL]; rw [e (k + 1) (by omega) (Nat.le_refl _)]; exact typL_congr k _ (fun x a b => e x a (by omega))
theorem all_app {α : Type} {L M : List α} {p : α → Bool} (h1 : L.all p = true) (h2 : M.all p = true) : (L ++ M).all p = true := by rw [List.all_append, h1, h2]; rfl
theorem kz_41 : sg_41.all (kchk 7) = true := kq_76
theorem kz_40 : sg_40.all (kchk 7) = true := all_app (L := ch_75) (M := sg_41) (p := kchk 7) kq_75 kz_41
theorem kz_39 : sg_39.all (kchk 7) = true := all_app (L := ch_74) (M := sg_40) (p := kchk 7) kq_74 kz_40
theorem kz_38 : sg_38.all (kchk 7) = true := all_app (L := ch_73) (M := sg_39) (p := kchk 7) kq_73 kz_39
theorem kz_37 : sg_37.all (kchk 7) = true := all_app (L := ch_72) (M := sg_38) (p := kchk 7) kq_72 kz_38
theorem kz_36 : sg_36.all (kchk 7) = true := all_app (L := ch_71) (M := sg_37) (p := kchk 7) kq_71 kz_37
theorem kz_35 : sg_35.all (kchk 7) = true := all_app (L := ch_67) (M := sg_36) (p := kchk 7) kq_67 kz_36
theorem kz_34 : sg_34.all (kchk 7) = true := all_app (L := ch_65) (M := sg_35) (p := kchk 7) kq_65 kz_35
theorem kz_33 : sg_33.all (kchk 7) = true := all_app (L := ch_64) (M := sg_34) (p := kchk 7) kq_64 kz_34
theorem kz_32 : sg_32.all (kchk 7) = true := all_app (L := ch_63) (M := sg_33) (p := kchk 7) kq_63 kz_33
theorem kz_31 : sg_31.all (kchk 7) = true := all_app (L := ch_62) (M := sg_32) (p := kchk 7) kq_62 kz_32
theorem kz_30 : sg_30.all (kchk 7) = true := all_app (L := ch_61) (M := sg_31) (p := kchk 7) kq_61 kz_31
theorem kz_29 : sg_29.all (kchk 7) = true := all_app (L := ch_57) (M := sg_30) (p := kchk 7) kq_57 kz_30
theorem kz_28 : sg_28.all (kchk 7) = true := all_app (L := ch_56) (M := sg_29) (p := kchk 7) kq_56 kz_29
theorem kz_27 : sg_27.all (kchk 7) = true := all_app (L := ch_54) (M := sg_28) (p := kchk 7) kq_54 kz_28
theorem kz_26 : sg_26.all (kchk 7) = true := all_app (L := ch_53) (M := sg_27) (p := kchk 7) kq_53 kz_27
theorem kz_25 : sg_25.all (kchk 7) = true := all_app (L := ch_52) (M := sg_26) (p := kchk 7) kq_52 kz_26
theorem kz_24 : sg_24.all (kchk 7) = true := all_app (L := ch_51) (M := sg_25) (p := kchk 7) kq_51 kz_25
theorem kz_23 : sg_23.all (kchk 7) = true := all_app (L := ch_47) (M := sg_24) (p := kchk 7) kq_47 kz_24
theorem kz_22 : sg_22.all (kchk 7) = true := all_app (L := ch_46) (M := sg_23) (p := kchk 7) kq_46 kz_23
theorem kz_21 : sg_21.all (kchk 7) = true := all_app (L := ch_45) (M := sg_22) (p := kchk 7) kq_45 kz_22
theorem kz_20 : sg_20.all (kchk 7) = true := all_app (L := ch_43) (M := sg_21) (p := kchk 7) kq_43 kz_21
theorem kz_19 : sg_19.all (kchk 7) = true := all_app (L := ch_42) (M := sg_20) (p := kchk 7) kq_42 kz_20
theorem kz_18 : sg_18.all (kchk 7) = true := all_app (L := ch_41) (M := sg_19) (p := kchk 7) kq_41 kz_19
theorem kz_17 : sg_17.all (kchk 7) = true := all_app (L := ch_37) (M := sg_18) (p := kchk 7) kq_37 kz_18
theorem kz_16 : sg_16.all (kchk 7) = true := all_app (L := ch_36) (M := sg_17) (p := kchk 7) kq_36 kz_17
theorem kz_15 : sg_15.all (kchk 7) = true := all_app (L := ch_35) (M := sg_16) (p := kchk 7) kq_35 kz_16
theorem kz_14 : sg_14.all (kchk 7) = true := all_app (L := ch_34) (M := sg_15) (p := kchk 7) kq_34 kz_15
theorem kz_13 : sg_13.all (kchk 7) = true := all_app (L := ch_32) (M := sg_14) (p := kchk 7) kq_32 kz_14
theorem kz_12 : sg_12.all (kchk 7) = true := all_app (L := ch_31) (M := sg_13) (p := kchk 7) kq_31 kz_13
theorem kz_11 : sg_11.all (kchk 7) = true := all_app (L := ch_27) (M := sg_12) (p := kchk 7) kq_27 kz_12
theorem kz_10 : sg_10.all (kchk 7) = true := all_app (L := ch_26) (M := sg_11) (p := kchk 7) kq_26 kz_11
theorem kz_9 : sg_9.all (kchk 7) = true := all_app (L := ch_25) (M := sg_10) (p := kchk 7) kq_25 kz_10
theorem kz_8 : sg_8.all (kchk 7) = true := all_app (L := ch_24) (M := sg_9) (p := kchk 7) kq_24 kz_9
theorem kz_7 : sg_7.all (kchk 7) = true := all_app (L := ch_23) (M := sg_8) (p := kchk 7) kq_23 kz_8
theorem kz_6 : sg_6.all (kchk 7) = true := all_app (L := ch_21) (M := sg_7) (p := kchk 7) kq_21 kz_7
theorem kz_5 : sg_5.all (kchk 7) = true := all_app (L := ch_17) (M := sg_6) (p := kchk 7) kq_17 kz_6
theorem kz_4 : sg_4.all (kchk 7) = true := all_app (L := ch_16) (M := sg_5) (p := kchk 7) kq_16 kz_5
theorem kz_3 : sg_3.all (kchk 7) = true := all_app (L := ch_15) (M := sg_4) (p := kchk 7) kq_15 kz_4
theorem kz_2 : sg_2.all (kchk 7) = true := all_app (L := ch_14) (M := sg_3) (p := kchk 7) kq_14 kz_3
theorem kz_1 : sg_1.all (kchk 7) = true := all_app (L := ch_13) (M := sg_2) (p := kchk 7) kq_13 kz_2
theorem kz_0 : sg_0.all (kchk 7) = true := all_app (L := ch_12) (M := sg_1) (p := kchk 7) kq_12 kz_1
theorem kall : ∀ n : Nat, n < 8 → 1 ≤ n → (PH n).all (kchk n) = true := by
  intro n h1 h2
  rcases (show n = 1 ∨ n = 2 ∨ n = 3 ∨ n = 4 ∨ n = 5 ∨ n = 6 ∨ n = 7 by omega) with rfl | rfl | rfl | rfl | rfl | rfl | rfl
  · decide +kernel
  · decide +kernel
  · decide +kernel
  · decide +kernel
  · decide +kernel
  · decide +kernel
  · rw [ph7]; exact kz_0
theorem rs_ok : ∀ n : Nat, n < 8 → (RSl n).all (pmB n) = true := by decide +kernel
theorem lp_ok : ∀ n : Nat, n < 8 → ∀ i : Nat, i < kmany n → pmB n (hx (leastF (kT n i) n)) = true ∧ seven.all (fun x => dg (hx (leastF (kT n i) n)) x == leastF (kT n i) n x) = true ∧ kindN (leastF (kT n i) n) n = kT n i := by decide +kernel
theorem kT_inj : ∀ n : Nat, n < 8 → ∀ i : Nat, i < kmany n → ∀ j : Nat, j < kmany n → kT n i = kT n j → i = j := by decide +kernel
theorem kT_desc : ∀ n : Nat, n < 8 → ∀ i : Nat, i < kmany n → ∀ j : Nat, j < i → kT n i < kT n j := by decide +kernel
theorem lsW_off {z : Nat} : ∀ k (g : Nat → Nat) x last, (z < x ∨ last ≤ z) → lsW k g x last z = g z
  | 0, _, _, _, _ => rfl
  | k + 1, g, x, last, h => by
    simp only [lsW]
    split
    · rw [lsW_off k _ _ _ (by omega)]; unfold gset; rw [if_neg (by omega)]
    · rfl
theorem lsL_off {n z : Nat} (hz : z = 0 ∨ n < z) : ∀ k (g : Nat → Nat) x rest, 1 ≤ x → okB n k x rest = true → lsL k g x rest z = g z
  | 0, _, _, _, _, _ => rfl
  | k + 1, g, x, rest, hx, h => by
    simp only [lsL]
    split
    · rfl
    · rename_i h0
      have s := okB_s h h0
      rw [lsL_off hz k _ _ _ (by omega) s.2.2, lsW_off _ _ _ _ (by omega)]
      unfold gset; rw [if_neg (by omega)]
section KF
variable {n : Nat}
theorem lp_dg {i : Nat} (h7 : n ≤ 7) (hi : i < kmany n) : leastF (kT n i) n = dg (hx (leastF (kT n i) n)) := by
  have h := lp_ok n (by omega) i hi
  funext x
  by_cases q : 1 ≤ x ∧ x ≤ 7
  · have := List.all_eq_true.mp h.2.1 x (by unfold seven; simp only [List.mem_cons, List.not_mem_nil, or_false]; omega)
    rw [beq_iff_eq] at this
    exact this.symm
  · have o := (kt_ok n (by omega) i hi).1.2
    have e1 : dg (hx (leastF (kT n i) n)) x = x := by unfold dg; rw [if_neg q]
    rw [e1]
    unfold leastF
    rw [lsL_off (n := n) (by omega) 7 _ 1 _ (by omega) o]
    unfold tl; split <;> omega
theorem lp_pm {i : Nat} (h7 : n ≤ 7) (hi : i < kmany n) : Pm n (leastF (kT n i) n) := by
  rw [lp_dg h7 hi]; exact pmB_ok h7 (lp_ok n (by omega) i hi).1
variable {f : Nat → Nat}
theorem kfac (h1 : 1 ≤ n) (h7 : n ≤ 7) (hf : Pm n f) : kchk n (hx f) = true := List.all_eq_true.mp (kall n (by omega) h1) _ (PH_mem hf h7)
theorem kf_type (h1 : 1 ≤ n) (h7 : n ≤ 7) (hf : Pm n f) : ∃ i, i < kmany n ∧ kindN f n = kT n i := by
  have h := kfac h1 h7 hf
  unfold kchk at h
  rw [dg_hx hf h7] at h
  simp only [Bool.and_eq_true, List.any_eq_true, List.mem_range, beq_iff_eq] at h
  obtain ⟨i, a, b⟩ := h.2.1
  exact ⟨i, a, b.symm⟩
theorem kf_cnt (h1 : 1 ≤ n) (h7 : n ≤ 7) (hf : Pm n f) : kindN f n = typL (fun k => cntR f n k / k) n 0 := by
  have h := kfac h1 h7 hf
  unfold kchk at h
  rw [dg_hx hf h7] at h
  simp only [Bool.and_eq_true, beq_iff_eq] at h
  exact h.1
theorem kf_lst (h1 : 1 ≤ n) (h7 : n ≤ 7) (hf : Pm n f) : kindN f n = typL (lstC f n) n 0 := by
  have h := kfac h1 h7 hf
  unfold kchk at h
  rw [dg_hx hf h7] at h
  simp only [Bool.and_eq_true, beq_iff_eq] at h
  exact h.2.2.2.1
theorem kf_par (h1 : 1 ≤ n) (h7 : n ≤ 7) (hf : Pm n f) : (n - lstN f n) % 2 = evnN f n % 2 := by
  have h := kfac h1 h7 hf
  unfold kchk at h
  rw [dg_hx hf h7] at h
  simp only [Bool.and_eq_true, beq_iff_eq] at h
  exact h.2.2.2.2.2
theorem kf_ord (h1 : 1 ≤ n) (h7 : n ≤ 7) (hf : Pm n f) : (1 ≤ orderN f n ∧ orderN f n ≤ 12) ∧ (∀ x, 1 ≤ x → x ≤ 7 → pstep f (orderN f n) x = x) ∧ ∀ j, 1 ≤ j → j < orderN f n → ∃ x, 1 ≤ x ∧ x ≤ 7 ∧ pstep f j x ≠ x := by
  have h := kfac h1 h7 hf
  unfold kchk at h
  rw [dg_hx hf h7] at h
  simp only [Bool.and_eq_true, beq_iff_eq] at h
  have o := h.2.2.2.2.1
  unfold ordB at o
  simp only [Bool.and_eq_true, Nat.ble_eq, List.all_eq_true, beq_iff_eq, List.mem_range, Bool.or_eq_true, List.any_eq_true, Bool.not_eq_true', beq_eq_false_iff_ne] at o
  have m7 : ∀ x, x ∈ seven ↔ 1 ≤ x ∧ x ≤ 7 := fun x => by unfold seven; simp only [List.mem_cons, List.not_mem_nil, or_false]; omega
  refine ⟨⟨o.1, o.2.1⟩, fun x a b => o.2.2.1 x ((m7 x).mpr ⟨a, b⟩), fun j a b => ?_⟩
  rcases o.2.2.2 j b with q | ⟨x, p, q⟩
  · omega
  · exact ⟨x, ((m7 x).mp p).1, ((m7 x).mp p).2, q⟩
theorem kind_conj (h1 : 1 ≤ n) (h7 : n ≤ 7) (hf : Pm n f) {r : Nat → Nat} (hr : Pm n r) : kindN (pconj f r) n = kindN f n := by
  have ht := Pm.conj h7 hf hr
  rw [kf_cnt h1 h7 hf, kf_cnt h1 h7 ht]
  have e : ∀ k, cntR (pconj f r) n k = cntR f n k := fun k => by
    unfold cntR
    rw [← sumN_re hr]
    refine sumN_congr n (fun x a b => ?_)
    rw [ring_size (hf.mono h7) (ht.mono h7) (hr.mono h7) ((conj_iff h7 hr).mp rfl) a (by omega : x ≤ 7)]
  exact typL_congr n 0 (fun x _ _ => by rw [e])
theorem conj_conj (h7 : n ≤ 7) {r q : Nat → Nat} (hr : Pm n r) (hq : Pm n q) (p : Nat → Nat) : pconj (pconj p r) q = pconj p (pcomp r q) := by
  funext x
  unfold pconj
  rw [inv_comp h7 hr hq]; rfl
theorem conj_id (h7 : n ≤ 7) (p : Nat → Nat) : pconj p pid = p := by
  have e : pinv pid = pid := by
    funext x
    have h := (pm_id n).f_inv h7 x
    exact h
  funext x; unfold pconj; rw [e]; rfl
/-- every permutation comes to the least of its type -/
theorem least_conj (h1 : 1 ≤ n) (h7 : n ≤ 7) : ∀ (c : Nat) (f : Nat → Nat), hx f ≤ c → Pm n f → (∃ r, Pm n r ∧ pconj f r = leastF (kindN f n) n) ∧ hx (leastF (kindN f n) n) ≤ hx f := by
  intro c
  induction c with
  | zero =>
    intro f hc hf
    have := hf.b7 h7 1 (by omega) (by omega)
    rw [hx_eq] at hc
    omega
  | succ c ih =>
    intro f hc hf
    have h := kfac h1 h7 hf
    unfold kchk at h
    rw [dg_hx hf h7] at h
    simp only [Bool.and_eq_true, Bool.or_eq_true, beq_iff_eq, List.any_eq_true] at h
    rcases h.2.2.1 with q | ⟨m, hm, hlt⟩
    · obtain ⟨i, hi, e⟩ := kf_type h1 h7 hf
      have hp := lp_pm h7 hi
      rw [← e] at hp
      have e2 : leastF (kindN f n) n = f := (hx_inj hp hf h7 h7).mp q
      rw [e2]
      exact ⟨⟨pid, pm_id n, conj_id h7 f⟩, Nat.le_refl _⟩
    · have hr : Pm n (dg m) := pmB_ok h7 (List.all_eq_true.mp (rs_ok n (by omega)) m hm)
      have hlt2 : hx (pconj f (dg m)) < hx f := Nat.le_of_ble_eq_true hlt
      obtain ⟨⟨r, a, b⟩, d⟩ := ih (pconj f (dg m)) (by omega) (Pm.conj h7 hf hr)
      rw [kind_conj h1 h7 hf hr] at b d
      refine ⟨⟨pcomp (dg m) r, hr.comp a, ?_⟩, by omega⟩
      rw [← conj_conj h7 hr a]; exact b
theorem least_pm (h1 : 1 ≤ n) (h7 : n ≤ 7) (hf : Pm n f) : Pm n (leastF (kindN f n) n) := by
  obtain ⟨i, hi, e⟩ := kf_type h1 h7 hf
  rw [e]; exact lp_pm h7 hi
end KF

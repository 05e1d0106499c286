/-! ===== the reference: characters ===== -/
def eT (t : Nat) : Nat := if t < 10 then 0 else if t < 100 then 1 else if t < 1000 then 2 else if t < 10000 then 3 else if t < 100000 then 4 else if t < 1000000 then 5 else 6
theorem eT_of {t e : Nat} (he : e ≤ 6) (h1 : 10 ^ e ≤ t) (h2 : t < 10 ^ (e + 1)) : eT t = e := by
  unfold eT
  rcases (show e = 0 ∨ e = 1 ∨ e = 2 ∨ e = 3 ∨ e = 4 ∨ e = 5 ∨ e = 6 by omega) with rfl | rfl | rfl | rfl | rfl | rfl | rfl <;> simp only [Nat.reducePow, Nat.reduceAdd] at h1 h2 <;> repeat' split
  all_goals omega
theorem eT_at {t : Nat} (h1 : 1 ≤ t) (h7 : t < 10000000) : eT t ≤ 6 ∧ 10 ^ eT t ≤ t ∧ t < 10 ^ (eT t + 1) := by
  unfold eT
  repeat' split
  all_goals (simp only [Nat.reducePow, Nat.reduceAdd]; omega)
def dgT (t k : Nat) : Nat := t / 10 ^ (eT t - k) % 10
def dgZ (t k : Nat) : Nat := if k ≤ eT t then dgT t k else 0
theorem dgZ_le (t k : Nat) : dgZ t k ≤ 9 := by
  unfold dgZ dgT
  split
  · have := Nat.mod_lt (t / 10 ^ (eT t - k)) (show 0 < 10 by decide); omega
  · omega
def figM (t : Nat) : Nat → Nat
  | 0 => 0
  | k + 1 => figM t k ||| 2 ^ (dgZ t k + 6 - k)
theorem figM_lt (t : Nat) : ∀ k, figM t k < 65536
  | 0 => Nat.zero_lt_succ _
  | k + 1 => Nat.or_lt_two_pow (n := 16) (figM_lt t k) (Nat.pow_lt_pow_right (by decide) (by have := dgZ_le t k; omega))
abbrev FL := List (Nat × Int)
def addM : FL → Nat → Int → FL
  | [], m, v => [(m, v)]
  | e :: L, m, v => if e.1 = m then (m, e.2 + v) :: L else e :: addM L m v
def stM (d : Nat) (e : Nat × Int) (f : Nat) (N : FL) : FL :=
  if e.1 / 2 ^ (d + f) % 2 = 1 ∧ e.1 / 2 ^ f % 2 = 0 then addM N ((e.1 ^^^ 2 ^ (d + f)) ^^^ 2 ^ f) (if popc (e.1 / 2 ^ (f + 1) % 2 ^ (d - 1)) % 2 = 0 then e.2 else -e.2) else N
def frM (d : Nat) (e : Nat × Int) (N : FL) : Nat → FL
  | 0 => N
  | f + 1 => stM d e f (frM d e N f)
def nxM (d : Nat) (A : FL) : Nat → FL
  | 0 => []
  | i + 1 => frM d (A.getD i (0, 0)) (nxM d A i) (14 - d)
def lsM (p t : Nat) : Nat → FL
  | 0 => [(figM p 7, 1)]
  | k + 1 => nxM (dgT t k) (lsM p t k) (lsM p t k).length
def valM (p t : Nat) : Int := if (lsM p t (eT t + 1)).length = 0 then 0 else ((lsM p t (eT t + 1)).getD 0 (0, 0)).2
def okA (A : FL) : Bool := Nat.ble A.length 15 && A.all (fun e => Nat.blt e.1 16384 && decide (-40 ≤ e.2 ∧ e.2 ≤ 40))
def okV (p t : Nat) : Bool := (List.range (eT t + 2)).all (fun k => okA (lsM p t k)) && decide (valM p t = valN p t)
theorem valM_ok : ∀ n : Nat, n < 8 → ∀ i : Nat, i < kmany n → ∀ j : Nat, j < kmany n → okV (kT n i) (kT n j) = true := by decide +kernel
theorem kT_dig : ∀ n : Nat, n < 8 → ∀ i : Nat, i < kmany n → (List.range (eT (kT n i) + 1)).all (fun k => Nat.ble 1 (dgT (kT n i) k) && Nat.ble (dgT (kT n i) k) 7) = true := by decide +kernel
def BdL (c : Int) (L : FL) : Prop := ∀ e, e ∈ L → e.1 < 65536 ∧ -c ≤ e.2 ∧ e.2 ≤ c
theorem addM_bd {c v : Int} {m : Nat} (hm : m < 65536) (h1 : -40 ≤ v) (h2 : v ≤ 40) (hc : 0 ≤ c) : ∀ {L : FL}, BdL c L → BdL (c + 40) (addM L m v)
  | [], _ => fun e he => by
    have : e = (m, v) := List.mem_singleton.mp he
    subst this
    exact ⟨hm, by show -(c + 40) ≤ v; omega, by show v ≤ c + 40; omega⟩
  | x :: L, h => by
    have hx := h x (List.mem_cons_self)
    unfold addM
    split
    · intro e he
      rcases List.mem_cons.mp he with q | q
      · subst q; exact ⟨hm, by show -(c + 40) ≤ x.2 + v; omega, by show x.2 + v ≤ c + 40; omega⟩
      · have := h e (List.mem_cons_of_mem _ q); omega
    · intro e he
      rcases List.mem_cons.mp he with q | q
      · subst q; omega
      · exact addM_bd hm h1 h2 hc (fun y hy => h y (List.mem_cons_of_mem _ hy)) e q
theorem addM_le (m : Nat) (v : Int) : ∀ L : FL, L.length ≤ (addM L m v).length
  | [] => by simp [addM]
  | x :: L => by
    have := addM_le m v L
    unfold addM
    split
    · simp
    · simp only [List.length_cons]; omega
theorem addM_hit (m : Nat) (v : Int) : ∀ {L : FL} {i : Nat}, i < L.length → (L.getD i (0, 0)).1 = m → (∀ j, j < i → (L.getD j (0, 0)).1 ≠ m) → (addM L m v).length = L.length ∧ ∀ j, (addM L m v).getD j (0, 0) = if j = i then (m, (L.getD i (0, 0)).2 + v) else L.getD j (0, 0)
  | [], i, h, _, _ => absurd h (Nat.not_lt_zero _)
  | x :: L, 0, _, e, _ => by
    have e' : x.1 = m := e
    unfold addM
    rw [if_pos e']
    refine ⟨rfl, fun j => ?_⟩
    cases j with
    | zero => rfl
    | succ j => rfl
  | x :: L, i + 1, h, e, hn => by
    have e' : ¬ x.1 = m := hn 0 (by omega)
    have ih := addM_hit m v (L := L) (i := i) (by simpa using h) e (fun j hj => hn (j + 1) (by omega))
    unfold addM
    rw [if_neg e']
    refine ⟨by rw [List.length_cons, List.length_cons, ih.1], fun j => ?_⟩
    cases j with
    | zero => rfl
    | succ j =>
      show (addM L m v).getD j (0, 0) = _
      rw [ih.2 j]
      by_cases q : j = i
      · rw [if_pos q, if_pos (by omega)]; rfl
      · rw [if_neg q, if_neg (by omega)]; rfl
theorem addM_new (m : Nat) (v : Int) : ∀ {L : FL}, (∀ j, j < L.length → (L.getD j (0, 0)).1 ≠ m) → (addM L m v).length = L.length + 1 ∧ ∀ j, (addM L m v).getD j (0, 0) = if j = L.length then (m, v) else L.getD j (0, 0)
  | [], _ => by
    refine ⟨rfl, fun j => ?_⟩
    cases j with
    | zero => rfl
    | succ j => rfl
  | x :: L, hn => by
    have e' : ¬ x.1 = m := hn 0 (by simp)
    have ih := addM_new m v (L := L) (fun j hj => hn (j + 1) (by simpa using hj))
    unfold addM
    rw [if_neg e']
    refine ⟨by rw [List.length_cons, List.length_cons, ih.1], fun j => ?_⟩
    cases j with
    | zero => rfl
    | succ j =>
      show (addM L m v).getD j (0, 0) = _
      rw [ih.2 j, List.length_cons]
      by_cases q : j = L.length
      · rw [if_pos q, if_pos (by omega)]
      · rw [if_neg q, if_neg (by omega)]; rfl
theorem stM_le (d : Nat) (e : Nat × Int) (f : Nat) (N : FL) : N.length ≤ (stM d e f N).length := by
  unfold stM; split
  · exact addM_le _ _ _
  · exact Nat.le_refl _
theorem stM_bd {d f : Nat} {e : Nat × Int} {N : FL} {c : Int} (hf : d + f < 14) (he : e.1 < 16384) (h : -40 ≤ e.2 ∧ e.2 ≤ 40) (hc : 0 ≤ c) (hN : BdL c N) : BdL (c + 40) (stM d e f N) := by
  unfold stM; split
  · exact addM_bd (Nat.lt_of_lt_of_le (xor_lt14 (xor_lt14 he hf) (by omega)) (by decide)) (by split <;> omega) (by split <;> omega) hc hN
  · intro x hx; have := hN x hx; omega
theorem frM_le {d : Nat} {e : Nat × Int} {N : FL} {f : Nat} : ∀ g, f ≤ g → (frM d e N f).length ≤ (frM d e N g).length
  | 0, h => by rw [Nat.le_zero.mp h]; exact Nat.le_refl _
  | g + 1, h => by
    by_cases q : f = g + 1
    · rw [q]; exact Nat.le_refl _
    · exact Nat.le_trans (frM_le g (by omega)) (stM_le _ _ _ _)
theorem frM_bd {d : Nat} {e : Nat × Int} {N : FL} {c : Int} (he : e.1 < 16384) (h : -40 ≤ e.2 ∧ e.2 ≤ 40) (hc : 0 ≤ c) (hN : BdL c N) : ∀ f : Nat, f ≤ 14 - d → BdL (c + 40 * (f : Int)) (frM d e N f)
  | 0, _ => by intro x hx; have := hN x hx; omega
  | f + 1, hf => by
    have := stM_bd (d := d) (f := f) (by omega) he h (by omega) (frM_bd (d := d) he h hc hN f (by omega))
    intro x hx; have := this x hx; omega
theorem nxM_le {d : Nat} {A : FL} {i : Nat} : ∀ j, i ≤ j → (nxM d A i).length ≤ (nxM d A j).length
  | 0, h => by rw [Nat.le_zero.mp h]; exact Nat.le_refl _
  | j + 1, h => by
    by_cases q : i = j + 1
    · rw [q]; exact Nat.le_refl _
    · exact Nat.le_trans (nxM_le j (by omega)) (frM_le (f := 0) _ (Nat.zero_le _))
theorem nxM_bd {d : Nat} {A : FL} (hA : ∀ e, e ∈ A → e.1 < 16384 ∧ -40 ≤ e.2 ∧ e.2 ≤ 40) : ∀ i, i ≤ A.length → BdL (560 * (i : Int)) (nxM d A i)
  | 0, _ => fun e he => absurd he List.not_mem_nil
  | i + 1, h => by
    have hm := hA _ (getD_mem (d := (0, 0)) (show i < A.length by omega))
    have := frM_bd (d := d) hm.1 hm.2 (by omega) (nxM_bd (d := d) hA i (by omega)) (14 - d) (Nat.le_refl _)
    intro x hx; have := this x hx; omega
theorem okV_at {p t k : Nat} (h : okV p t = true) (hk : k ≤ eT t + 1) : (lsM p t k).length ≤ 15 ∧ ∀ e, e ∈ lsM p t k → e.1 < 16384 ∧ -40 ≤ e.2 ∧ e.2 ≤ 40 := by
  unfold okV at h
  rw [Bool.and_eq_true] at h
  have := List.all_eq_true.mp h.1 k (List.mem_range.mpr (by omega))
  unfold okA at this
  rw [Bool.and_eq_true] at this
  refine ⟨Nat.le_of_ble_eq_true this.1, fun e he => ?_⟩
  have := List.all_eq_true.mp this.2 e he
  rw [Bool.and_eq_true] at this
  exact ⟨by have q := this.1; simp [Nat.blt] at q; omega, by simpa using of_decide_eq_true this.2⟩
theorem okV_eq {p t : Nat} (h : okV p t = true) : valM p t = valN p t := by
  unfold okV at h
  rw [Bool.and_eq_true] at h
  exact of_decide_eq_true h.2
theorem in_ok {p t k i f d : Nat} (h : okV p t = true) (hk : k ≤ eT t) (hd : d = dgT t k) (hi : i < (lsM p t k).length) (hf : f < 14 - d) :
    (stM d ((lsM p t k).getD i (0, 0)) f (frM d ((lsM p t k).getD i (0, 0)) (nxM d (lsM p t k) i) f)).length ≤ 15 ∧ BdL 10000 (frM d ((lsM p t k).getD i (0, 0)) (nxM d (lsM p t k) i) f) ∧ ((lsM p t k).getD i (0, 0)).1 < 16384 ∧ -40 ≤ ((lsM p t k).getD i (0, 0)).2 ∧ ((lsM p t k).getD i (0, 0)).2 ≤ 40 := by
  have a := okV_at h (show k ≤ eT t + 1 by omega)
  have b := (okV_at h (show k + 1 ≤ eT t + 1 by omega)).1
  have hm := a.2 _ (getD_mem (d := (0, 0)) hi)
  have e1 : (nxM d (lsM p t k) (lsM p t k).length).length ≤ 15 := by rw [hd]; exact b
  have e2 := nxM_le (d := d) (A := lsM p t k) (i := i + 1) (lsM p t k).length (by omega)
  have e3 := frM_le (d := d) (e := (lsM p t k).getD i (0, 0)) (N := nxM d (lsM p t k) i) (f := f + 1) (14 - d) (by omega)
  have e4 : (frM d ((lsM p t k).getD i (0, 0)) (nxM d (lsM p t k) i) (14 - d)).length = (nxM d (lsM p t k) (i + 1)).length := rfl
  have e5 : (stM d ((lsM p t k).getD i (0, 0)) f (frM d ((lsM p t k).getD i (0, 0)) (nxM d (lsM p t k) i) f)).length = (frM d ((lsM p t k).getD i (0, 0)) (nxM d (lsM p t k) i) (f + 1)).length := rfl
  refine ⟨by omega, ?_, hm⟩
  have g := frM_bd (d := d) hm.1 hm.2 (by omega) (nxM_bd (d := d) a.2 i (by omega)) f (by omega)
  intro x hx
  have := g x hx
  omega
def DgM (w : Wd) (t : Nat) : Prop := w 63 37 = ((eT t + 1 : Nat) : Int) ∧ ∀ k, k ≤ eT t → w 82 k = (dgT t k : Nat)
def LsW (w : Wd) (c d : Nat) (L : FL) : Prop := ∀ i, i < L.length → w c i = ((L.getD i (0, 0)).1 : Int) ∧ w d i = (L.getD i (0, 0)).2
def Ky (q : Nat) (w w' : Wd) (cs : List Nat) : Prop := (∀ j, j ≠ q → w' 63 j = w 63 j) ∧ Fr (63 :: cs) w w'
theorem Ky.scr {q : Nat} {w w' : Wd} {cs : List Nat} (h : Ky q w w' cs) (hq : keepB 63 q = false) (hc : cs.all (fun o => !keepB o 0) = true) : Scr w w' := fun o j k => by
  by_cases e : o = 63
  · rw [e] at k ⊢
    exact h.1 j (fun e2 => by rw [e2, hq] at k; exact absurd k (by decide))
  · refine h.2 o j ?_
    rw [← Bool.not_eq_true]
    intro hh
    rw [List.contains_cons, Bool.or_eq_true] at hh
    rcases hh with hh | hh
    · exact e (by simpa using hh)
    · have := List.all_eq_true.mp hc o (by simpa using hh)
      rw [keepB_ne e j 0] at k
      rw [k] at this
      exact absurd this (by decide)
theorem pow_step {t j : Nat} (h : 9 < t / 10 ^ j) : 10 ^ (j + 1) ≤ t := by
  have hp : 0 < 10 ^ j := Nat.pow_pos (by decide)
  have := (Nat.le_div_iff_mul_le hp).mp h
  rw [Nat.pow_succ]; omega
theorem pow_stop {t j : Nat} (h : t / 10 ^ j ≤ 9) : t < 10 ^ (j + 1) := by
  have hp : 0 < 10 ^ j := Nat.pow_pos (by decide)
  have := (Nat.div_lt_iff_lt_mul hp).mp (show t / 10 ^ j < 10 by omega)
  rw [Nat.pow_succ]; omega
set_option maxHeartbeats 4000000 in
set_option maxRecDepth 100000 in
theorem c_laysDigits (l : Launch) (G : Gx) {p : Int} {t : Nat} (hp : p = (t : Nat)) (h1 : 1 ≤ t) (h7 : t < 10000000) (w : Wd)  : Sp l G 0 mX11_laysDigits [aR 63, aI (p)] w (fun _ w' => DgM w' t ∧ Ky 37 w w' [82]) := by
  obtain ⟨e6, eL, eU⟩ := eT_at h1 h7
  have hdq : ∀ k, dgT t k ≤ 9 := fun k => by have := Nat.mod_lt (t / 10 ^ (eT t - k)) (show 0 < 10 by decide); unfold dgT; omega
  refine Sp_of RX11 rfl (by decide +kernel) rfl (Nat.le_of_ble_eq_true rfl) ?_
  refine v_aload_n 0 (pc' := 1) rfl dX11_laysDigits_0 rfl rfl ?_
  refine v_iconst (pc' := 2) rfl dX11_laysDigits_1 ?_
  refine v_put (pc' := 5) rfl dX11_laysDigits_2 fi_RX11_336 ly_63 rfl ?_
  refine v_nmw (fun w1 hw1 => ?_)
  refine v_iconst (pc' := 6) rfl dX11_laysDigits_5 ?_
  refine v_istore_n (ls' := [(2, _), (0, _), (1, _)]) (pc' := 7) rfl dX11_laysDigits_6 rfl rfl rfl ?_
  refine v_ls [1, 2, 0] rfl ?_
  refine v_loop1 7 (fun (tens : Int) => ∃ j : Nat, tens = ((10 ^ j : Nat) : Int) ∧ j ≤ eT t) (fun (tens : Int) => (10000000 - tens).toNat) (fun (tens : Int) => [(0, aR 63), (1, aI (p)), (2, aI (tens))]) (fun (tens : Int) => []) (fun (tens : Int) => w1) (fun tens hI0 ih0 => ?_) (1) (⟨0, rfl, by omega⟩)
  obtain ⟨j, ht, hj⟩ := hI0
  have hjp : 0 < 10 ^ j := Nat.pow_pos (by decide)
  have hj6 : 10 ^ j ≤ 10 ^ 6 := Nat.pow_le_pow_right (by decide) (by omega)
  have h106 : (10 : Nat) ^ 6 = 1000000 := by decide
  obtain ⟨Q, hQ⟩ : ∃ q, q = t / 10 ^ j := ⟨_, rfl⟩
  have hdl : Q ≤ t := by rw [hQ]; exact Nat.div_le_self t (10 ^ j)
  refine v_iload_n 1 (pc' := 8) rfl dX11_laysDigits_7 rfl rfl ?_
  refine v_iload_n 2 (pc' := 9) rfl dX11_laysDigits_8 rfl rfl ?_
  refine v_idiv (z := ((Q : Nat) : Int)) (pc' := 10) rfl dX11_laysDigits_9 (iz_ne (by omega) (by omega)) (by rw [iz_divN (by omega) (by omega) (by omega) (by omega), hp, ht, hQ]; rfl) ?_
  refine v_bipush (pc' := 12) rfl dX11_laysDigits_10 rfl ?_
  refine v_icmp_le (pc' := 15) (tgt := 23) rfl dX11_laysDigits_12 (by decide) (by omega) (by omega) (fun c0 => ?_) (fun c0 => ?_)
  ·
    have hst : j = eT t := (eT_of (by omega) (by
      have : 10 ^ j ≤ 10 ^ eT t := Nat.pow_le_pow_right (by decide) hj
      omega) (pow_stop (by rw [← hQ]; omega))).symm
    refine v_loop2 23 (fun (tens : Int) (wl : Wd) => ∃ k : Nat, k ≤ eT t + 1 ∧ tens = ((if k ≤ eT t then 10 ^ (eT t - k) else 0 : Nat) : Int) ∧ wl 63 37 = k ∧ (∀ i, i < k → wl 82 i = (dgT t i : Nat)) ∧ Ky 37 w wl [82]) (fun (tens : Int) (wl : Wd) => tens.toNat) (fun (tens : Int) (wl : Wd) => [(0, aR 63), (1, aI (p)), (2, aI (tens))]) (fun (tens : Int) (wl : Wd) => []) (fun (tens : Int) (wl : Wd) => wl) (fun tens wl hI1 ih1 => ?_) (tens) w1 (⟨0, by omega, by rw [if_pos (by omega), Nat.sub_zero, ← hst]; exact ht, by rw [hw1, up_eq]; rfl, fun i hi => absurd hi (Nat.not_lt_zero _), fun j hj => by rw [hw1, up_ne _ _ (by omega)], by rw [hw1]; exact (Fr.rf _ _).up rfl⟩)
    clear hdl hQ hj6 ht hjp hj hst
    obtain ⟨k, hk, ht, hn, hD, hK⟩ := hI1
    have htr : 0 ≤ tens ∧ tens ≤ 1000000 := by
      split at ht
      · have : 10 ^ (eT t - k) ≤ 10 ^ 6 := Nat.pow_le_pow_right (by decide) (by omega)
        have : 0 < 10 ^ (eT t - k) := Nat.pow_pos (by decide)
        omega
      · omega
    refine v_iload_n 2 (pc' := 24) rfl dX11_laysDigits_23 rfl rfl ?_
    refine v_if_le (pc' := 27) (tgt := 60) rfl dX11_laysDigits_24 (by decide) (by omega) (fun c1 => ?_) (fun c1 => ?_)
    ·
      have hke : k = eT t + 1 := by
        by_cases q : k ≤ eT t
        · rw [if_pos q] at ht; have : 0 < 10 ^ (eT t - k) := Nat.pow_pos (by decide); omega
        · omega
      refine v_vret dX11_laysDigits_60 ?_
      exact ⟨⟨by rw [hn, hke], fun i hi => hD i (by omega)⟩, hK⟩
    ·
      have hkl : k ≤ eT t := by
        by_cases q : k ≤ eT t
        · exact q
        · rw [if_neg q] at ht; omega
      have hT : tens = ((10 ^ (eT t - k) : Nat) : Int) := by rw [if_pos hkl] at ht; exact ht
      have hjp : 0 < 10 ^ (eT t - k) := Nat.pow_pos (by decide)
      have hj6 : 10 ^ (eT t - k) ≤ 10 ^ 6 := Nat.pow_le_pow_right (by decide) (by omega)
      obtain ⟨Q, hQ⟩ : ∃ q, q = t / 10 ^ (eT t - k) := ⟨_, rfl⟩
      have hdl : Q ≤ t := by rw [hQ]; exact Nat.div_le_self t (10 ^ (eT t - k))
      have htn : (tens / 10 : Int) = ((if k + 1 ≤ eT t then 10 ^ (eT t - (k + 1)) else 0 : Nat) : Int) := by
        rw [hT]
        split
        · rw [show eT t - k = eT t - (k + 1) + 1 by omega, Nat.pow_succ]; omega
        · rw [show eT t - k = 0 by omega]; rfl
      refine v_aload_n 0 (pc' := 28) rfl dX11_laysDigits_27 rfl rfl ?_
      refine v_getR (pc' := 31) rfl dX11_laysDigits_28 fk_RX11_65 ly_63 rfl ?_
      refine v_aload_n 0 (pc' := 32) rfl dX11_laysDigits_31 rfl rfl ?_
      refine v_get (z := ((k : Nat) : Int)) (pc' := 35) rfl dX11_laysDigits_32 fk_RX11_336 ly_63 rfl (hn) ?_
      refine v_iload_n 1 (pc' := 36) rfl dX11_laysDigits_35 rfl rfl ?_
      refine v_iload_n 2 (pc' := 37) rfl dX11_laysDigits_36 rfl rfl ?_
      refine v_idiv (z := ((Q : Nat) : Int)) (pc' := 38) rfl dX11_laysDigits_37 (iz_ne (by omega) (by omega)) (by rw [iz_divN (by omega) (by omega) (by omega) (by omega), hp, hT, hQ]; rfl) ?_
      refine v_bipush (pc' := 40) rfl dX11_laysDigits_38 rfl ?_
      refine v_irem (z := ((dgT t k : Nat) : Int)) (pc' := 41) rfl dX11_laysDigits_40 (iz_ne (by decide) (by decide)) (by rw [iz_remN (by omega) (by omega) (by omega) (by omega)]; unfold dgT; rw [← hQ]; rfl) ?_
      refine v_iast (pc' := 42) rfl dX11_laysDigits_41 ly_82 (by omega) (by omega) rfl ?_
      refine v_nmw (fun w2 hw2 => ?_)
      have hn : w2 63 37 = ((k : Nat) : Int) := by rw [hw2, up_ne _ _ (by omega)]; exact hn
      refine v_aload_n 0 (pc' := 43) rfl dX11_laysDigits_42 rfl rfl ?_
      refine v_aload_n 0 (pc' := 44) rfl dX11_laysDigits_43 rfl rfl ?_
      refine v_get (z := ((k : Nat) : Int)) (pc' := 47) rfl dX11_laysDigits_44 fk_RX11_336 ly_63 rfl (hn) ?_
      refine v_iconst (pc' := 48) rfl dX11_laysDigits_47 ?_
      refine v_iadd (pc' := 49) rfl dX11_laysDigits_48 ?_
      refine v_put (pc' := 52) rfl dX11_laysDigits_49 fi_RX11_336 ly_63 rfl ?_
      refine v_nmw (fun w3 hw3 => ?_)
      refine v_iload_n 2 (pc' := 53) rfl dX11_laysDigits_52 rfl rfl ?_
      refine v_bipush (pc' := 55) rfl dX11_laysDigits_53 rfl ?_
      refine v_idiv (z := ((tens / 10) : Int)) (pc' := 56) rfl dX11_laysDigits_55 (iz_ne (by decide) (by decide)) (by rw [iz_divN (by omega) (by omega) (by omega) (by omega)]) ?_
      refine v_nm (fun tens' htens' => ?_)
      refine v_istore_n (ls' := [(2, _), (0, _), (1, _)]) (pc' := 57) rfl dX11_laysDigits_56 rfl rfl rfl ?_
      refine v_goto (tgt := 23) dX11_laysDigits_57 (by decide) ?_
      refine v_ls [1, 2, 0] rfl ?_
      exact ih1 (tens') w3 (⟨k + 1, by omega, by rw [htens']; exact htn, by rw [hw3, up_eq]; omega, fun i hi => by
          rw [hw3, up_ne _ _ (by omega), hw2, up_at]
          by_cases q : i = k
          · rw [if_pos ⟨rfl, by omega⟩, q]
          · rw [if_neg (fun e => q (by omega))]; exact hD i (by omega), fun j hj => by rw [hw3, up_ne _ _ (by omega), hw2, up_ne _ _ (by omega)]; exact hK.1 j hj, by rw [hw3, hw2]; exact (hK.2.up rfl).up rfl⟩) (by omega)
  ·
    refine v_bipush (pc' := 17) rfl dX11_laysDigits_15 rfl ?_
    refine v_iload_n 2 (pc' := 18) rfl dX11_laysDigits_17 rfl rfl ?_
    refine v_imul (pc' := 19) rfl dX11_laysDigits_18 ?_
    refine v_nm (fun tens' htens' => ?_)
    refine v_istore_n (ls' := [(2, _), (0, _), (1, _)]) (pc' := 20) rfl dX11_laysDigits_19 rfl rfl rfl ?_
    refine v_goto (tgt := 7) dX11_laysDigits_20 (by decide) ?_
    refine v_ls [1, 2, 0] rfl ?_
    exact ih0 (tens') (⟨j + 1, by rw [Nat.pow_succ]; omega, by
        have := pow_step (show 9 < t / 10 ^ j by rw [← hQ]; omega)
        exact Nat.le_of_lt_succ ((Nat.pow_lt_pow_iff_right (by decide)).mp (Nat.lt_of_le_of_lt this eU))⟩) (by omega)
set_option maxHeartbeats 4000000 in
set_option maxRecDepth 100000 in
theorem c_figureOf (l : Launch) (G : Gx) {p : Int} {t : Nat} (hp : p = (t : Nat)) (h1 : 1 ≤ t) (h7 : t < 10000000) (w : Wd)  : Sp l G 1 mX11_figureOf [aR 63, aI (p)] w (fun z w' => z = ((figM t 7 : Nat) : Int) ∧ Ky 37 w w' [82]) := by
  refine Sp_of RX11 rfl (by decide +kernel) rfl (Nat.le_of_ble_eq_true rfl) ?_
  refine v_aload_n 0 (pc' := 1) rfl dX11_figureOf_0 rfl rfl ?_
  refine v_iload_n 1 (pc' := 2) rfl dX11_figureOf_1 rfl rfl ?_
  refine v_cVv (pc' := 5) rfl dX11_figureOf_2 lk_RX11_339 ly_63 rfl (c_laysDigits l G hp h1 h7 w) rfl rfl rfl (fun laysDigits1 w1 hq1 => ?_)
  obtain ⟨hD, hK⟩ := hq1
  have he6 := (eT_at h1 h7).1
  have hDn := hD.1
  refine v_iconst (pc' := 6) rfl dX11_figureOf_5 ?_
  refine v_istore_n (ls' := [(2, _), (0, _), (1, _)]) (pc' := 7) rfl dX11_figureOf_6 rfl rfl rfl ?_
  refine v_iconst (pc' := 8) rfl dX11_figureOf_7 ?_
  refine v_istore_n (ls' := [(3, _), (2, _), (0, _), (1, _)]) (pc' := 9) rfl dX11_figureOf_8 rfl rfl rfl ?_
  refine v_ls [2, 3, 1, 0] rfl ?_
  refine v_loop2 9 (fun (is : Int) (k3 : Int) => ∃ k : Nat, k3 = k ∧ k ≤ 7 ∧ is = ((figM t k : Nat) : Int)) (fun (is : Int) (k3 : Int) => (7 - k3).toNat) (fun (is : Int) (k3 : Int) => [(0, aR 63), (1, aI (p)), (2, aI (is)), (3, aI (k3))]) (fun (is : Int) (k3 : Int) => []) (fun (is : Int) (k3 : Int) => w1) (fun is k3 hI0 ih0 => ?_) (0) (0) (⟨0, rfl, by omega, rfl⟩)
  obtain ⟨k, hk3, hk, hf⟩ := hI0
  have hdz := dgZ_le t k
  refine v_iload_n 3 (pc' := 10) rfl dX11_figureOf_9 rfl rfl ?_
  refine v_bipush (pc' := 12) rfl dX11_figureOf_10 rfl ?_
  refine v_icmp_ge (pc' := 15) (tgt := 51) rfl dX11_figureOf_12 (by decide) (by omega) (by omega) (fun c0 => ?_) (fun c0 => ?_)
  ·
    have hk7 : k = 7 := by omega
    refine v_iload_n 2 (pc' := 52) rfl dX11_figureOf_51 rfl rfl ?_
    refine v_iret dX11_figureOf_52 (by decide) (rfl) ?_
    exact ⟨by rw [hf, hk7], hK⟩
  ·
    refine v_iload_n 2 (pc' := 16) rfl dX11_figureOf_15 rfl rfl ?_
    refine v_iconst (pc' := 17) rfl dX11_figureOf_16 ?_
    have J35 : ∀ (dz : Int) (hJ : dz = ((dgZ t k : Nat) : Int)), V (mX l G 1 4 (some .int) (fun z w' => z = ((figM t 7 : Nat) : Int) ∧ Ky 37 w w' [82])) RX11 cX11_figureOf 35 [(0, aR 63), (1, aI (p)), (2, aI (is)), (3, aI (k3))] [aI (dz), aI (1), aI (is)] w1 := by
      intro dz hJ
      have hdz2 := hJ
      refine v_bipush (pc' := 37) rfl dX11_figureOf_35 rfl ?_
      refine v_iadd (pc' := 38) rfl dX11_figureOf_37 ?_
      refine v_iconst (pc' := 39) rfl dX11_figureOf_38 ?_
      refine v_isub (pc' := 40) rfl dX11_figureOf_39 ?_
      refine v_iload_n 3 (pc' := 41) rfl dX11_figureOf_40 rfl rfl ?_
      refine v_isub (pc' := 42) rfl dX11_figureOf_41 ?_
      refine v_ishl (z := ((2 ^ (dgZ t k + 6 - k) : Nat) : Int)) (pc' := 43) rfl dX11_figureOf_42 (iz_one_shl (by omega) (by omega)) ?_
      refine v_ior (z := ((figM t (k + 1) : Nat) : Int)) (pc' := 44) rfl dX11_figureOf_43 (by rw [hf]; exact iz_or _ _) ?_
      refine v_nm (fun is' his' => ?_)
      refine v_istore_n (ls' := [(2, _), (0, _), (1, _), (3, _)]) (pc' := 45) rfl dX11_figureOf_44 rfl rfl rfl ?_
      refine v_iinc (ls' := [(3, _), (2, _), (0, _), (1, _)]) 3 (pc' := 48) rfl dX11_figureOf_45 rfl rfl rfl ?_
      refine v_nl (fun k3' hk3' => ?_)
      refine v_goto (tgt := 9) dX11_figureOf_48 (by decide) ?_
      refine v_ls [2, 3, 1, 0] rfl ?_
      exact ih0 (is') (k3') (⟨k + 1, by omega, by omega, his'⟩) (by omega)
    refine v_iload_n 3 (pc' := 18) rfl dX11_figureOf_17 rfl rfl ?_
    refine v_aload_n 0 (pc' := 19) rfl dX11_figureOf_18 rfl rfl ?_
    refine v_get (z := ((eT t + 1 : Nat) : Int)) (pc' := 22) rfl dX11_figureOf_19 fk_RX11_336 ly_63 rfl (hDn) ?_
    refine v_icmp_ge (pc' := 25) (tgt := 34) rfl dX11_figureOf_22 (by decide) (by omega) (by omega) (fun c1 => ?_) (fun c1 => ?_)
    ·
      refine v_iconst (pc' := 35) rfl dX11_figureOf_34 ?_
      exact J35 (0) (by unfold dgZ; rw [if_neg (by omega)]; rfl)
    ·
      refine v_aload_n 0 (pc' := 26) rfl dX11_figureOf_25 rfl rfl ?_
      refine v_getR (pc' := 29) rfl dX11_figureOf_26 fk_RX11_65 ly_63 rfl ?_
      refine v_iload_n 3 (pc' := 30) rfl dX11_figureOf_29 rfl rfl ?_
      refine v_iald (z := ((dgT t k : Nat) : Int)) (pc' := 31) rfl dX11_figureOf_30 ly_82 (by omega) (by omega) rfl (by rw [show k3.toNat = k by omega]; exact hD.2 k (by omega)) ?_
      refine v_goto (tgt := 35) dX11_figureOf_31 (by decide) ?_
      exact J35 ((((dgT t k : Nat) : Int))) (by unfold dgZ; rw [if_pos (by omega)])
set_option maxHeartbeats 4000000 in
set_option maxRecDepth 100000 in
theorem c_adds (l : Launch) (G : Gx) {m0 v : Int} {m : Nat} {L : FL} (hm : m0 = (m : Nat)) (hm2 : m < 65536) (hv : -40 ≤ v ∧ v ≤ 40) (hB : BdL 10000 L) (hl : (addM L m v).length ≤ 15) (w : Wd) (hn : w 63 42 = (L.length : Nat)) (hL : LsW w 85 86 L) : Sp l G 0 mX11_adds [aR 63, aI (m0), aI (v)] w (fun _ w' => w' 63 42 = ((addM L m v).length : Nat) ∧ LsW w' 85 86 (addM L m v) ∧ Ky 42 w w' [85, 86]) := by
  have n0 := hn
  have hlt := Nat.le_trans (addM_le m v L) hl
  refine Sp_of RX11 rfl (by decide +kernel) rfl (Nat.le_of_ble_eq_true rfl) ?_
  refine v_iconst (pc' := 1) rfl dX11_adds_0 ?_
  refine v_istore_n (ls' := [(3, _), (0, _), (1, _), (2, _)]) (pc' := 2) rfl dX11_adds_1 rfl rfl rfl ?_
  refine v_ls [1, 2, 3, 0] rfl ?_
  refine v_loop1 2 (fun (i : Int) => ∃ k : Nat, i = k ∧ k ≤ L.length ∧ ∀ j, j < k → (L.getD j (0, 0)).1 ≠ m) (fun (i : Int) => (64 - i).toNat) (fun (i : Int) => [(0, aR 63), (1, aI (m0)), (2, aI (v)), (3, aI (i))]) (fun (i : Int) => []) (fun (i : Int) => w) (fun i hI0 ih0 => ?_) (0) (⟨0, rfl, by omega, fun j hj => absurd hj (Nat.not_lt_zero _)⟩)
  obtain ⟨k, hi, hk, hno⟩ := hI0
  have J27 : ∀  (hJ : (k = L.length ∧ (∀ j, j < L.length → (L.getD j (0, 0)).1 ≠ m)) ∨ (k < L.length ∧ (L.getD k (0, 0)).1 = m)), V (mX l G 0 4 none (fun _ w' => w' 63 42 = ((addM L m v).length : Nat) ∧ LsW w' 85 86 (addM L m v) ∧ Ky 42 w w' [85, 86])) RX11 cX11_adds 27 [(0, aR 63), (1, aI (m0)), (2, aI (v)), (3, aI (i))] [] w := by
    intro  hJ
    refine v_iload_n 3 (pc' := 28) rfl dX11_adds_27 rfl rfl ?_
    refine v_aload_n 0 (pc' := 29) rfl dX11_adds_28 rfl rfl ?_
    refine v_get (z := ((L.length : Nat) : Int)) (pc' := 32) rfl dX11_adds_29 fk_RX11_342 ly_63 rfl (n0) ?_
    refine v_icmp_ne (pc' := 35) (tgt := 59) rfl dX11_adds_32 (by decide) (by omega) (by omega) (fun c2 => ?_) (fun c2 => ?_)
    ·
      obtain ⟨hkl, hem⟩ : k < L.length ∧ (L.getD k (0, 0)).1 = m := by
        rcases hJ with q | q
        · omega
        · exact q
      have hH := addM_hit m v hkl hem hno
      have hrow := hL k hkl
      refine v_aload_n 0 (pc' := 60) rfl dX11_adds_59 rfl rfl ?_
      refine v_getR (pc' := 63) rfl dX11_adds_60 fk_RX11_77 ly_63 rfl ?_
      refine v_iload_n 3 (pc' := 64) rfl dX11_adds_63 rfl rfl ?_
      refine v_aload_n 0 (pc' := 65) rfl dX11_adds_64 rfl rfl ?_
      refine v_getR (pc' := 68) rfl dX11_adds_65 fk_RX11_77 ly_63 rfl ?_
      refine v_iload_n 3 (pc' := 69) rfl dX11_adds_68 rfl rfl ?_
      refine v_iald (pc' := 70) rfl dX11_adds_69 ly_86 (by omega) (by omega) rfl (rfl) ?_
      refine v_iload_n 2 (pc' := 71) rfl dX11_adds_70 rfl rfl ?_
      refine v_iadd (pc' := 72) rfl dX11_adds_71 ?_
      refine v_iast (pc' := 73) rfl dX11_adds_72 ly_86 (by omega) (by omega) rfl ?_
      refine v_nmw (fun w4 hw4 => ?_)
      have n0 : w4 63 42 = ((L.length : Nat) : Int) := by rw [hw4, up_ne _ _ (by omega)]; exact n0
      refine v_vret dX11_adds_73 ?_
      first
      | exact ⟨by rw [n0, hH.1], fun j hj => by
          have := hL j (by omega)
          rw [hH.2 j, hw4, up_ne _ _ (by omega), up_at, this.1]
          by_cases q : j = k
          · rw [if_pos q, if_pos ⟨rfl, by omega⟩, show i.toNat = k by omega, hrow.2]; exact ⟨by rw [q, hem], rfl⟩
          · rw [if_neg q, if_neg (by omega)]; exact ⟨rfl, this.2⟩, fun j hj => by rw [hw4, up_ne _ _ (by omega)], by rw [hw4]; exact (Fr.rf _ _).up rfl⟩
      | exact ⟨by rw [hN.1, hw4, up_ne _ _ (by omega), hw3, up_eq]; omega, fun j hj => by
          have hki : i.toNat = L.length := by omega
          rw [hN.1] at hj
          rw [hN.2 j, hw4, up_ne _ _ (by omega), up_at, hki, hw3, up_ne _ _ (by omega), up_ne _ _ (by omega), up_ne _ _ (by omega), hw2, up_ne _ _ (by omega), up_at, up_at, hw1, up_at, hki]
          by_cases q : j = L.length
          · rw [if_pos q, if_pos ⟨rfl, q⟩, if_pos ⟨rfl, q⟩, if_pos ⟨rfl, rfl⟩]; exact ⟨hm, by rw [Int.zero_add]⟩
          · have := hL j (by omega)
            rw [if_neg q, if_neg (fun e => q e.2), if_neg (fun e => q e.2), if_neg (fun e => q e.2), up_ne _ _ (by omega)]; exact this, fun j hj => by rw [hw4, up_ne _ _ (by omega), hw3, up_ne _ _ (by omega), hw2, up_ne _ _ (by omega), hw1, up_ne _ _ (by omega)], by rw [hw4, hw3, hw2, hw1]; exact ((((Fr.rf _ _).up rfl).up rfl).up rfl).up rfl⟩
    ·
      have hJ2 : ∀ j, j < L.length → (L.getD j (0, 0)).1 ≠ m := by
        rcases hJ with q | q
        · exact q.2
        · omega
      have hN := addM_new m v hJ2
      rw [hN.1] at hl
      refine v_aload_n 0 (pc' := 36) rfl dX11_adds_35 rfl rfl ?_
      refine v_getR (pc' := 39) rfl dX11_adds_36 fk_RX11_74 ly_63 rfl ?_
      refine v_iload_n 3 (pc' := 40) rfl dX11_adds_39 rfl rfl ?_
      refine v_iload_n 1 (pc' := 41) rfl dX11_adds_40 rfl rfl ?_
      refine v_iast (pc' := 42) rfl dX11_adds_41 ly_85 (by omega) (by omega) rfl ?_
      refine v_nmw (fun w1 hw1 => ?_)
      have n0 : w1 63 42 = ((L.length : Nat) : Int) := by rw [hw1, up_ne _ _ (by omega)]; exact n0
      refine v_aload_n 0 (pc' := 43) rfl dX11_adds_42 rfl rfl ?_
      refine v_getR (pc' := 46) rfl dX11_adds_43 fk_RX11_77 ly_63 rfl ?_
      refine v_iload_n 3 (pc' := 47) rfl dX11_adds_46 rfl rfl ?_
      refine v_iconst (pc' := 48) rfl dX11_adds_47 ?_
      refine v_iast (pc' := 49) rfl dX11_adds_48 ly_86 (by omega) (by omega) rfl ?_
      refine v_nmw (fun w2 hw2 => ?_)
      have n0 : w2 63 42 = ((L.length : Nat) : Int) := by rw [hw2, up_ne _ _ (by omega)]; exact n0
      refine v_aload_n 0 (pc' := 50) rfl dX11_adds_49 rfl rfl ?_
      refine v_aload_n 0 (pc' := 51) rfl dX11_adds_50 rfl rfl ?_
      refine v_get (z := ((L.length : Nat) : Int)) (pc' := 54) rfl dX11_adds_51 fk_RX11_342 ly_63 rfl (n0) ?_
      refine v_iconst (pc' := 55) rfl dX11_adds_54 ?_
      refine v_iadd (pc' := 56) rfl dX11_adds_55 ?_
      refine v_put (pc' := 59) rfl dX11_adds_56 fi_RX11_342 ly_63 rfl ?_
      refine v_nmw (fun w3 hw3 => ?_)
      refine v_aload_n 0 (pc' := 60) rfl dX11_adds_59 rfl rfl ?_
      refine v_getR (pc' := 63) rfl dX11_adds_60 fk_RX11_77 ly_63 rfl ?_
      refine v_iload_n 3 (pc' := 64) rfl dX11_adds_63 rfl rfl ?_
      refine v_aload_n 0 (pc' := 65) rfl dX11_adds_64 rfl rfl ?_
      refine v_getR (pc' := 68) rfl dX11_adds_65 fk_RX11_77 ly_63 rfl ?_
      refine v_iload_n 3 (pc' := 69) rfl dX11_adds_68 rfl rfl ?_
      refine v_iald (pc' := 70) rfl dX11_adds_69 ly_86 (by omega) (by omega) rfl (rfl) ?_
      refine v_iload_n 2 (pc' := 71) rfl dX11_adds_70 rfl rfl ?_
      refine v_iadd (pc' := 72) rfl dX11_adds_71 ?_
      refine v_iast (pc' := 73) rfl dX11_adds_72 ly_86 (by omega) (by omega) rfl ?_
      refine v_nmw (fun w4 hw4 => ?_)
      refine v_vret dX11_adds_73 ?_
      first
      | exact ⟨by rw [n0, hH.1], fun j hj => by
          have := hL j (by omega)
          rw [hH.2 j, hw4, up_ne _ _ (by omega), up_at, this.1]
          by_cases q : j = k
          · rw [if_pos q, if_pos ⟨rfl, by omega⟩, show i.toNat = k by omega, hrow.2]; exact ⟨by rw [q, hem], rfl⟩
          · rw [if_neg q, if_neg (by omega)]; exact ⟨rfl, this.2⟩, fun j hj => by rw [hw4, up_ne _ _ (by omega)], by rw [hw4]; exact (Fr.rf _ _).up rfl⟩
      | exact ⟨by rw [hN.1, hw4, up_ne _ _ (by omega), hw3, up_eq]; omega, fun j hj => by
          have hki : i.toNat = L.length := by omega
          rw [hN.1] at hj
          rw [hN.2 j, hw4, up_ne _ _ (by omega), up_at, hki, hw3, up_ne _ _ (by omega), up_ne _ _ (by omega), up_ne _ _ (by omega), hw2, up_ne _ _ (by omega), up_at, up_at, hw1, up_at, hki]
          by_cases q : j = L.length
          · rw [if_pos q, if_pos ⟨rfl, q⟩, if_pos ⟨rfl, q⟩, if_pos ⟨rfl, rfl⟩]; exact ⟨hm, by rw [Int.zero_add]⟩
          · have := hL j (by omega)
            rw [if_neg q, if_neg (fun e => q e.2), if_neg (fun e => q e.2), if_neg (fun e => q e.2), up_ne _ _ (by omega)]; exact this, fun j hj => by rw [hw4, up_ne _ _ (by omega), hw3, up_ne _ _ (by omega), hw2, up_ne _ _ (by omega), hw1, up_ne _ _ (by omega)], by rw [hw4, hw3, hw2, hw1]; exact ((((Fr.rf _ _).up rfl).up rfl).up rfl).up rfl⟩
  refine v_iload_n 3 (pc' := 3) rfl dX11_adds_2 rfl rfl ?_
  refine v_aload_n 0 (pc' := 4) rfl dX11_adds_3 rfl rfl ?_
  refine v_get (z := ((L.length : Nat) : Int)) (pc' := 7) rfl dX11_adds_4 fk_RX11_342 ly_63 rfl (n0) ?_
  refine v_icmp_ge (pc' := 10) (tgt := 27) rfl dX11_adds_7 (by decide) (by omega) (by omega) (fun c0 => ?_) (fun c0 => ?_)
  ·
    have hke : k = L.length := by omega
    exact J27  (by first | exact Or.inl ⟨hke, fun j hj => hno j (by omega)⟩ | exact Or.inr ⟨hkl, by omega⟩)
  ·
    have hkl : k < L.length := by omega
    have hfi := (hB _ (getD_mem (d := (0, 0)) hkl))
    refine v_aload_n 0 (pc' := 11) rfl dX11_adds_10 rfl rfl ?_
    refine v_getR (pc' := 14) rfl dX11_adds_11 fk_RX11_74 ly_63 rfl ?_
    refine v_iload_n 3 (pc' := 15) rfl dX11_adds_14 rfl rfl ?_
    refine v_iald (z := (((L.getD k (0, 0)).1 : Nat) : Int)) (pc' := 16) rfl dX11_adds_15 ly_85 (by omega) (by omega) rfl (by rw [show i.toNat = k by omega]; exact (hL k (by omega)).1) ?_
    refine v_iload_n 1 (pc' := 17) rfl dX11_adds_16 rfl rfl ?_
    refine v_icmp_eq (pc' := 20) (tgt := 27) rfl dX11_adds_17 (by decide) (by omega) (by omega) (fun c1 => ?_) (fun c1 => ?_)
    ·
      exact J27  (by first | exact Or.inl ⟨hke, fun j hj => hno j (by omega)⟩ | exact Or.inr ⟨hkl, by omega⟩)
    ·
      refine v_iload_n 3 (pc' := 21) rfl dX11_adds_20 rfl rfl ?_
      refine v_iconst (pc' := 22) rfl dX11_adds_21 ?_
      refine v_iadd (pc' := 23) rfl dX11_adds_22 ?_
      refine v_nm (fun i' hi' => ?_)
      refine v_istore_n (ls' := [(3, _), (0, _), (1, _), (2, _)]) (pc' := 24) rfl dX11_adds_23 rfl rfl rfl ?_
      refine v_goto (tgt := 2) dX11_adds_24 (by decide) ?_
      refine v_ls [1, 2, 3, 0] rfl ?_
      exact ih0 (i') (⟨k + 1, by omega, by omega, fun j hj => by
          by_cases q : j = k
          · rw [q]; omega
          · exact hno j (by omega)⟩) (by omega)

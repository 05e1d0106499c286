/-! ===== Relabels ===== -/
def catY {α : Type} (F : Nat → List α) : Nat → List α
  | 0 => []
  | y + 1 => catY F y ++ F (y + 1)
theorem catY_len {α : Type} (F : Nat → List α) : ∀ n y, y < n → (catY F y).length + (F (y + 1)).length ≤ (catY F n).length
  | 0, y, h => by omega
  | n + 1, y, h => by
    simp only [catY, List.length_append]
    by_cases q : y = n
    · subst q; omega
    · have := catY_len F n y (by omega); omega
def growL (n : Nat) (f t : Nat → Nat) : Nat → (Nat → Nat) → Nat → Nat → List (Nat → Nat)
  | 0, g, _, _ => [g]
  | k + 1, g, left, free => if left = 0 then [g] else catY (fun y => if free &&& bt y ≠ 0 ∧ popc (ringN t y) = popc (ringN f (lowN left)) then growL n f t k (lay f t (lowN left) y g (popc (ringN f (lowN left)))) (andn left (ringN f (lowN left))) (andn free (ringN t y)) else []) n
def growF (n : Nat) (f t : Nat → Nat) (k : Nat) (g : Nat → Nat) (left free y : Nat) : List (Nat → Nat) := if free &&& bt y ≠ 0 ∧ popc (ringN t y) = popc (ringN f (lowN left)) then growL n f t k (lay f t (lowN left) y g (popc (ringN f (lowN left)))) (andn left (ringN f (lowN left))) (andn free (ringN t y)) else []
theorem growL_s (n : Nat) (f t : Nat → Nat) (k : Nat) (g : Nat → Nat) (left free : Nat) : growL n f t (k + 1) g left free = if left = 0 then [g] else catY (growF n f t k g left free) n := rfl
def gathL (n : Nat) (f t : Nat → Nat) : List (Nat → Nat) := growL n f t 7 (tl n) (full n) (full n)
def RelIn (w : Wd) (n : Nat) (f t : Nat → Nat) : Prop := w 7 3 = n ∧ w 7 4 = (hx f : Nat) ∧ w 7 5 = (hx t : Nat) ∧ ∀ x, 1 ≤ x → x ≤ 7 → w 9 x = (ringN f x : Nat) ∧ w 10 x = (ringN t x : Nat)
def App (w w' : Wd) (m : Nat) (L : List (Nat → Nat)) : Prop := w' 7 6 = ((m + L.length : Nat) : Int) ∧ (∀ i, i < L.length → w' 8 (m + i) = (hx (L.getD i pid) : Nat)) ∧ (∀ i, i < m → w' 8 i = w 8 i) ∧ Fr [7, 8] w w' ∧ ∀ j, j ≠ 6 → w' 7 j = w 7 j
theorem App.rf {w : Wd} {m : Nat} (h : w 7 6 = m) : App w w m [] := ⟨h, fun i h => absurd h (Nat.not_lt_zero _), fun _ _ => rfl, Fr.rf _ _, fun _ _ => rfl⟩
theorem App.tr {w w1 w2 : Wd} {m : Nat} {L K : List (Nat → Nat)} (h : App w w1 m L) (h2 : App w1 w2 (m + L.length) K) : App w w2 m (L ++ K) := by
  obtain ⟨a1, a2, a3, a4, a5⟩ := h
  obtain ⟨b1, b2, b3, b4, b5⟩ := h2
  refine ⟨by rw [b1, List.length_append, Nat.add_assoc], fun i hi => ?_, fun i hi => by rw [b3 i (by omega), a3 i hi], a4.tr b4 (by decide) (by decide), fun j hj => by rw [b5 j hj, a5 j hj]⟩
  rw [List.length_append] at hi
  rw [List.getD_eq_getElem?_getD]
  by_cases q : i < L.length
  · rw [b3 (m + i) (by omega), a2 i q, List.getElem?_append_left q, List.getD_eq_getElem?_getD]
  · have := b2 (i - L.length) (by omega)
    rw [show m + L.length + (i - L.length) = m + i by omega] at this
    rw [this, List.getElem?_append_right (by omega), List.getD_eq_getElem?_getD]
theorem App.one {w w' : Wd} {m : Nat} {g : Nat → Nat} (h : w' = up (up w 8 m (hx g : Nat)) 7 6 ((m : Int) + 1)) : App w w' m [g] := by
  subst h
  refine ⟨by rw [up_eq]; simp, fun i hi => ?_, fun i hi => ?_, ((Fr.rf _ _).up rfl).up rfl, fun j hj => ?_⟩
  · have : i = 0 := by simpa using hi
    subst this
    rw [up_ne _ _ (by omega), Nat.add_zero, up_eq]; rfl
  · rw [up_ne _ _ (by omega), up_ne _ _ (by omega)]
  · rw [up_ne _ _ (by omega), up_ne _ _ (by omega)]
theorem RelIn.app {w w' : Wd} {n m : Nat} {f t : Nat → Nat} {L : List (Nat → Nat)} (h : RelIn w n f t) (a : App w w' m L) : RelIn w' n f t := by
  obtain ⟨h1, h2, h3, h4⟩ := h
  obtain ⟨-, -, -, a4, a5⟩ := a
  exact ⟨by rw [a5 3 (by decide)]; exact h1, by rw [a5 4 (by decide)]; exact h2, by rw [a5 5 (by decide)]; exact h3, fun x p q => ⟨by rw [a4 9 x rfl]; exact (h4 x p q).1, by rw [a4 10 x rfl]; exact (h4 x p q).2⟩⟩
/-- left: darts in whole cycles, without labels in g -/
def LeftOK (f : Nat → Nat) (g : Nat → Nat) (left : Nat) : Prop := left < 128 ∧ B7 g ∧ (∀ z, 1 ≤ z → z ≤ 7 → hasb left z → g z = 0 ∧ hasb left (f z))
theorem low_has : ∀ s : Nat, s < 128 → s ≠ 0 → s &&& bt (lowN s) ≠ 0 := by decide +kernel
theorem LeftOK.ring {f g : Nat → Nat} {left : Nat} (hf : Pm 7 f) (h : LeftOK f g left) {x : Nat} (h1 : 1 ≤ x) (h2 : x ≤ 7) (hx : hasb left x) : ∀ i, hasb left (pstep f i x)
  | 0 => hx
  | i + 1 => by
    have p := pm_step hf h1 h2 i
    rw [pstep_s]; exact (h.2.2 _ p.1 p.2 (LeftOK.ring hf h h1 h2 hx i)).2
theorem LeftOK.step {f t g : Nat → Nat} {left : Nat} (hf : Pm 7 f) (ht : Pm 7 t) (h : LeftOK f g left) (h0 : left ≠ 0) {y : Nat} (hy1 : 1 ≤ y) (hy : y ≤ 7) : LeftOK f (lay f t (lowN left) y g (popc (ringN f (lowN left)))) (andn left (ringN f (lowN left))) ∧ popc (andn left (ringN f (lowN left))) < popc left ∧ (∀ i j, i < j → j < popc (ringN f (lowN left)) → pstep f i (lowN left) ≠ pstep f j (lowN left)) ∧ ∀ i, g (pstep f i (lowN left)) = 0 := by
  have hl := low_in left h.1 h0
  have hb := low_has left h.1 h0
  have c := ring_cyc hf hl.1 hl.2
  have hr := ringN_lt (hf.b7 (by decide)) hl.1 hl.2
  have hz : ∀ i, g (pstep f i (lowN left)) = 0 := fun i => by
    have p := pm_step hf hl.1 hl.2 i
    exact (h.2.2 _ p.1 p.2 (h.ring hf hl.1 hl.2 hb i)).1
  refine ⟨⟨andn_lt7 h.1, lay_7 (ht.b7 (by decide)) h.2.1 hy1 hy _, fun z a b hz2 => ?_⟩, ?_, c.2.2.2.2.1, hz⟩
  · rw [hasb_andn h.1 hr a b] at hz2
    have hfz := hf.b7 (by decide) z a b
    refine ⟨?_, ?_⟩
    · rw [lay_off _ (fun i hi e => hz2.2 (by rw [← e]; exact ring_step hf hl.1 hl.2 i))]
      exact (h.2.2 z a b hz2.1).1
    · rw [hasb_andn h.1 hr hfz.1 hfz.2]
      exact ⟨(h.2.2 z a b hz2.1).2, fun q => hz2.2 ((ring_f hf hl.1 hl.2 a b).mpr q)⟩
  · apply popc_andn left h.1 _ hr
    intro e
    have p : hasb (ringN f (lowN left)) (lowN left) := ring_self hf hl.1 hl.2
    apply p
    have q : left &&& bt (lowN left) = bt (lowN left) := by
      have : ∀ s : Nat, s < 128 → s ≠ 0 → s &&& bt (lowN s) = bt (lowN s) := by decide +kernel
      exact this left h.1 h0
    rw [← q, ← Nat.and_assoc, Nat.and_comm (ringN f (lowN left)), e, Nat.zero_and]
theorem popc_0 : ∀ s : Nat, s < 128 → popc s ≤ 0 → s = 0 := by decide +kernel
theorem full_popc : ∀ n : Nat, n < 8 → popc (full n) ≤ 7 := by decide +kernel
theorem full_has : ∀ n : Nat, n < 8 → ∀ z : Nat, z < 7 → ((full n &&& bt (z + 1)) == 0) = decide (n < z + 1) := by decide +kernel
theorem hasb_full {n z : Nat} (hn : n ≤ 7) (h1 : 1 ≤ z) (h2 : z ≤ 7) : hasb (full n) z ↔ z ≤ n := by
  have := full_has n (by omega) (z - 1) (by omega)
  rw [show z - 1 + 1 = z by omega] at this
  unfold hasb
  constructor
  · intro h
    rcases Nat.lt_or_ge n z with q | q
    · rw [decide_eq_true q, beq_iff_eq] at this; exact absurd this h
    · exact q
  · intro h e
    rw [decide_eq_false (by omega), beq_eq_false_iff_ne] at this
    exact this e
theorem LeftOK.init {n : Nat} {f : Nat → Nat} (hn : n ≤ 7) (hf : Pm n f) : LeftOK f (tl n) (full n) := ⟨full_lt hn, tl_7 hn, fun z a b h => by
  rw [hasb_full hn a b] at h
  have := hf.1 z a h
  exact ⟨by unfold tl; rw [if_neg (by omega)], (hasb_full hn this.1 (by omega)).mpr this.2⟩⟩
set_option maxHeartbeats 4000000 in
set_option maxRecDepth 100000 in
theorem c_laid (l : Launch) (G : Gx) {x0 y0 k0 : Int} {f t : Nat → Nat} {x y K : Nat} (hf : P7 f) (ht : P7 t) (hx0 : x0 = x) (hx1 : 1 ≤ x) (hx2 : x ≤ 7) (hy0 : y0 = y) (hy1 : 1 ≤ y) (hy2 : y ≤ 7) (hk : k0 = K) (hK : K ≤ 7) (hd : ∀ i j, i < j → j < K → pstep f i x ≠ pstep f j x) (w : Wd) (h4 : w 7 4 = (hx f : Nat)) (h5 : w 7 5 = (hx t : Nat)) : SpP l G 1 mX8_laid [aR 7, aI (x0), aI (y0), aI (k0)] w (((hx (laidI f t x y K) : Nat) : Int)) := by
  refine Sp_of RX8 rfl (by decide +kernel) rfl (Nat.le_of_ble_eq_true rfl) ?_
  refine v_iconst (pc' := 1) rfl dX8_laid_0 ?_
  refine v_istore (ls' := [(4, _), (0, _), (1, _), (2, _), (3, _)]) (pc' := 3) rfl dX8_laid_1 rfl rfl ?_
  refine v_iload_n 2 (pc' := 4) rfl dX8_laid_3 rfl rfl ?_
  refine v_istore (ls' := [(5, _), (4, _), (0, _), (1, _), (2, _), (3, _)]) (pc' := 6) rfl dX8_laid_4 rfl rfl ?_
  refine v_iload_n 4 (pc' := 7) rfl dX8_laid_6 rfl rfl ?_
  refine v_istore (ls' := [(6, _), (5, _), (4, _), (0, _), (1, _), (2, _), (3, _)]) (pc' := 9) rfl dX8_laid_7 rfl rfl ?_
  refine v_iconst (pc' := 10) rfl dX8_laid_9 ?_
  refine v_istore (ls' := [(7, _), (6, _), (5, _), (4, _), (0, _), (1, _), (2, _), (3, _)]) (pc' := 12) rfl dX8_laid_10 rfl rfl ?_
  refine v_ls [4, 5, 6, 7, 3, 2, 1, 0] rfl ?_
  refine v_loop4 12 (fun (r : Int) (d : Int) (m : Int) (i : Int) => ∃ k : Nat, i = k ∧ k ≤ K ∧ r = (hx (laidI f t x y k) : Nat) ∧ d = (pstep f k x : Nat) ∧ m = (pstep t k y : Nat)) (fun (r : Int) (d : Int) (m : Int) (i : Int) => (7 - i).toNat) (fun (r : Int) (d : Int) (m : Int) (i : Int) => [(0, aR 7), (1, aI (x0)), (2, aI (y0)), (3, aI (k0)), (4, aI (r)), (5, aI (d)), (6, aI (m)), (7, aI (i))]) (fun (r : Int) (d : Int) (m : Int) (i : Int) => []) (fun (r : Int) (d : Int) (m : Int) (i : Int) => w) (fun r d m i hI0 ih0 => ?_) (0) (x0) (y0) (0) (⟨0, rfl, by omega, rfl, hx0, hy0⟩)
  obtain ⟨k, hi, hkK, hr, hdd, hm⟩ := hI0
  have p := pstep_7 hf k x hx1 hx2
  have q := pstep_7 ht k y hy1 hy2
  refine v_iload 7 (pc' := 14) rfl dX8_laid_12 rfl ?_
  refine v_iload_n 3 (pc' := 15) rfl dX8_laid_14 rfl rfl ?_
  refine v_icmp_ge (pc' := 18) (tgt := 59) rfl dX8_laid_15 (by decide) (by omega) (by omega) (fun c0 => ?_) (fun c0 => ?_)
  ·
    refine v_iload 4 (pc' := 61) rfl dX8_laid_59 rfl ?_
    refine v_iret dX8_laid_61 (by decide) (rfl) ?_
    have e : k = K := by omega
    exact ⟨by rw [hr, e], rfl⟩
  ·
    refine v_iload 4 (pc' := 20) rfl dX8_laid_18 rfl ?_
    refine v_iload 6 (pc' := 22) rfl dX8_laid_20 rfl ?_
    refine v_iload 5 (pc' := 24) rfl dX8_laid_22 rfl ?_
    refine v_cSP (pc' := 27) rfl dX8_laid_24 lk_RX8_67 rfl (c_shift l G w) rfl rfl rfl ?_
    refine v_nm (fun shift1 hshift1 => ?_)
    refine v_ishl (z := ((pstep t k y * 2 ^ (28 - 4 * pstep f k x) : Nat) : Int)) (pc' := 28) rfl dX8_laid_27 (iz_shlE hm (by omega) (by omega)) ?_
    refine v_ior (z := ((hx (laidI f t x y (k + 1)) : Nat) : Int)) (pc' := 29) rfl dX8_laid_28 (by rw [hr, iz_or]; exact congrArg (fun q : Nat => iz (q : Int)) (hx_or (laidI_7 ht hy1 hy2 k).le15 p.1 p.2 (laidI_0 k (fun i hi => hd i k hi (by omega))) (by omega))) ?_
    refine v_nm (fun r' hr' => ?_)
    refine v_istore (ls' := [(4, _), (0, _), (1, _), (2, _), (3, _), (5, _), (6, _), (7, _)]) (pc' := 31) rfl dX8_laid_29 rfl rfl ?_
    refine v_aload_n 1 (pc' := 32) rfl dX8_laid_31 rfl rfl ?_
    refine v_get (z := ((hx f : Nat) : Int)) (pc' := 35) rfl dX8_laid_32 fk_RX8_25 ly_7 rfl (h4) ?_
    refine v_iload 5 (pc' := 37) rfl dX8_laid_35 rfl ?_
    refine v_cSP (pc' := 40) rfl dX8_laid_37 lk_RX8_70 rfl (c_at l G rfl hf.B (x := pstep f k x) (by omega) p.1 p.2 w) rfl rfl rfl ?_
    refine v_nm (fun at1 hat1 => ?_)
    refine v_istore (ls' := [(5, _), (4, _), (0, _), (1, _), (2, _), (3, _), (6, _), (7, _)]) (pc' := 42) rfl dX8_laid_40 rfl rfl ?_
    refine v_aload_n 2 (pc' := 43) rfl dX8_laid_42 rfl rfl ?_
    refine v_get (z := ((hx t : Nat) : Int)) (pc' := 46) rfl dX8_laid_43 fk_RX8_28 ly_7 rfl (h5) ?_
    refine v_iload 6 (pc' := 48) rfl dX8_laid_46 rfl ?_
    refine v_cSP (pc' := 51) rfl dX8_laid_48 lk_RX8_70 rfl (c_at l G rfl ht.B (x := pstep t k y) (by omega) q.1 q.2 w) rfl rfl rfl ?_
    refine v_nm (fun at2 hat2 => ?_)
    refine v_istore (ls' := [(6, _), (5, _), (4, _), (0, _), (1, _), (2, _), (3, _), (7, _)]) (pc' := 53) rfl dX8_laid_51 rfl rfl ?_
    refine v_iinc (ls' := [(7, _), (6, _), (5, _), (4, _), (0, _), (1, _), (2, _), (3, _)]) 7 (pc' := 56) rfl dX8_laid_53 rfl rfl rfl ?_
    refine v_nl (fun i' hi' => ?_)
    refine v_goto (tgt := 12) dX8_laid_56 (by decide) ?_
    refine v_ls [4, 5, 6, 7, 3, 2, 1, 0] rfl ?_
    exact ih0 (r') (at1) (at2) (i') (⟨k + 1, by omega, by omega, hr', by rw [hat1, pstep_s], by rw [hat2, pstep_s]⟩) (by omega)
set_option maxHeartbeats 4000000 in
set_option maxRecDepth 100000 in
theorem c_grow0 (l : Launch) (G : Gx) {r0 l0 f0 d0 : Int} {n : Nat} {f t g : Nat → Nat} {left free m : Nat} (hn7 : n ≤ 7) (hf : Pm 7 f) (ht : Pm 7 t) (hr : r0 = (hx g : Nat)) (hl : l0 = left) (hok : LeftOK f g left) (hfr : f0 = free) (hfl : free < 128) (hd : 0 ≤ d0 ∧ d0 + 0 ≤ 7) (hp : popc left ≤ 0) (hlen : m + (growL n f t 0 g left free).length ≤ 5040) (w : Wd) (hin : RelIn w n f t) (hm : w 7 6 = (m : Nat)) : Sp l G 0 mX8_grow [aR 7, aI (r0), aI (l0), aI (f0), aI (d0)] w (fun _ w' => App w w' m (growL n f t 0 g left free)) := by
  have hl7 := hok.1
  have h0app : left = 0 → growL n f t 0 g left free = [g] := fun e => by rfl
  refine Sp_of RX8 rfl (by decide +kernel) rfl (Nat.le_of_ble_eq_true rfl) ?_
  refine v_iload 4 (pc' := 2) rfl dX8_grow_0 rfl ?_
  refine v_bipush (pc' := 4) rfl dX8_grow_2 rfl ?_
  refine v_icmp_gt (pc' := 7) (tgt := 17) rfl dX8_grow_4 (by decide) (by omega) (by omega) (fun c0 => absurd c0 (by omega)) (fun c0 => ?_)
  refine v_aload_n 0 (pc' := 8) rfl dX8_grow_7 rfl rfl ?_
  refine v_get (z := (m : Int)) (pc' := 11) rfl dX8_grow_8 fk_RX8_31 ly_7 rfl (hm) ?_
  refine v_sipush (pc' := 14) rfl dX8_grow_11 rfl ?_
  refine v_icmp_lt (pc' := 17) (tgt := 18) rfl dX8_grow_14 (by decide) (by omega) (by omega) (fun c1 => ?_) (fun c1 => ?_)
  ·
    refine v_iload_n 2 (pc' := 19) rfl dX8_grow_18 rfl rfl ?_
    refine v_if_ne (pc' := 22) (tgt := 43) rfl dX8_grow_19 (by decide) (by omega) (fun c2 => absurd c2 (by have := popc_0 left hl7 hp; omega)) (fun c2 => ?_)
    refine v_aload_n 0 (pc' := 23) rfl dX8_grow_22 rfl rfl ?_
    refine v_getR (pc' := 26) rfl dX8_grow_23 fk_RX8_9 ly_7 rfl ?_
    refine v_aload_n 0 (pc' := 27) rfl dX8_grow_26 rfl rfl ?_
    refine v_get (z := (m : Int)) (pc' := 30) rfl dX8_grow_27 fk_RX8_31 ly_7 rfl (hm) ?_
    refine v_iload_n 1 (pc' := 31) rfl dX8_grow_30 rfl rfl ?_
    refine v_iast (pc' := 32) rfl dX8_grow_31 ly_8 (by omega) (by omega) rfl ?_
    refine v_nmw (fun w1 hw1 => ?_)
    have hm : w1 7 6 = (m : Int) := by rw [hw1, up_ne _ _ (by omega)]; exact hm
    refine v_aload_n 0 (pc' := 33) rfl dX8_grow_32 rfl rfl ?_
    refine v_dupR (pc' := 34) rfl dX8_grow_33 ?_
    refine v_get (z := (m : Int)) (pc' := 37) rfl dX8_grow_34 fk_RX8_31 ly_7 rfl (hm) ?_
    refine v_iconst (pc' := 38) rfl dX8_grow_37 ?_
    refine v_iadd (pc' := 39) rfl dX8_grow_38 ?_
    refine v_put (pc' := 42) rfl dX8_grow_39 fi_RX8_31 ly_7 rfl ?_
    refine v_nmw (fun w2 hw2 => ?_)
    have F7_6 : w2 7 6 = ((m : Int) + 1) := by rw [hw2, up_eq]
    refine v_vret dX8_grow_42 ?_
    rw [h0app (by omega)]
    exact App.one (by rw [hw2, hw1, show ((m : Int)).toNat = m by omega, hr])
  ·
    refine v_vret dX8_grow_17 ?_
    have hnil : growL n f t 0 g left free = [] := List.eq_nil_of_length_eq_zero (by omega)
    rw [hnil]
    exact App.rf hm
set_option maxHeartbeats 4000000 in
set_option maxRecDepth 100000 in
theorem c_grow1 (l : Launch) (G : Gx) {r0 l0 f0 d0 : Int} {n : Nat} {f t g : Nat → Nat} {left free m : Nat} (hn7 : n ≤ 7) (hf : Pm 7 f) (ht : Pm 7 t) (hr : r0 = (hx g : Nat)) (hl : l0 = left) (hok : LeftOK f g left) (hfr : f0 = free) (hfl : free < 128) (hd : 0 ≤ d0 ∧ d0 + 1 ≤ 7) (hp : popc left ≤ 1) (hlen : m + (growL n f t 1 g left free).length ≤ 5040) (w : Wd) (hin : RelIn w n f t) (hm : w 7 6 = (m : Nat)) : Sp l G 2 mX8_grow [aR 7, aI (r0), aI (l0), aI (f0), aI (d0)] w (fun _ w' => App w w' m (growL n f t 1 g left free)) := by
  have hl7 := hok.1
  have h0app : left = 0 → growL n f t 1 g left free = [g] := fun e => by rw [growL_s, if_pos e]
  refine Sp_of RX8 rfl (by decide +kernel) rfl (Nat.le_of_ble_eq_true rfl) ?_
  refine v_iload 4 (pc' := 2) rfl dX8_grow_0 rfl ?_
  refine v_bipush (pc' := 4) rfl dX8_grow_2 rfl ?_
  refine v_icmp_gt (pc' := 7) (tgt := 17) rfl dX8_grow_4 (by decide) (by omega) (by omega) (fun c0 => absurd c0 (by omega)) (fun c0 => ?_)
  refine v_aload_n 0 (pc' := 8) rfl dX8_grow_7 rfl rfl ?_
  refine v_get (z := (m : Int)) (pc' := 11) rfl dX8_grow_8 fk_RX8_31 ly_7 rfl (hm) ?_
  refine v_sipush (pc' := 14) rfl dX8_grow_11 rfl ?_
  refine v_icmp_lt (pc' := 17) (tgt := 18) rfl dX8_grow_14 (by decide) (by omega) (by omega) (fun c1 => ?_) (fun c1 => ?_)
  ·
    refine v_iload_n 2 (pc' := 19) rfl dX8_grow_18 rfl rfl ?_
    refine v_if_ne (pc' := 22) (tgt := 43) rfl dX8_grow_19 (by decide) (by omega) (fun c2 => ?_) (fun c2 => ?_)
    ·
      have hlow := low_in left hl7 (by omega)
      have hrl := ringN_lt (hf.b7 (by decide)) hlow.1 hlow.2
      refine v_iload_n 2 (pc' := 44) rfl dX8_grow_43 rfl rfl ?_
      refine v_cSP (pc' := 47) rfl dX8_grow_44 lk_RX8_52 rfl (c_lowest l G hl hl7 (by omega) w) rfl rfl rfl ?_
      refine v_nm (fun lowest1 hlowest1 => ?_)
      refine v_istore (ls' := [(5, _), (0, _), (1, _), (2, _), (3, _), (4, _)]) (pc' := 49) rfl dX8_grow_47 rfl rfl ?_
      refine v_iload 0 (pc' := 51) rfl dX8_grow_49 rfl ?_
      refine v_bipush (pc' := 53) rfl dX8_grow_51 rfl ?_
      refine v_icmp_le (pc' := 56) (tgt := 57) rfl dX8_grow_53 (by decide) (by omega) (by omega) (fun c3 => ?_) (fun c3 => absurd c3 (by omega))
      refine v_aload_n 1 (pc' := 58) rfl dX8_grow_57 rfl rfl ?_
      refine v_getR (pc' := 61) rfl dX8_grow_58 fk_RX8_15 ly_7 rfl ?_
      refine v_iload 0 (pc' := 63) rfl dX8_grow_61 rfl ?_
      refine v_iald (z := ((ringN f (lowN left) : Nat) : Int)) (pc' := 64) rfl dX8_grow_63 ly_9 (by omega) (by omega) rfl (by rw [show lowest1.toNat = lowN left by omega]; exact (hin.2.2.2 _ hlow.1 hlow.2).1) ?_
      refine v_nm (fun ring' hring' => ?_)
      refine v_istore (ls' := [(6, _), (5, _), (0, _), (1, _), (2, _), (3, _), (4, _)]) (pc' := 66) rfl dX8_grow_64 rfl rfl ?_
      refine v_iload 0 (pc' := 68) rfl dX8_grow_66 rfl ?_
      refine v_cSP (pc' := 71) rfl dX8_grow_68 lk_RX8_55 rfl (c_bitCount l G hring' (by omega) w) rfl rfl rfl ?_
      refine v_nm (fun bitCount1 hbitCount1 => ?_)
      refine v_istore (ls' := [(7, _), (6, _), (5, _), (0, _), (1, _), (2, _), (3, _), (4, _)]) (pc' := 73) rfl dX8_grow_71 rfl rfl ?_
      refine v_iconst (pc' := 74) rfl dX8_grow_73 ?_
      refine v_istore (ls' := [(8, _), (7, _), (6, _), (5, _), (0, _), (1, _), (2, _), (3, _), (4, _)]) (pc' := 76) rfl dX8_grow_74 rfl rfl ?_
      refine v_ls [4, 5, 6, 7, 8, 3, 2, 1, 0] rfl ?_
      refine v_loop2 76 (fun (y : Int) (wl : Wd) => ∃ yN : Nat, y = yN + 1 ∧ yN ≤ n ∧ App w wl m (catY (growF n f t 0 g left free) yN)) (fun (y : Int) (wl : Wd) => (8 - y).toNat) (fun (y : Int) (wl : Wd) => [(0, aR 7), (1, aI (r0)), (2, aI (l0)), (3, aI (f0)), (4, aI (d0)), (5, aI (lowest1)), (6, aI (ring')), (7, aI (bitCount1)), (8, aI (y))]) (fun (y : Int) (wl : Wd) => []) (fun (y : Int) (wl : Wd) => wl) (fun y wl hI0 ih0 => ?_) (1) w (⟨0, rfl, by omega, App.rf hm⟩)
      obtain ⟨yN, hy, hyn, happ⟩ := hI0
      have hinl := hin.app happ
      have hrgt := (hinl.2.2.2 (yN + 1))
      refine v_iload 8 (pc' := 78) rfl dX8_grow_76 rfl ?_
      refine v_aload_n 0 (pc' := 79) rfl dX8_grow_78 rfl rfl ?_
      refine v_get (z := (n : Int)) (pc' := 82) rfl dX8_grow_79 fk_RX8_21 ly_7 rfl (hinl.1) ?_
      refine v_icmp_gt (pc' := 85) (tgt := 159) rfl dX8_grow_82 (by decide) (by omega) (by omega) (fun c4 => ?_) (fun c4 => ?_)
      ·
        refine v_vret dX8_grow_159 ?_
        have e : yN = n := by omega
        rw [growL_s, if_neg (by omega)]
        rw [e] at happ
        exact happ
      ·
        refine v_iload 8 (pc' := 87) rfl dX8_grow_85 rfl ?_
        refine v_bipush (pc' := 89) rfl dX8_grow_87 rfl ?_
        refine v_icmp_gt (pc' := 92) (tgt := 159) rfl dX8_grow_89 (by decide) (by omega) (by omega) (fun c5 => ?_) (fun c5 => ?_)
        ·
          refine v_vret dX8_grow_159 ?_
          have e : yN = n := by omega
          rw [growL_s, if_neg (by omega)]
          rw [e] at happ
          exact happ
        ·
          have hrt := ringN_lt (ht.b7 (by decide)) (x := yN + 1) (by omega) (by omega)
          have hst := hok.step hf ht (by omega) (y := yN + 1) (by omega) (by omega)
          refine v_aload_n 0 (pc' := 93) rfl dX8_grow_92 rfl rfl ?_
          refine v_getR (pc' := 96) rfl dX8_grow_93 fk_RX8_18 ly_7 rfl ?_
          refine v_iload 8 (pc' := 98) rfl dX8_grow_96 rfl ?_
          refine v_iald (z := ((ringN t (yN + 1) : Nat) : Int)) (pc' := 99) rfl dX8_grow_98 ly_10 (by omega) (by omega) rfl (by rw [show y.toNat = yN + 1 by omega]; exact (hinl.2.2.2 _ (by omega) (by omega)).2) ?_
          refine v_nm (fun goal' hgoal' => ?_)
          refine v_istore (ls' := [(9, _), (0, _), (1, _), (2, _), (3, _), (4, _), (5, _), (6, _), (7, _), (8, _)]) (pc' := 101) rfl dX8_grow_99 rfl rfl ?_
          refine v_iload_n 4 (pc' := 102) rfl dX8_grow_101 rfl rfl ?_
          refine v_iload 9 (pc' := 104) rfl dX8_grow_102 rfl ?_
          refine v_cSP (pc' := 107) rfl dX8_grow_104 lk_RX8_60 rfl (c_bit l G (x := yN + 1) (by omega) (by omega) (by omega) wl) rfl rfl rfl ?_
          refine v_nm (fun bit1 hbit1 => ?_)
          refine v_iand (z := ((free &&& bt (yN + 1) : Nat) : Int)) (pc' := 108) rfl dX8_grow_107 (iz_andE hfr hbit1) ?_
          refine v_if_eq (pc' := 111) (tgt := 153) rfl dX8_grow_108 (by decide) (by have := and_lt7 (b := bt (yN + 1)) hfl; omega) (fun c6 => ?_) (fun c6 => ?_)
          ·
            have hcond : ¬ (free &&& bt (yN + 1) ≠ 0 ∧ popc (ringN t (yN + 1)) = popc (ringN f (lowN left))) := fun q => q.1 (by omega)
            have hF : growF n f t 0 g left free (yN + 1) = [] := if_neg hcond
            refine v_iinc (ls' := [(8, _), (9, _), (0, _), (1, _), (2, _), (3, _), (4, _), (5, _), (6, _), (7, _)]) 9 (pc' := 156) rfl dX8_grow_153 rfl rfl rfl ?_
            refine v_nl (fun y' hy' => ?_)
            refine v_goto (tgt := 76) dX8_grow_156 (by decide) ?_
            refine v_ls [2, 3, 4, 5, 6, 7, 8, 9, 0] rfl ?_
            exact ih0 (y') wl (⟨yN + 1, by omega, by omega, by show App w wl m (catY (growF n f t 0 g left free) yN ++ (growF n f t 0 g left free) (yN + 1)); rw [hF, List.append_nil]; exact happ⟩) (by omega)
          ·
            refine v_iload 0 (pc' := 113) rfl dX8_grow_111 rfl ?_
            refine v_cSP (pc' := 116) rfl dX8_grow_113 lk_RX8_55 rfl (c_bitCount l G hgoal' (by have := ringN_lt (ht.b7 (by decide)) (x := yN + 1) (by omega) (by omega); omega) wl) rfl rfl rfl ?_
            refine v_nm (fun bitCount2 hbitCount2 => ?_)
            refine v_iload 8 (pc' := 118) rfl dX8_grow_116 rfl ?_
            refine v_icmp_ne (pc' := 121) (tgt := 153) rfl dX8_grow_118 (by decide) (by have := popc_le _ hrt; omega) (by have := popc_le _ hrl; omega) (fun c7 => ?_) (fun c7 => ?_)
            ·
              have hcond : ¬ (free &&& bt (yN + 1) ≠ 0 ∧ popc (ringN t (yN + 1)) = popc (ringN f (lowN left))) := fun q => by omega
              have hF : growF n f t 0 g left free (yN + 1) = [] := if_neg hcond
              refine v_iinc (ls' := [(8, _), (9, _), (0, _), (1, _), (2, _), (3, _), (4, _), (5, _), (6, _), (7, _)]) 9 (pc' := 156) rfl dX8_grow_153 rfl rfl rfl ?_
              refine v_nl (fun y' hy' => ?_)
              refine v_goto (tgt := 76) dX8_grow_156 (by decide) ?_
              refine v_ls [2, 3, 4, 5, 6, 7, 8, 9, 0] rfl ?_
              exact ih0 (y') wl (⟨yN + 1, by omega, by omega, by show App w wl m (catY (growF n f t 0 g left free) yN ++ (growF n f t 0 g left free) (yN + 1)); rw [hF, List.append_nil]; exact happ⟩) (by omega)
            ·
              have hcond : free &&& bt (yN + 1) ≠ 0 ∧ popc (ringN t (yN + 1)) = popc (ringN f (lowN left)) := ⟨fun e => by omega, by omega⟩
              have hF : growF n f t 0 g left free (yN + 1) = growL n f t 0 (lay f t (lowN left) (yN + 1) g (popc (ringN f (lowN left)))) (andn left (ringN f (lowN left))) (andn free (ringN t (yN + 1))) := if_pos hcond
              refine v_aload_n 1 (pc' := 122) rfl dX8_grow_121 rfl rfl ?_
              refine v_iload_n 2 (pc' := 123) rfl dX8_grow_122 rfl rfl ?_
              refine v_aload_n 1 (pc' := 124) rfl dX8_grow_123 rfl rfl ?_
              refine v_iload 6 (pc' := 126) rfl dX8_grow_124 rfl ?_
              refine v_iload 9 (pc' := 128) rfl dX8_grow_126 rfl ?_
              refine v_iload 8 (pc' := 130) rfl dX8_grow_128 rfl ?_
              refine v_cVP (pc' := 133) rfl dX8_grow_130 lk_RX8_63 ly_7 rfl (c_laid l G (hf.b7 (by decide)) (ht.b7 (by decide)) hlowest1 hlow.1 hlow.2 (y := yN + 1) (by omega) (by omega) (by omega) hbitCount1 (popc_le _ hrl) hst.2.2.1 wl hinl.2.1 hinl.2.2.1) rfl rfl rfl ?_
              refine v_nm (fun laid1 hlaid1 => ?_)
              refine v_ior (z := ((hx (lay f t (lowN left) (yN + 1) g (popc (ringN f (lowN left)))) : Nat) : Int)) (pc' := 134) rfl dX8_grow_133 (by rw [hr, hlaid1, iz_or, lay_or (f := f) (t := t) (g := g) (x := lowN left) (y := yN + 1) (hf.b7 (by decide)) (ht.b7 (by decide)) hok.2.1 hlow.1 hlow.2 (by omega) (by omega) (popc (ringN f (lowN left))) hst.2.2.1 (fun i _ => hst.2.2.2 i)]) ?_
              refine v_iload_n 3 (pc' := 135) rfl dX8_grow_134 rfl rfl ?_
              refine v_iload 7 (pc' := 137) rfl dX8_grow_135 rfl ?_
              refine v_iconst (pc' := 138) rfl dX8_grow_137 ?_
              refine v_ixor (pc' := 139) rfl dX8_grow_138 (bxor_iz ring' (-1)) ?_
              refine v_iand (z := ((andn left (ringN f (lowN left)) : Nat) : Int)) (pc' := 140) rfl dX8_grow_139 (by rw [hl, hring']; exact andn_bits _ hl7 _ hrl) ?_
              refine v_iload_n 4 (pc' := 141) rfl dX8_grow_140 rfl rfl ?_
              refine v_iload 0 (pc' := 143) rfl dX8_grow_141 rfl ?_
              refine v_iconst (pc' := 144) rfl dX8_grow_143 ?_
              refine v_ixor (pc' := 145) rfl dX8_grow_144 (bxor_iz goal' (-1)) ?_
              refine v_iand (z := ((andn free (ringN t (yN + 1)) : Nat) : Int)) (pc' := 146) rfl dX8_grow_145 (by rw [hfr, hgoal']; exact andn_bits _ hfl _ hrt) ?_
              refine v_iload 5 (pc' := 148) rfl dX8_grow_146 rfl ?_
              refine v_iconst (pc' := 149) rfl dX8_grow_148 ?_
              refine v_iadd (pc' := 150) rfl dX8_grow_149 ?_
              refine v_cSv (pc' := 153) rfl dX8_grow_150 lk_RX8_47 rfl (c_grow0 l G hn7 hf ht (g := lay f t (lowN left) (yN + 1) g (popc (ringN f (lowN left)))) rfl rfl hst.1 rfl (andn_lt7 hfl) (by omega) (by have := hst.2.1; omega) (m := m + (catY (growF n f t 0 g left free) yN).length) (by have := catY_len (growF n f t 0 g left free) n yN (by omega); rw [hF] at this; rw [growL_s, if_neg (show ¬ left = 0 by omega)] at hlen; omega) wl hinl happ.1) rfl rfl rfl (fun grow1 w8 hq8 => ?_)
              refine v_iinc (ls' := [(8, _), (9, _), (0, _), (1, _), (2, _), (3, _), (4, _), (5, _), (6, _), (7, _)]) 9 (pc' := 156) rfl dX8_grow_153 rfl rfl rfl ?_
              refine v_nl (fun y' hy' => ?_)
              refine v_goto (tgt := 76) dX8_grow_156 (by decide) ?_
              refine v_ls [2, 3, 4, 5, 6, 7, 8, 9, 0] rfl ?_
              exact ih0 (y') w8 (⟨yN + 1, by omega, by omega, by show App w w8 m (catY (growF n f t 0 g left free) yN ++ (growF n f t 0 g left free) (yN + 1)); rw [hF]; exact happ.tr hq8⟩) (by omega)
    ·
      refine v_aload_n 0 (pc' := 23) rfl dX8_grow_22 rfl rfl ?_
      refine v_getR (pc' := 26) rfl dX8_grow_23 fk_RX8_9 ly_7 rfl ?_
      refine v_aload_n 0 (pc' := 27) rfl dX8_grow_26 rfl rfl ?_
      refine v_get (z := (m : Int)) (pc' := 30) rfl dX8_grow_27 fk_RX8_31 ly_7 rfl (hm) ?_
      refine v_iload_n 1 (pc' := 31) rfl dX8_grow_30 rfl rfl ?_
      refine v_iast (pc' := 32) rfl dX8_grow_31 ly_8 (by omega) (by omega) rfl ?_
      refine v_nmw (fun w1 hw1 => ?_)
      have hm : w1 7 6 = (m : Int) := by rw [hw1, up_ne _ _ (by omega)]; exact hm
      refine v_aload_n 0 (pc' := 33) rfl dX8_grow_32 rfl rfl ?_
      refine v_dupR (pc' := 34) rfl dX8_grow_33 ?_
      refine v_get (z := (m : Int)) (pc' := 37) rfl dX8_grow_34 fk_RX8_31 ly_7 rfl (hm) ?_
      refine v_iconst (pc' := 38) rfl dX8_grow_37 ?_
      refine v_iadd (pc' := 39) rfl dX8_grow_38 ?_
      refine v_put (pc' := 42) rfl dX8_grow_39 fi_RX8_31 ly_7 rfl ?_
      refine v_nmw (fun w2 hw2 => ?_)
      have F7_6 : w2 7 6 = ((m : Int) + 1) := by rw [hw2, up_eq]
      refine v_vret dX8_grow_42 ?_
      rw [h0app (by omega)]
      exact App.one (by rw [hw2, hw1, show ((m : Int)).toNat = m by omega, hr])
  ·
    refine v_vret dX8_grow_17 ?_
    have hnil : growL n f t 1 g left free = [] := List.eq_nil_of_length_eq_zero (by omega)
    rw [hnil]
    exact App.rf hm
set_option maxHeartbeats 4000000 in
set_option maxRecDepth 100000 in
theorem c_grow2 (l : Launch) (G : Gx) {r0 l0 f0 d0 : Int} {n : Nat} {f t g : Nat → Nat} {left free m : Nat} (hn7 : n ≤ 7) (hf : Pm 7 f) (ht : Pm 7 t) (hr : r0 = (hx g : Nat)) (hl : l0 = left) (hok : LeftOK f g left) (hfr : f0 = free) (hfl : free < 128) (hd : 0 ≤ d0 ∧ d0 + 2 ≤ 7) (hp : popc left ≤ 2) (hlen : m + (growL n f t 2 g left free).length ≤ 5040) (w : Wd) (hin : RelIn w n f t) (hm : w 7 6 = (m : Nat)) : Sp l G 3 mX8_grow [aR 7, aI (r0), aI (l0), aI (f0), aI (d0)] w (fun _ w' => App w w' m (growL n f t 2 g left free)) := by
  have hl7 := hok.1
  have h0app : left = 0 → growL n f t 2 g left free = [g] := fun e => by rw [growL_s, if_pos e]
  refine Sp_of RX8 rfl (by decide +kernel) rfl (Nat.le_of_ble_eq_true rfl) ?_
  refine v_iload 4 (pc' := 2) rfl dX8_grow_0 rfl ?_
  refine v_bipush (pc' := 4) rfl dX8_grow_2 rfl ?_
  refine v_icmp_gt (pc' := 7) (tgt := 17) rfl dX8_grow_4 (by decide) (by omega) (by omega) (fun c0 => absurd c0 (by omega)) (fun c0 => ?_)
  refine v_aload_n 0 (pc' := 8) rfl dX8_grow_7 rfl rfl ?_
  refine v_get (z := (m : Int)) (pc' := 11) rfl dX8_grow_8 fk_RX8_31 ly_7 rfl (hm) ?_
  refine v_sipush (pc' := 14) rfl dX8_grow_11 rfl ?_
  refine v_icmp_lt (pc' := 17) (tgt := 18) rfl dX8_grow_14 (by decide) (by omega) (by omega) (fun c1 => ?_) (fun c1 => ?_)
  ·
    refine v_iload_n 2 (pc' := 19) rfl dX8_grow_18 rfl rfl ?_
    refine v_if_ne (pc' := 22) (tgt := 43) rfl dX8_grow_19 (by decide) (by omega) (fun c2 => ?_) (fun c2 => ?_)
    ·
      have hlow := low_in left hl7 (by omega)
      have hrl := ringN_lt (hf.b7 (by decide)) hlow.1 hlow.2
      refine v_iload_n 2 (pc' := 44) rfl dX8_grow_43 rfl rfl ?_
      refine v_cSP (pc' := 47) rfl dX8_grow_44 lk_RX8_52 rfl (c_lowest l G hl hl7 (by omega) w) rfl rfl rfl ?_
      refine v_nm (fun lowest1 hlowest1 => ?_)
      refine v_istore (ls' := [(5, _), (0, _), (1, _), (2, _), (3, _), (4, _)]) (pc' := 49) rfl dX8_grow_47 rfl rfl ?_
      refine v_iload 0 (pc' := 51) rfl dX8_grow_49 rfl ?_
      refine v_bipush (pc' := 53) rfl dX8_grow_51 rfl ?_
      refine v_icmp_le (pc' := 56) (tgt := 57) rfl dX8_grow_53 (by decide) (by omega) (by omega) (fun c3 => ?_) (fun c3 => absurd c3 (by omega))
      refine v_aload_n 1 (pc' := 58) rfl dX8_grow_57 rfl rfl ?_
      refine v_getR (pc' := 61) rfl dX8_grow_58 fk_RX8_15 ly_7 rfl ?_
      refine v_iload 0 (pc' := 63) rfl dX8_grow_61 rfl ?_
      refine v_iald (z := ((ringN f (lowN left) : Nat) : Int)) (pc' := 64) rfl dX8_grow_63 ly_9 (by omega) (by omega) rfl (by rw [show lowest1.toNat = lowN left by omega]; exact (hin.2.2.2 _ hlow.1 hlow.2).1) ?_
      refine v_nm (fun ring' hring' => ?_)
      refine v_istore (ls' := [(6, _), (5, _), (0, _), (1, _), (2, _), (3, _), (4, _)]) (pc' := 66) rfl dX8_grow_64 rfl rfl ?_
      refine v_iload 0 (pc' := 68) rfl dX8_grow_66 rfl ?_
      refine v_cSP (pc' := 71) rfl dX8_grow_68 lk_RX8_55 rfl (c_bitCount l G hring' (by omega) w) rfl rfl rfl ?_
      refine v_nm (fun bitCount1 hbitCount1 => ?_)
      refine v_istore (ls' := [(7, _), (6, _), (5, _), (0, _), (1, _), (2, _), (3, _), (4, _)]) (pc' := 73) rfl dX8_grow_71 rfl rfl ?_
      refine v_iconst (pc' := 74) rfl dX8_grow_73 ?_
      refine v_istore (ls' := [(8, _), (7, _), (6, _), (5, _), (0, _), (1, _), (2, _), (3, _), (4, _)]) (pc' := 76) rfl dX8_grow_74 rfl rfl ?_
      refine v_ls [4, 5, 6, 7, 8, 3, 2, 1, 0] rfl ?_
      refine v_loop2 76 (fun (y : Int) (wl : Wd) => ∃ yN : Nat, y = yN + 1 ∧ yN ≤ n ∧ App w wl m (catY (growF n f t 1 g left free) yN)) (fun (y : Int) (wl : Wd) => (8 - y).toNat) (fun (y : Int) (wl : Wd) => [(0, aR 7), (1, aI (r0)), (2, aI (l0)), (3, aI (f0)), (4, aI (d0)), (5, aI (lowest1)), (6, aI (ring')), (7, aI (bitCount1)), (8, aI (y))]) (fun (y : Int) (wl : Wd) => []) (fun (y : Int) (wl : Wd) => wl) (fun y wl hI0 ih0 => ?_) (1) w (⟨0, rfl, by omega, App.rf hm⟩)
      obtain ⟨yN, hy, hyn, happ⟩ := hI0
      have hinl := hin.app happ
      have hrgt := (hinl.2.2.2 (yN + 1))
      refine v_iload 8 (pc' := 78) rfl dX8_grow_76 rfl ?_
      refine v_aload_n 0 (pc' := 79) rfl dX8_grow_78 rfl rfl ?_
      refine v_get (z := (n : Int)) (pc' := 82) rfl dX8_grow_79 fk_RX8_21 ly_7 rfl (hinl.1) ?_
      refine v_icmp_gt (pc' := 85) (tgt := 159) rfl dX8_grow_82 (by decide) (by omega) (by omega) (fun c4 => ?_) (fun c4 => ?_)
      ·
        refine v_vret dX8_grow_159 ?_
        have e : yN = n := by omega
        rw [growL_s, if_neg (by omega)]
        rw [e] at happ
        exact happ
      ·
        refine v_iload 8 (pc' := 87) rfl dX8_grow_85 rfl ?_
        refine v_bipush (pc' := 89) rfl dX8_grow_87 rfl ?_
        refine v_icmp_gt (pc' := 92) (tgt := 159) rfl dX8_grow_89 (by decide) (by omega) (by omega) (fun c5 => ?_) (fun c5 => ?_)
        ·
          refine v_vret dX8_grow_159 ?_
          have e : yN = n := by omega
          rw [growL_s, if_neg (by omega)]
          rw [e] at happ
          exact happ
        ·
          have hrt := ringN_lt (ht.b7 (by decide)) (x := yN + 1) (by omega) (by omega)
          have hst := hok.step hf ht (by omega) (y := yN + 1) (by omega) (by omega)
          refine v_aload_n 0 (pc' := 93) rfl dX8_grow_92 rfl rfl ?_
          refine v_getR (pc' := 96) rfl dX8_grow_93 fk_RX8_18 ly_7 rfl ?_
          refine v_iload 8 (pc' := 98) rfl dX8_grow_96 rfl ?_
          refine v_iald (z := ((ringN t (yN + 1) : Nat) : Int)) (pc' := 99) rfl dX8_grow_98 ly_10 (by omega) (by omega) rfl (by rw [show y.toNat = yN + 1 by omega]; exact (hinl.2.2.2 _ (by omega) (by omega)).2) ?_
          refine v_nm (fun goal' hgoal' => ?_)
          refine v_istore (ls' := [(9, _), (0, _), (1, _), (2, _), (3, _), (4, _), (5, _), (6, _), (7, _), (8, _)]) (pc' := 101) rfl dX8_grow_99 rfl rfl ?_
          refine v_iload_n 4 (pc' := 102) rfl dX8_grow_101 rfl rfl ?_
          refine v_iload 9 (pc' := 104) rfl dX8_grow_102 rfl ?_
          refine v_cSP (pc' := 107) rfl dX8_grow_104 lk_RX8_60 rfl (c_bit l G (x := yN + 1) (by omega) (by omega) (by omega) wl) rfl rfl rfl ?_
          refine v_nm (fun bit1 hbit1 => ?_)
          refine v_iand (z := ((free &&& bt (yN + 1) : Nat) : Int)) (pc' := 108) rfl dX8_grow_107 (iz_andE hfr hbit1) ?_
          refine v_if_eq (pc' := 111) (tgt := 153) rfl dX8_grow_108 (by decide) (by have := and_lt7 (b := bt (yN + 1)) hfl; omega) (fun c6 => ?_) (fun c6 => ?_)
          ·
            have hcond : ¬ (free &&& bt (yN + 1) ≠ 0 ∧ popc (ringN t (yN + 1)) = popc (ringN f (lowN left))) := fun q => q.1 (by omega)
            have hF : growF n f t 1 g left free (yN + 1) = [] := if_neg hcond
            refine v_iinc (ls' := [(8, _), (9, _), (0, _), (1, _), (2, _), (3, _), (4, _), (5, _), (6, _), (7, _)]) 9 (pc' := 156) rfl dX8_grow_153 rfl rfl rfl ?_
            refine v_nl (fun y' hy' => ?_)
            refine v_goto (tgt := 76) dX8_grow_156 (by decide) ?_
            refine v_ls [2, 3, 4, 5, 6, 7, 8, 9, 0] rfl ?_
            exact ih0 (y') wl (⟨yN + 1, by omega, by omega, by show App w wl m (catY (growF n f t 1 g left free) yN ++ (growF n f t 1 g left free) (yN + 1)); rw [hF, List.append_nil]; exact happ⟩) (by omega)
          ·
            refine v_iload 0 (pc' := 113) rfl dX8_grow_111 rfl ?_
            refine v_cSP (pc' := 116) rfl dX8_grow_113 lk_RX8_55 rfl (c_bitCount l G hgoal' (by have := ringN_lt (ht.b7 (by decide)) (x := yN + 1) (by omega) (by omega); omega) wl) rfl rfl rfl ?_
            refine v_nm (fun bitCount2 hbitCount2 => ?_)
            refine v_iload 8 (pc' := 118) rfl dX8_grow_116 rfl ?_
            refine v_icmp_ne (pc' := 121) (tgt := 153) rfl dX8_grow_118 (by decide) (by have := popc_le _ hrt; omega) (by have := popc_le _ hrl; omega) (fun c7 => ?_) (fun c7 => ?_)
            ·
              have hcond : ¬ (free &&& bt (yN + 1) ≠ 0 ∧ popc (ringN t (yN + 1)) = popc (ringN f (lowN left))) := fun q => by omega
              have hF : growF n f t 1 g left free (yN + 1) = [] := if_neg hcond
              refine v_iinc (ls' := [(8, _), (9, _), (0, _), (1, _), (2, _), (3, _), (4, _), (5, _), (6, _), (7, _)]) 9 (pc' := 156) rfl dX8_grow_153 rfl rfl rfl ?_
              refine v_nl (fun y' hy' => ?_)
              refine v_goto (tgt := 76) dX8_grow_156 (by decide) ?_
              refine v_ls [2, 3, 4, 5, 6, 7, 8, 9, 0] rfl ?_
              exact ih0 (y') wl (⟨yN + 1, by omega, by omega, by show App w wl m (catY (growF n f t 1 g left free) yN ++ (growF n f t 1 g left free) (yN + 1)); rw [hF, List.append_nil]; exact happ⟩) (by omega)
            ·
              have hcond : free &&& bt (yN + 1) ≠ 0 ∧ popc (ringN t (yN + 1)) = popc (ringN f (lowN left)) := ⟨fun e => by omega, by omega⟩
              have hF : growF n f t 1 g left free (yN + 1) = growL n f t 1 (lay f t (lowN left) (yN + 1) g (popc (ringN f (lowN left)))) (andn left (ringN f (lowN left))) (andn free (ringN t (yN + 1))) := if_pos hcond
              refine v_aload_n 1 (pc' := 122) rfl dX8_grow_121 rfl rfl ?_
              refine v_iload_n 2 (pc' := 123) rfl dX8_grow_122 rfl rfl ?_
              refine v_aload_n 1 (pc' := 124) rfl dX8_grow_123 rfl rfl ?_
              refine v_iload 6 (pc' := 126) rfl dX8_grow_124 rfl ?_
              refine v_iload 9 (pc' := 128) rfl dX8_grow_126 rfl ?_
              refine v_iload 8 (pc' := 130) rfl dX8_grow_128 rfl ?_
              refine v_cVP (pc' := 133) rfl dX8_grow_130 lk_RX8_63 ly_7 rfl (c_laid l G (hf.b7 (by decide)) (ht.b7 (by decide)) hlowest1 hlow.1 hlow.2 (y := yN + 1) (by omega) (by omega) (by omega) hbitCount1 (popc_le _ hrl) hst.2.2.1 wl hinl.2.1 hinl.2.2.1) rfl rfl rfl ?_
              refine v_nm (fun laid1 hlaid1 => ?_)
              refine v_ior (z := ((hx (lay f t (lowN left) (yN + 1) g (popc (ringN f (lowN left)))) : Nat) : Int)) (pc' := 134) rfl dX8_grow_133 (by rw [hr, hlaid1, iz_or, lay_or (f := f) (t := t) (g := g) (x := lowN left) (y := yN + 1) (hf.b7 (by decide)) (ht.b7 (by decide)) hok.2.1 hlow.1 hlow.2 (by omega) (by omega) (popc (ringN f (lowN left))) hst.2.2.1 (fun i _ => hst.2.2.2 i)]) ?_
              refine v_iload_n 3 (pc' := 135) rfl dX8_grow_134 rfl rfl ?_
              refine v_iload 7 (pc' := 137) rfl dX8_grow_135 rfl ?_
              refine v_iconst (pc' := 138) rfl dX8_grow_137 ?_
              refine v_ixor (pc' := 139) rfl dX8_grow_138 (bxor_iz ring' (-1)) ?_
              refine v_iand (z := ((andn left (ringN f (lowN left)) : Nat) : Int)) (pc' := 140) rfl dX8_grow_139 (by rw [hl, hring']; exact andn_bits _ hl7 _ hrl) ?_
              refine v_iload_n 4 (pc' := 141) rfl dX8_grow_140 rfl rfl ?_
              refine v_iload 0 (pc' := 143) rfl dX8_grow_141 rfl ?_
              refine v_iconst (pc' := 144) rfl dX8_grow_143 ?_
              refine v_ixor (pc' := 145) rfl dX8_grow_144 (bxor_iz goal' (-1)) ?_
              refine v_iand (z := ((andn free (ringN t (yN + 1)) : Nat) : Int)) (pc' := 146) rfl dX8_grow_145 (by rw [hfr, hgoal']; exact andn_bits _ hfl _ hrt) ?_
              refine v_iload 5 (pc' := 148) rfl dX8_grow_146 rfl ?_
              refine v_iconst (pc' := 149) rfl dX8_grow_148 ?_
              refine v_iadd (pc' := 150) rfl dX8_grow_149 ?_
              refine v_cSv (pc' := 153) rfl dX8_grow_150 lk_RX8_47 rfl (c_grow1 l G hn7 hf ht (g := lay f t (lowN left) (yN + 1) g (popc (ringN f (lowN left)))) rfl rfl hst.1 rfl (andn_lt7 hfl) (by omega) (by have := hst.2.1; omega) (m := m + (catY (growF n f t 1 g left free) yN).length) (by have := catY_len (growF n f t 1 g left free) n yN (by omega); rw [hF] at this; rw [growL_s, if_neg (show ¬ left = 0 by omega)] at hlen; omega) wl hinl happ.1) rfl rfl rfl (fun grow1 w8 hq8 => ?_)
              refine v_iinc (ls' := [(8, _), (9, _), (0, _), (1, _), (2, _), (3, _), (4, _), (5, _), (6, _), (7, _)]) 9 (pc' := 156) rfl dX8_grow_153 rfl rfl rfl ?_
              refine v_nl (fun y' hy' => ?_)
              refine v_goto (tgt := 76) dX8_grow_156 (by decide) ?_
              refine v_ls [2, 3, 4, 5, 6, 7, 8, 9, 0] rfl ?_
              exact ih0 (y') w8 (⟨yN + 1, by omega, by omega, by show App w w8 m (catY (growF n f t 1 g left free) yN ++ (growF n f t 1 g left free) (yN + 1)); rw [hF]; exact happ.tr hq8⟩) (by omega)
    ·
      refine v_aload_n 0 (pc' := 23) rfl dX8_grow_22 rfl rfl ?_
      refine v_getR (pc' := 26) rfl dX8_grow_23 fk_RX8_9 ly_7 rfl ?_
      refine v_aload_n 0 (pc' := 27) rfl dX8_grow_26 rfl rfl ?_
      refine v_get (z := (m : Int)) (pc' := 30) rfl dX8_grow_27 fk_RX8_31 ly_7 rfl (hm) ?_
      refine v_iload_n 1 (pc' := 31) rfl dX8_grow_30 rfl rfl ?_
      refine v_iast (pc' := 32) rfl dX8_grow_31 ly_8 (by omega) (by omega) rfl ?_
      refine v_nmw (fun w1 hw1 => ?_)
      have hm : w1 7 6 = (m : Int) := by rw [hw1, up_ne _ _ (by omega)]; exact hm
      refine v_aload_n 0 (pc' := 33) rfl dX8_grow_32 rfl rfl ?_
      refine v_dupR (pc' := 34) rfl dX8_grow_33 ?_
      refine v_get (z := (m : Int)) (pc' := 37) rfl dX8_grow_34 fk_RX8_31 ly_7 rfl (hm) ?_
      refine v_iconst (pc' := 38) rfl dX8_grow_37 ?_
      refine v_iadd (pc' := 39) rfl dX8_grow_38 ?_
      refine v_put (pc' := 42) rfl dX8_grow_39 fi_RX8_31 ly_7 rfl ?_
      refine v_nmw (fun w2 hw2 => ?_)
      have F7_6 : w2 7 6 = ((m : Int) + 1) := by rw [hw2, up_eq]
      refine v_vret dX8_grow_42 ?_
      rw [h0app (by omega)]
      exact App.one (by rw [hw2, hw1, show ((m : Int)).toNat = m by omega, hr])
  ·
    refine v_vret dX8_grow_17 ?_
    have hnil : growL n f t 2 g left free = [] := List.eq_nil_of_length_eq_zero (by omega)
    rw [hnil]
    exact App.rf hm
set_option maxHeartbeats 4000000 in
set_option maxRecDepth 100000 in
theorem c_grow3 (l : Launch) (G : Gx) {r0 l0 f0 d0 : Int} {n : Nat} {f t g : Nat → Nat} {left free m : Nat} (hn7 : n ≤ 7) (hf : Pm 7 f) (ht : Pm 7 t) (hr : r0 = (hx g : Nat)) (hl : l0 = left) (hok : LeftOK f g left) (hfr : f0 = free) (hfl : free < 128) (hd : 0 ≤ d0 ∧ d0 + 3 ≤ 7) (hp : popc left ≤ 3) (hlen : m + (growL n f t 3 g left free).length ≤ 5040) (w : Wd) (hin : RelIn w n f t) (hm : w 7 6 = (m : Nat)) : Sp l G 4 mX8_grow [aR 7, aI (r0), aI (l0), aI (f0), aI (d0)] w (fun _ w' => App w w' m (growL n f t 3 g left free)) := by
  have hl7 := hok.1
  have h0app : left = 0 → growL n f t 3 g left free = [g] := fun e => by rw [growL_s, if_pos e]
  refine Sp_of RX8 rfl (by decide +kernel) rfl (Nat.le_of_ble_eq_true rfl) ?_
  refine v_iload 4 (pc' := 2) rfl dX8_grow_0 rfl ?_
  refine v_bipush (pc' := 4) rfl dX8_grow_2 rfl ?_
  refine v_icmp_gt (pc' := 7) (tgt := 17) rfl dX8_grow_4 (by decide) (by omega) (by omega) (fun c0 => absurd c0 (by omega)) (fun c0 => ?_)
  refine v_aload_n 0 (pc' := 8) rfl dX8_grow_7 rfl rfl ?_
  refine v_get (z := (m : Int)) (pc' := 11) rfl dX8_grow_8 fk_RX8_31 ly_7 rfl (hm) ?_
  refine v_sipush (pc' := 14) rfl dX8_grow_11 rfl ?_
  refine v_icmp_lt (pc' := 17) (tgt := 18) rfl dX8_grow_14 (by decide) (by omega) (by omega) (fun c1 => ?_) (fun c1 => ?_)
  ·
    refine v_iload_n 2 (pc' := 19) rfl dX8_grow_18 rfl rfl ?_
    refine v_if_ne (pc' := 22) (tgt := 43) rfl dX8_grow_19 (by decide) (by omega) (fun c2 => ?_) (fun c2 => ?_)
    ·
      have hlow := low_in left hl7 (by omega)
      have hrl := ringN_lt (hf.b7 (by decide)) hlow.1 hlow.2
      refine v_iload_n 2 (pc' := 44) rfl dX8_grow_43 rfl rfl ?_
      refine v_cSP (pc' := 47) rfl dX8_grow_44 lk_RX8_52 rfl (c_lowest l G hl hl7 (by omega) w) rfl rfl rfl ?_
      refine v_nm (fun lowest1 hlowest1 => ?_)
      refine v_istore (ls' := [(5, _), (0, _), (1, _), (2, _), (3, _), (4, _)]) (pc' := 49) rfl dX8_grow_47 rfl rfl ?_
      refine v_iload 0 (pc' := 51) rfl dX8_grow_49 rfl ?_
      refine v_bipush (pc' := 53) rfl dX8_grow_51 rfl ?_
      refine v_icmp_le (pc' := 56) (tgt := 57) rfl dX8_grow_53 (by decide) (by omega) (by omega) (fun c3 => ?_) (fun c3 => absurd c3 (by omega))
      refine v_aload_n 1 (pc' := 58) rfl dX8_grow_57 rfl rfl ?_
      refine v_getR (pc' := 61) rfl dX8_grow_58 fk_RX8_15 ly_7 rfl ?_
      refine v_iload 0 (pc' := 63) rfl dX8_grow_61 rfl ?_
      refine v_iald (z := ((ringN f (lowN left) : Nat) : Int)) (pc' := 64) rfl dX8_grow_63 ly_9 (by omega) (by omega) rfl (by rw [show lowest1.toNat = lowN left by omega]; exact (hin.2.2.2 _ hlow.1 hlow.2).1) ?_
      refine v_nm (fun ring' hring' => ?_)
      refine v_istore (ls' := [(6, _), (5, _), (0, _), (1, _), (2, _), (3, _), (4, _)]) (pc' := 66) rfl dX8_grow_64 rfl rfl ?_
      refine v_iload 0 (pc' := 68) rfl dX8_grow_66 rfl ?_
      refine v_cSP (pc' := 71) rfl dX8_grow_68 lk_RX8_55 rfl (c_bitCount l G hring' (by omega) w) rfl rfl rfl ?_
      refine v_nm (fun bitCount1 hbitCount1 => ?_)
      refine v_istore (ls' := [(7, _), (6, _), (5, _), (0, _), (1, _), (2, _), (3, _), (4, _)]) (pc' := 73) rfl dX8_grow_71 rfl rfl ?_
      refine v_iconst (pc' := 74) rfl dX8_grow_73 ?_
      refine v_istore (ls' := [(8, _), (7, _), (6, _), (5, _), (0, _), (1, _), (2, _), (3, _), (4, _)]) (pc' := 76) rfl dX8_grow_74 rfl rfl ?_
      refine v_ls [4, 5, 6, 7, 8, 3, 2, 1, 0] rfl ?_
      refine v_loop2 76 (fun (y : Int) (wl : Wd) => ∃ yN : Nat, y = yN + 1 ∧ yN ≤ n ∧ App w wl m (catY (growF n f t 2 g left free) yN)) (fun (y : Int) (wl : Wd) => (8 - y).toNat) (fun (y : Int) (wl : Wd) => [(0, aR 7), (1, aI (r0)), (2, aI (l0)), (3, aI (f0)), (4, aI (d0)), (5, aI (lowest1)), (6, aI (ring')), (7, aI (bitCount1)), (8, aI (y))]) (fun (y : Int) (wl : Wd) => []) (fun (y : Int) (wl : Wd) => wl) (fun y wl hI0 ih0 => ?_) (1) w (⟨0, rfl, by omega, App.rf hm⟩)
      obtain ⟨yN, hy, hyn, happ⟩ := hI0
      have hinl := hin.app happ
      have hrgt := (hinl.2.2.2 (yN + 1))
      refine v_iload 8 (pc' := 78) rfl dX8_grow_76 rfl ?_
      refine v_aload_n 0 (pc' := 79) rfl dX8_grow_78 rfl rfl ?_
      refine v_get (z := (n : Int)) (pc' := 82) rfl dX8_grow_79 fk_RX8_21 ly_7 rfl (hinl.1) ?_
      refine v_icmp_gt (pc' := 85) (tgt := 159) rfl dX8_grow_82 (by decide) (by omega) (by omega) (fun c4 => ?_) (fun c4 => ?_)
      ·
        refine v_vret dX8_grow_159 ?_
        have e : yN = n := by omega
        rw [growL_s, if_neg (by omega)]
        rw [e] at happ
        exact happ
      ·
        refine v_iload 8 (pc' := 87) rfl dX8_grow_85 rfl ?_
        refine v_bipush (pc' := 89) rfl dX8_grow_87 rfl ?_
        refine v_icmp_gt (pc' := 92) (tgt := 159) rfl dX8_grow_89 (by decide) (by omega) (by omega) (fun c5 => ?_) (fun c5 => ?_)
        ·
          refine v_vret dX8_grow_159 ?_
          have e : yN = n := by omega
          rw [growL_s, if_neg (by omega)]
          rw [e] at happ
          exact happ
        ·
          have hrt := ringN_lt (ht.b7 (by decide)) (x := yN + 1) (by omega) (by omega)
          have hst := hok.step hf ht (by omega) (y := yN + 1) (by omega) (by omega)
          refine v_aload_n 0 (pc' := 93) rfl dX8_grow_92 rfl rfl ?_
          refine v_getR (pc' := 96) rfl dX8_grow_93 fk_RX8_18 ly_7 rfl ?_
          refine v_iload 8 (pc' := 98) rfl dX8_grow_96 rfl ?_
          refine v_iald (z := ((ringN t (yN + 1) : Nat) : Int)) (pc' := 99) rfl dX8_grow_98 ly_10 (by omega) (by omega) rfl (by rw [show y.toNat = yN + 1 by omega]; exact (hinl.2.2.2 _ (by omega) (by omega)).2) ?_
          refine v_nm (fun goal' hgoal' => ?_)
          refine v_istore (ls' := [(9, _), (0, _), (1, _), (2, _), (3, _), (4, _), (5, _), (6, _), (7, _), (8, _)]) (pc' := 101) rfl dX8_grow_99 rfl rfl ?_
          refine v_iload_n 4 (pc' := 102) rfl dX8_grow_101 rfl rfl ?_
          refine v_iload 9 (pc' := 104) rfl dX8_grow_102 rfl ?_
          refine v_cSP (pc' := 107) rfl dX8_grow_104 lk_RX8_60 rfl (c_bit l G (x := yN + 1) (by omega) (by omega) (by omega) wl) rfl rfl rfl ?_
          refine v_nm (fun bit1 hbit1 => ?_)
          refine v_iand (z := ((free &&& bt (yN + 1) : Nat) : Int)) (pc' := 108) rfl dX8_grow_107 (iz_andE hfr hbit1) ?_
          refine v_if_eq (pc' := 111) (tgt := 153) rfl dX8_grow_108 (by decide) (by have := and_lt7 (b := bt (yN + 1)) hfl; omega) (fun c6 => ?_) (fun c6 => ?_)
          ·
            have hcond : ¬ (free &&& bt (yN + 1) ≠ 0 ∧ popc (ringN t (yN + 1)) = popc (ringN f (lowN left))) := fun q => q.1 (by omega)
            have hF : growF n f t 2 g left free (yN + 1) = [] := if_neg hcond
            refine v_iinc (ls' := [(8, _), (9, _), (0, _), (1, _), (2, _), (3, _), (4, _), (5, _), (6, _), (7, _)]) 9 (pc' := 156) rfl dX8_grow_153 rfl rfl rfl ?_
            refine v_nl (fun y' hy' => ?_)
            refine v_goto (tgt := 76) dX8_grow_156 (by decide) ?_
            refine v_ls [2, 3, 4, 5, 6, 7, 8, 9, 0] rfl ?_
            exact ih0 (y') wl (⟨yN + 1, by omega, by omega, by show App w wl m (catY (growF n f t 2 g left free) yN ++ (growF n f t 2 g left free) (yN + 1)); rw [hF, List.append_nil]; exact happ⟩) (by omega)
          ·
            refine v_iload 0 (pc' := 113) rfl dX8_grow_111 rfl ?_
            refine v_cSP (pc' := 116) rfl dX8_grow_113 lk_RX8_55 rfl (c_bitCount l G hgoal' (by have := ringN_lt (ht.b7 (by decide)) (x := yN + 1) (by omega) (by omega); omega) wl) rfl rfl rfl ?_
            refine v_nm (fun bitCount2 hbitCount2 => ?_)
            refine v_iload 8 (pc' := 118) rfl dX8_grow_116 rfl ?_
            refine v_icmp_ne (pc' := 121) (tgt := 153) rfl dX8_grow_118 (by decide) (by have := popc_le _ hrt; omega) (by have := popc_le _ hrl; omega) (fun c7 => ?_) (fun c7 => ?_)
            ·
              have hcond : ¬ (free &&& bt (yN + 1) ≠ 0 ∧ popc (ringN t (yN + 1)) = popc (ringN f (lowN left))) := fun q => by omega
              have hF : growF n f t 2 g left free (yN + 1) = [] := if_neg hcond
              refine v_iinc (ls' := [(8, _), (9, _), (0, _), (1, _), (2, _), (3, _), (4, _), (5, _), (6, _), (7, _)]) 9 (pc' := 156) rfl dX8_grow_153 rfl rfl rfl ?_
              refine v_nl (fun y' hy' => ?_)
              refine v_goto (tgt := 76) dX8_grow_156 (by decide) ?_
              refine v_ls [2, 3, 4, 5, 6, 7, 8, 9, 0] rfl ?_
              exact ih0 (y') wl (⟨yN + 1, by omega, by omega, by show App w wl m (catY (growF n f t 2 g left free) yN ++ (growF n f t 2 g left free) (yN + 1)); rw [hF, List.append_nil]; exact happ⟩) (by omega)
            ·
              have hcond : free &&& bt (yN + 1) ≠ 0 ∧ popc (ringN t (yN + 1)) = popc (ringN f (lowN left)) := ⟨fun e => by omega, by omega⟩
              have hF : growF n f t 2 g left free (yN + 1) = growL n f t 2 (lay f t (lowN left) (yN + 1) g (popc (ringN f (lowN left)))) (andn left (ringN f (lowN left))) (andn free (ringN t (yN + 1))) := if_pos hcond
              refine v_aload_n 1 (pc' := 122) rfl dX8_grow_121 rfl rfl ?_
              refine v_iload_n 2 (pc' := 123) rfl dX8_grow_122 rfl rfl ?_
              refine v_aload_n 1 (pc' := 124) rfl dX8_grow_123 rfl rfl ?_
              refine v_iload 6 (pc' := 126) rfl dX8_grow_124 rfl ?_
              refine v_iload 9 (pc' := 128) rfl dX8_grow_126 rfl ?_
              refine v_iload 8 (pc' := 130) rfl dX8_grow_128 rfl ?_
              refine v_cVP (pc' := 133) rfl dX8_grow_130 lk_RX8_63 ly_7 rfl (c_laid l G (hf.b7 (by decide)) (ht.b7 (by decide)) hlowest1 hlow.1 hlow.2 (y := yN + 1) (by omega) (by omega) (by omega) hbitCount1 (popc_le _ hrl) hst.2.2.1 wl hinl.2.1 hinl.2.2.1) rfl rfl rfl ?_
              refine v_nm (fun laid1 hlaid1 => ?_)
              refine v_ior (z := ((hx (lay f t (lowN left) (yN + 1) g (popc (ringN f (lowN left)))) : Nat) : Int)) (pc' := 134) rfl dX8_grow_133 (by rw [hr, hlaid1, iz_or, lay_or (f := f) (t := t) (g := g) (x := lowN left) (y := yN + 1) (hf.b7 (by decide)) (ht.b7 (by decide)) hok.2.1 hlow.1 hlow.2 (by omega) (by omega) (popc (ringN f (lowN left))) hst.2.2.1 (fun i _ => hst.2.2.2 i)]) ?_
              refine v_iload_n 3 (pc' := 135) rfl dX8_grow_134 rfl rfl ?_
              refine v_iload 7 (pc' := 137) rfl dX8_grow_135 rfl ?_
              refine v_iconst (pc' := 138) rfl dX8_grow_137 ?_
              refine v_ixor (pc' := 139) rfl dX8_grow_138 (bxor_iz ring' (-1)) ?_
              refine v_iand (z := ((andn left (ringN f (lowN left)) : Nat) : Int)) (pc' := 140) rfl dX8_grow_139 (by rw [hl, hring']; exact andn_bits _ hl7 _ hrl) ?_
              refine v_iload_n 4 (pc' := 141) rfl dX8_grow_140 rfl rfl ?_
              refine v_iload 0 (pc' := 143) rfl dX8_grow_141 rfl ?_
              refine v_iconst (pc' := 144) rfl dX8_grow_143 ?_
              refine v_ixor (pc' := 145) rfl dX8_grow_144 (bxor_iz goal' (-1)) ?_
              refine v_iand (z := ((andn free (ringN t (yN + 1)) : Nat) : Int)) (pc' := 146) rfl dX8_grow_145 (by rw [hfr, hgoal']; exact andn_bits _ hfl _ hrt) ?_
              refine v_iload 5 (pc' := 148) rfl dX8_grow_146 rfl ?_
              refine v_iconst (pc' := 149) rfl dX8_grow_148 ?_
              refine v_iadd (pc' := 150) rfl dX8_grow_149 ?_
              refine v_cSv (pc' := 153) rfl dX8_grow_150 lk_RX8_47 rfl (c_grow2 l G hn7 hf ht (g := lay f t (lowN left) (yN + 1) g (popc (ringN f (lowN left)))) rfl rfl hst.1 rfl (andn_lt7 hfl) (by omega) (by have := hst.2.1; omega) (m := m + (catY (growF n f t 2 g left free) yN).length) (by have := catY_len (growF n f t 2 g left free) n yN (by omega); rw [hF] at this; rw [growL_s, if_neg (show ¬ left = 0 by omega)] at hlen; omega) wl hinl happ.1) rfl rfl rfl (fun grow1 w8 hq8 => ?_)
              refine v_iinc (ls' := [(8, _), (9, _), (0, _), (1, _), (2, _), (3, _), (4, _), (5, _), (6, _), (7, _)]) 9 (pc' := 156) rfl dX8_grow_153 rfl rfl rfl ?_
              refine v_nl (fun y' hy' => ?_)
              refine v_goto (tgt := 76) dX8_grow_156 (by decide) ?_
              refine v_ls [2, 3, 4, 5, 6, 7, 8, 9, 0] rfl ?_
              exact ih0 (y') w8 (⟨yN + 1, by omega, by omega, by show App w w8 m (catY (growF n f t 2 g left free) yN ++ (growF n f t 2 g left free) (yN + 1)); rw [hF]; exact happ.tr hq8⟩) (by omega)
    ·
      refine v_aload_n 0 (pc' := 23) rfl dX8_grow_22 rfl rfl ?_
      refine v_getR (pc' := 26) rfl dX8_grow_23 fk_RX8_9 ly_7 rfl ?_
      refine v_aload_n 0 (pc' := 27) rfl dX8_grow_26 rfl rfl ?_
      refine v_get (z := (m : Int)) (pc' := 30) rfl dX8_grow_27 fk_RX8_31 ly_7 rfl (hm) ?_
      refine v_iload_n 1 (pc' := 31) rfl dX8_grow_30 rfl rfl ?_
      refine v_iast (pc' := 32) rfl dX8_grow_31 ly_8 (by omega) (by omega) rfl ?_
      refine v_nmw (fun w1 hw1 => ?_)
      have hm : w1 7 6 = (m : Int) := by rw [hw1, up_ne _ _ (by omega)]; exact hm
      refine v_aload_n 0 (pc' := 33) rfl dX8_grow_32 rfl rfl ?_
      refine v_dupR (pc' := 34) rfl dX8_grow_33 ?_
      refine v_get (z := (m : Int)) (pc' := 37) rfl dX8_grow_34 fk_RX8_31 ly_7 rfl (hm) ?_
      refine v_iconst (pc' := 38) rfl dX8_grow_37 ?_
      refine v_iadd (pc' := 39) rfl dX8_grow_38 ?_
      refine v_put (pc' := 42) rfl dX8_grow_39 fi_RX8_31 ly_7 rfl ?_
      refine v_nmw (fun w2 hw2 => ?_)
      have F7_6 : w2 7 6 = ((m : Int) + 1) := by rw [hw2, up_eq]
      refine v_vret dX8_grow_42 ?_
      rw [h0app (by omega)]
      exact App.one (by rw [hw2, hw1, show ((m : Int)).toNat = m by omega, hr])
  ·
    refine v_vret dX8_grow_17 ?_
    have hnil : growL n f t 3 g left free = [] := List.eq_nil_of_length_eq_zero (by omega)
    rw [hnil]
    exact App.rf hm
set_option maxHeartbeats 4000000 in
set_option maxRecDepth 100000 in
theorem c_grow4 (l : Launch) (G : Gx) {r0 l0 f0 d0 : Int} {n : Nat} {f t g : Nat → Nat} {left free m : Nat} (hn7 : n ≤ 7) (hf : Pm 7 f) (ht : Pm 7 t) (hr : r0 = (hx g : Nat)) (hl : l0 = left) (hok : LeftOK f g left) (hfr : f0 = free) (hfl : free < 128) (hd : 0 ≤ d0 ∧ d0 + 4 ≤ 7) (hp : popc left ≤ 4) (hlen : m + (growL n f t 4 g left free).length ≤ 5040) (w : Wd) (hin : RelIn w n f t) (hm : w 7 6 = (m : Nat)) : Sp l G 5 mX8_grow [aR 7, aI (r0), aI (l0), aI (f0), aI (d0)] w (fun _ w' => App w w' m (growL n f t 4 g left free)) := by
  have hl7 := hok.1
  have h0app : left = 0 → growL n f t 4 g left free = [g] := fun e => by rw [growL_s, if_pos e]
  refine Sp_of RX8 rfl (by decide +kernel) rfl (Nat.le_of_ble_eq_true rfl) ?_
  refine v_iload 4 (pc' := 2) rfl dX8_grow_0 rfl ?_
  refine v_bipush (pc' := 4) rfl dX8_grow_2 rfl ?_
  refine v_icmp_gt (pc' := 7) (tgt := 17) rfl dX8_grow_4 (by decide) (by omega) (by omega) (fun c0 => absurd c0 (by omega)) (fun c0 => ?_)
  refine v_aload_n 0 (pc' := 8) rfl dX8_grow_7 rfl rfl ?_
  refine v_get (z := (m : Int)) (pc' := 11) rfl dX8_grow_8 fk_RX8_31 ly_7 rfl (hm) ?_
  refine v_sipush (pc' := 14) rfl dX8_grow_11 rfl ?_
  refine v_icmp_lt (pc' := 17) (tgt := 18) rfl dX8_grow_14 (by decide) (by omega) (by omega) (fun c1 => ?_) (fun c1 => ?_)
  ·
    refine v_iload_n 2 (pc' := 19) rfl dX8_grow_18 rfl rfl ?_
    refine v_if_ne (pc' := 22) (tgt := 43) rfl dX8_grow_19 (by decide) (by omega) (fun c2 => ?_) (fun c2 => ?_)
    ·
      have hlow := low_in left hl7 (by omega)
      have hrl := ringN_lt (hf.b7 (by decide)) hlow.1 hlow.2
      refine v_iload_n 2 (pc' := 44) rfl dX8_grow_43 rfl rfl ?_
      refine v_cSP (pc' := 47) rfl dX8_grow_44 lk_RX8_52 rfl (c_lowest l G hl hl7 (by omega) w) rfl rfl rfl ?_
      refine v_nm (fun lowest1 hlowest1 => ?_)
      refine v_istore (ls' := [(5, _), (0, _), (1, _), (2, _), (3, _), (4, _)]) (pc' := 49) rfl dX8_grow_47 rfl rfl ?_
      refine v_iload 0 (pc' := 51) rfl dX8_grow_49 rfl ?_
      refine v_bipush (pc' := 53) rfl dX8_grow_51 rfl ?_
      refine v_icmp_le (pc' := 56) (tgt := 57) rfl dX8_grow_53 (by decide) (by omega) (by omega) (fun c3 => ?_) (fun c3 => absurd c3 (by omega))
      refine v_aload_n 1 (pc' := 58) rfl dX8_grow_57 rfl rfl ?_
      refine v_getR (pc' := 61) rfl dX8_grow_58 fk_RX8_15 ly_7 rfl ?_
      refine v_iload 0 (pc' := 63) rfl dX8_grow_61 rfl ?_
      refine v_iald (z := ((ringN f (lowN left) : Nat) : Int)) (pc' := 64) rfl dX8_grow_63 ly_9 (by omega) (by omega) rfl (by rw [show lowest1.toNat = lowN left by omega]; exact (hin.2.2.2 _ hlow.1 hlow.2).1) ?_
      refine v_nm (fun ring' hring' => ?_)
      refine v_istore (ls' := [(6, _), (5, _), (0, _), (1, _), (2, _), (3, _), (4, _)]) (pc' := 66) rfl dX8_grow_64 rfl rfl ?_
      refine v_iload 0 (pc' := 68) rfl dX8_grow_66 rfl ?_
      refine v_cSP (pc' := 71) rfl dX8_grow_68 lk_RX8_55 rfl (c_bitCount l G hring' (by omega) w) rfl rfl rfl ?_
      refine v_nm (fun bitCount1 hbitCount1 => ?_)
      refine v_istore (ls' := [(7, _), (6, _), (5, _), (0, _), (1, _), (2, _), (3, _), (4, _)]) (pc' := 73) rfl dX8_grow_71 rfl rfl ?_
      refine v_iconst (pc' := 74) rfl dX8_grow_73 ?_
      refine v_istore (ls' := [(8, _), (7, _), (6, _), (5, _), (0, _), (1, _), (2, _), (3, _), (4, _)]) (pc' := 76) rfl dX8_grow_74 rfl rfl ?_
      refine v_ls [4, 5, 6, 7, 8, 3, 2, 1, 0] rfl ?_
      refine v_loop2 76 (fun (y : Int) (wl : Wd) => ∃ yN : Nat, y = yN + 1 ∧ yN ≤ n ∧ App w wl m (catY (growF n f t 3 g left free) yN)) (fun (y : Int) (wl : Wd) => (8 - y).toNat) (fun (y : Int) (wl : Wd) => [(0, aR 7), (1, aI (r0)), (2, aI (l0)), (3, aI (f0)), (4, aI (d0)), (5, aI (lowest1)), (6, aI (ring')), (7, aI (bitCount1)), (8, aI (y))]) (fun (y : Int) (wl : Wd) => []) (fun (y : Int) (wl : Wd) => wl) (fun y wl hI0 ih0 => ?_) (1) w (⟨0, rfl, by omega, App.rf hm⟩)
      obtain ⟨yN, hy, hyn, happ⟩ := hI0
      have hinl := hin.app happ
      have hrgt := (hinl.2.2.2 (yN + 1))
      refine v_iload 8 (pc' := 78) rfl dX8_grow_76 rfl ?_
      refine v_aload_n 0 (pc' := 79) rfl dX8_grow_78 rfl rfl ?_
      refine v_get (z := (n : Int)) (pc' := 82) rfl dX8_grow_79 fk_RX8_21 ly_7 rfl (hinl.1) ?_
      refine v_icmp_gt (pc' := 85) (tgt := 159) rfl dX8_grow_82 (by decide) (by omega) (by omega) (fun c4 => ?_) (fun c4 => ?_)
      ·
        refine v_vret dX8_grow_159 ?_
        have e : yN = n := by omega
        rw [growL_s, if_neg (by omega)]
        rw [e] at happ
        exact happ
      ·
        refine v_iload 8 (pc' := 87) rfl dX8_grow_85 rfl ?_
        refine v_bipush (pc' := 89) rfl dX8_grow_87 rfl ?_
        refine v_icmp_gt (pc' := 92) (tgt := 159) rfl dX8_grow_89 (by decide) (by omega) (by omega) (fun c5 => ?_) (fun c5 => ?_)
        ·
          refine v_vret dX8_grow_159 ?_
          have e : yN = n := by omega
          rw [growL_s, if_neg (by omega)]
          rw [e] at happ
          exact happ
        ·
          have hrt := ringN_lt (ht.b7 (by decide)) (x := yN + 1) (by omega) (by omega)
          have hst := hok.step hf ht (by omega) (y := yN + 1) (by omega) (by omega)
          refine v_aload_n 0 (pc' := 93) rfl dX8_grow_92 rfl rfl ?_
          refine v_getR (pc' := 96) rfl dX8_grow_93 fk_RX8_18 ly_7 rfl ?_
          refine v_iload 8 (pc' := 98) rfl dX8_grow_96 rfl ?_
          refine v_iald (z := ((ringN t (yN + 1) : Nat) : Int)) (pc' := 99) rfl dX8_grow_98 ly_10 (by omega) (by omega) rfl (by rw [show y.toNat = yN + 1 by omega]; exact (hinl.2.2.2 _ (by omega) (by omega)).2) ?_
          refine v_nm (fun goal' hgoal' => ?_)
          refine v_istore (ls' := [(9, _), (0, _), (1, _), (2, _), (3, _), (4, _), (5, _), (6, _), (7, _), (8, _)]) (pc' := 101) rfl dX8_grow_99 rfl rfl ?_
          refine v_iload_n 4 (pc' := 102) rfl dX8_grow_101 rfl rfl ?_
          refine v_iload 9 (pc' := 104) rfl dX8_grow_102 rfl ?_
          refine v_cSP (pc' := 107) rfl dX8_grow_104 lk_RX8_60 rfl (c_bit l G (x := yN + 1) (by omega) (by omega) (by omega) wl) rfl rfl rfl ?_
          refine v_nm (fun bit1 hbit1 => ?_)
          refine v_iand (z := ((free &&& bt (yN + 1) : Nat) : Int)) (pc' := 108) rfl dX8_grow_107 (iz_andE hfr hbit1) ?_
          refine v_if_eq (pc' := 111) (tgt := 153) rfl dX8_grow_108 (by decide) (by have := and_lt7 (b := bt (yN + 1)) hfl; omega) (fun c6 => ?_) (fun c6 => ?_)
          ·
            have hcond : ¬ (free &&& bt (yN + 1) ≠ 0 ∧ popc (ringN t (yN + 1)) = popc (ringN f (lowN left))) := fun q => q.1 (by omega)
            have hF : growF n f t 3 g left free (yN + 1) = [] := if_neg hcond
            refine v_iinc (ls' := [(8, _), (9, _), (0, _), (1, _), (2, _), (3, _), (4, _), (5, _), (6, _), (7, _)]) 9 (pc' := 156) rfl dX8_grow_153 rfl rfl rfl ?_
            refine v_nl (fun y' hy' => ?_)
            refine v_goto (tgt := 76) dX8_grow_156 (by decide) ?_
            refine v_ls [2, 3, 4, 5, 6, 7, 8, 9, 0] rfl ?_
            exact ih0 (y') wl (⟨yN + 1, by omega, by omega, by show App w wl m (catY (growF n f t 3 g left free) yN ++ (growF n f t 3 g left free) (yN + 1)); rw [hF, List.append_nil]; exact happ⟩) (by omega)
          ·
            refine v_iload 0 (pc' := 113) rfl dX8_grow_111 rfl ?_
            refine v_cSP (pc' := 116) rfl dX8_grow_113 lk_RX8_55 rfl (c_bitCount l G hgoal' (by have := ringN_lt (ht.b7 (by decide)) (x := yN + 1) (by omega) (by omega); omega) wl) rfl rfl rfl ?_
            refine v_nm (fun bitCount2 hbitCount2 => ?_)
            refine v_iload 8 (pc' := 118) rfl dX8_grow_116 rfl ?_
            refine v_icmp_ne (pc' := 121) (tgt := 153) rfl dX8_grow_118 (by decide) (by have := popc_le _ hrt; omega) (by have := popc_le _ hrl; omega) (fun c7 => ?_) (fun c7 => ?_)
            ·
              have hcond : ¬ (free &&& bt (yN + 1) ≠ 0 ∧ popc (ringN t (yN + 1)) = popc (ringN f (lowN left))) := fun q => by omega
              have hF : growF n f t 3 g left free (yN + 1) = [] := if_neg hcond
              refine v_iinc (ls' := [(8, _), (9, _), (0, _), (1, _), (2, _), (3, _), (4, _), (5, _), (6, _), (7, _)]) 9 (pc' := 156) rfl dX8_grow_153 rfl rfl rfl ?_
              refine v_nl (fun y' hy' => ?_)
              refine v_goto (tgt := 76) dX8_grow_156 (by decide) ?_
              refine v_ls [2, 3, 4, 5, 6, 7, 8, 9, 0] rfl ?_
              exact ih0 (y') wl (⟨yN + 1, by omega, by omega, by show App w wl m (catY (growF n f t 3 g left free) yN ++ (growF n f t 3 g left free) (yN + 1)); rw [hF, List.append_nil]; exact happ⟩) (by omega)
            ·
              have hcond : free &&& bt (yN + 1) ≠ 0 ∧ popc (ringN t (yN + 1)) = popc (ringN f (lowN left)) := ⟨fun e => by omega, by omega⟩
              have hF : growF n f t 3 g left free (yN + 1) = growL n f t 3 (lay f t (lowN left) (yN + 1) g (popc (ringN f (lowN left)))) (andn left (ringN f (lowN left))) (andn free (ringN t (yN + 1))) := if_pos hcond
              refine v_aload_n 1 (pc' := 122) rfl dX8_grow_121 rfl rfl ?_
              refine v_iload_n 2 (pc' := 123) rfl dX8_grow_122 rfl rfl ?_
              refine v_aload_n 1 (pc' := 124) rfl dX8_grow_123 rfl rfl ?_
              refine v_iload 6 (pc' := 126) rfl dX8_grow_124 rfl ?_
              refine v_iload 9 (pc' := 128) rfl dX8_grow_126 rfl ?_
              refine v_iload 8 (pc' := 130) rfl dX8_grow_128 rfl ?_
              refine v_cVP (pc' := 133) rfl dX8_grow_130 lk_RX8_63 ly_7 rfl (c_laid l G (hf.b7 (by decide)) (ht.b7 (by decide)) hlowest1 hlow.1 hlow.2 (y := yN + 1) (by omega) (by omega) (by omega) hbitCount1 (popc_le _ hrl) hst.2.2.1 wl hinl.2.1 hinl.2.2.1) rfl rfl rfl ?_
              refine v_nm (fun laid1 hlaid1 => ?_)
              refine v_ior (z := ((hx (lay f t (lowN left) (yN + 1) g (popc (ringN f (lowN left)))) : Nat) : Int)) (pc' := 134) rfl dX8_grow_133 (by rw [hr, hlaid1, iz_or, lay_or (f := f) (t := t) (g := g) (x := lowN left) (y := yN + 1) (hf.b7 (by decide)) (ht.b7 (by decide)) hok.2.1 hlow.1 hlow.2 (by omega) (by omega) (popc (ringN f (lowN left))) hst.2.2.1 (fun i _ => hst.2.2.2 i)]) ?_
              refine v_iload_n 3 (pc' := 135) rfl dX8_grow_134 rfl rfl ?_
              refine v_iload 7 (pc' := 137) rfl dX8_grow_135 rfl ?_
              refine v_iconst (pc' := 138) rfl dX8_grow_137 ?_
              refine v_ixor (pc' := 139) rfl dX8_grow_138 (bxor_iz ring' (-1)) ?_
              refine v_iand (z := ((andn left (ringN f (lowN left)) : Nat) : Int)) (pc' := 140) rfl dX8_grow_139 (by rw [hl, hring']; exact andn_bits _ hl7 _ hrl) ?_
              refine v_iload_n 4 (pc' := 141) rfl dX8_grow_140 rfl rfl ?_
              refine v_iload 0 (pc' := 143) rfl dX8_grow_141 rfl ?_
              refine v_iconst (pc' := 144) rfl dX8_grow_143 ?_
              refine v_ixor (pc' := 145) rfl dX8_grow_144 (bxor_iz goal' (-1)) ?_
              refine v_iand (z := ((andn free (ringN t (yN + 1)) : Nat) : Int)) (pc' := 146) rfl dX8_grow_145 (by rw [hfr, hgoal']; exact andn_bits _ hfl _ hrt) ?_
              refine v_iload 5 (pc' := 148) rfl dX8_grow_146 rfl ?_
              refine v_iconst (pc' := 149) rfl dX8_grow_148 ?_
              refine v_iadd (pc' := 150) rfl dX8_grow_149 ?_
              refine v_cSv (pc' := 153) rfl dX8_grow_150 lk_RX8_47 rfl (c_grow3 l G hn7 hf ht (g := lay f t (lowN left) (yN + 1) g (popc (ringN f (lowN left)))) rfl rfl hst.1 rfl (andn_lt7 hfl) (by omega) (by have := hst.2.1; omega) (m := m + (catY (growF n f t 3 g left free) yN).length) (by have := catY_len (growF n f t 3 g left free) n yN (by omega); rw [hF] at this; rw [growL_s, if_neg (show ¬ left = 0 by omega)] at hlen; omega) wl hinl happ.1) rfl rfl rfl (fun grow1 w8 hq8 => ?_)
              refine v_iinc (ls' := [(8, _), (9, _), (0, _), (1, _), (2, _), (3, _), (4, _), (5, _), (6, _), (7, _)]) 9 (pc' := 156) rfl dX8_grow_153 rfl rfl rfl ?_
              refine v_nl (fun y' hy' => ?_)
              refine v_goto (tgt := 76) dX8_grow_156 (by decide) ?_
              refine v_ls [2, 3, 4, 5, 6, 7, 8, 9, 0] rfl ?_
              exact ih0 (y') w8 (⟨yN + 1, by omega, by omega, by show App w w8 m (catY (growF n f t 3 g left free) yN ++ (growF n f t 3 g left free) (yN + 1)); rw [hF]; exact happ.tr hq8⟩) (by omega)
    ·
      refine v_aload_n 0 (pc' := 23) rfl dX8_grow_22 rfl rfl ?_
      refine v_getR (pc' := 26) rfl dX8_grow_23 fk_RX8_9 ly_7 rfl ?_
      refine v_aload_n 0 (pc' := 27) rfl dX8_grow_26 rfl rfl ?_
      refine v_get (z := (m : Int)) (pc' := 30) rfl dX8_grow_27 fk_RX8_31 ly_7 rfl (hm) ?_
      refine v_iload_n 1 (pc' := 31) rfl dX8_grow_30 rfl rfl ?_
      refine v_iast (pc' := 32) rfl dX8_grow_31 ly_8 (by omega) (by omega) rfl ?_
      refine v_nmw (fun w1 hw1 => ?_)
      have hm : w1 7 6 = (m : Int) := by rw [hw1, up_ne _ _ (by omega)]; exact hm
      refine v_aload_n 0 (pc' := 33) rfl dX8_grow_32 rfl rfl ?_
      refine v_dupR (pc' := 34) rfl dX8_grow_33 ?_
      refine v_get (z := (m : Int)) (pc' := 37) rfl dX8_grow_34 fk_RX8_31 ly_7 rfl (hm) ?_
      refine v_iconst (pc' := 38) rfl dX8_grow_37 ?_
      refine v_iadd (pc' := 39) rfl dX8_grow_38 ?_
      refine v_put (pc' := 42) rfl dX8_grow_39 fi_RX8_31 ly_7 rfl ?_
      refine v_nmw (fun w2 hw2 => ?_)
      have F7_6 : w2 7 6 = ((m : Int) + 1) := by rw [hw2, up_eq]
      refine v_vret dX8_grow_42 ?_
      rw [h0app (by omega)]
      exact App.one (by rw [hw2, hw1, show ((m : Int)).toNat = m by omega, hr])
  ·
    refine v_vret dX8_grow_17 ?_
    have hnil : growL n f t 4 g left free = [] := List.eq_nil_of_length_eq_zero (by omega)
    rw [hnil]
    exact App.rf hm
set_option maxHeartbeats 4000000 in
set_option maxRecDepth 100000 in
theorem c_grow5 (l : Launch) (G : Gx) {r0 l0 f0 d0 : Int} {n : Nat} {f t g : Nat → Nat} {left free m : Nat} (hn7 : n ≤ 7) (hf : Pm 7 f) (ht : Pm 7 t) (hr : r0 = (hx g : Nat)) (hl : l0 = left) (hok : LeftOK f g left) (hfr : f0 = free) (hfl : free < 128) (hd : 0 ≤ d0 ∧ d0 + 5 ≤ 7) (hp : popc left ≤ 5) (hlen : m + (growL n f t 5 g left free).length ≤ 5040) (w : Wd) (hin : RelIn w n f t) (hm : w 7 6 = (m : Nat)) : Sp l G 6 mX8_grow [aR 7, aI (r0), aI (l0), aI (f0), aI (d0)] w (fun _ w' => App w w' m (growL n f t 5 g left free)) := by
  have hl7 := hok.1
  have h0app : left = 0 → growL n f t 5 g left free = [g] := fun e => by rw [growL_s, if_pos e]
  refine Sp_of RX8 rfl (by decide +kernel) rfl (Nat.le_of_ble_eq_true rfl) ?_
  refine v_iload 4 (pc' := 2) rfl dX8_grow_0 rfl ?_
  refine v_bipush (pc' := 4) rfl dX8_grow_2 rfl ?_
  refine v_icmp_gt (pc' := 7) (tgt := 17) rfl dX8_grow_4 (by decide) (by omega) (by omega) (fun c0 => absurd c0 (by omega)) (fun c0 => ?_)
  refine v_aload_n 0 (pc' := 8) rfl dX8_grow_7 rfl rfl ?_
  refine v_get (z := (m : Int)) (pc' := 11) rfl dX8_grow_8 fk_RX8_31 ly_7 rfl (hm) ?_
  refine v_sipush (pc' := 14) rfl dX8_grow_11 rfl ?_
  refine v_icmp_lt (pc' := 17) (tgt := 18) rfl dX8_grow_14 (by decide) (by omega) (by omega) (fun c1 => ?_) (fun c1 => ?_)
  ·
    refine v_iload_n 2 (pc' := 19) rfl dX8_grow_18 rfl rfl ?_
    refine v_if_ne (pc' := 22) (tgt := 43) rfl dX8_grow_19 (by decide) (by omega) (fun c2 => ?_) (fun c2 => ?_)
    ·
      have hlow := low_in left hl7 (by omega)
      have hrl := ringN_lt (hf.b7 (by decide)) hlow.1 hlow.2
      refine v_iload_n 2 (pc' := 44) rfl dX8_grow_43 rfl rfl ?_
      refine v_cSP (pc' := 47) rfl dX8_grow_44 lk_RX8_52 rfl (c_lowest l G hl hl7 (by omega) w) rfl rfl rfl ?_
      refine v_nm (fun lowest1 hlowest1 => ?_)
      refine v_istore (ls' := [(5, _), (0, _), (1, _), (2, _), (3, _), (4, _)]) (pc' := 49) rfl dX8_grow_47 rfl rfl ?_
      refine v_iload 0 (pc' := 51) rfl dX8_grow_49 rfl ?_
      refine v_bipush (pc' := 53) rfl dX8_grow_51 rfl ?_
      refine v_icmp_le (pc' := 56) (tgt := 57) rfl dX8_grow_53 (by decide) (by omega) (by omega) (fun c3 => ?_) (fun c3 => absurd c3 (by omega))
      refine v_aload_n 1 (pc' := 58) rfl dX8_grow_57 rfl rfl ?_
      refine v_getR (pc' := 61) rfl dX8_grow_58 fk_RX8_15 ly_7 rfl ?_
      refine v_iload 0 (pc' := 63) rfl dX8_grow_61 rfl ?_
      refine v_iald (z := ((ringN f (lowN left) : Nat) : Int)) (pc' := 64) rfl dX8_grow_63 ly_9 (by omega) (by omega) rfl (by rw [show lowest1.toNat = lowN left by omega]; exact (hin.2.2.2 _ hlow.1 hlow.2).1) ?_
      refine v_nm (fun ring' hring' => ?_)
      refine v_istore (ls' := [(6, _), (5, _), (0, _), (1, _), (2, _), (3, _), (4, _)]) (pc' := 66) rfl dX8_grow_64 rfl rfl ?_
      refine v_iload 0 (pc' := 68) rfl dX8_grow_66 rfl ?_
      refine v_cSP (pc' := 71) rfl dX8_grow_68 lk_RX8_55 rfl (c_bitCount l G hring' (by omega) w) rfl rfl rfl ?_
      refine v_nm (fun bitCount1 hbitCount1 => ?_)
      refine v_istore (ls' := [(7, _), (6, _), (5, _), (0, _), (1, _), (2, _), (3, _), (4, _)]) (pc' := 73) rfl dX8_grow_71 rfl rfl ?_
      refine v_iconst (pc' := 74) rfl dX8_grow_73 ?_
      refine v_istore (ls' := [(8, _), (7, _), (6, _), (5, _), (0, _), (1, _), (2, _), (3, _), (4, _)]) (pc' := 76) rfl dX8_grow_74 rfl rfl ?_
      refine v_ls [4, 5, 6, 7, 8, 3, 2, 1, 0] rfl ?_
      refine v_loop2 76 (fun (y : Int) (wl : Wd) => ∃ yN : Nat, y = yN + 1 ∧ yN ≤ n ∧ App w wl m (catY (growF n f t 4 g left free) yN)) (fun (y : Int) (wl : Wd) => (8 - y).toNat) (fun (y : Int) (wl : Wd) => [(0, aR 7), (1, aI (r0)), (2, aI (l0)), (3, aI (f0)), (4, aI (d0)), (5, aI (lowest1)), (6, aI (ring')), (7, aI (bitCount1)), (8, aI (y))]) (fun (y : Int) (wl : Wd) => []) (fun (y : Int) (wl : Wd) => wl) (fun y wl hI0 ih0 => ?_) (1) w (⟨0, rfl, by omega, App.rf hm⟩)
      obtain ⟨yN, hy, hyn, happ⟩ := hI0
      have hinl := hin.app happ
      have hrgt := (hinl.2.2.2 (yN + 1))
      refine v_iload 8 (pc' := 78) rfl dX8_grow_76 rfl ?_
      refine v_aload_n 0 (pc' := 79) rfl dX8_grow_78 rfl rfl ?_
      refine v_get (z := (n : Int)) (pc' := 82) rfl dX8_grow_79 fk_RX8_21 ly_7 rfl (hinl.1) ?_
      refine v_icmp_gt (pc' := 85) (tgt := 159) rfl dX8_grow_82 (by decide) (by omega) (by omega) (fun c4 => ?_) (fun c4 => ?_)
      ·
        refine v_vret dX8_grow_159 ?_
        have e : yN = n := by omega
        rw [growL_s, if_neg (by omega)]
        rw [e] at happ
        exact happ
      ·
        refine v_iload 8 (pc' := 87) rfl dX8_grow_85 rfl ?_
        refine v_bipush (pc' := 89) rfl dX8_grow_87 rfl ?_
        refine v_icmp_gt (pc' := 92) (tgt := 159) rfl dX8_grow_89 (by decide) (by omega) (by omega) (fun c5 => ?_) (fun c5 => ?_)
        ·
          refine v_vret dX8_grow_159 ?_
          have e : yN = n := by omega
          rw [growL_s, if_neg (by omega)]
          rw [e] at happ
          exact happ
        ·
          have hrt := ringN_lt (ht.b7 (by decide)) (x := yN + 1) (by omega) (by omega)
          have hst := hok.step hf ht (by omega) (y := yN + 1) (by omega) (by omega)
          refine v_aload_n 0 (pc' := 93) rfl dX8_grow_92 rfl rfl ?_
          refine v_getR (pc' := 96) rfl dX8_grow_93 fk_RX8_18 ly_7 rfl ?_
          refine v_iload 8 (pc' := 98) rfl dX8_grow_96 rfl ?_
          refine v_iald (z := ((ringN t (yN + 1) : Nat) : Int)) (pc' := 99) rfl dX8_grow_98 ly_10 (by omega) (by omega) rfl (by rw [show y.toNat = yN + 1 by omega]; exact (hinl.2.2.2 _ (by omega) (by omega)).2) ?_
          refine v_nm (fun goal' hgoal' => ?_)
          refine v_istore (ls' := [(9, _), (0, _), (1, _), (2, _), (3, _), (4, _), (5, _), (6, _), (7, _), (8, _)]) (pc' := 101) rfl dX8_grow_99 rfl rfl ?_
          refine v_iload_n 4 (pc' := 102) rfl dX8_grow_101 rfl rfl ?_
          refine v_iload 9 (pc' := 104) rfl dX8_grow_102 rfl ?_
          refine v_cSP (pc' := 107) rfl dX8_grow_104 lk_RX8_60 rfl (c_bit l G (x := yN + 1) (by omega) (by omega) (by omega) wl) rfl rfl rfl ?_
          refine v_nm (fun bit1 hbit1 => ?_)
          refine v_iand (z := ((free &&& bt (yN + 1) : Nat) : Int)) (pc' := 108) rfl dX8_grow_107 (iz_andE hfr hbit1) ?_
          refine v_if_eq (pc' := 111) (tgt := 153) rfl dX8_grow_108 (by decide) (by have := and_lt7 (b := bt (yN + 1)) hfl; omega) (fun c6 => ?_) (fun c6 => ?_)
          ·
            have hcond : ¬ (free &&& bt (yN + 1) ≠ 0 ∧ popc (ringN t (yN + 1)) = popc (ringN f (lowN left))) := fun q => q.1 (by omega)
            have hF : growF n f t 4 g left free (yN + 1) = [] := if_neg hcond
            refine v_iinc (ls' := [(8, _), (9, _), (0, _), (1, _), (2, _), (3, _), (4, _), (5, _), (6, _), (7, _)]) 9 (pc' := 156) rfl dX8_grow_153 rfl rfl rfl ?_
            refine v_nl (fun y' hy' => ?_)
            refine v_goto (tgt := 76) dX8_grow_156 (by decide) ?_
            refine v_ls [2, 3, 4, 5, 6, 7, 8, 9, 0] rfl ?_
            exact ih0 (y') wl (⟨yN + 1, by omega, by omega, by show App w wl m (catY (growF n f t 4 g left free) yN ++ (growF n f t 4 g left free) (yN + 1)); rw [hF, List.append_nil]; exact happ⟩) (by omega)
          ·
            refine v_iload 0 (pc' := 113) rfl dX8_grow_111 rfl ?_
            refine v_cSP (pc' := 116) rfl dX8_grow_113 lk_RX8_55 rfl (c_bitCount l G hgoal' (by have := ringN_lt (ht.b7 (by decide)) (x := yN + 1) (by omega) (by omega); omega) wl) rfl rfl rfl ?_
            refine v_nm (fun bitCount2 hbitCount2 => ?_)
            refine v_iload 8 (pc' := 118) rfl dX8_grow_116 rfl ?_
            refine v_icmp_ne (pc' := 121) (tgt := 153) rfl dX8_grow_118 (by decide) (by have := popc_le _ hrt; omega) (by have := popc_le _ hrl; omega) (fun c7 => ?_) (fun c7 => ?_)
            ·
              have hcond : ¬ (free &&& bt (yN + 1) ≠ 0 ∧ popc (ringN t (yN + 1)) = popc (ringN f (lowN left))) := fun q => by omega
              have hF : growF n f t 4 g left free (yN + 1) = [] := if_neg hcond
              refine v_iinc (ls' := [(8, _), (9, _), (0, _), (1, _), (2, _), (3, _), (4, _), (5, _), (6, _), (7, _)]) 9 (pc' := 156) rfl dX8_grow_153 rfl rfl rfl ?_
              refine v_nl (fun y' hy' => ?_)
              refine v_goto (tgt := 76) dX8_grow_156 (by decide) ?_
              refine v_ls [2, 3, 4, 5, 6, 7, 8, 9, 0] rfl ?_
              exact ih0 (y') wl (⟨yN + 1, by omega, by omega, by show App w wl m (catY (growF n f t 4 g left free) yN ++ (growF n f t 4 g left free) (yN + 1)); rw [hF, List.append_nil]; exact happ⟩) (by omega)
            ·
              have hcond : free &&& bt (yN + 1) ≠ 0 ∧ popc (ringN t (yN + 1)) = popc (ringN f (lowN left)) := ⟨fun e => by omega, by omega⟩
              have hF : growF n f t 4 g left free (yN + 1) = growL n f t 4 (lay f t (lowN left) (yN + 1) g (popc (ringN f (lowN left)))) (andn left (ringN f (lowN left))) (andn free (ringN t (yN + 1))) := if_pos hcond
              refine v_aload_n 1 (pc' := 122) rfl dX8_grow_121 rfl rfl ?_
              refine v_iload_n 2 (pc' := 123) rfl dX8_grow_122 rfl rfl ?_
              refine v_aload_n 1 (pc' := 124) rfl dX8_grow_123 rfl rfl ?_
              refine v_iload 6 (pc' := 126) rfl dX8_grow_124 rfl ?_
              refine v_iload 9 (pc' := 128) rfl dX8_grow_126 rfl ?_
              refine v_iload 8 (pc' := 130) rfl dX8_grow_128 rfl ?_
              refine v_cVP (pc' := 133) rfl dX8_grow_130 lk_RX8_63 ly_7 rfl (c_laid l G (hf.b7 (by decide)) (ht.b7 (by decide)) hlowest1 hlow.1 hlow.2 (y := yN + 1) (by omega) (by omega) (by omega) hbitCount1 (popc_le _ hrl) hst.2.2.1 wl hinl.2.1 hinl.2.2.1) rfl rfl rfl ?_
              refine v_nm (fun laid1 hlaid1 => ?_)
              refine v_ior (z := ((hx (lay f t (lowN left) (yN + 1) g (popc (ringN f (lowN left)))) : Nat) : Int)) (pc' := 134) rfl dX8_grow_133 (by rw [hr, hlaid1, iz_or, lay_or (f := f) (t := t) (g := g) (x := lowN left) (y := yN + 1) (hf.b7 (by decide)) (ht.b7 (by decide)) hok.2.1 hlow.1 hlow.2 (by omega) (by omega) (popc (ringN f (lowN left))) hst.2.2.1 (fun i _ => hst.2.2.2 i)]) ?_
              refine v_iload_n 3 (pc' := 135) rfl dX8_grow_134 rfl rfl ?_
              refine v_iload 7 (pc' := 137) rfl dX8_grow_135 rfl ?_
              refine v_iconst (pc' := 138) rfl dX8_grow_137 ?_
              refine v_ixor (pc' := 139) rfl dX8_grow_138 (bxor_iz ring' (-1)) ?_
              refine v_iand (z := ((andn left (ringN f (lowN left)) : Nat) : Int)) (pc' := 140) rfl dX8_grow_139 (by rw [hl, hring']; exact andn_bits _ hl7 _ hrl) ?_
              refine v_iload_n 4 (pc' := 141) rfl dX8_grow_140 rfl rfl ?_
              refine v_iload 0 (pc' := 143) rfl dX8_grow_141 rfl ?_
              refine v_iconst (pc' := 144) rfl dX8_grow_143 ?_
              refine v_ixor (pc' := 145) rfl dX8_grow_144 (bxor_iz goal' (-1)) ?_
              refine v_iand (z := ((andn free (ringN t (yN + 1)) : Nat) : Int)) (pc' := 146) rfl dX8_grow_145 (by rw [hfr, hgoal']; exact andn_bits _ hfl _ hrt) ?_
              refine v_iload 5 (pc' := 148) rfl dX8_grow_146 rfl ?_
              refine v_iconst (pc' := 149) rfl dX8_grow_148 ?_
              refine v_iadd (pc' := 150) rfl dX8_grow_149 ?_
              refine v_cSv (pc' := 153) rfl dX8_grow_150 lk_RX8_47 rfl (c_grow4 l G hn7 hf ht (g := lay f t (lowN left) (yN + 1) g (popc (ringN f (lowN left)))) rfl rfl hst.1 rfl (andn_lt7 hfl) (by omega) (by have := hst.2.1; omega) (m := m + (catY (growF n f t 4 g left free) yN).length) (by have := catY_len (growF n f t 4 g left free) n yN (by omega); rw [hF] at this; rw [growL_s, if_neg (show ¬ left = 0 by omega)] at hlen; omega) wl hinl happ.1) rfl rfl rfl (fun grow1 w8 hq8 => ?_)
              refine v_iinc (ls' := [(8, _), (9, _), (0, _), (1, _), (2, _), (3, _), (4, _), (5, _), (6, _), (7, _)]) 9 (pc' := 156) rfl dX8_grow_153 rfl rfl rfl ?_
              refine v_nl (fun y' hy' => ?_)
              refine v_goto (tgt := 76) dX8_grow_156 (by decide) ?_
              refine v_ls [2, 3, 4, 5, 6, 7, 8, 9, 0] rfl ?_
              exact ih0 (y') w8 (⟨yN + 1, by omega, by omega, by show App w w8 m (catY (growF n f t 4 g left free) yN ++ (growF n f t 4 g left free) (yN + 1)); rw [hF]; exact happ.tr hq8⟩) (by omega)
    ·
      refine v_aload_n 0 (pc' := 23) rfl dX8_grow_22 rfl rfl ?_
      refine v_getR (pc' := 26) rfl dX8_grow_23 fk_RX8_9 ly_7 rfl ?_
      refine v_aload_n 0 (pc' := 27) rfl dX8_grow_26 rfl rfl ?_
      refine v_get (z := (m : Int)) (pc' := 30) rfl dX8_grow_27 fk_RX8_31 ly_7 rfl (hm) ?_
      refine v_iload_n 1 (pc' := 31) rfl dX8_grow_30 rfl rfl ?_
      refine v_iast (pc' := 32) rfl dX8_grow_31 ly_8 (by omega) (by omega) rfl ?_
      refine v_nmw (fun w1 hw1 => ?_)
      have hm : w1 7 6 = (m : Int) := by rw [hw1, up_ne _ _ (by omega)]; exact hm
      refine v_aload_n 0 (pc' := 33) rfl dX8_grow_32 rfl rfl ?_
      refine v_dupR (pc' := 34) rfl dX8_grow_33 ?_
      refine v_get (z := (m : Int)) (pc' := 37) rfl dX8_grow_34 fk_RX8_31 ly_7 rfl (hm) ?_
      refine v_iconst (pc' := 38) rfl dX8_grow_37 ?_
      refine v_iadd (pc' := 39) rfl dX8_grow_38 ?_
      refine v_put (pc' := 42) rfl dX8_grow_39 fi_RX8_31 ly_7 rfl ?_
      refine v_nmw (fun w2 hw2 => ?_)
      have F7_6 : w2 7 6 = ((m : Int) + 1) := by rw [hw2, up_eq]
      refine v_vret dX8_grow_42 ?_
      rw [h0app (by omega)]
      exact App.one (by rw [hw2, hw1, show ((m : Int)).toNat = m by omega, hr])
  ·
    refine v_vret dX8_grow_17 ?_
    have hnil : growL n f t 5 g left free = [] := List.eq_nil_of_length_eq_zero (by omega)
    rw [hnil]
    exact App.rf hm
set_option maxHeartbeats 4000000 in
set_option maxRecDepth 100000 in
theorem c_grow6 (l : Launch) (G : Gx) {r0 l0 f0 d0 : Int} {n : Nat} {f t g : Nat → Nat} {left free m : Nat} (hn7 : n ≤ 7) (hf : Pm 7 f) (ht : Pm 7 t) (hr : r0 = (hx g : Nat)) (hl : l0 = left) (hok : LeftOK f g left) (hfr : f0 = free) (hfl : free < 128) (hd : 0 ≤ d0 ∧ d0 + 6 ≤ 7) (hp : popc left ≤ 6) (hlen : m + (growL n f t 6 g left free).length ≤ 5040) (w : Wd) (hin : RelIn w n f t) (hm : w 7 6 = (m : Nat)) : Sp l G 7 mX8_grow [aR 7, aI (r0), aI (l0), aI (f0), aI (d0)] w (fun _ w' => App w w' m (growL n f t 6 g left free)) := by
  have hl7 := hok.1
  have h0app : left = 0 → growL n f t 6 g left free = [g] := fun e => by rw [growL_s, if_pos e]
  refine Sp_of RX8 rfl (by decide +kernel) rfl (Nat.le_of_ble_eq_true rfl) ?_
  refine v_iload 4 (pc' := 2) rfl dX8_grow_0 rfl ?_
  refine v_bipush (pc' := 4) rfl dX8_grow_2 rfl ?_
  refine v_icmp_gt (pc' := 7) (tgt := 17) rfl dX8_grow_4 (by decide) (by omega) (by omega) (fun c0 => absurd c0 (by omega)) (fun c0 => ?_)
  refine v_aload_n 0 (pc' := 8) rfl dX8_grow_7 rfl rfl ?_
  refine v_get (z := (m : Int)) (pc' := 11) rfl dX8_grow_8 fk_RX8_31 ly_7 rfl (hm) ?_
  refine v_sipush (pc' := 14) rfl dX8_grow_11 rfl ?_
  refine v_icmp_lt (pc' := 17) (tgt := 18) rfl dX8_grow_14 (by decide) (by omega) (by omega) (fun c1 => ?_) (fun c1 => ?_)
  ·
    refine v_iload_n 2 (pc' := 19) rfl dX8_grow_18 rfl rfl ?_
    refine v_if_ne (pc' := 22) (tgt := 43) rfl dX8_grow_19 (by decide) (by omega) (fun c2 => ?_) (fun c2 => ?_)
    ·
      have hlow := low_in left hl7 (by omega)
      have hrl := ringN_lt (hf.b7 (by decide)) hlow.1 hlow.2
      refine v_iload_n 2 (pc' := 44) rfl dX8_grow_43 rfl rfl ?_
      refine v_cSP (pc' := 47) rfl dX8_grow_44 lk_RX8_52 rfl (c_lowest l G hl hl7 (by omega) w) rfl rfl rfl ?_
      refine v_nm (fun lowest1 hlowest1 => ?_)
      refine v_istore (ls' := [(5, _), (0, _), (1, _), (2, _), (3, _), (4, _)]) (pc' := 49) rfl dX8_grow_47 rfl rfl ?_
      refine v_iload 0 (pc' := 51) rfl dX8_grow_49 rfl ?_
      refine v_bipush (pc' := 53) rfl dX8_grow_51 rfl ?_
      refine v_icmp_le (pc' := 56) (tgt := 57) rfl dX8_grow_53 (by decide) (by omega) (by omega) (fun c3 => ?_) (fun c3 => absurd c3 (by omega))
      refine v_aload_n 1 (pc' := 58) rfl dX8_grow_57 rfl rfl ?_
      refine v_getR (pc' := 61) rfl dX8_grow_58 fk_RX8_15 ly_7 rfl ?_
      refine v_iload 0 (pc' := 63) rfl dX8_grow_61 rfl ?_
      refine v_iald (z := ((ringN f (lowN left) : Nat) : Int)) (pc' := 64) rfl dX8_grow_63 ly_9 (by omega) (by omega) rfl (by rw [show lowest1.toNat = lowN left by omega]; exact (hin.2.2.2 _ hlow.1 hlow.2).1) ?_
      refine v_nm (fun ring' hring' => ?_)
      refine v_istore (ls' := [(6, _), (5, _), (0, _), (1, _), (2, _), (3, _), (4, _)]) (pc' := 66) rfl dX8_grow_64 rfl rfl ?_
      refine v_iload 0 (pc' := 68) rfl dX8_grow_66 rfl ?_
      refine v_cSP (pc' := 71) rfl dX8_grow_68 lk_RX8_55 rfl (c_bitCount l G hring' (by omega) w) rfl rfl rfl ?_
      refine v_nm (fun bitCount1 hbitCount1 => ?_)
      refine v_istore (ls' := [(7, _), (6, _), (5, _), (0, _), (1, _), (2, _), (3, _), (4, _)]) (pc' := 73) rfl dX8_grow_71 rfl rfl ?_
      refine v_iconst (pc' := 74) rfl dX8_grow_73 ?_
      refine v_istore (ls' := [(8, _), (7, _), (6, _), (5, _), (0, _), (1, _), (2, _), (3, _), (4, _)]) (pc' := 76) rfl dX8_grow_74 rfl rfl ?_
      refine v_ls [4, 5, 6, 7, 8, 3, 2, 1, 0] rfl ?_
      refine v_loop2 76 (fun (y : Int) (wl : Wd) => ∃ yN : Nat, y = yN + 1 ∧ yN ≤ n ∧ App w wl m (catY (growF n f t 5 g left free) yN)) (fun (y : Int) (wl : Wd) => (8 - y).toNat) (fun (y : Int) (wl : Wd) => [(0, aR 7), (1, aI (r0)), (2, aI (l0)), (3, aI (f0)), (4, aI (d0)), (5, aI (lowest1)), (6, aI (ring')), (7, aI (bitCount1)), (8, aI (y))]) (fun (y : Int) (wl : Wd) => []) (fun (y : Int) (wl : Wd) => wl) (fun y wl hI0 ih0 => ?_) (1) w (⟨0, rfl, by omega, App.rf hm⟩)
      obtain ⟨yN, hy, hyn, happ⟩ := hI0
      have hinl := hin.app happ
      have hrgt := (hinl.2.2.2 (yN + 1))
      refine v_iload 8 (pc' := 78) rfl dX8_grow_76 rfl ?_
      refine v_aload_n 0 (pc' := 79) rfl dX8_grow_78 rfl rfl ?_
      refine v_get (z := (n : Int)) (pc' := 82) rfl dX8_grow_79 fk_RX8_21 ly_7 rfl (hinl.1) ?_
      refine v_icmp_gt (pc' := 85) (tgt := 159) rfl dX8_grow_82 (by decide) (by omega) (by omega) (fun c4 => ?_) (fun c4 => ?_)
      ·
        refine v_vret dX8_grow_159 ?_
        have e : yN = n := by omega
        rw [growL_s, if_neg (by omega)]
        rw [e] at happ
        exact happ
      ·
        refine v_iload 8 (pc' := 87) rfl dX8_grow_85 rfl ?_
        refine v_bipush (pc' := 89) rfl dX8_grow_87 rfl ?_
        refine v_icmp_gt (pc' := 92) (tgt := 159) rfl dX8_grow_89 (by decide) (by omega) (by omega) (fun c5 => ?_) (fun c5 => ?_)
        ·
          refine v_vret dX8_grow_159 ?_
          have e : yN = n := by omega
          rw [growL_s, if_neg (by omega)]
          rw [e] at happ
          exact happ
        ·
          have hrt := ringN_lt (ht.b7 (by decide)) (x := yN + 1) (by omega) (by omega)
          have hst := hok.step hf ht (by omega) (y := yN + 1) (by omega) (by omega)
          refine v_aload_n 0 (pc' := 93) rfl dX8_grow_92 rfl rfl ?_
          refine v_getR (pc' := 96) rfl dX8_grow_93 fk_RX8_18 ly_7 rfl ?_
          refine v_iload 8 (pc' := 98) rfl dX8_grow_96 rfl ?_
          refine v_iald (z := ((ringN t (yN + 1) : Nat) : Int)) (pc' := 99) rfl dX8_grow_98 ly_10 (by omega) (by omega) rfl (by rw [show y.toNat = yN + 1 by omega]; exact (hinl.2.2.2 _ (by omega) (by omega)).2) ?_
          refine v_nm (fun goal' hgoal' => ?_)
          refine v_istore (ls' := [(9, _), (0, _), (1, _), (2, _), (3, _), (4, _), (5, _), (6, _), (7, _), (8, _)]) (pc' := 101) rfl dX8_grow_99 rfl rfl ?_
          refine v_iload_n 4 (pc' := 102) rfl dX8_grow_101 rfl rfl ?_
          refine v_iload 9 (pc' := 104) rfl dX8_grow_102 rfl ?_
          refine v_cSP (pc' := 107) rfl dX8_grow_104 lk_RX8_60 rfl (c_bit l G (x := yN + 1) (by omega) (by omega) (by omega) wl) rfl rfl rfl ?_
          refine v_nm (fun bit1 hbit1 => ?_)
          refine v_iand (z := ((free &&& bt (yN + 1) : Nat) : Int)) (pc' := 108) rfl dX8_grow_107 (iz_andE hfr hbit1) ?_
          refine v_if_eq (pc' := 111) (tgt := 153) rfl dX8_grow_108 (by decide) (by have := and_lt7 (b := bt (yN + 1)) hfl; omega) (fun c6 => ?_) (fun c6 => ?_)
          ·
            have hcond : ¬ (free &&& bt (yN + 1) ≠ 0 ∧ popc (ringN t (yN + 1)) = popc (ringN f (lowN left))) := fun q => q.1 (by omega)
            have hF : growF n f t 5 g left free (yN + 1) = [] := if_neg hcond
            refine v_iinc (ls' := [(8, _), (9, _), (0, _), (1, _), (2, _), (3, _), (4, _), (5, _), (6, _), (7, _)]) 9 (pc' := 156) rfl dX8_grow_153 rfl rfl rfl ?_
            refine v_nl (fun y' hy' => ?_)
            refine v_goto (tgt := 76) dX8_grow_156 (by decide) ?_
            refine v_ls [2, 3, 4, 5, 6, 7, 8, 9, 0] rfl ?_
            exact ih0 (y') wl (⟨yN + 1, by omega, by omega, by show App w wl m (catY (growF n f t 5 g left free) yN ++ (growF n f t 5 g left free) (yN + 1)); rw [hF, List.append_nil]; exact happ⟩) (by omega)
          ·
            refine v_iload 0 (pc' := 113) rfl dX8_grow_111 rfl ?_
            refine v_cSP (pc' := 116) rfl dX8_grow_113 lk_RX8_55 rfl (c_bitCount l G hgoal' (by have := ringN_lt (ht.b7 (by decide)) (x := yN + 1) (by omega) (by omega); omega) wl) rfl rfl rfl ?_
            refine v_nm (fun bitCount2 hbitCount2 => ?_)
            refine v_iload 8 (pc' := 118) rfl dX8_grow_116 rfl ?_
            refine v_icmp_ne (pc' := 121) (tgt := 153) rfl dX8_grow_118 (by decide) (by have := popc_le _ hrt; omega) (by have := popc_le _ hrl; omega) (fun c7 => ?_) (fun c7 => ?_)
            ·
              have hcond : ¬ (free &&& bt (yN + 1) ≠ 0 ∧ popc (ringN t (yN + 1)) = popc (ringN f (lowN left))) := fun q => by omega
              have hF : growF n f t 5 g left free (yN + 1) = [] := if_neg hcond
              refine v_iinc (ls' := [(8, _), (9, _), (0, _), (1, _), (2, _), (3, _), (4, _), (5, _), (6, _), (7, _)]) 9 (pc' := 156) rfl dX8_grow_153 rfl rfl rfl ?_
              refine v_nl (fun y' hy' => ?_)
              refine v_goto (tgt := 76) dX8_grow_156 (by decide) ?_
              refine v_ls [2, 3, 4, 5, 6, 7, 8, 9, 0] rfl ?_
              exact ih0 (y') wl (⟨yN + 1, by omega, by omega, by show App w wl m (catY (growF n f t 5 g left free) yN ++ (growF n f t 5 g left free) (yN + 1)); rw [hF, List.append_nil]; exact happ⟩) (by omega)
            ·
              have hcond : free &&& bt (yN + 1) ≠ 0 ∧ popc (ringN t (yN + 1)) = popc (ringN f (lowN left)) := ⟨fun e => by omega, by omega⟩
              have hF : growF n f t 5 g left free (yN + 1) = growL n f t 5 (lay f t (lowN left) (yN + 1) g (popc (ringN f (lowN left)))) (andn left (ringN f (lowN left))) (andn free (ringN t (yN + 1))) := if_pos hcond
              refine v_aload_n 1 (pc' := 122) rfl dX8_grow_121 rfl rfl ?_
              refine v_iload_n 2 (pc' := 123) rfl dX8_grow_122 rfl rfl ?_
              refine v_aload_n 1 (pc' := 124) rfl dX8_grow_123 rfl rfl ?_
              refine v_iload 6 (pc' := 126) rfl dX8_grow_124 rfl ?_
              refine v_iload 9 (pc' := 128) rfl dX8_grow_126 rfl ?_
              refine v_iload 8 (pc' := 130) rfl dX8_grow_128 rfl ?_
              refine v_cVP (pc' := 133) rfl dX8_grow_130 lk_RX8_63 ly_7 rfl (c_laid l G (hf.b7 (by decide)) (ht.b7 (by decide)) hlowest1 hlow.1 hlow.2 (y := yN + 1) (by omega) (by omega) (by omega) hbitCount1 (popc_le _ hrl) hst.2.2.1 wl hinl.2.1 hinl.2.2.1) rfl rfl rfl ?_
              refine v_nm (fun laid1 hlaid1 => ?_)
              refine v_ior (z := ((hx (lay f t (lowN left) (yN + 1) g (popc (ringN f (lowN left)))) : Nat) : Int)) (pc' := 134) rfl dX8_grow_133 (by rw [hr, hlaid1, iz_or, lay_or (f := f) (t := t) (g := g) (x := lowN left) (y := yN + 1) (hf.b7 (by decide)) (ht.b7 (by decide)) hok.2.1 hlow.1 hlow.2 (by omega) (by omega) (popc (ringN f (lowN left))) hst.2.2.1 (fun i _ => hst.2.2.2 i)]) ?_
              refine v_iload_n 3 (pc' := 135) rfl dX8_grow_134 rfl rfl ?_
              refine v_iload 7 (pc' := 137) rfl dX8_grow_135 rfl ?_
              refine v_iconst (pc' := 138) rfl dX8_grow_137 ?_
              refine v_ixor (pc' := 139) rfl dX8_grow_138 (bxor_iz ring' (-1)) ?_
              refine v_iand (z := ((andn left (ringN f (lowN left)) : Nat) : Int)) (pc' := 140) rfl dX8_grow_139 (by rw [hl, hring']; exact andn_bits _ hl7 _ hrl) ?_
              refine v_iload_n 4 (pc' := 141) rfl dX8_grow_140 rfl rfl ?_
              refine v_iload 0 (pc' := 143) rfl dX8_grow_141 rfl ?_
              refine v_iconst (pc' := 144) rfl dX8_grow_143 ?_
              refine v_ixor (pc' := 145) rfl dX8_grow_144 (bxor_iz goal' (-1)) ?_
              refine v_iand (z := ((andn free (ringN t (yN + 1)) : Nat) : Int)) (pc' := 146) rfl dX8_grow_145 (by rw [hfr, hgoal']; exact andn_bits _ hfl _ hrt) ?_
              refine v_iload 5 (pc' := 148) rfl dX8_grow_146 rfl ?_
              refine v_iconst (pc' := 149) rfl dX8_grow_148 ?_
              refine v_iadd (pc' := 150) rfl dX8_grow_149 ?_
              refine v_cSv (pc' := 153) rfl dX8_grow_150 lk_RX8_47 rfl (c_grow5 l G hn7 hf ht (g := lay f t (lowN left) (yN + 1) g (popc (ringN f (lowN left)))) rfl rfl hst.1 rfl (andn_lt7 hfl) (by omega) (by have := hst.2.1; omega) (m := m + (catY (growF n f t 5 g left free) yN).length) (by have := catY_len (growF n f t 5 g left free) n yN (by omega); rw [hF] at this; rw [growL_s, if_neg (show ¬ left = 0 by omega)] at hlen; omega) wl hinl happ.1) rfl rfl rfl (fun grow1 w8 hq8 => ?_)
              refine v_iinc (ls' := [(8, _), (9, _), (0, _), (1, _), (2, _), (3, _), (4, _), (5, _), (6, _), (7, _)]) 9 (pc' := 156) rfl dX8_grow_153 rfl rfl rfl ?_
              refine v_nl (fun y' hy' => ?_)
              refine v_goto (tgt := 76) dX8_grow_156 (by decide) ?_
              refine v_ls [2, 3, 4, 5, 6, 7, 8, 9, 0] rfl ?_
              exact ih0 (y') w8 (⟨yN + 1, by omega, by omega, by show App w w8 m (catY (growF n f t 5 g left free) yN ++ (growF n f t 5 g left free) (yN + 1)); rw [hF]; exact happ.tr hq8⟩) (by omega)
    ·
      refine v_aload_n 0 (pc' := 23) rfl dX8_grow_22 rfl rfl ?_
      refine v_getR (pc' := 26) rfl dX8_grow_23 fk_RX8_9 ly_7 rfl ?_
      refine v_aload_n 0 (pc' := 27) rfl dX8_grow_26 rfl rfl ?_
      refine v_get (z := (m : Int)) (pc' := 30) rfl dX8_grow_27 fk_RX8_31 ly_7 rfl (hm) ?_
      refine v_iload_n 1 (pc' := 31) rfl dX8_grow_30 rfl rfl ?_
      refine v_iast (pc' := 32) rfl dX8_grow_31 ly_8 (by omega) (by omega) rfl ?_
      refine v_nmw (fun w1 hw1 => ?_)
      have hm : w1 7 6 = (m : Int) := by rw [hw1, up_ne _ _ (by omega)]; exact hm
      refine v_aload_n 0 (pc' := 33) rfl dX8_grow_32 rfl rfl ?_
      refine v_dupR (pc' := 34) rfl dX8_grow_33 ?_
      refine v_get (z := (m : Int)) (pc' := 37) rfl dX8_grow_34 fk_RX8_31 ly_7 rfl (hm) ?_
      refine v_iconst (pc' := 38) rfl dX8_grow_37 ?_
      refine v_iadd (pc' := 39) rfl dX8_grow_38 ?_
      refine v_put (pc' := 42) rfl dX8_grow_39 fi_RX8_31 ly_7 rfl ?_
      refine v_nmw (fun w2 hw2 => ?_)
      have F7_6 : w2 7 6 = ((m : Int) + 1) := by rw [hw2, up_eq]
      refine v_vret dX8_grow_42 ?_
      rw [h0app (by omega)]
      exact App.one (by rw [hw2, hw1, show ((m : Int)).toNat = m by omega, hr])
  ·
    refine v_vret dX8_grow_17 ?_
    have hnil : growL n f t 6 g left free = [] := List.eq_nil_of_length_eq_zero (by omega)
    rw [hnil]
    exact App.rf hm
set_option maxHeartbeats 4000000 in
set_option maxRecDepth 100000 in
theorem c_grow7 (l : Launch) (G : Gx) {r0 l0 f0 d0 : Int} {n : Nat} {f t g : Nat → Nat} {left free m : Nat} (hn7 : n ≤ 7) (hf : Pm 7 f) (ht : Pm 7 t) (hr : r0 = (hx g : Nat)) (hl : l0 = left) (hok : LeftOK f g left) (hfr : f0 = free) (hfl : free < 128) (hd : 0 ≤ d0 ∧ d0 + 7 ≤ 7) (hp : popc left ≤ 7) (hlen : m + (growL n f t 7 g left free).length ≤ 5040) (w : Wd) (hin : RelIn w n f t) (hm : w 7 6 = (m : Nat)) : Sp l G 8 mX8_grow [aR 7, aI (r0), aI (l0), aI (f0), aI (d0)] w (fun _ w' => App w w' m (growL n f t 7 g left free)) := by
  have hl7 := hok.1
  have h0app : left = 0 → growL n f t 7 g left free = [g] := fun e => by rw [growL_s, if_pos e]
  refine Sp_of RX8 rfl (by decide +kernel) rfl (Nat.le_of_ble_eq_true rfl) ?_
  refine v_iload 4 (pc' := 2) rfl dX8_grow_0 rfl ?_
  refine v_bipush (pc' := 4) rfl dX8_grow_2 rfl ?_
  refine v_icmp_gt (pc' := 7) (tgt := 17) rfl dX8_grow_4 (by decide) (by omega) (by omega) (fun c0 => absurd c0 (by omega)) (fun c0 => ?_)
  refine v_aload_n 0 (pc' := 8) rfl dX8_grow_7 rfl rfl ?_
  refine v_get (z := (m : Int)) (pc' := 11) rfl dX8_grow_8 fk_RX8_31 ly_7 rfl (hm) ?_
  refine v_sipush (pc' := 14) rfl dX8_grow_11 rfl ?_
  refine v_icmp_lt (pc' := 17) (tgt := 18) rfl dX8_grow_14 (by decide) (by omega) (by omega) (fun c1 => ?_) (fun c1 => ?_)
  ·
    refine v_iload_n 2 (pc' := 19) rfl dX8_grow_18 rfl rfl ?_
    refine v_if_ne (pc' := 22) (tgt := 43) rfl dX8_grow_19 (by decide) (by omega) (fun c2 => ?_) (fun c2 => ?_)
    ·
      have hlow := low_in left hl7 (by omega)
      have hrl := ringN_lt (hf.b7 (by decide)) hlow.1 hlow.2
      refine v_iload_n 2 (pc' := 44) rfl dX8_grow_43 rfl rfl ?_
      refine v_cSP (pc' := 47) rfl dX8_grow_44 lk_RX8_52 rfl (c_lowest l G hl hl7 (by omega) w) rfl rfl rfl ?_
      refine v_nm (fun lowest1 hlowest1 => ?_)
      refine v_istore (ls' := [(5, _), (0, _), (1, _), (2, _), (3, _), (4, _)]) (pc' := 49) rfl dX8_grow_47 rfl rfl ?_
      refine v_iload 0 (pc' := 51) rfl dX8_grow_49 rfl ?_
      refine v_bipush (pc' := 53) rfl dX8_grow_51 rfl ?_
      refine v_icmp_le (pc' := 56) (tgt := 57) rfl dX8_grow_53 (by decide) (by omega) (by omega) (fun c3 => ?_) (fun c3 => absurd c3 (by omega))
      refine v_aload_n 1 (pc' := 58) rfl dX8_grow_57 rfl rfl ?_
      refine v_getR (pc' := 61) rfl dX8_grow_58 fk_RX8_15 ly_7 rfl ?_
      refine v_iload 0 (pc' := 63) rfl dX8_grow_61 rfl ?_
      refine v_iald (z := ((ringN f (lowN left) : Nat) : Int)) (pc' := 64) rfl dX8_grow_63 ly_9 (by omega) (by omega) rfl (by rw [show lowest1.toNat = lowN left by omega]; exact (hin.2.2.2 _ hlow.1 hlow.2).1) ?_
      refine v_nm (fun ring' hring' => ?_)
      refine v_istore (ls' := [(6, _), (5, _), (0, _), (1, _), (2, _), (3, _), (4, _)]) (pc' := 66) rfl dX8_grow_64 rfl rfl ?_
      refine v_iload 0 (pc' := 68) rfl dX8_grow_66 rfl ?_
      refine v_cSP (pc' := 71) rfl dX8_grow_68 lk_RX8_55 rfl (c_bitCount l G hring' (by omega) w) rfl rfl rfl ?_
      refine v_nm (fun bitCount1 hbitCount1 => ?_)
      refine v_istore (ls' := [(7, _), (6, _), (5, _), (0, _), (1, _), (2, _), (3, _), (4, _)]) (pc' := 73) rfl dX8_grow_71 rfl rfl ?_
      refine v_iconst (pc' := 74) rfl dX8_grow_73 ?_
      refine v_istore (ls' := [(8, _), (7, _), (6, _), (5, _), (0, _), (1, _), (2, _), (3, _), (4, _)]) (pc' := 76) rfl dX8_grow_74 rfl rfl ?_
      refine v_ls [4, 5, 6, 7, 8, 3, 2, 1, 0] rfl ?_
      refine v_loop2 76 (fun (y : Int) (wl : Wd) => ∃ yN : Nat, y = yN + 1 ∧ yN ≤ n ∧ App w wl m (catY (growF n f t 6 g left free) yN)) (fun (y : Int) (wl : Wd) => (8 - y).toNat) (fun (y : Int) (wl : Wd) => [(0, aR 7), (1, aI (r0)), (2, aI (l0)), (3, aI (f0)), (4, aI (d0)), (5, aI (lowest1)), (6, aI (ring')), (7, aI (bitCount1)), (8, aI (y))]) (fun (y : Int) (wl : Wd) => []) (fun (y : Int) (wl : Wd) => wl) (fun y wl hI0 ih0 => ?_) (1) w (⟨0, rfl, by omega, App.rf hm⟩)
      obtain ⟨yN, hy, hyn, happ⟩ := hI0
      have hinl := hin.app happ
      have hrgt := (hinl.2.2.2 (yN + 1))
      refine v_iload 8 (pc' := 78) rfl dX8_grow_76 rfl ?_
      refine v_aload_n 0 (pc' := 79) rfl dX8_grow_78 rfl rfl ?_
      refine v_get (z := (n : Int)) (pc' := 82) rfl dX8_grow_79 fk_RX8_21 ly_7 rfl (hinl.1) ?_
      refine v_icmp_gt (pc' := 85) (tgt := 159) rfl dX8_grow_82 (by decide) (by omega) (by omega) (fun c4 => ?_) (fun c4 => ?_)
      ·
        refine v_vret dX8_grow_159 ?_
        have e : yN = n := by omega
        rw [growL_s, if_neg (by omega)]
        rw [e] at happ
        exact happ
      ·
        refine v_iload 8 (pc' := 87) rfl dX8_grow_85 rfl ?_
        refine v_bipush (pc' := 89) rfl dX8_grow_87 rfl ?_
        refine v_icmp_gt (pc' := 92) (tgt := 159) rfl dX8_grow_89 (by decide) (by omega) (by omega) (fun c5 => ?_) (fun c5 => ?_)
        ·
          refine v_vret dX8_grow_159 ?_
          have e : yN = n := by omega
          rw [growL_s, if_neg (by omega)]
          rw [e] at happ
          exact happ
        ·
          have hrt := ringN_lt (ht.b7 (by decide)) (x := yN + 1) (by omega) (by omega)
          have hst := hok.step hf ht (by omega) (y := yN + 1) (by omega) (by omega)
          refine v_aload_n 0 (pc' := 93) rfl dX8_grow_92 rfl rfl ?_
          refine v_getR (pc' := 96) rfl dX8_grow_93 fk_RX8_18 ly_7 rfl ?_
          refine v_iload 8 (pc' := 98) rfl dX8_grow_96 rfl ?_
          refine v_iald (z := ((ringN t (yN + 1) : Nat) : Int)) (pc' := 99) rfl dX8_grow_98 ly_10 (by omega) (by omega) rfl (by rw [show y.toNat = yN + 1 by omega]; exact (hinl.2.2.2 _ (by omega) (by omega)).2) ?_
          refine v_nm (fun goal' hgoal' => ?_)
          refine v_istore (ls' := [(9, _), (0, _), (1, _), (2, _), (3, _), (4, _), (5, _), (6, _), (7, _), (8, _)]) (pc' := 101) rfl dX8_grow_99 rfl rfl ?_
          refine v_iload_n 4 (pc' := 102) rfl dX8_grow_101 rfl rfl ?_
          refine v_iload 9 (pc' := 104) rfl dX8_grow_102 rfl ?_
          refine v_cSP (pc' := 107) rfl dX8_grow_104 lk_RX8_60 rfl (c_bit l G (x := yN + 1) (by omega) (by omega) (by omega) wl) rfl rfl rfl ?_
          refine v_nm (fun bit1 hbit1 => ?_)
          refine v_iand (z := ((free &&& bt (yN + 1) : Nat) : Int)) (pc' := 108) rfl dX8_grow_107 (iz_andE hfr hbit1) ?_
          refine v_if_eq (pc' := 111) (tgt := 153) rfl dX8_grow_108 (by decide) (by have := and_lt7 (b := bt (yN + 1)) hfl; omega) (fun c6 => ?_) (fun c6 => ?_)
          ·
            have hcond : ¬ (free &&& bt (yN + 1) ≠ 0 ∧ popc (ringN t (yN + 1)) = popc (ringN f (lowN left))) := fun q => q.1 (by omega)
            have hF : growF n f t 6 g left free (yN + 1) = [] := if_neg hcond
            refine v_iinc (ls' := [(8, _), (9, _), (0, _), (1, _), (2, _), (3, _), (4, _), (5, _), (6, _), (7, _)]) 9 (pc' := 156) rfl dX8_grow_153 rfl rfl rfl ?_
            refine v_nl (fun y' hy' => ?_)
            refine v_goto (tgt := 76) dX8_grow_156 (by decide) ?_
            refine v_ls [2, 3, 4, 5, 6, 7, 8, 9, 0] rfl ?_
            exact ih0 (y') wl (⟨yN + 1, by omega, by omega, by show App w wl m (catY (growF n f t 6 g left free) yN ++ (growF n f t 6 g left free) (yN + 1)); rw [hF, List.append_nil]; exact happ⟩) (by omega)
          ·
            refine v_iload 0 (pc' := 113) rfl dX8_grow_111 rfl ?_
            refine v_cSP (pc' := 116) rfl dX8_grow_113 lk_RX8_55 rfl (c_bitCount l G hgoal' (by have := ringN_lt (ht.b7 (by decide)) (x := yN + 1) (by omega) (by omega); omega) wl) rfl rfl rfl ?_
            refine v_nm (fun bitCount2 hbitCount2 => ?_)
            refine v_iload 8 (pc' := 118) rfl dX8_grow_116 rfl ?_
            refine v_icmp_ne (pc' := 121) (tgt := 153) rfl dX8_grow_118 (by decide) (by have := popc_le _ hrt; omega) (by have := popc_le _ hrl; omega) (fun c7 => ?_) (fun c7 => ?_)
            ·
              have hcond : ¬ (free &&& bt (yN + 1) ≠ 0 ∧ popc (ringN t (yN + 1)) = popc (ringN f (lowN left))) := fun q => by omega
              have hF : growF n f t 6 g left free (yN + 1) = [] := if_neg hcond
              refine v_iinc (ls' := [(8, _), (9, _), (0, _), (1, _), (2, _), (3, _), (4, _), (5, _), (6, _), (7, _)]) 9 (pc' := 156) rfl dX8_grow_153 rfl rfl rfl ?_
              refine v_nl (fun y' hy' => ?_)
              refine v_goto (tgt := 76) dX8_grow_156 (by decide) ?_
              refine v_ls [2, 3, 4, 5, 6, 7, 8, 9, 0] rfl ?_
              exact ih0 (y') wl (⟨yN + 1, by omega, by omega, by show App w wl m (catY (growF n f t 6 g left free) yN ++ (growF n f t 6 g left free) (yN + 1)); rw [hF, List.append_nil]; exact happ⟩) (by omega)
            ·
              have hcond : free &&& bt (yN + 1) ≠ 0 ∧ popc (ringN t (yN + 1)) = popc (ringN f (lowN left)) := ⟨fun e => by omega, by omega⟩
              have hF : growF n f t 6 g left free (yN + 1) = growL n f t 6 (lay f t (lowN left) (yN + 1) g (popc (ringN f (lowN left)))) (andn left (ringN f (lowN left))) (andn free (ringN t (yN + 1))) := if_pos hcond
              refine v_aload_n 1 (pc' := 122) rfl dX8_grow_121 rfl rfl ?_
              refine v_iload_n 2 (pc' := 123) rfl dX8_grow_122 rfl rfl ?_
              refine v_aload_n 1 (pc' := 124) rfl dX8_grow_123 rfl rfl ?_
              refine v_iload 6 (pc' := 126) rfl dX8_grow_124 rfl ?_
              refine v_iload 9 (pc' := 128) rfl dX8_grow_126 rfl ?_
              refine v_iload 8 (pc' := 130) rfl dX8_grow_128 rfl ?_
              refine v_cVP (pc' := 133) rfl dX8_grow_130 lk_RX8_63 ly_7 rfl (c_laid l G (hf.b7 (by decide)) (ht.b7 (by decide)) hlowest1 hlow.1 hlow.2 (y := yN + 1) (by omega) (by omega) (by omega) hbitCount1 (popc_le _ hrl) hst.2.2.1 wl hinl.2.1 hinl.2.2.1) rfl rfl rfl ?_
              refine v_nm (fun laid1 hlaid1 => ?_)
              refine v_ior (z := ((hx (lay f t (lowN left) (yN + 1) g (popc (ringN f (lowN left)))) : Nat) : Int)) (pc' := 134) rfl dX8_grow_133 (by rw [hr, hlaid1, iz_or, lay_or (f := f) (t := t) (g := g) (x := lowN left) (y := yN + 1) (hf.b7 (by decide)) (ht.b7 (by decide)) hok.2.1 hlow.1 hlow.2 (by omega) (by omega) (popc (ringN f (lowN left))) hst.2.2.1 (fun i _ => hst.2.2.2 i)]) ?_
              refine v_iload_n 3 (pc' := 135) rfl dX8_grow_134 rfl rfl ?_
              refine v_iload 7 (pc' := 137) rfl dX8_grow_135 rfl ?_
              refine v_iconst (pc' := 138) rfl dX8_grow_137 ?_
              refine v_ixor (pc' := 139) rfl dX8_grow_138 (bxor_iz ring' (-1)) ?_
              refine v_iand (z := ((andn left (ringN f (lowN left)) : Nat) : Int)) (pc' := 140) rfl dX8_grow_139 (by rw [hl, hring']; exact andn_bits _ hl7 _ hrl) ?_
              refine v_iload_n 4 (pc' := 141) rfl dX8_grow_140 rfl rfl ?_
              refine v_iload 0 (pc' := 143) rfl dX8_grow_141 rfl ?_
              refine v_iconst (pc' := 144) rfl dX8_grow_143 ?_
              refine v_ixor (pc' := 145) rfl dX8_grow_144 (bxor_iz goal' (-1)) ?_
              refine v_iand (z := ((andn free (ringN t (yN + 1)) : Nat) : Int)) (pc' := 146) rfl dX8_grow_145 (by rw [hfr, hgoal']; exact andn_bits _ hfl _ hrt) ?_
              refine v_iload 5 (pc' := 148) rfl dX8_grow_146 rfl ?_
              refine v_iconst (pc' := 149) rfl dX8_grow_148 ?_
              refine v_iadd (pc' := 150) rfl dX8_grow_149 ?_
              refine v_cSv (pc' := 153) rfl dX8_grow_150 lk_RX8_47 rfl (c_grow6 l G hn7 hf ht (g := lay f t (lowN left) (yN + 1) g (popc (ringN f (lowN left)))) rfl rfl hst.1 rfl (andn_lt7 hfl) (by omega) (by have := hst.2.1; omega) (m := m + (catY (growF n f t 6 g left free) yN).length) (by have := catY_len (growF n f t 6 g left free) n yN (by omega); rw [hF] at this; rw [growL_s, if_neg (show ¬ left = 0 by omega)] at hlen; omega) wl hinl happ.1) rfl rfl rfl (fun grow1 w8 hq8 => ?_)
              refine v_iinc (ls' := [(8, _), (9, _), (0, _), (1, _), (2, _), (3, _), (4, _), (5, _), (6, _), (7, _)]) 9 (pc' := 156) rfl dX8_grow_153 rfl rfl rfl ?_
              refine v_nl (fun y' hy' => ?_)
              refine v_goto (tgt := 76) dX8_grow_156 (by decide) ?_
              refine v_ls [2, 3, 4, 5, 6, 7, 8, 9, 0] rfl ?_
              exact ih0 (y') w8 (⟨yN + 1, by omega, by omega, by show App w w8 m (catY (growF n f t 6 g left free) yN ++ (growF n f t 6 g left free) (yN + 1)); rw [hF]; exact happ.tr hq8⟩) (by omega)
    ·
      refine v_aload_n 0 (pc' := 23) rfl dX8_grow_22 rfl rfl ?_
      refine v_getR (pc' := 26) rfl dX8_grow_23 fk_RX8_9 ly_7 rfl ?_
      refine v_aload_n 0 (pc' := 27) rfl dX8_grow_26 rfl rfl ?_
      refine v_get (z := (m : Int)) (pc' := 30) rfl dX8_grow_27 fk_RX8_31 ly_7 rfl (hm) ?_
      refine v_iload_n 1 (pc' := 31) rfl dX8_grow_30 rfl rfl ?_
      refine v_iast (pc' := 32) rfl dX8_grow_31 ly_8 (by omega) (by omega) rfl ?_
      refine v_nmw (fun w1 hw1 => ?_)
      have hm : w1 7 6 = (m : Int) := by rw [hw1, up_ne _ _ (by omega)]; exact hm
      refine v_aload_n 0 (pc' := 33) rfl dX8_grow_32 rfl rfl ?_
      refine v_dupR (pc' := 34) rfl dX8_grow_33 ?_
      refine v_get (z := (m : Int)) (pc' := 37) rfl dX8_grow_34 fk_RX8_31 ly_7 rfl (hm) ?_
      refine v_iconst (pc' := 38) rfl dX8_grow_37 ?_
      refine v_iadd (pc' := 39) rfl dX8_grow_38 ?_
      refine v_put (pc' := 42) rfl dX8_grow_39 fi_RX8_31 ly_7 rfl ?_
      refine v_nmw (fun w2 hw2 => ?_)
      have F7_6 : w2 7 6 = ((m : Int) + 1) := by rw [hw2, up_eq]
      refine v_vret dX8_grow_42 ?_
      rw [h0app (by omega)]
      exact App.one (by rw [hw2, hw1, show ((m : Int)).toNat = m by omega, hr])
  ·
    refine v_vret dX8_grow_17 ?_
    have hnil : growL n f t 7 g left free = [] := List.eq_nil_of_length_eq_zero (by omega)
    rw [hnil]
    exact App.rf hm
def GOut (w : Wd) (L : List (Nat → Nat)) : Prop := w 7 6 = (L.length : Nat) ∧ ∀ i, i < L.length → w 8 i = (hx (L.getD i pid) : Nat)
set_option maxHeartbeats 4000000 in
set_option maxRecDepth 100000 in
theorem c_gather (l : Launch) (G : Gx) {n0 p q : Int} {n : Nat} {f t : Nat → Nat} (hn : n0 = n) (hn1 : 1 ≤ n) (hn7 : n ≤ 7) (hf : Pm n f) (ht : Pm n t) (hp : p = (hx f : Nat)) (hq : q = (hx t : Nat)) (hlen : (gathL n f t).length ≤ 5040) (w : Wd)  : Sp l G 9 mX8_gather [aR 7, aI (n0), aI (p), aI (q)] w (fun _ w' => Fr [7, 8, 9, 10] w w' ∧ GOut w' (gathL n f t) ∧ (w' 7 7 = w 7 7 ∧ w' 7 8 = w 7 8 ∧ w' 7 9 = w 7 9)) := by
  have hf7 := hf.b7 hn7
  have ht7 := ht.b7 hn7
  refine Sp_of RX8 rfl (by decide +kernel) rfl (Nat.le_of_ble_eq_true rfl) ?_
  refine v_aload_n 0 (pc' := 1) rfl dX8_gather_0 rfl rfl ?_
  refine v_iload_n 1 (pc' := 2) rfl dX8_gather_1 rfl rfl ?_
  refine v_put (pc' := 5) rfl dX8_gather_2 fi_RX8_21 ly_7 rfl ?_
  refine v_nmw (fun w1 hw1 => ?_)
  refine v_aload_n 0 (pc' := 6) rfl dX8_gather_5 rfl rfl ?_
  refine v_iload_n 2 (pc' := 7) rfl dX8_gather_6 rfl rfl ?_
  refine v_put (pc' := 10) rfl dX8_gather_7 fi_RX8_25 ly_7 rfl ?_
  refine v_nmw (fun w2 hw2 => ?_)
  refine v_aload_n 0 (pc' := 11) rfl dX8_gather_10 rfl rfl ?_
  refine v_iload_n 3 (pc' := 12) rfl dX8_gather_11 rfl rfl ?_
  refine v_put (pc' := 15) rfl dX8_gather_12 fi_RX8_28 ly_7 rfl ?_
  refine v_nmw (fun w3 hw3 => ?_)
  refine v_aload_n 0 (pc' := 16) rfl dX8_gather_15 rfl rfl ?_
  refine v_iconst (pc' := 17) rfl dX8_gather_16 ?_
  refine v_put (pc' := 20) rfl dX8_gather_17 fi_RX8_31 ly_7 rfl ?_
  refine v_nmw (fun w4 hw4 => ?_)
  refine v_iconst (pc' := 21) rfl dX8_gather_20 ?_
  refine v_istore (ls' := [(4, _), (0, _), (1, _), (2, _), (3, _)]) (pc' := 23) rfl dX8_gather_21 rfl rfl ?_
  refine v_ls [1, 2, 3, 4, 0] rfl ?_
  refine v_loop2 23 (fun (x : Int) (wl : Wd) => ∃ k : Nat, x = k + 1 ∧ k ≤ 7 ∧ (wl 7 3 = n ∧ wl 7 4 = (hx f : Nat) ∧ wl 7 5 = (hx t : Nat) ∧ wl 7 6 = 0) ∧ (wl 7 7 = w 7 7 ∧ wl 7 8 = w 7 8 ∧ wl 7 9 = w 7 9) ∧ (∀ z, 1 ≤ z → z ≤ k → wl 9 z = (ringN f z : Nat) ∧ wl 10 z = (ringN t z : Nat)) ∧ Fr [7, 8, 9, 10] w wl) (fun (x : Int) (wl : Wd) => (8 - x).toNat) (fun (x : Int) (wl : Wd) => [(0, aR 7), (1, aI (n0)), (2, aI (p)), (3, aI (q)), (4, aI (x))]) (fun (x : Int) (wl : Wd) => []) (fun (x : Int) (wl : Wd) => wl) (fun x wl hI0 ih0 => ?_) (1) w4 (⟨0, rfl, by omega, by simp [hw1, hw2, hw3, hw4, up_at, hn, hp, hq], by simp [hw1, hw2, hw3, hw4, up_at], fun z a b => by omega, by rw [hw4, hw3, hw2, hw1]; exact ((((Fr.rf _ _).up rfl).up rfl).up rfl).up rfl⟩)
  obtain ⟨k, hk, hk7, ⟨g3, g4, g5, g6⟩, hkp, hA, hfr⟩ := hI0
  refine v_iload 4 (pc' := 25) rfl dX8_gather_23 rfl ?_
  refine v_bipush (pc' := 27) rfl dX8_gather_25 rfl ?_
  refine v_icmp_gt (pc' := 30) (tgt := 68) rfl dX8_gather_27 (by decide) (by omega) (by omega) (fun c0 => ?_) (fun c0 => ?_)
  ·
    refine v_aload_n 0 (pc' := 69) rfl dX8_gather_68 rfl rfl ?_
    refine v_aload_n 0 (pc' := 70) rfl dX8_gather_69 rfl rfl ?_
    refine v_get (z := (n : Int)) (pc' := 73) rfl dX8_gather_70 fk_RX8_21 ly_7 rfl (g3) ?_
    refine v_cSP (pc' := 76) rfl dX8_gather_73 lk_RX8_40 rfl (c_tail l G rfl hn1 hn7 wl) rfl rfl rfl ?_
    refine v_nm (fun tail1 htail1 => ?_)
    refine v_aload_n 0 (pc' := 77) rfl dX8_gather_76 rfl rfl ?_
    refine v_get (z := (n : Int)) (pc' := 80) rfl dX8_gather_77 fk_RX8_21 ly_7 rfl (g3) ?_
    refine v_cSP (pc' := 83) rfl dX8_gather_80 lk_RX8_44 rfl (c_darts l G rfl hn7 wl) rfl rfl rfl ?_
    refine v_nm (fun darts1 hdarts1 => ?_)
    refine v_aload_n 0 (pc' := 84) rfl dX8_gather_83 rfl rfl ?_
    refine v_get (z := (n : Int)) (pc' := 87) rfl dX8_gather_84 fk_RX8_21 ly_7 rfl (g3) ?_
    refine v_cSP (pc' := 90) rfl dX8_gather_87 lk_RX8_44 rfl (c_darts l G rfl hn7 wl) rfl rfl rfl ?_
    refine v_nm (fun darts2 hdarts2 => ?_)
    refine v_iconst (pc' := 91) rfl dX8_gather_90 ?_
    refine v_cSv (pc' := 94) rfl dX8_gather_91 lk_RX8_47 rfl (c_grow7 l G hn7 (hf.mono hn7) (ht.mono hn7) htail1 hdarts1 (LeftOK.init hn7 hf) hdarts2 (full_lt hn7) (by omega) (full_popc n (by omega)) (m := 0) (by have : (growL n f t 7 (tl n) (full n) (full n)).length ≤ 5040 := hlen; omega) wl ⟨g3, g4, g5, fun z a b => hA z a (by omega)⟩ g6) rfl rfl rfl (fun grow1 w12 hq12 => ?_)
    refine v_vret dX8_gather_94 ?_
    obtain ⟨a1, a2, a3, a4, a5⟩ := hq12
    refine ⟨hfr.tr a4 (by decide) (by decide), ⟨by rw [a1, Nat.zero_add]; rfl, fun i hi => by have := a2 i hi; rw [Nat.zero_add] at this; exact this⟩, ?_⟩
    rw [a5 7 (by decide), a5 8 (by decide), a5 9 (by decide)]; exact hkp
  ·
    have h3 := g3
    have h4 := g4
    have h5 := g5
    have h6 := g6
    refine v_aload_n 0 (pc' := 31) rfl dX8_gather_30 rfl rfl ?_
    refine v_getR (pc' := 34) rfl dX8_gather_31 fk_RX8_15 ly_7 rfl ?_
    refine v_iload 4 (pc' := 36) rfl dX8_gather_34 rfl ?_
    refine v_aload_n 0 (pc' := 37) rfl dX8_gather_36 rfl rfl ?_
    refine v_get (z := ((hx f : Nat) : Int)) (pc' := 40) rfl dX8_gather_37 fk_RX8_25 ly_7 rfl (g4) ?_
    refine v_iload 4 (pc' := 42) rfl dX8_gather_40 rfl ?_
    refine v_cSP (pc' := 45) rfl dX8_gather_42 lk_RX8_34 rfl (c_ring l G rfl hf7 (x := k + 1) (by omega) (by omega) (by omega) wl) rfl rfl rfl ?_
    refine v_nm (fun ring1 hring1 => ?_)
    refine v_iast (pc' := 46) rfl dX8_gather_45 ly_9 (by omega) (by omega) rfl ?_
    refine v_nmw (fun w6 hw6 => ?_)
    have g4 : w6 7 4 = ((hx f : Nat) : Int) := by rw [hw6, up_ne _ _ (by omega)]; exact g4
    have g5 : w6 7 5 = ((hx t : Nat) : Int) := by rw [hw6, up_ne _ _ (by omega)]; exact g5
    have g3 : w6 7 3 = (n : Int) := by rw [hw6, up_ne _ _ (by omega)]; exact g3
    refine v_aload_n 0 (pc' := 47) rfl dX8_gather_46 rfl rfl ?_
    refine v_getR (pc' := 50) rfl dX8_gather_47 fk_RX8_18 ly_7 rfl ?_
    refine v_iload 4 (pc' := 52) rfl dX8_gather_50 rfl ?_
    refine v_aload_n 0 (pc' := 53) rfl dX8_gather_52 rfl rfl ?_
    refine v_get (z := ((hx t : Nat) : Int)) (pc' := 56) rfl dX8_gather_53 fk_RX8_28 ly_7 rfl (g5) ?_
    refine v_iload 4 (pc' := 58) rfl dX8_gather_56 rfl ?_
    refine v_cSP (pc' := 61) rfl dX8_gather_58 lk_RX8_34 rfl (c_ring l G rfl ht7 (x := k + 1) (by omega) (by omega) (by omega) w6) rfl rfl rfl ?_
    refine v_nm (fun ring2 hring2 => ?_)
    refine v_iast (pc' := 62) rfl dX8_gather_61 ly_10 (by omega) (by omega) rfl ?_
    refine v_nmw (fun w8 hw8 => ?_)
    have g4 : w8 7 4 = ((hx f : Nat) : Int) := by rw [hw8, up_ne _ _ (by omega)]; exact g4
    have g5 : w8 7 5 = ((hx t : Nat) : Int) := by rw [hw8, up_ne _ _ (by omega)]; exact g5
    have g3 : w8 7 3 = (n : Int) := by rw [hw8, up_ne _ _ (by omega)]; exact g3
    refine v_iinc (ls' := [(4, _), (0, _), (1, _), (2, _), (3, _)]) 4 (pc' := 65) rfl dX8_gather_62 rfl rfl rfl ?_
    refine v_nl (fun x' hx' => ?_)
    refine v_goto (tgt := 23) dX8_gather_65 (by decide) ?_
    have hA0 : wl 7 3 = (n : Int) ∧ wl 7 4 = ((hx f : Nat) : Int) ∧ wl 7 5 = ((hx t : Nat) : Int) ∧ wl 7 6 = 0 := ⟨h3, h4, h5, h6⟩
    refine v_ls [1, 2, 3, 4, 0] rfl ?_
    exact ih0 (x') w8 (⟨k + 1, by omega, by omega, by simp [hw6, hw8, up_at, hA0], by simp [hw6, hw8, up_at, hkp], fun z a b => by
        simp only [hw6, hw8, up_at]
        by_cases q : z = k + 1
        · subst q; simp [hk, hring1, hring2, show ((k : Int) + 1).toNat = k + 1 by omega]
        · have := hA z a (by omega); simp [this, show ¬ z = x.toNat by omega], by rw [hw8, hw6]; exact (hfr.up rfl).up rfl⟩) (by omega)
set_option maxHeartbeats 4000000 in
set_option maxRecDepth 100000 in
theorem c_nth8 (l : Launch) (G : Gx) {i0 : Int} {i : Nat} {L : List (Nat → Nat)} (hi : i0 = i) (hiL : i < L.length) (hL : L.length ≤ 5040) (w : Wd) (hG : GOut w L) : SpP l G 0 mX8_nth [aR 7, aI (i0)] w (((hx (L.getD i pid) : Nat) : Int)) := by
  refine Sp_of RX8 rfl (by decide +kernel) rfl (Nat.le_of_ble_eq_true rfl) ?_
  refine v_iload_n 1 (pc' := 1) rfl dX8_nth_0 rfl rfl ?_
  refine v_if_lt (pc' := 4) (tgt := 19) rfl dX8_nth_1 (by decide) (by omega) (fun c0 => absurd c0 (by omega)) (fun c0 => ?_)
  refine v_iload_n 1 (pc' := 5) rfl dX8_nth_4 rfl rfl ?_
  refine v_aload_n 0 (pc' := 6) rfl dX8_nth_5 rfl rfl ?_
  refine v_get (z := ((L.length : Nat) : Int)) (pc' := 9) rfl dX8_nth_6 fk_RX8_31 ly_7 rfl (hG.1) ?_
  refine v_icmp_ge (pc' := 12) (tgt := 19) rfl dX8_nth_9 (by decide) (by omega) (by omega) (fun c1 => absurd c1 (by omega)) (fun c1 => ?_)
  refine v_iload_n 1 (pc' := 13) rfl dX8_nth_12 rfl rfl ?_
  refine v_sipush (pc' := 16) rfl dX8_nth_13 rfl ?_
  refine v_icmp_lt (pc' := 19) (tgt := 24) rfl dX8_nth_16 (by decide) (by omega) (by omega) (fun c2 => ?_) (fun c2 => absurd c2 (by omega))
  refine v_aload_n 0 (pc' := 25) rfl dX8_nth_24 rfl rfl ?_
  refine v_getR (pc' := 28) rfl dX8_nth_25 fk_RX8_9 ly_7 rfl ?_
  refine v_iload_n 1 (pc' := 29) rfl dX8_nth_28 rfl rfl ?_
  refine v_iald (z := ((hx (L.getD i pid) : Nat) : Int)) (pc' := 30) rfl dX8_nth_29 ly_8 (by omega) (by omega) rfl (by rw [show i0.toNat = i by omega]; exact hG.2 i hiL) ?_
  refine v_iret dX8_nth_30 (by decide) (rfl) ?_
  exact ⟨rfl, rfl⟩

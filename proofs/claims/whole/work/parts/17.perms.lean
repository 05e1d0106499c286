/-! ===== all permutations of n, by their numbers ===== -/
def dg (c : Nat) : Nat → Nat := fun x => if 1 ≤ x ∧ x ≤ 7 then c / 16 ^ (7 - x) % 16 else x
def dsel (n free : Nat) : List Nat := [1, 2, 3, 4, 5, 6, 7].filter (fun d => Nat.ble d n && !(free &&& bt d == 0))
def permsGo (n : Nat) : Nat → Nat → Nat → List Nat
  | 0, _, c => [c]
  | k + 1, free, c => (dsel n free).flatMap (fun d => permsGo n k (andn free (bt d)) (16 * c + d))
def PH (n : Nat) : List Nat := (permsGo n n (full n) 0).map (fun c => c * 16 ^ (7 - n) + hx (tl n))
theorem dsel_mem {n free d : Nat} : d ∈ dsel n free ↔ (1 ≤ d ∧ d ≤ 7) ∧ d ≤ n ∧ hasb free d := by
  unfold dsel hasb
  rw [List.mem_filter]
  simp only [List.mem_cons, List.not_mem_nil, or_false, Bool.and_eq_true, Nat.ble_eq, Bool.not_eq_true', beq_eq_false_iff_ne]
  constructor
  · rintro ⟨h, a, b⟩; exact ⟨by omega, a, b⟩
  · rintro ⟨h, a, b⟩; exact ⟨by omega, a, b⟩
theorem permsGo_mem {n : Nat} {f : Nat → Nat} (hf : Pm n f) (hn : n ≤ 7) : ∀ k free, k ≤ n → free < 128 → (∀ y, 1 ≤ y → y ≤ 7 → (hasb free y ↔ y ≤ n ∧ ∀ z, 1 ≤ z → z ≤ n - k → f z ≠ y)) → hxk f n ∈ permsGo n k free (hxk f (n - k))
  | 0, free, _, _, _ => by simp [permsGo]
  | k + 1, free, hk, hl, h => by
    have c := hf.1 (n - k) (by omega) (by omega)
    have e : 16 * hxk f (n - (k + 1)) + f (n - k) = hxk f (n - k) := by
      rw [show n - k = (n - (k + 1)) + 1 by omega]; rfl
    simp only [permsGo, List.mem_flatMap]
    have hd : hasb free (f (n - k)) := by
      rw [h _ c.1 (by omega)]
      refine ⟨c.2, fun z a b e2 => ?_⟩
      have := hf.inj e2
      omega
    refine ⟨f (n - k), dsel_mem.mpr ⟨by omega, c.2, hd⟩, ?_⟩
    rw [e]
    refine permsGo_mem hf hn k _ (by omega) (andn_lt7 hl) (fun y a b => ?_)
    rw [hasb_andn hl (bt_lt c.1 (by omega)) a b, h y a b]
    have hb : hasb (bt (f (n - k))) y ↔ y = f (n - k) := by
      have := hasb_or (u := 0) (v := f (n - k)) (y := y) (by decide) c.1 (by omega) a b
      rw [Nat.zero_or] at this
      rw [this]
      unfold hasb
      rw [Nat.zero_and]
      simp
    rw [hb]
    constructor
    · rintro ⟨⟨p, q⟩, r⟩
      refine ⟨p, fun z a2 b2 => ?_⟩
      by_cases s : z = n - k
      · rw [s]; exact fun e2 => r e2.symm
      · exact q z a2 (by omega)
    · rintro ⟨p, q⟩
      exact ⟨⟨p, fun z a2 b2 => q z a2 (by omega)⟩, fun e2 => q (n - k) (by omega) (by omega) e2.symm⟩
theorem hxk_split {n : Nat} {f : Nat → Nat} (hf : Pm n f) : ∀ j, hxk f (n + j) = hxk f n * 16 ^ j + hxk (tl n) (n + j) := by
  have h0 : ∀ k, k ≤ n → hxk (tl n) k = 0 := by
    intro k
    induction k with
    | zero => intro _; rfl
    | succ k ih => intro h; simp only [hxk]; rw [ih (by omega)]; unfold tl; rw [if_neg (by omega)]
  intro j
  induction j with
  | zero => rw [Nat.add_zero, h0 n (Nat.le_refl _)]; simp
  | succ j ih =>
    rw [show n + (j + 1) = (n + j) + 1 by omega]
    simp only [hxk]
    rw [ih, hf.2.2 (n + j + 1) (Or.inr (by omega)), Nat.pow_succ]
    have : tl n (n + j + 1) = n + j + 1 := by unfold tl; rw [if_pos (by omega)]
    rw [this, Nat.mul_add, ← Nat.mul_assoc]
    have e : 16 * hxk f n * 16 ^ j = hxk f n * (16 ^ j * 16) := by rw [Nat.mul_comm 16, Nat.mul_assoc, Nat.mul_comm 16]
    omega
theorem PH_mem {n : Nat} {f : Nat → Nat} (hf : Pm n f) (hn : n ≤ 7) : hx f ∈ PH n := by
  unfold PH
  rw [List.mem_map]
  refine ⟨hxk f n, ?_, ?_⟩
  · have := permsGo_mem hf hn n (full n) (Nat.le_refl _) (full_lt hn) (fun y a b => by
      rw [hasb_full hn a b]
      exact ⟨fun h => ⟨h, fun z p q => by omega⟩, fun h => h.1⟩)
    rw [Nat.sub_self] at this
    exact this
  · have := hxk_split hf (7 - n)
    rw [show n + (7 - n) = 7 by omega] at this
    exact this.symm
theorem dg_hx {n : Nat} {f : Nat → Nat} (hf : Pm n f) (hn : n ≤ 7) : dg (hx f) = f := by
  funext x
  unfold dg
  by_cases h : 1 ≤ x ∧ x ≤ 7
  · rw [if_pos h]
    have hB := hf.B hn
    have a1 := hB 1 (by omega) (by omega)
    have a2 := hB 2 (by omega) (by omega)
    have a3 := hB 3 (by omega) (by omega)
    have a4 := hB 4 (by omega) (by omega)
    have a5 := hB 5 (by omega) (by omega)
    have a6 := hB 6 (by omega) (by omega)
    have a7 := hB 7 (by omega) (by omega)
    rw [hx_eq]
    rcases (show x = 1 ∨ x = 2 ∨ x = 3 ∨ x = 4 ∨ x = 5 ∨ x = 6 ∨ x = 7 by omega) with rfl | rfl | rfl | rfl | rfl | rfl | rfl <;> (simp only [Nat.reduceMul, Nat.reduceSub, Nat.reducePow]; omega)
  · rw [if_neg h]
    exact (hf.2.2 x (by omega)).symm
/-- what holds of all numbers of the list holds of all permutations -/
theorem brute {n : Nat} (hn : n ≤ 7) {P : (Nat → Nat) → Prop} {b : Nat → Bool} (hb : (PH n).all b = true) (h : ∀ c, b c = true → P (dg c)) {f : Nat → Nat} (hf : Pm n f) : P f := by
  have := h _ (List.all_eq_true.mp hb _ (PH_mem hf hn))
  rw [dg_hx hf hn] at this
  exact this
def pmB (n c : Nat) : Bool := ([1, 2, 3, 4, 5, 6, 7].all (fun x => if x ≤ n then Nat.ble 1 (dg c x) && Nat.ble (dg c x) n else dg c x == x)) && ([1, 2, 3, 4, 5, 6, 7].all (fun x => [1, 2, 3, 4, 5, 6, 7].all (fun y => x == y || !(dg c x == dg c y))))
theorem pmB_ok {n c : Nat} (hn : n ≤ 7) (h : pmB n c = true) : Pm n (dg c) := by
  unfold pmB at h
  rw [Bool.and_eq_true, List.all_eq_true, List.all_eq_true] at h
  obtain ⟨h1, h2⟩ := h
  have m7 : ∀ x, 1 ≤ x → x ≤ 7 → x ∈ [1, 2, 3, 4, 5, 6, 7] := fun x a b => by
    simp only [List.mem_cons, List.not_mem_nil, or_false]; omega
  refine ⟨fun x a b => ?_, fun x y a b c d e => ?_, fun x hx => ?_⟩
  · have := h1 x (m7 x a (by omega))
    rw [if_pos b, Bool.and_eq_true, Nat.ble_eq, Nat.ble_eq] at this
    exact this
  · have := List.all_eq_true.mp (h2 x (m7 x a (by omega))) y (m7 y c (by omega))
    simp only [Bool.or_eq_true, beq_iff_eq, Bool.not_eq_true', beq_eq_false_iff_ne] at this
    rcases this with q | q
    · exact q
    · exact absurd e q
  · by_cases q : 1 ≤ x ∧ x ≤ 7
    · have := h1 x (m7 x q.1 q.2)
      rw [if_neg (by omega), beq_iff_eq] at this
      exact this
    · unfold dg; rw [if_neg q]
def chk (n : Nat) : Nat → List Nat → Bool
  | _, [] => true
  | i, [c] => pmB n c && (rankN (dg c) n == i && (Nat.ble n 1 || nxA (dg c) (n - 1) == 0))
  | i, c :: c2 :: cs => pmB n c && (rankN (dg c) n == i && (Nat.blt c c2 && (hx (nextF (dg c) n) == c2 && chk n (i + 1) (c2 :: cs))))
theorem ph_len : ∀ n : Nat, n < 8 → 1 ≤ n → (PH n).length = facN n := by
  intro n h1 h2
  rcases (show n = 1 ∨ n = 2 ∨ n = 3 ∨ n = 4 ∨ n = 5 ∨ n = 6 ∨ n = 7 by omega) with rfl | rfl | rfl | rfl | rfl | rfl | rfl <;> decide +kernel
theorem ph_chk : ∀ n : Nat, n < 8 → 1 ≤ n → chk n 0 (PH n) = true := by
  intro n h1 h2
  rcases (show n = 1 ∨ n = 2 ∨ n = 3 ∨ n = 4 ∨ n = 5 ∨ n = 6 ∨ n = 7 by omega) with rfl | rfl | rfl | rfl | rfl | rfl | rfl <;> decide +kernel
theorem ph_first : ∀ n : Nat, n < 8 → 1 ≤ n → (PH n).getD 0 0 = hx pid := by
  intro n h1 h2
  rcases (show n = 1 ∨ n = 2 ∨ n = 3 ∨ n = 4 ∨ n = 5 ∨ n = 6 ∨ n = 7 by omega) with rfl | rfl | rfl | rfl | rfl | rfl | rfl <;> decide +kernel

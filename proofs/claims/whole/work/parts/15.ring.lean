/-! ===== cycles ===== -/
theorem pstep_s (f : Nat → Nat) (k y : Nat) : pstep f (k + 1) y = f (pstep f k y) := pstep_add f k 1 y
theorem pm_step {f : Nat → Nat} (hf : Pm 7 f) {x : Nat} (h1 : 1 ≤ x) (h2 : x ≤ 7) (k : Nat) : 1 ≤ pstep f k x ∧ pstep f k x ≤ 7 := pstep_7 (hf.b7 (by decide)) k x h1 h2
def oset (f : Nat → Nat) (x : Nat) : Nat → Nat
  | 0 => 0
  | k + 1 => oset f x k ||| bt (pstep f k x)
abbrev hasb (u y : Nat) : Prop := u &&& bt y ≠ 0
theorem hasb_or {u v y : Nat} (hu : u < 128) (hv1 : 1 ≤ v) (hv : v ≤ 7) (hy1 : 1 ≤ y) (hy : y ≤ 7) : hasb (u ||| bt v) y ↔ (hasb u y ∨ y = v) := by
  have o := orb u hu (v - 1) (by omega) (y - 1) (by omega)
  rw [show v - 1 + 1 = v by omega, show y - 1 + 1 = y by omega] at o
  have : (((u ||| bt v) &&& bt y) == 0) = true ↔ ((u &&& bt y) == 0 && !(y - 1 == v - 1)) = true := by rw [o]
  simp at this
  unfold hasb
  constructor
  · intro h
    by_cases q : u &&& bt y = 0
    · right
      have h2 : ¬ ((u ||| bt v) &&& bt y = 0) := h
      rw [this] at h2
      by_cases r : y = v
      · exact r
      · exact absurd ⟨q, by omega⟩ h2
    · exact Or.inl q
  · intro h e
    rw [this] at e
    rcases h with h | h
    · exact h e.1
    · exact e.2 (by omega)
theorem popc_or : ∀ u : Nat, u < 128 → ∀ v : Nat, v < 7 → u &&& bt (v + 1) = 0 → popc (u ||| bt (v + 1)) = popc u + 1 := by decide +kernel
theorem popc_andn : ∀ a : Nat, a < 128 → ∀ b : Nat, b < 128 → a &&& b ≠ 0 → popc (andn a b) < popc a := by decide +kernel
theorem hasb_andn7 : ∀ a : Nat, a < 128 → ∀ b : Nat, b < 128 → ∀ y : Nat, y < 7 → ((andn a b &&& bt (y + 1)) == 0) = ((a &&& bt (y + 1)) == 0 || !((b &&& bt (y + 1)) == 0)) := by decide +kernel
theorem hasb_andn {a b y : Nat} (ha : a < 128) (hb : b < 128) (h1 : 1 ≤ y) (h2 : y ≤ 7) : hasb (andn a b) y ↔ (hasb a y ∧ ¬ hasb b y) := by
  have o := hasb_andn7 a ha b hb (y - 1) (by omega)
  rw [show y - 1 + 1 = y by omega] at o
  have : ((andn a b &&& bt y) == 0) = true ↔ ((a &&& bt y) == 0 || !((b &&& bt y) == 0)) = true := by rw [o]
  simp at this
  unfold hasb
  rw [ne_eq, this]
  constructor
  · intro h
    by_cases q : a &&& bt y = 0
    · exact absurd (Or.inl q) h
    · refine ⟨q, fun r => h (Or.inr r)⟩
  · intro ⟨p, q⟩ h
    rcases h with h | h
    · exact p h
    · exact q h
theorem oset_lt {f : Nat → Nat} (hf : P7 f) {x : Nat} (h1 : 1 ≤ x) (h2 : x ≤ 7) : ∀ k, oset f x k < 128
  | 0 => by show 0 < 128; decide
  | k + 1 => or_lt7 (oset_lt hf h1 h2 k) (bt_lt (pstep_7 hf k x h1 h2).1 (pstep_7 hf k x h1 h2).2)
theorem oset_has {f : Nat → Nat} (hf : P7 f) {x y : Nat} (h1 : 1 ≤ x) (h2 : x ≤ 7) (hy1 : 1 ≤ y) (hy : y ≤ 7) : ∀ k, hasb (oset f x k) y ↔ ∃ i, i < k ∧ pstep f i x = y
  | 0 => by
    unfold hasb oset
    rw [Nat.zero_and]
    exact ⟨fun h => absurd rfl h, fun ⟨i, hi, _⟩ => by omega⟩
  | k + 1 => by
    have p := pstep_7 hf k x h1 h2
    show hasb (oset f x k ||| bt (pstep f k x)) y ↔ _
    rw [hasb_or (oset_lt hf h1 h2 k) p.1 p.2 hy1 hy, oset_has hf h1 h2 hy1 hy k]
    constructor
    · rintro (⟨i, hi, e⟩ | e)
      · exact ⟨i, by omega, e⟩
      · exact ⟨k, by omega, e.symm⟩
    · rintro ⟨i, hi, e⟩
      by_cases q : i = k
      · right; rw [← e, q]
      · exact Or.inl ⟨i, by omega, e⟩
/-- L: how long the cycle of x is -/
def CycL (f : Nat → Nat) (x L : Nat) : Prop := 1 ≤ L ∧ L ≤ 7 ∧ ringN f x = oset f x L ∧ pstep f L x = x ∧ (∀ i j, i < j → j < L → pstep f i x ≠ pstep f j x) ∧ popc (ringN f x) = L
theorem oset_popc {f : Nat → Nat} (hf : P7 f) {x : Nat} (h1 : 1 ≤ x) (h2 : x ≤ 7) : ∀ k, (∀ i j, i < j → j < k → pstep f i x ≠ pstep f j x) → popc (oset f x k) = k
  | 0, _ => by show popc 0 = 0; decide
  | k + 1, h => by
    have p := pstep_7 hf k x h1 h2
    have ih := oset_popc hf h1 h2 k (fun i j a b => h i j a (by omega))
    have e : oset f x k &&& bt (pstep f k x) = 0 := by
      by_cases q : oset f x k &&& bt (pstep f k x) = 0
      · exact q
      · obtain ⟨i, hi, e⟩ := (oset_has hf h1 h2 p.1 p.2 k).mp q
        exact absurd e (h i k hi (by omega))
    have o := popc_or (oset f x k) (oset_lt hf h1 h2 k) (pstep f k x - 1) (by omega)
    rw [show pstep f k x - 1 + 1 = pstep f k x by omega] at o
    show popc (oset f x k ||| bt (pstep f k x)) = _
    rw [o e, ih]
theorem pstep_back {f : Nat → Nat} (hf : Pm 7 f) {x : Nat} (i j : Nat) (h : pstep f (i + 1) x = pstep f (j + 1) x) : pstep f i x = pstep f j x := by
  rw [pstep_s, pstep_s] at h; exact hf.inj h
theorem cyc_ex {f : Nat → Nat} (hf : Pm 7 f) {x : Nat} (h1 : 1 ≤ x) (h2 : x ≤ 7) : ∃ L, CycL f x L := by
  have h7 := hf.b7 (by decide)
  have fin : ∀ j, 1 ≤ j → j ≤ 7 → (∀ a b, a < b → b < j → pstep f a x ≠ pstep f b x) → (∃ i, i < j ∧ pstep f i x = pstep f j x) → pstep f j x = x := by
    intro j hj1 hj7 hd ⟨i, hi, e⟩
    cases i with
    | zero => exact e.symm
    | succ i =>
      obtain ⟨j, rfl⟩ : ∃ q, j = q + 1 := ⟨j - 1, by omega⟩
      exact absurd (pstep_back hf i j e) (hd i j (by omega) (by omega))
  have key : ∀ k j, j + k = 7 → (∀ a b, a < b → b < j → pstep f a x ≠ pstep f b x) → ∃ L, 1 ≤ L ∧ L ≤ 7 ∧ ringL f k (oset f x j) (pstep f j x) = oset f x L ∧ pstep f L x = x ∧ ∀ a b, a < b → b < L → pstep f a x ≠ pstep f b x := by
    intro k
    induction k with
    | zero =>
      intro j hj hd
      have hj7 : j = 7 := by omega
      subst hj7
      refine ⟨7, by omega, by omega, rfl, fin 7 (by omega) (by omega) hd ?_, hd⟩
      obtain ⟨i, hi, e⟩ := fb_onto (n := 7) (f := fun i => pstep f i x - 1) (fun i _ => by have := pstep_7 h7 i x h1 h2; show pstep f i x - 1 < 7; omega) (fun a b hab hb e => by
        have p := pstep_7 h7 a x h1 h2
        have q := pstep_7 h7 b x h1 h2
        have e' : pstep f a x - 1 = pstep f b x - 1 := e
        exact hd a b hab hb (by omega)) (y := pstep f 7 x - 1) (by have := pstep_7 h7 7 x h1 h2; omega)
      have p := pstep_7 h7 i x h1 h2
      have q := pstep_7 h7 7 x h1 h2
      have e' : pstep f i x - 1 = pstep f 7 x - 1 := e
      exact ⟨i, hi, by omega⟩
    | succ k ih =>
      intro j hj hd
      have p := pstep_7 h7 j x h1 h2
      simp only [ringL]
      by_cases q : oset f x j &&& bt (pstep f j x) = 0
      · rw [if_pos q]
        have := ih (j + 1) (by omega) (fun a b hab hb e => by
          by_cases r : b = j
          · subst r
            exact (oset_has h7 h1 h2 p.1 p.2 b).mpr ⟨a, hab, e⟩ q
          · exact hd a b hab (by omega) e)
        rw [pstep_s f j x] at this
        exact this
      · rw [if_neg q]
        have hex := (oset_has h7 h1 h2 p.1 p.2 j).mp q
        have hj1 : 1 ≤ j := by obtain ⟨i, hi, _⟩ := hex; omega
        exact ⟨j, hj1, by omega, rfl, fin j hj1 (by omega) hd hex, hd⟩
  obtain ⟨L, a, b, c, d, e⟩ := key 7 0 (by omega) (fun a b _ h => by omega)
  have c' : ringN f x = oset f x L := c
  exact ⟨L, a, b, c', d, e, by rw [c']; exact oset_popc h7 h1 h2 L e⟩
theorem cyc_popc {f : Nat → Nat} {x L : Nat} (h : CycL f x L) : L = popc (ringN f x) := h.2.2.2.2.2.symm
theorem ring_cyc {f : Nat → Nat} (hf : Pm 7 f) {x : Nat} (h1 : 1 ≤ x) (h2 : x ≤ 7) : CycL f x (popc (ringN f x)) := by
  obtain ⟨L, h⟩ := cyc_ex hf h1 h2
  rw [← cyc_popc h]; exact h
/-- a dart stands in the cycle of x: it comes of x by steps -/
theorem ring_has {f : Nat → Nat} (hf : Pm 7 f) {x y : Nat} (h1 : 1 ≤ x) (h2 : x ≤ 7) (hy1 : 1 ≤ y) (hy : y ≤ 7) : hasb (ringN f x) y ↔ ∃ i, i < popc (ringN f x) ∧ pstep f i x = y := by
  have c := ring_cyc hf h1 h2
  conv => lhs; rw [c.2.2.1]
  exact oset_has (hf.b7 (by decide)) h1 h2 hy1 hy _
theorem pstep_mod {f : Nat → Nat} {x L : Nat} (h : pstep f L x = x) (hL : 1 ≤ L) : ∀ k, pstep f k x = pstep f (k % L) x := by
  intro k
  induction k using Nat.strongRecOn with
  | _ k ih =>
    rcases Nat.lt_or_ge k L with q | q
    · rw [Nat.mod_eq_of_lt q]
    · have := ih (k - L) (by omega)
      rw [Nat.mod_eq_sub_mod q, ← this]
      rw [show k = L + (k - L) by omega, pstep_add f L (k - L) x, h]
      rw [show L + (k - L) - L = k - L by omega]
theorem ring_step {f : Nat → Nat} (hf : Pm 7 f) {x : Nat} (h1 : 1 ≤ x) (h2 : x ≤ 7) (k : Nat) : hasb (ringN f x) (pstep f k x) := by
  have c := ring_cyc hf h1 h2
  have p := pm_step hf h1 h2 k
  rw [ring_has hf h1 h2 p.1 p.2]
  exact ⟨k % popc (ringN f x), Nat.mod_lt _ (by have := c.1; omega), (pstep_mod c.2.2.2.1 c.1 k).symm⟩
theorem ring_self {f : Nat → Nat} (hf : Pm 7 f) {x : Nat} (h1 : 1 ≤ x) (h2 : x ≤ 7) : hasb (ringN f x) x := ring_step hf h1 h2 0
theorem ring_f {f : Nat → Nat} (hf : Pm 7 f) {x y : Nat} (h1 : 1 ≤ x) (h2 : x ≤ 7) (hy1 : 1 ≤ y) (hy : y ≤ 7) : hasb (ringN f x) y ↔ hasb (ringN f x) (f y) := by
  have c := ring_cyc hf h1 h2
  have h7 := hf.b7 (by decide) y hy1 hy
  constructor
  · intro h
    obtain ⟨i, _, e⟩ := (ring_has hf h1 h2 hy1 hy).mp h
    rw [← e, ← pstep_s f]; exact ring_step hf h1 h2 (i + 1)
  · intro h
    obtain ⟨i, hi, e⟩ := (ring_has hf h1 h2 h7.1 h7.2).mp h
    cases i with
    | zero =>
      obtain ⟨L, hL⟩ : ∃ q, popc (ringN f x) = q + 1 := ⟨popc (ringN f x) - 1, by have := c.1; omega⟩
      have d := c.2.2.2.1
      rw [hL, pstep_s] at d
      have e0 : x = f y := e
      rw [e0] at d
      have : pstep f L x = y := hf.inj (by rw [← e0] at d; rw [d]; exact e0)
      rw [← this]; exact ring_step hf h1 h2 L
    | succ i =>
      rw [pstep_s] at e
      rw [← hf.inj e]; exact ring_step hf h1 h2 i
/-! the labels that a cycle's first label brings -/
def laidI (f t : Nat → Nat) (x y : Nat) : Nat → (Nat → Nat)
  | 0 => fun _ => 0
  | k + 1 => gset (laidI f t x y k) (pstep f k x) (pstep t k y)
def lay (f t : Nat → Nat) (x y : Nat) (g : Nat → Nat) : Nat → (Nat → Nat)
  | 0 => g
  | k + 1 => gset (lay f t x y g k) (pstep f k x) (pstep t k y)
theorem laidI_0 {f t : Nat → Nat} {x y z : Nat} : ∀ k, (∀ i, i < k → pstep f i x ≠ z) → laidI f t x y k z = 0
  | 0, _ => rfl
  | k + 1, h => by
    simp only [laidI, gset]
    rw [if_neg (fun e => h k (by omega) e.symm)]
    exact laidI_0 k (fun i hi => h i (by omega))
theorem lay_off {f t g : Nat → Nat} {x y z : Nat} : ∀ k, (∀ i, i < k → pstep f i x ≠ z) → lay f t x y g k z = g z
  | 0, _ => rfl
  | k + 1, h => by
    simp only [lay, gset]
    rw [if_neg (fun e => h k (by omega) e.symm)]
    exact lay_off k (fun i hi => h i (by omega))
theorem lay_on {f t g : Nat → Nat} {x y : Nat} : ∀ k, (∀ i j, i < j → j < k → pstep f i x ≠ pstep f j x) → ∀ i, i < k → lay f t x y g k (pstep f i x) = pstep t i y
  | 0, _, i, h => by omega
  | k + 1, hd, i, h => by
    simp only [lay, gset]
    by_cases q : i = k
    · rw [q, if_pos rfl]
    · rw [if_neg (fun e => hd i k (by omega) (by omega) e)]
      exact lay_on k (fun a b c d => hd a b c (by omega)) i (by omega)
theorem laidI_7 {f t : Nat → Nat} (ht : P7 t) {x y : Nat} (hy1 : 1 ≤ y) (hy : y ≤ 7) : ∀ k, B7 (laidI f t x y k)
  | 0 => fun _ _ _ => Nat.zero_le _
  | k + 1 => gset_7 (laidI_7 ht hy1 hy k) (pstep_7 ht k y hy1 hy).2
theorem lay_7 {f t g : Nat → Nat} (ht : P7 t) (hg : B7 g) {x y : Nat} (hy1 : 1 ≤ y) (hy : y ≤ 7) : ∀ k, B7 (lay f t x y g k)
  | 0 => hg
  | k + 1 => gset_7 (lay_7 ht hg hy1 hy k) (pstep_7 ht k y hy1 hy).2
theorem lay_or {f t g : Nat → Nat} (hf : P7 f) (ht : P7 t) (hg : B7 g) {x y : Nat} (h1 : 1 ≤ x) (h2 : x ≤ 7) (hy1 : 1 ≤ y) (hy : y ≤ 7) : ∀ k, (∀ i j, i < j → j < k → pstep f i x ≠ pstep f j x) → (∀ i, i < k → g (pstep f i x) = 0) → hx g ||| hx (laidI f t x y k) = hx (lay f t x y g k)
  | 0, _, _ => by show hx g ||| hx (fun _ => 0) = hx g; rw [show hx (fun _ => 0) = 0 from rfl, Nat.or_zero]
  | k + 1, hd, hz => by
    have p := pstep_7 hf k x h1 h2
    have q := pstep_7 ht k y hy1 hy
    have e1 := hx_or (laidI_7 (f := f) (x := x) ht hy1 hy k).le15 p.1 p.2 (laidI_0 k (fun i hi => hd i k hi (by omega))) (d := pstep t k y) (by omega)
    have e2 := hx_or (lay_7 (f := f) (x := x) ht hg hy1 hy k).le15 p.1 p.2 (by rw [lay_off k (fun i hi => hd i k hi (by omega))]; exact hz k (by omega)) (d := pstep t k y) (by omega)
    simp only [laidI, lay]
    rw [← e1, ← e2, ← Nat.or_assoc, lay_or hf ht hg h1 h2 hy1 hy k (fun a b c d => hd a b c (by omega)) (fun i hi => hz i (by omega))]

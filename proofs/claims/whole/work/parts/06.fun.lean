/-! what the methods of Perm reckon, as functions -/
theorem hx_congr {f g : Nat → Nat} (h : ∀ x, 1 ≤ x → x ≤ 7 → f x = g x) : hx f = hx g := by
  rw [hx_eq, hx_eq, h 1 (by omega) (by omega), h 2 (by omega) (by omega), h 3 (by omega) (by omega), h 4 (by omega) (by omega), h 5 (by omega) (by omega), h 6 (by omega) (by omega), h 7 (by omega) (by omega)]
def tl (n : Nat) : Nat → Nat := fun x => if n < x then x else 0
def gsc (r v : Nat → Nat) (x : Nat) : Nat → Nat := fun z => if pinv r z ≤ x then v (pinv r z) else 0
theorem gsc_0 {r v : Nat → Nat} (hr : Pm 7 r) : hx (gsc r v 0) = 0 := by
  have : hx (gsc r v 0) = hx (fun _ => 0) := hx_congr (fun x h1 h2 => by
    have := (hr.inv (by decide)).1 x h1 h2
    unfold gsc; rw [if_neg (by omega)])
  rw [this]; rfl
theorem gsc_s {r v : Nat → Nat} (hr : Pm 7 r) (hv : ∀ x, 1 ≤ x → x ≤ 7 → v x ≤ 15) {x : Nat} (h : x < 7) : hx (gsc r v x) ||| (v (x + 1) * 2 ^ (28 - 4 * r (x + 1))) = hx (gsc r v (x + 1)) := by
  have hrx := hr.1 (x + 1) (by omega) (by omega)
  rw [hx_or (g := gsc r v x) (fun z h1 h2 => ?_) hrx.1 hrx.2 ?_ (hv (x + 1) (by omega) (by omega))]
  · refine hx_congr (fun z h1 h2 => ?_)
    unfold gset gsc
    by_cases hz : z = r (x + 1)
    · rw [if_pos hz, hz, hr.inv_f (by decide), if_pos (Nat.le_refl _)]
    · rw [if_neg hz]
      have : pinv r z ≠ x + 1 := fun e => hz (by rw [← e, hr.f_inv (by decide)])
      by_cases q : pinv r z ≤ x
      · rw [if_pos q, if_pos (by omega)]
      · rw [if_neg q, if_neg (by omega)]
  · unfold gsc
    rw [hr.inv_f (by decide), if_neg (by omega)]
  · unfold gsc
    have := (hr.inv (by decide)).1 z h1 h2
    split
    · exact hv _ this.1 this.2
    · omega
theorem gsc_lt {r v : Nat → Nat} (hr : Pm 7 r) (hv : ∀ x, 1 ≤ x → x ≤ 7 → v x ≤ 7) (x : Nat) : B7 (gsc r v x) := fun z h1 h2 => by
  have := (hr.inv (by decide)).1 z h1 h2
  unfold gsc
  split
  · exact hv _ this.1 this.2
  · omega
theorem gsc_7 {r v : Nat → Nat} (hr : Pm 7 r) : hx (gsc r v 7) = hx (fun z => v (pinv r z)) := hx_congr (fun z h1 h2 => by
  have := (hr.inv (by decide)).1 z h1 h2
  unfold gsc; rw [if_pos this.2])
def pface (s a : Nat → Nat) : Nat → Nat := pinv (pcomp s a)
theorem Pm.face {n : Nat} {s a : Nat → Nat} (hn : n ≤ 7) (hs : Pm n s) (ha : Pm n a) : Pm n (pface s a) := (hs.comp ha).inv hn
theorem xor_mid (a b c d j : Nat) (hb : b < 2 ^ j) (hd : d < 2 ^ j) : (a * 2 ^ j + b) ^^^ (c * 2 ^ j + d) = (a ^^^ c) * 2 ^ j + (b ^^^ d) := by
  apply Nat.eq_of_testBit_eq
  intro i
  rw [Nat.mul_comm a, Nat.mul_comm c, Nat.mul_comm (a ^^^ c), Nat.testBit_xor, Nat.testBit_two_pow_mul_add _ hb, Nat.testBit_two_pow_mul_add _ hd, Nat.testBit_two_pow_mul_add _ (Nat.xor_lt_two_pow hb hd)]
  split <;> rw [Nat.testBit_xor]
theorem hx_xor_aux {X A B d e j R : Nat} (hX : X = (A * 2 ^ 4 + e) * 2 ^ j + B) (hB : B < 2 ^ j) (hd : d < 16) (he : e < 16) (hR : R = (A * 2 ^ 4 + (e ^^^ d)) * 2 ^ j + B) : X ^^^ (d * 2 ^ j) = R := by
  have h1 := xor_mid (A * 2 ^ 4 + e) B d 0 j hB (Nat.two_pow_pos j)
  have h2 := xor_mid A e 0 d 4 he hd
  simp only [Nat.zero_mul, Nat.zero_add, Nat.add_zero, Nat.xor_zero] at h1 h2
  rw [hX, h1, h2, hR]
theorem hx_xor {g : Nat → Nat} {y d : Nat} (hg : ∀ x, 1 ≤ x → x ≤ 7 → g x ≤ 15) (h1 : 1 ≤ y) (h2 : y ≤ 7) (hd : d ≤ 15) : hx g ^^^ (d * 2 ^ (28 - 4 * y)) = hx (gset g y (g y ^^^ d)) := by
  have a1 := hg 1 (by omega) (by omega)
  have a2 := hg 2 (by omega) (by omega)
  have a3 := hg 3 (by omega) (by omega)
  have a4 := hg 4 (by omega) (by omega)
  have a5 := hg 5 (by omega) (by omega)
  have a6 := hg 6 (by omega) (by omega)
  have a7 := hg 7 (by omega) (by omega)
  rw [hx_eq, hx_eq]
  rcases (show y = 1 ∨ y = 2 ∨ y = 3 ∨ y = 4 ∨ y = 5 ∨ y = 6 ∨ y = 7 by omega) with rfl | rfl | rfl | rfl | rfl | rfl | rfl
  · have e1 : gset g 1 (g 1 ^^^ d) 1 = g 1 ^^^ d := if_pos rfl
    have f2 : gset g 1 (g 1 ^^^ d) 2 = g 2 := if_neg (by decide)
    have f3 : gset g 1 (g 1 ^^^ d) 3 = g 3 := if_neg (by decide)
    have f4 : gset g 1 (g 1 ^^^ d) 4 = g 4 := if_neg (by decide)
    have f5 : gset g 1 (g 1 ^^^ d) 5 = g 5 := if_neg (by decide)
    have f6 : gset g 1 (g 1 ^^^ d) 6 = g 6 := if_neg (by decide)
    have f7 : gset g 1 (g 1 ^^^ d) 7 = g 7 := if_neg (by decide)
    rw [e1, f2, f3, f4, f5, f6, f7]
    exact hx_xor_aux (A := 0) (B := (16 * (16 * (16 * (16 * (16 * g 2 + g 3) + g 4) + g 5) + g 6) + g 7)) (e := g 1) (j := 24) (by simp only [Nat.reducePow, Nat.reduceAdd]; omega) (by simp only [Nat.reducePow]; omega) (by omega) (by omega) (by simp only [Nat.reducePow, Nat.reduceAdd]; omega)
  · have e1 : gset g 2 (g 2 ^^^ d) 2 = g 2 ^^^ d := if_pos rfl
    have f1 : gset g 2 (g 2 ^^^ d) 1 = g 1 := if_neg (by decide)
    have f3 : gset g 2 (g 2 ^^^ d) 3 = g 3 := if_neg (by decide)
    have f4 : gset g 2 (g 2 ^^^ d) 4 = g 4 := if_neg (by decide)
    have f5 : gset g 2 (g 2 ^^^ d) 5 = g 5 := if_neg (by decide)
    have f6 : gset g 2 (g 2 ^^^ d) 6 = g 6 := if_neg (by decide)
    have f7 : gset g 2 (g 2 ^^^ d) 7 = g 7 := if_neg (by decide)
    rw [e1, f1, f3, f4, f5, f6, f7]
    exact hx_xor_aux (A := g 1) (B := (16 * (16 * (16 * (16 * g 3 + g 4) + g 5) + g 6) + g 7)) (e := g 2) (j := 20) (by simp only [Nat.reducePow, Nat.reduceAdd]; omega) (by simp only [Nat.reducePow]; omega) (by omega) (by omega) (by simp only [Nat.reducePow, Nat.reduceAdd]; omega)
  · have e1 : gset g 3 (g 3 ^^^ d) 3 = g 3 ^^^ d := if_pos rfl
    have f1 : gset g 3 (g 3 ^^^ d) 1 = g 1 := if_neg (by decide)
    have f2 : gset g 3 (g 3 ^^^ d) 2 = g 2 := if_neg (by decide)
    have f4 : gset g 3 (g 3 ^^^ d) 4 = g 4 := if_neg (by decide)
    have f5 : gset g 3 (g 3 ^^^ d) 5 = g 5 := if_neg (by decide)
    have f6 : gset g 3 (g 3 ^^^ d) 6 = g 6 := if_neg (by decide)
    have f7 : gset g 3 (g 3 ^^^ d) 7 = g 7 := if_neg (by decide)
    rw [e1, f1, f2, f4, f5, f6, f7]
    exact hx_xor_aux (A := (16 * g 1 + g 2)) (B := (16 * (16 * (16 * g 4 + g 5) + g 6) + g 7)) (e := g 3) (j := 16) (by simp only [Nat.reducePow, Nat.reduceAdd]; omega) (by simp only [Nat.reducePow]; omega) (by omega) (by omega) (by simp only [Nat.reducePow, Nat.reduceAdd]; omega)
  · have e1 : gset g 4 (g 4 ^^^ d) 4 = g 4 ^^^ d := if_pos rfl
    have f1 : gset g 4 (g 4 ^^^ d) 1 = g 1 := if_neg (by decide)
    have f2 : gset g 4 (g 4 ^^^ d) 2 = g 2 := if_neg (by decide)
    have f3 : gset g 4 (g 4 ^^^ d) 3 = g 3 := if_neg (by decide)
    have f5 : gset g 4 (g 4 ^^^ d) 5 = g 5 := if_neg (by decide)
    have f6 : gset g 4 (g 4 ^^^ d) 6 = g 6 := if_neg (by decide)
    have f7 : gset g 4 (g 4 ^^^ d) 7 = g 7 := if_neg (by decide)
    rw [e1, f1, f2, f3, f5, f6, f7]
    exact hx_xor_aux (A := (16 * (16 * g 1 + g 2) + g 3)) (B := (16 * (16 * g 5 + g 6) + g 7)) (e := g 4) (j := 12) (by simp only [Nat.reducePow, Nat.reduceAdd]; omega) (by simp only [Nat.reducePow]; omega) (by omega) (by omega) (by simp only [Nat.reducePow, Nat.reduceAdd]; omega)
  · have e1 : gset g 5 (g 5 ^^^ d) 5 = g 5 ^^^ d := if_pos rfl
    have f1 : gset g 5 (g 5 ^^^ d) 1 = g 1 := if_neg (by decide)
    have f2 : gset g 5 (g 5 ^^^ d) 2 = g 2 := if_neg (by decide)
    have f3 : gset g 5 (g 5 ^^^ d) 3 = g 3 := if_neg (by decide)
    have f4 : gset g 5 (g 5 ^^^ d) 4 = g 4 := if_neg (by decide)
    have f6 : gset g 5 (g 5 ^^^ d) 6 = g 6 := if_neg (by decide)
    have f7 : gset g 5 (g 5 ^^^ d) 7 = g 7 := if_neg (by decide)
    rw [e1, f1, f2, f3, f4, f6, f7]
    exact hx_xor_aux (A := (16 * (16 * (16 * g 1 + g 2) + g 3) + g 4)) (B := (16 * g 6 + g 7)) (e := g 5) (j := 8) (by simp only [Nat.reducePow, Nat.reduceAdd]; omega) (by simp only [Nat.reducePow]; omega) (by omega) (by omega) (by simp only [Nat.reducePow, Nat.reduceAdd]; omega)
  · have e1 : gset g 6 (g 6 ^^^ d) 6 = g 6 ^^^ d := if_pos rfl
    have f1 : gset g 6 (g 6 ^^^ d) 1 = g 1 := if_neg (by decide)
    have f2 : gset g 6 (g 6 ^^^ d) 2 = g 2 := if_neg (by decide)
    have f3 : gset g 6 (g 6 ^^^ d) 3 = g 3 := if_neg (by decide)
    have f4 : gset g 6 (g 6 ^^^ d) 4 = g 4 := if_neg (by decide)
    have f5 : gset g 6 (g 6 ^^^ d) 5 = g 5 := if_neg (by decide)
    have f7 : gset g 6 (g 6 ^^^ d) 7 = g 7 := if_neg (by decide)
    rw [e1, f1, f2, f3, f4, f5, f7]
    exact hx_xor_aux (A := (16 * (16 * (16 * (16 * g 1 + g 2) + g 3) + g 4) + g 5)) (B := g 7) (e := g 6) (j := 4) (by simp only [Nat.reducePow, Nat.reduceAdd]; omega) (by simp only [Nat.reducePow]; omega) (by omega) (by omega) (by simp only [Nat.reducePow, Nat.reduceAdd]; omega)
  · have e1 : gset g 7 (g 7 ^^^ d) 7 = g 7 ^^^ d := if_pos rfl
    have f1 : gset g 7 (g 7 ^^^ d) 1 = g 1 := if_neg (by decide)
    have f2 : gset g 7 (g 7 ^^^ d) 2 = g 2 := if_neg (by decide)
    have f3 : gset g 7 (g 7 ^^^ d) 3 = g 3 := if_neg (by decide)
    have f4 : gset g 7 (g 7 ^^^ d) 4 = g 4 := if_neg (by decide)
    have f5 : gset g 7 (g 7 ^^^ d) 5 = g 5 := if_neg (by decide)
    have f6 : gset g 7 (g 7 ^^^ d) 6 = g 6 := if_neg (by decide)
    rw [e1, f1, f2, f3, f4, f5, f6]
    exact hx_xor_aux (A := (16 * (16 * (16 * (16 * (16 * g 1 + g 2) + g 3) + g 4) + g 5) + g 6)) (B := 0) (e := g 7) (j := 0) (by simp only [Nat.reducePow, Nat.reduceAdd]; omega) (by simp only [Nat.reducePow]; omega) (by omega) (by omega) (by simp only [Nat.reducePow, Nat.reduceAdd]; omega)
def gsw (p : Nat → Nat) (x y : Nat) : Nat → Nat := fun z => if z = x then p y else if z = y then p x else p z
theorem xor_le15 {a b : Nat} (ha : a ≤ 15) (hb : b ≤ 15) : a ^^^ b ≤ 15 := Nat.lt_succ_iff.mp (Nat.xor_lt_two_pow (n := 4) (by omega) (by omega))
theorem hx_sw {p : Nat → Nat} (hp : B7 p) {x y : Nat} (hx1 : 1 ≤ x) (hx2 : x ≤ 7) (hy1 : 1 ≤ y) (hy2 : y ≤ 7) (h : x ≠ y) : (hx p ^^^ ((p x ^^^ p y) * 2 ^ (28 - 4 * x))) ^^^ ((p x ^^^ p y) * 2 ^ (28 - 4 * y)) = hx (gsw p x y) := by
  have h15 : ∀ z, 1 ≤ z → z ≤ 7 → p z ≤ 15 := fun z a b => by have := hp z a b; omega
  have e : p x ^^^ p y ≤ 15 := xor_le15 (h15 x hx1 hx2) (h15 y hy1 hy2)
  rw [hx_xor h15 hx1 hx2 e, hx_xor (fun z a b => ?_) hy1 hy2 e]
  · refine hx_congr (fun z a b => ?_)
    unfold gset gsw
    by_cases q : z = y
    · subst q
      rw [if_pos rfl, if_neg (by omega), if_neg (by omega), if_pos rfl, Nat.xor_comm (p x), ← Nat.xor_assoc, Nat.xor_self, Nat.zero_xor]
    · rw [if_neg q]
      by_cases q2 : z = x
      · subst q2
        rw [if_pos rfl, if_pos rfl, ← Nat.xor_assoc, Nat.xor_self, Nat.zero_xor]
      · rw [if_neg q2, if_neg q2, if_neg q]
  · unfold gset
    split
    · exact xor_le15 (h15 x hx1 hx2) e
    · exact h15 z a b
def commB (f g : Nat → Nat) : Nat → Bool
  | 0 => true
  | k + 1 => commB f g k && (g (f (k + 1)) == f (g (k + 1)))
def leastB (f : Nat → Nat) (x : Nat) : Bool := (ringN f x &&& (bt x - 1)) == 0
def nthL (f : Nat → Nat) : Nat → Nat → Nat → Nat
  | 0, _, _ => 0
  | k + 1, x, i => if leastB f x then (if i = 0 then x else nthL f k (x + 1) (i - 1)) else nthL f k (x + 1) i
def nthN (f : Nat → Nat) (n i : Nat) : Nat := nthL f n 1 i
def gadd (g : Nat → Nat) (c : Nat) : Nat → Nat := fun z => if z = c then g z + 1 else g z
def tallyL (f : Nat → Nat) : Nat → Nat → (Nat → Nat) → (Nat → Nat)
  | 0, _, g => g
  | k + 1, left, g => if left = 0 then g else tallyL f k (andn left (ringN f (lowN left))) (gadd g (popc (ringN f (lowN left))))
def tallyN (f : Nat → Nat) (n : Nat) : Nat → Nat := tallyL f 7 (full n) (fun _ => 0)
def repD (t size : Nat) : Nat → Nat
  | 0 => t
  | k + 1 => repD (10 * t + size) size k
def typL (g : Nat → Nat) : Nat → Nat → Nat
  | 0, t => t
  | k + 1, t => typL g k (repD t (k + 1) (g (k + 1)))
def kindN (f : Nat → Nat) (n : Nat) : Nat := typL (tallyN f n) n 0
def restN (f : Nat → Nat) : Nat → Nat
  | 0 => 0
  | k + 1 => restN f k + (if f (k + 1) = k + 1 then 1 else 0)
def multL (t size : Nat) : Nat → Nat → Nat
  | 0, s => s
  | k + 1, s => if s % size = 0 then s else multL t size k (s + t)
def multN (t size : Nat) : Nat := multL t size size t
def orderL (f : Nat → Nat) : Nat → Nat → Nat → Nat
  | 0, _, t => t
  | k + 1, left, t => if left = 0 then t else orderL f k (andn left (ringN f (lowN left))) (multN t (popc (ringN f (lowN left))))
def orderN (f : Nat → Nat) (n : Nat) : Nat := orderL f 7 (full n) 1
def pstep (f : Nat → Nat) : Nat → Nat → Nat
  | 0, y => y
  | k + 1, y => pstep f k (f y)
def rootB (q : Nat → Nat) (k : Nat) (p : Nat → Nat) : Nat → Bool
  | 0 => true
  | x + 1 => rootB q k p x && (pstep q k (x + 1) == p (x + 1))
def pblack (what : Nat) (s a : Nat → Nat) : Nat → Nat := if what = 1 then pinv s else if what = 3 then pface s a else a
def pwhite (what : Nat) (s a : Nat → Nat) : Nat → Nat := if what = 0 then s else if what = 1 then pinv a else if what = 2 then pface s a else a
def reachL (s a : Nat → Nat) : Nat → Nat → Nat → Nat
  | 0, _, r => r
  | k + 1, left, r => if left = 0 then r else
      reachL s a k (andn left (bt (lowN left)) ||| andn (bt (s (lowN left)) ||| bt (a (lowN left))) r) (r ||| andn (bt (s (lowN left)) ||| bt (a (lowN left))) r)
def reachN (s a : Nat → Nat) (x : Nat) : Nat := reachL s a 7 (bt x) (bt x)
def joinB (s a : Nat → Nat) (n : Nat) : Bool := reachN s a 1 == full n
def partsL (s a : Nat → Nat) : Nat → Nat → Nat → Nat
  | 0, _, m => m
  | k + 1, left, m => if left = 0 then m else partsL s a k (andn left (reachN s a (lowN left))) (m + 1)
def partsN (s a : Nat → Nat) (n : Nat) : Nat := partsL s a 7 (full n) 0
def aroundL (s a : Nat → Nat) (set : Nat) : Nat → Nat
  | 0 => set
  | k + 1 =>
    let w := if set &&& bt (k + 1) = 0 then aroundL s a set k else aroundL s a set k ||| (bt (s (k + 1)) ||| bt (a (k + 1)))
    if set &&& bt (s (k + 1)) = 0 then (if set &&& bt (a (k + 1)) = 0 then w else w ||| bt (k + 1)) else w ||| bt (k + 1)
def aroundN (s a : Nat → Nat) (set : Nat) : Nat := aroundL s a set 7

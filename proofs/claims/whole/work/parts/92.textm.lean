/-! ===== the reference: text ===== -/
def TxK (w w' : Wd) : Prop := (∀ q, q ≠ 1 → q ≠ 2 → q ≠ 16 → q ≠ 17 → q ≠ 18 → q ≠ 19 → w' 63 q = w 63 q) ∧ Fr [63, 69, 70, 75] w w'
def TxtM (w : Wd) (n : Nat) (s a : Nat → Nat) (T : Nat → Int) (b wh k z : Int) (w' : Wd) : Prop :=
  (¬ ((wh = 0 ∨ wh = 1) ∧ 1 ≤ k ∧ k ≤ 60 ∧ k ≤ b) ∧ w' = w ∧ z = -1) ∨
  (((wh = 0 ∨ wh = 1) ∧ 1 ≤ k ∧ k ≤ 60 ∧ k ≤ b) ∧ TxK w w' ∧ w' 63 16 = 0 ∧
    (((txR n T k).1 ≠ 0 ∧ z = (txR n T k).1 ∧ RMW w' n s a) ∨
     ((txR n T k).1 = 0 ∧ ¬ ((txR n T k).2.1 = 1 ∨ (txR n T k).2.1 = 5) ∧ z = -1000 - k ∧ RMW w' n s a) ∨
     ((txR n T k).1 = 0 ∧ ((txR n T k).2.1 = 1 ∨ (txR n T k).2.1 = 5) ∧ Pm n (txG n T k) ∧ RMW w' n (if wh = 0 then txG n T k else s) (if wh = 0 then a else txG n T k) ∧ z = (cdk (txG n T k) n : Nat))))
/-- what stays while a text is read -/
def TxH (w wl : Wd) (K : Nat) : Prop := (∀ q, q ≠ 16 → q ≠ 17 → q ≠ 18 → q ≠ 19 → wl 63 q = w 63 q) ∧ Fr [63, 75] w wl ∧ wl 63 16 = 0 ∧ wl 63 18 = (K : Nat)
theorem TxH.kt {w w1 w2 : Wd} {K : Nat} (h : TxH w w1 K) (h2 : KT w1 w2) : TxH w w2 K := ⟨fun q a b c d => (h2.1 q b d).trans (h.1 q a b c d), h.2.1.trs h2.2, (h2.1 16 (by decide) (by decide)).trans h.2.2.1, (h2.1 18 (by decide) (by decide)).trans h.2.2.2⟩
def TxG (n K : Nat) (T : Nat → Int) (wl : Wd) (told : Int) (q : Nat) (S : RS) : Prop := wl 63 19 = 0 ∧ MR n T K q S ∧ wl 63 17 = (q : Nat) ∧ told = ((2 * S.2.1 : Nat) : Int) ∧ DRw wl n S
def TxI (w : Wd) (n K : Nat) (T : Nat → Int) (wl : Wd) (told more : Int) : Prop := TxH w wl K ∧
  ((more = 0 ∧ CyF n T K wl) ∨ ∃ (q : Nat) (S : RS), TxG n K T wl told q S ∧
    ((more = 1 ∧ (S.1 = 0 ∨ S.1 = 1) ∧ ((q < K ∧ T q ≠ 32) ∨ (q = K ∧ S.1 = 0)) ∧ (S.1 = 0 → q < K → T q ≠ 101)) ∨ (more = 0 ∧ q = K ∧ (S.1 = 1 ∨ S.1 = 5))))
theorem rdF_top {n st tl c : Nat} (h32 : c ≠ 32) (h40 : c ≠ 40) (hs : st = 0 ∨ st = 1) (h101 : st = 0 → c ≠ 101) : rdFault n st tl c = 1 := by
  unfold rdFault
  rw [if_neg h32, if_neg h40]
  by_cases r : c = 41
  · rw [if_pos r, if_neg (by omega)]
  · rw [if_neg r]
    by_cases u : c = 101
    · rw [if_pos u, if_neg (fun e => h101 e u)]
    · rw [if_neg u]
      by_cases d : 48 ≤ c ∧ c ≤ 57
      · rw [if_pos d, if_neg (by omega)]
      · rw [if_neg d]
theorem MR.spn {n K p p' : Nat} {T : Nat → Int} {S : RS} (h : MR n T K p S) (h1 : p ≤ p') (h2 : p' ≤ K) (hs : ∀ j, p ≤ j → j < p' → T j = 32) (h3 : S.1 ≠ 3) : MR n T K p' S := by
  obtain ⟨st, hm, hc⟩ := h.sp (p' - p) (by omega) (fun j a b => hs j a (by omega))
  rw [show p + (p' - p) = p' by omega] at hm
  have : st = S.1 := by
    rcases hc with ⟨-, e⟩ | ⟨-, e⟩
    · exact e
    · rw [e, if_neg h3]
  rw [this] at hm; exact hm
theorem MR.top {n K q : Nat} {T : Nat → Int} {S : RS} (h : MR n T K q S) (hT : ∀ j, j < 120 → 0 ≤ T j ∧ T j ≤ 255) (hK : K ≤ 60) (hs : S.1 = 0 ∨ S.1 = 1) (hq : (q < K ∧ T q ≠ 32) ∨ (q = K ∧ S.1 = 0)) (h101 : S.1 = 0 → q < K → T q ≠ 101) (h40 : q < K → T q ≠ 40) {F : Int} (hF : F = -1000 - (q : Int)) : TxE n T K F := by
  rcases hq with ⟨hk, h32⟩ | ⟨e, e0⟩
  · have := hT q (by omega)
    have h4 := h40 hk
    exact h.badE hK hk (f := 1) (rdF_top (by omega) (by omega) hs (fun e => by have := h101 e hk; omega)) (by decide) (by decide) (by omega)
  · subst e; exact h.finE hK (by omega) hF
theorem SeeP.id {T : Nat → Int} {p K : Nat} {z : Int} {w w' : Wd} (h : SeeP T p K z w w') (hp : p = K ∨ T p ≠ 32) : w' 63 17 = (p : Nat) ∧ w' 63 19 = w 63 19 ∧ KT w w' ∧ (∀ j, w' 75 j = w 75 j) ∧ ((p = K ∧ z = -1) ∨ (p < K ∧ T p ≠ 32 ∧ z = T p)) := by
  obtain ⟨p', h1, h2, hs, a, b, c, d, e⟩ := h
  have : p' = p := by
    by_cases q : p' = p
    · exact q
    · rcases hp with r | r
      · omega
      · exact absurd (hs p (Nat.le_refl p) (by omega)) r
  subst this
  exact ⟨a, b, c, d, e⟩
theorem SeeP.rg {T : Nat → Int} {p K : Nat} {z : Int} {w w' : Wd} (h : SeeP T p K z w w') (hT : ∀ j, j < 120 → 0 ≤ T j ∧ T j ≤ 255) (hK : K ≤ 60) : rg z := by
  obtain ⟨p', -, -, -, -, -, -, -, e⟩ := h
  rcases e with e | e
  · rw [e.2]; decide
  · have := hT p' (by omega); omega

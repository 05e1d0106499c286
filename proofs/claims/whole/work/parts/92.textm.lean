/-! ===== the reference: text ===== -/
def TxK (w w' : Wd) : Prop := (∀ q, q ≠ 1 → q ≠ 2 → q ≠ 16 → q ≠ 17 → q ≠ 18 → q ≠ 19 → w' 63 q = w 63 q) ∧ Fr [63, 69, 70, 75] w w'
theorem KT.txk {w0 w w' : Wd} (h0 : TxK w0 w) (h : KT w w') : TxK w0 w' := ⟨fun q a b c d e f => (h.1 q d f).trans (h0.1 q a b c d e f), h0.2.trs (h.2.mono rfl)⟩
def TxtM (w : Wd) (n : Nat) (s a : Nat → Nat) (T : Nat → Int) (b wh k z : Int) (w' : Wd) : Prop :=
  (¬ ((wh = 0 ∨ wh = 1) ∧ 1 ≤ k ∧ k ≤ 60 ∧ k ≤ b) ∧ w' = w ∧ z = -1) ∨
  (((wh = 0 ∨ wh = 1) ∧ 1 ≤ k ∧ k ≤ 60 ∧ k ≤ b) ∧ TxK w w' ∧ w' 63 16 = 0 ∧
    (((txR n T k).1 ≠ 0 ∧ z = (txR n T k).1 ∧ RMW w' n s a) ∨
     ((txR n T k).1 = 0 ∧ ¬ ((txR n T k).2.1 = 1 ∨ (txR n T k).2.1 = 5) ∧ z = -1000 - k ∧ RMW w' n s a) ∨
     ((txR n T k).1 = 0 ∧ ((txR n T k).2.1 = 1 ∨ (txR n T k).2.1 = 5) ∧ Pm n (txG n T k) ∧ RMW w' n (if wh = 0 then txG n T k else s) (if wh = 0 then a else txG n T k) ∧ z = (cdk (txG n T k) n : Nat))))
def TxI (w : Wd) (n K : Nat) (T : Nat → Int) (wl : Wd) (told more : Int) : Prop := TxK w wl ∧ wl 63 16 = 0 ∧ wl 63 18 = (K : Nat) ∧ (wl 63 1 = w 63 1 ∧ wl 63 2 = w 63 2) ∧
  (CyF n T K wl ∧ more = 0 ∨ (wl 63 19 = 0 ∧ ∃ (q : Nat) (S : RS), MR n T K q S ∧ wl 63 17 = (q : Nat) ∧ told = ((2 * S.2.1 : Nat) : Int) ∧ DRw wl n S ∧ ((more = 1 ∧ (S.1 = 0 ∨ S.1 = 1) ∧ (q < K → T q ≠ 32)  ∧ (S.1 = 0 → q = K ∨ T q ≠ 101)) ∨ (more = 0 ∧ q = K ∧ (S.1 = 1 ∨ S.1 = 5)))))

/-! ===== the reference: a cycle of a text ===== -/
def MR (n : Nat) (T : Nat → Int) (K p : Nat) (S : RS) : Prop := p ≤ K ∧ txL n T (K - p) p S = txR n T (K : Int) ∧ RdV n S
theorem MR.init {n K : Nat} {T : Nat → Int} (h7 : n ≤ 7) : MR n T K 0 rs0 := ⟨Nat.zero_le _, by unfold txR; rw [Int.toNat_natCast, Nat.sub_zero], RdV.init h7⟩
theorem MR.step {n K p : Nat} {T : Nat → Int} {S : RS} (h : MR n T K p S) (hp : p < K) (h0 : rdFault n S.1 S.2.1 (T p).toNat = 0) : MR n T K (p + 1) (rdN S (T p).toNat) := by
  refine ⟨hp, ?_, h.2.2.step h0⟩
  rw [← h.2.1, show K - p = (K - (p + 1)) + 1 by omega]
  conv => rhs; simp only [txL]
  rw [if_pos h0]
theorem MR.bad {n K p : Nat} {T : Nat → Int} {S : RS} (h : MR n T K p S) (hp : p < K) {f : Nat} (hf : rdFault n S.1 S.2.1 (T p).toNat = f) (h0 : f ≠ 0) : txR n T (K : Int) = (-1000 * (f : Int) - p, S) := by
  rw [← h.2.1, show K - p = (K - (p + 1)) + 1 by omega]
  simp only [txL]
  rw [if_neg (by omega), hf]
theorem MR.fin {n K : Nat} {T : Nat → Int} {S : RS} (h : MR n T K K S) : txR n T (K : Int) = (0, S) := by
  rw [← h.2.1, Nat.sub_self]; rfl
theorem MR.sp {n K p : Nat} {T : Nat → Int} {S : RS} (h : MR n T K p S) : ∀ m, p + m ≤ K → (∀ j, p ≤ j → j < p + m → T j = 32) → ∃ st, MR n T K (p + m) (st, S.2) ∧ ((m = 0 ∧ st = S.1) ∨ (0 < m ∧ st = if S.1 = 3 then 4 else S.1))
  | 0, _, _ => ⟨S.1, h, Or.inl ⟨rfl, rfl⟩⟩
  | m + 1, hm, hs => by
    obtain ⟨st, h1, h2⟩ := MR.sp h m (by omega) (fun j a b => hs j a (by omega))
    have e : T (p + m) = 32 := hs (p + m) (by omega) (by omega)
    have k := h1.step (by omega) (by rw [e]; rfl)
    rw [e] at k
    refine ⟨if st = 3 then 4 else st, k, Or.inr ⟨by omega, ?_⟩⟩
    rcases h2 with ⟨-, q⟩ | ⟨-, q⟩ <;> rw [q]
    by_cases r : S.1 = 3
    · rw [if_pos r]; rfl
    · rw [if_neg r, if_neg r]
def TxE (n : Nat) (T : Nat → Int) (K : Nat) (F : Int) : Prop := (F ≠ 0 ∧ -4000 ≤ F ∧ F ≤ 0) ∧ (((txR n T (K : Int)).1 ≠ 0 ∧ F = (txR n T (K : Int)).1) ∨ ((txR n T (K : Int)).1 = 0 ∧ ¬ ((txR n T (K : Int)).2.1 = 1 ∨ (txR n T (K : Int)).2.1 = 5) ∧ F = -1000 - (K : Int)))
theorem MR.badE {n K p : Nat} {T : Nat → Int} {S : RS} (h : MR n T K p S) (hK : K ≤ 60) (hp : p < K) {f : Nat} (hf : rdFault n S.1 S.2.1 (T p).toNat = f) (h0 : 1 ≤ f) (h3 : f ≤ 3) {F : Int} (hF : F = -1000 * (f : Int) - p) : TxE n T K F := by
  have e := h.bad hp hf (by omega)
  refine ⟨by omega, Or.inl ?_⟩
  rw [e]; exact ⟨by show -1000 * (f : Int) - p ≠ 0; omega, hF⟩
theorem MR.finE {n K : Nat} {T : Nat → Int} {S : RS} (h : MR n T K K S) (hK : K ≤ 60) (hs : ¬ (S.1 = 1 ∨ S.1 = 5)) {F : Int} (hF : F = -1000 - (K : Int)) : TxE n T K F := by
  have e := h.fin
  refine ⟨by omega, Or.inr ?_⟩
  rw [e]; exact ⟨rfl, hs, hF⟩
def drF (S : RS) : Nat → Nat := txF S.2.1 (if S.1 = 3 ∨ S.1 = 4 then gset S.2.2.2.2 S.2.2.2.1 S.2.2.1 else S.2.2.2.2)
def DRw (w : Wd) (n : Nat) (S : RS) : Prop := ∀ x, 1 ≤ x → x ≤ n → w 75 x = (drF S x : Nat)
theorem or_dbl : ∀ t : Nat, t < 128 → ∀ d : Nat, d < 7 → 2 * t ||| 2 ^ (d + 1) = 2 * (t ||| bt (d + 1)) := by decide +kernel
theorem MR.ok {n K p : Nat} {T : Nat → Int} {S : RS} (h : MR n T K p S) : S.1 ≤ 5 ∧ S.2.1 < 128 ∧ S.2.2.1 ≤ 7 ∧ S.2.2.2.1 ≤ 7 ∧ ((S.1 = 3 ∨ S.1 = 4) ↔ S.2.2.1 ≠ 0) ∧ ((S.1 = 3 ∨ S.1 = 4) → hasb S.2.1 S.2.2.2.1 ∧ 1 ≤ S.2.2.2.1) := by
  obtain ⟨⟨-, a, b, c, d, -, e, f⟩, g, -⟩ := h.2.2
  exact ⟨a, b, c, d, ⟨fun q => by have := (e q).2.2; omega, f⟩, fun q => ⟨(g q).1, (e q).1⟩⟩
theorem rdN_dig {S : RS} {c d : Nat} (hc : c = 48 + d) (hd : d ≤ 9) : rdN S c = (3, S.2.1 ||| bt d, (if S.2.2.1 = 0 then d else S.2.2.1), d, (if S.2.2.1 = 0 then S.2.2.2.2 else gset S.2.2.2.2 S.2.2.2.1 d)) := by
  have e : c - 48 = d := by omega
  have a1 : ¬ c = 32 := by omega
  have a2 : ¬ c = 40 := by omega
  have a3 : ¬ c = 41 := by omega
  have a4 : ¬ c = 101 := by omega
  unfold rdN rdSt rdTl rdFi rdLa rdG
  simp only [a1, a2, a3, a4, or_self, if_false, e]
theorem rdF_dig {n st tl c d : Nat} (hc : c = 48 + d) (hd : d ≤ 9) : rdFault n st tl c = if st = 2 ∨ st = 4 then (if d < 1 ∨ n < d then 2 else if tl &&& bt d ≠ 0 then 3 else 0) else 1 := by
  have e : c - 48 = d := by omega
  unfold rdFault
  rw [if_neg (by omega), if_neg (by omega), if_neg (by omega), if_neg (by omega), if_pos (by omega), e]
theorem rdF_oth {n st tl c : Nat} (h32 : c ≠ 32) (hd : ¬ (48 ≤ c ∧ c ≤ 57)) (hs : st = 2 ∨ st = 3 ∨ st = 4) (h41 : ¬ (c = 41 ∧ (st = 3 ∨ st = 4))) : rdFault n st tl c = 1 := by
  unfold rdFault
  rw [if_neg h32]
  by_cases q : c = 40
  · rw [if_pos q, if_neg (by omega)]
  · rw [if_neg q]
    by_cases r : c = 41
    · rw [if_pos r, if_neg (fun e => h41 ⟨r, e⟩)]
    · rw [if_neg r]
      by_cases u : c = 101
      · rw [if_pos u, if_neg (by omega)]
      · rw [if_neg u, if_neg hd]
theorem txF_add {tl d x : Nat} {g : Nat → Nat} (ht : tl < 128) (hd1 : 1 ≤ d) (hd7 : d ≤ 7) (hx1 : 1 ≤ x) (hx7 : x ≤ 7) : txF (tl ||| bt d) g x = if x = d then g d else txF tl g x := by
  unfold txF
  by_cases q : x = d
  · rw [if_pos q, if_pos ⟨hx1, hx7, (hasb_or ht hd1 hd7 hx1 hx7).mpr (Or.inr q)⟩, q]
  · rw [if_neg q]
    by_cases r : hasb tl x
    · rw [if_pos ⟨hx1, hx7, (hasb_or ht hd1 hd7 hx1 hx7).mpr (Or.inl r)⟩, if_pos ⟨hx1, hx7, r⟩]
    · rw [if_neg (fun e => ((hasb_or ht hd1 hd7 hx1 hx7).mp e.2.2).elim r q), if_neg (fun e => r e.2.2)]
theorem dr_first {S : RS} {c d x : Nat} (ht : S.2.1 < 128) (hc : c = 48 + d) (hd1 : 1 ≤ d) (hd7 : d ≤ 7) (h0 : S.2.2.1 = 0) (hs : ¬ (S.1 = 3 ∨ S.1 = 4)) (hx1 : 1 ≤ x) (hx7 : x ≤ 7) : drF (rdN S c) x = if x = d then d else drF S x := by
  rw [rdN_dig hc (by omega), if_pos h0, if_pos h0]
  show txF (S.2.1 ||| bt d) (gset S.2.2.2.2 d d) x = _
  rw [txF_add ht hd1 hd7 hx1 hx7]
  unfold drF
  rw [if_neg hs]
  by_cases q : x = d
  · rw [if_pos q, if_pos q]; unfold gset; rw [if_pos rfl]
  · rw [if_neg q, if_neg q]; unfold txF gset; rw [if_neg q]
theorem dr_next {S : RS} {c d x : Nat} (ht : S.2.1 < 128) (hc : c = 48 + d) (hd1 : 1 ≤ d) (hd7 : d ≤ 7) (h0 : S.2.2.1 ≠ 0) (hs : S.1 = 3 ∨ S.1 = 4) (hla : hasb S.2.1 S.2.2.2.1) (hnd : ¬ hasb S.2.1 d) (hx1 : 1 ≤ x) (hx7 : x ≤ 7) :
    drF (rdN S c) x = if x = d then S.2.2.1 else if x = S.2.2.2.1 then d else drF S x := by
  rw [rdN_dig hc (by omega), if_neg h0, if_neg h0]
  show txF (S.2.1 ||| bt d) (gset (gset S.2.2.2.2 S.2.2.2.1 d) d S.2.2.1) x = _
  rw [txF_add ht hd1 hd7 hx1 hx7]
  unfold drF
  rw [if_pos hs]
  by_cases q : x = d
  · rw [if_pos q, if_pos q]; unfold gset; rw [if_pos rfl]
  · rw [if_neg q, if_neg q]
    by_cases r : x = S.2.2.2.1
    · rw [if_pos r]; unfold txF gset; rw [if_neg q, if_pos r, if_pos ⟨hx1, hx7, by rw [r]; exact hla⟩]
    · rw [if_neg r]; unfold txF gset; rw [if_neg q, if_neg r, if_neg r]
theorem dr_close {S : RS} (hs : S.1 = 3 ∨ S.1 = 4) : drF (rdN S 41) = drF S := by
  unfold drF; rw [if_pos hs]; rfl
theorem dr_open {S : RS} (hs : S.1 = 0 ∨ S.1 = 1) : drF (rdN S 40) = drF S := by
  unfold drF
  rw [if_neg (show ¬ (S.1 = 3 ∨ S.1 = 4) by omega)]
  show txF S.2.1 (if (2 : Nat) = 3 ∨ (2 : Nat) = 4 then _ else S.2.2.2.2) = _
  rw [if_neg (by decide)]
theorem dr_sp {S : RS} {st : Nat} (h : (st = 3 ∨ st = 4) ↔ (S.1 = 3 ∨ S.1 = 4)) : drF (st, S.2) = drF S := by
  unfold drF
  by_cases q : S.1 = 3 ∨ S.1 = 4
  · rw [if_pos q, if_pos (h.mpr q)]
  · rw [if_neg q, if_neg (fun e => q (h.mp e))]
def IsD (t : Int) : Prop := 48 ≤ t ∧ t ≤ 57

/-! ways: the other way of counting -/
theorem bt7 {x : Nat} (h : 1 ≤ x ∧ x ≤ 7) : bt x < 128 := bt_lt h.1 h.2
theorem aroundL_has {s a : Nat → Nat} (hs : P7 s) (ha : P7 a) {u y : Nat} (hu : u < 128) (h1 : 1 ≤ y) (h2 : y ≤ 7) : ∀ k, k ≤ 7 → (hasb (aroundL s a u k) y ↔ (hasb u y ∨ ∃ x, 1 ≤ x ∧ x ≤ k ∧ ((hasb u x ∧ (y = s x ∨ y = a x)) ∨ (y = x ∧ (hasb u (s x) ∨ hasb u (a x))))))
  | 0, _ => ⟨fun h => Or.inl h, fun h => h.elim id (fun ⟨x, q1, q2, _⟩ => absurd q1 (by omega))⟩
  | k + 1, hk => by
    have ih := aroundL_has hs ha hu h1 h2 k (by omega)
    have cs := hs (k + 1) (by omega) (by omega)
    have ca := ha (k + 1) (by omega) (by omega)
    have hL := aroundL_lt hs ha hu k (by omega)
    have hsa : bt (s (k + 1)) ||| bt (a (k + 1)) < 128 := or_lt7 (bt7 cs) (bt7 ca)
    have hw : ∀ w : Nat, w = (if u &&& bt (k + 1) = 0 then aroundL s a u k else aroundL s a u k ||| (bt (s (k + 1)) ||| bt (a (k + 1)))) → w < 128 ∧ (hasb w y ↔ (hasb (aroundL s a u k) y ∨ (hasb u (k + 1) ∧ (y = s (k + 1) ∨ y = a (k + 1))))) := by
      intro w e
      by_cases q : u &&& bt (k + 1) = 0
      · rw [if_pos q] at e
        rw [e]
        exact ⟨hL, fun h => Or.inl h, fun h => h.elim id (fun h => absurd q h.1)⟩
      · rw [if_neg q] at e
        rw [e]
        refine ⟨or_lt7 hL hsa, ?_⟩
        rw [hasb_or2 hL hsa h1 h2, hasb_or2 (bt7 cs) (bt7 ca) h1 h2, hasb_bt cs.1 cs.2 h1 h2, hasb_bt ca.1 ca.2 h1 h2]
        exact ⟨fun h => h.elim Or.inl (fun h => Or.inr ⟨q, h⟩), fun h => h.elim Or.inl (fun h => Or.inr h.2)⟩
    obtain ⟨w, ew⟩ : ∃ w, w = (if u &&& bt (k + 1) = 0 then aroundL s a u k else aroundL s a u k ||| (bt (s (k + 1)) ||| bt (a (k + 1)))) := ⟨_, rfl⟩
    obtain ⟨w1, w2⟩ := hw w ew
    have hx : hasb (w ||| bt (k + 1)) y ↔ hasb w y ∨ y = k + 1 := hasb_or w1 (by omega) hk h1 h2
    have key : hasb (aroundL s a u (k + 1)) y ↔ (hasb w y ∨ (y = k + 1 ∧ (hasb u (s (k + 1)) ∨ hasb u (a (k + 1))))) := by
      simp only [aroundL]
      rw [← ew]
      by_cases q : u &&& bt (s (k + 1)) = 0
      · rw [if_pos q]
        by_cases r : u &&& bt (a (k + 1)) = 0
        · rw [if_pos r]
          exact ⟨Or.inl, fun h => h.elim id (fun h => h.2.elim (fun z => absurd q z) (fun z => absurd r z))⟩
        · rw [if_neg r, hx]
          exact ⟨fun h => h.elim Or.inl (fun h => Or.inr ⟨h, Or.inr r⟩), fun h => h.elim Or.inl (fun h => Or.inr h.1)⟩
      · rw [if_neg q, hx]
        exact ⟨fun h => h.elim Or.inl (fun h => Or.inr ⟨h, Or.inl q⟩), fun h => h.elim Or.inl (fun h => Or.inr h.1)⟩
    rw [key, w2, ih]
    constructor
    · rintro (((h | ⟨x, q1, q2, q3⟩) | h) | h)
      · exact Or.inl h
      · exact Or.inr ⟨x, q1, by omega, q3⟩
      · exact Or.inr ⟨k + 1, by omega, by omega, Or.inl h⟩
      · exact Or.inr ⟨k + 1, by omega, by omega, Or.inr h⟩
    · rintro (h | ⟨x, q1, q2, q3⟩)
      · exact Or.inl (Or.inl (Or.inl h))
      · by_cases q : x = k + 1
        · subst q
          rcases q3 with q3 | q3
          · exact Or.inl (Or.inr q3)
          · exact Or.inr q3
        · exact Or.inl (Or.inl (Or.inr ⟨x, q1, by omega, q3⟩))
/-- a table after marks -/
def RdW (T : Nat → Int) (i : Int) (T' : Nat → Int) (R : Nat → Prop) : Prop := ∀ v, (T v ≠ -1 → T' v = T v) ∧ (T v = -1 → (R v → T' v = i + 1) ∧ (¬ R v → T' v = -1))
theorem RdW.st {T : Nat → Int} {i : Int} {T' : Nat → Int} {R : Nat → Prop} (h0 : 0 ≤ i) (h : RdW T i T' R) (x y : Nat) : RdW T i (stW T' x y i) (fun v => R v ∨ (T x = i ∧ v = y)) := by
  have e : T' x = i ↔ T x = i := by
    by_cases q : T x = -1
    · have h1 := (h x).2 q
      by_cases r : R x
      · have := h1.1 r; omega
      · have := h1.2 r; omega
    · rw [(h x).1 q]
  intro v
  have hv := h v
  unfold stW
  by_cases hy : v = y
  · subst hy
    refine ⟨fun q => ?_, fun q => ⟨fun r => ?_, fun r => ?_⟩⟩
    · have := hv.1 q
      rw [if_neg (fun z => by have := z.1.2; omega)]; exact this
    · by_cases r1 : R v
      · have := (hv.2 q).1 r1
        rw [if_neg (fun z => by have := z.1.2; omega)]; exact this
      · have := (hv.2 q).2 r1
        rcases r with r | r
        · exact absurd r r1
        · rw [if_pos ⟨⟨e.mpr r.1, this⟩, rfl⟩]
    · have := (hv.2 q).2 (fun z => r (Or.inl z))
      rw [if_neg (fun z => r (Or.inr ⟨e.mp z.1.1, rfl⟩))]; exact this
  · rw [if_neg (fun z => hy z.2)]
    exact ⟨hv.1, fun q => ⟨fun r => (hv.2 q).1 (r.elim id (fun z => absurd z.2 hy)), fun r => (hv.2 q).2 (fun z => r (Or.inl z))⟩⟩
theorem RdW.imp {T : Nat → Int} {i : Int} {T' : Nat → Int} {R Q : Nat → Prop} (h : RdW T i T' R) (e : ∀ v, R v ↔ Q v) : RdW T i T' Q := fun v => ⟨(h v).1, fun q => ⟨fun r => ((h v).2 q).1 ((e v).mpr r), fun r => ((h v).2 q).2 (fun z => r ((e v).mp z))⟩⟩
theorem RdW.rd {T : Nat → Int} {i : Int} {s a : Nat → Nat} (h0 : 0 ≤ i) : ∀ m, RdW T i (rdW s a i T m) (fun v => ∃ x, 1 ≤ x ∧ x ≤ m ∧ ((T x = i ∧ (v = s x ∨ v = a x)) ∨ (v = x ∧ (T (s x) = i ∨ T (a x) = i))))
  | 0 => fun v => ⟨fun _ => rfl, fun q => ⟨fun ⟨x, q1, q2, _⟩ => absurd q1 (by omega), fun _ => q⟩⟩
  | m + 1 => by
    have h := ((((RdW.rd (s := s) (a := a) (T := T) h0 m).st h0 (m + 1) (s (m + 1))).st h0 (s (m + 1)) (m + 1)).st h0 (m + 1) (a (m + 1))).st h0 (a (m + 1)) (m + 1)
    refine h.imp (fun v => ⟨?_, ?_⟩)
    · rintro ((((⟨x, q1, q2, q3⟩ | h) | h) | h) | h)
      · exact ⟨x, q1, by omega, q3⟩
      · exact ⟨m + 1, by omega, by omega, Or.inl ⟨h.1, Or.inl h.2⟩⟩
      · exact ⟨m + 1, by omega, by omega, Or.inr ⟨h.2, Or.inl h.1⟩⟩
      · exact ⟨m + 1, by omega, by omega, Or.inl ⟨h.1, Or.inr h.2⟩⟩
      · exact ⟨m + 1, by omega, by omega, Or.inr ⟨h.2, Or.inr h.1⟩⟩
    · rintro ⟨x, q1, q2, q3⟩
      by_cases q : x = m + 1
      · subst q
        rcases q3 with ⟨q3, q4 | q4⟩ | ⟨q3, q4 | q4⟩
        · exact Or.inl (Or.inl (Or.inl (Or.inr ⟨q3, q4⟩)))
        · exact Or.inl (Or.inr ⟨q3, q4⟩)
        · exact Or.inl (Or.inl (Or.inr ⟨q4, q3⟩))
        · exact Or.inr ⟨q4, q3⟩
      · exact Or.inl (Or.inl (Or.inl (Or.inl ⟨x, q1, by omega, q3⟩)))
/-- what holds between the table and the set after k rounds -/
def WJ (n : Nat) (s a : Nat → Nat) (k : Nat) (T : Nat → Int) (u : Nat) : Prop :=
  (u < 128 ∧ ∀ v, 1 ≤ v → v ≤ 7 → (hasb u v ↔ (v ≤ n ∧ T v ≠ -1))) ∧ (∀ v, -1 ≤ T v ∧ T v ≤ k) ∧ (∀ x y, 1 ≤ x → x ≤ n → 1 ≤ y → y ≤ n → T x ≠ -1 → T x < k → (y = s x ∨ y = a x ∨ x = s y ∨ x = a y) → T y ≠ -1) ∧ ∀ j : Nat, (j : Int) ≤ k → (∃ v, 1 ≤ v ∧ v ≤ n ∧ T v = k) → ∃ x, 1 ≤ x ∧ x ≤ n ∧ T x = j
theorem WJ.st {n : Nat} {s a : Nat → Nat} {k : Nat} {T : Nat → Int} {u : Nat} (h7 : n ≤ 7) (hs : Pm n s) (ha : Pm n a) (h : WJ n s a k T u) : WJ n s a (k + 1) (rdW s a (k : Int) T n) (aroundN s a u) := by
  obtain ⟨⟨hu, hh⟩, hT, hc, hj⟩ := h
  have hR := RdW.rd (s := s) (a := a) (T := T) (i := (k : Int)) (by omega) n
  obtain ⟨T', eT⟩ : ∃ T', T' = rdW s a (k : Int) T n := ⟨_, rfl⟩
  rw [← eT] at hR ⊢
  clear eT
  have hb : ∀ v, T' v = T v ∨ (T v = -1 ∧ T' v = k + 1) := by
    intro v
    by_cases q : T v = -1
    · by_cases r : ∃ x, 1 ≤ x ∧ x ≤ n ∧ ((T x = k ∧ (v = s x ∨ v = a x)) ∨ (v = x ∧ (T (s x) = k ∨ T (a x) = k)))
      · exact Or.inr ⟨q, ((hR v).2 q).1 r⟩
      · exact Or.inl ((((hR v).2 q).2 r).trans q.symm)
    · exact Or.inl ((hR v).1 q)
  have keep : ∀ v, T v ≠ -1 → T' v ≠ -1 := fun v q => by rw [(hR v).1 q]; exact q
  have s7 := hs.b7 h7
  have a7 := ha.b7 h7
  refine ⟨⟨aroundL_lt s7 a7 hu 7 (Nat.le_refl _), fun v h1 h2 => ?_⟩, fun v => ?_, ?_, ?_⟩
  · rw [show aroundN s a u = aroundL s a u 7 from rfl, aroundL_has s7 a7 hu h1 h2 7 (Nat.le_refl _)]
    constructor
    · rintro (h | ⟨x, x1, x2, ⟨hx, hv⟩ | ⟨rfl, hv⟩⟩)
      · have := (hh v h1 h2).mp h
        exact ⟨this.1, keep v this.2⟩
      · obtain ⟨xn, xT⟩ := (hh x x1 x2).mp hx
        have sx := hs.1 x x1 xn
        have ax := ha.1 x x1 xn
        have vn : v ≤ n := by rcases hv with rfl | rfl <;> omega
        refine ⟨vn, ?_⟩
        by_cases q : T v = -1
        · have hk : T x = k := by
            have := hT x
            by_cases r : T x < k
            · exact absurd q (hc x v x1 xn h1 vn xT r (hv.elim Or.inl (fun z => Or.inr (Or.inl z))))
            · omega
          rw [((hR v).2 q).1 ⟨x, x1, xn, Or.inl ⟨hk, hv⟩⟩]; omega
        · exact keep v q
      · have vn : v ≤ n := by
          refine Classical.byContradiction (fun c => ?_)
          have e1 := hs.2.2 v (Or.inr (by omega))
          have e2 := ha.2.2 v (Or.inr (by omega))
          rw [e1, e2] at hv
          have := (hh v h1 h2).mp (hv.elim id id)
          omega
        refine ⟨vn, ?_⟩
        have sx := hs.1 v h1 vn
        have ax := ha.1 v h1 vn
        by_cases q : T v = -1
        · have hk : T (s v) = k ∨ T (a v) = k := by
            rcases hv with hv | hv
            · have xT := ((hh (s v) sx.1 (by omega)).mp hv).2
              have := hT (s v)
              by_cases r : T (s v) < k
              · exact absurd q (hc (s v) v sx.1 sx.2 h1 vn xT r (Or.inr (Or.inr (Or.inl rfl))))
              · omega
            · have xT := ((hh (a v) ax.1 (by omega)).mp hv).2
              have := hT (a v)
              by_cases r : T (a v) < k
              · exact absurd q (hc (a v) v ax.1 ax.2 h1 vn xT r (Or.inr (Or.inr (Or.inr rfl))))
              · omega
          rw [((hR v).2 q).1 ⟨v, h1, vn, Or.inr ⟨rfl, hk⟩⟩]; omega
        · exact keep v q
    · rintro ⟨vn, hv⟩
      by_cases q : T v = -1
      · refine Or.inr ?_
        have r : ∃ x, 1 ≤ x ∧ x ≤ n ∧ ((T x = k ∧ (v = s x ∨ v = a x)) ∨ (v = x ∧ (T (s x) = k ∨ T (a x) = k))) := Classical.byContradiction (fun r => hv (((hR v).2 q).2 r))
        obtain ⟨x, x1, xn, r⟩ := r
        have sx := hs.1 x x1 xn
        have ax := ha.1 x x1 xn
        refine ⟨x, x1, by omega, ?_⟩
        rcases r with ⟨r1, r2⟩ | ⟨r1, r2⟩
        · exact Or.inl ⟨(hh x x1 (by omega)).mpr ⟨xn, by omega⟩, r2⟩
        · refine Or.inr ⟨r1, ?_⟩
          rcases r2 with r2 | r2
          · exact Or.inl ((hh _ sx.1 (by omega)).mpr ⟨sx.2, by omega⟩)
          · exact Or.inr ((hh _ ax.1 (by omega)).mpr ⟨ax.2, by omega⟩)
      · exact Or.inl ((hh v h1 h2).mpr ⟨vn, q⟩)
  · have := hT v
    rcases hb v with e | e <;> omega
  · intro x y x1 xn y1 yn hx hxk hy
    have tx := hT x
    have exx : T' x = T x ∧ T x ≠ -1 := by rcases hb x with e | e <;> omega
    by_cases q : T y = -1
    · by_cases r : T x < k
      · exact absurd q (hc x y x1 xn y1 yn exx.2 r hy)
      · have ek : T x = k := by omega
        have : ∃ z, 1 ≤ z ∧ z ≤ n ∧ ((T z = k ∧ (y = s z ∨ y = a z)) ∨ (y = z ∧ (T (s z) = k ∨ T (a z) = k))) := by
          rcases hy with hy | hy | hy | hy
          · exact ⟨x, x1, xn, Or.inl ⟨ek, Or.inl hy⟩⟩
          · exact ⟨x, x1, xn, Or.inl ⟨ek, Or.inr hy⟩⟩
          · exact ⟨y, y1, yn, Or.inr ⟨rfl, Or.inl (by rw [← hy]; exact ek)⟩⟩
          · exact ⟨y, y1, yn, Or.inr ⟨rfl, Or.inr (by rw [← hy]; exact ek)⟩⟩
        rw [((hR y).2 q).1 this]; omega
    · exact keep y q
  · rintro j hjk ⟨v, v1, vn, hv⟩
    have tv := hT v
    have q : T v = -1 := by rcases hb v with e | e <;> omega
    have r : ∃ x, 1 ≤ x ∧ x ≤ n ∧ ((T x = k ∧ (v = s x ∨ v = a x)) ∨ (v = x ∧ (T (s x) = k ∨ T (a x) = k))) := Classical.byContradiction (fun r => by have := ((hR v).2 q).2 r; omega)
    by_cases e : j = k + 1
    · exact ⟨v, v1, vn, by rw [hv, e]⟩
    · have hz : ∃ z, 1 ≤ z ∧ z ≤ n ∧ T z = k := by
        obtain ⟨x, x1, xn, r⟩ := r
        rcases r with ⟨r1, -⟩ | ⟨-, r2 | r2⟩
        · exact ⟨x, x1, xn, r1⟩
        · exact ⟨s x, (hs.1 x x1 xn).1, (hs.1 x x1 xn).2, r2⟩
        · exact ⟨a x, (ha.1 x x1 xn).1, (ha.1 x x1 xn).2, r2⟩
      obtain ⟨x, x1, xn, hx⟩ := hj j (by omega) hz
      exact ⟨x, x1, xn, by rw [(hR x).1 (by omega)]; exact hx⟩
def arI (s a : Nat → Nat) (u : Nat) : Nat → Nat
  | 0 => u
  | k + 1 => aroundN s a (arI s a u k)
theorem WJ.al {n : Nat} {s a : Nat → Nat} {d : Nat} (h7 : n ≤ 7) (hs : Pm n s) (ha : Pm n a) (d1 : 1 ≤ d) (dn : d ≤ n) : ∀ k, WJ n s a k (alW n s a d k) (arI s a (bt d) k)
  | 0 => by
    have e : ∀ v, alW n s a d 0 v = if v = d then 0 else -1 := fun _ => rfl
    refine ⟨⟨bt_lt d1 (by omega), fun v h1 h2 => ?_⟩, fun v => ?_, fun x y _ _ _ _ h1 h2 _ => ?_, fun j hj _ => ?_⟩
    · show hasb (bt d) v ↔ _
      rw [hasb_bt d1 (by omega) h1 h2, e]
      by_cases q : v = d
      · rw [if_pos q]; exact ⟨fun _ => ⟨by omega, by omega⟩, fun _ => q⟩
      · rw [if_neg q]; exact ⟨fun z => absurd z q, fun z => absurd rfl z.2⟩
    · rw [e]; split <;> omega
    · rw [e] at h1 h2
      split at h1 <;> omega
    · refine ⟨d, d1, dn, ?_⟩
      rw [e, if_pos rfl]; omega
  | k + 1 => (WJ.al h7 hs ha d1 dn k).st h7 hs ha
/-- no way is as long as there are darts -/
theorem WJ.no {n : Nat} {s a : Nat → Nat} {T : Nat → Int} {u : Nat} (h : WJ n s a n T u) {v : Nat} (h1 : 1 ≤ v) (hn : v ≤ n) : T v ≠ n := by
  intro e
  have hl := nd_le ((List.range (n + 1)).map (fun (j : Nat) => (j : Int))) ((List.range n).map (fun x => T (x + 1))) (by
    rw [List.pairwise_map]
    exact (List.nodup_range (n := n + 1)).imp (fun h e => h (by omega))) (fun z hz => by
    obtain ⟨j, hj, rfl⟩ := List.mem_map.mp hz
    rw [List.mem_range] at hj
    obtain ⟨x, x1, xn, hx⟩ := h.2.2.2 j (by omega) ⟨v, h1, hn, e⟩
    exact List.mem_map.mpr ⟨x - 1, by rw [List.mem_range]; omega, by rw [show x - 1 + 1 = x by omega]; exact hx⟩)
  rw [List.length_map, List.length_map, List.length_range, List.length_range] at hl
  omega
theorem way_eq {n : Nat} {s a : Nat → Nat} {d e : Nat} (h7 : n ≤ 7) (hs : Pm n s) (ha : Pm n a) (d1 : 1 ≤ d) (dn : d ≤ n) (e1 : 1 ≤ e) (en : e ≤ n) : ∀ K i, K + i = n → (alW n s a d i e = -1 ∨ alW n s a d i e = i) → wayM n s a d e = wayL s a e K (i : Int) (arI s a (bt d) i)
  | 0, i, hK, h => by
    have hi : i = n := by omega
    subst hi
    have := (WJ.al h7 hs ha d1 dn i).no e1 en
    have h2 : alW i s a d i e = -1 := h.elim id (fun z => absurd z this)
    unfold wayM
    rw [if_pos h2]; rfl
  | K + 1, i, hK, h => by
    have hJ := WJ.al h7 hs ha d1 dn i
    have hb := hJ.1.2 e e1 (by omega)
    by_cases q : alW n s a d i e = -1
    · have hno : arI s a (bt d) i &&& bt e = 0 := Classical.byContradiction (fun c => (hb.mp c).2 q)
      simp only [wayL]
      rw [if_pos hno]
      refine way_eq h7 hs ha d1 dn e1 en K (i + 1) (by omega) ?_
      have hR := RdW.rd (s := s) (a := a) (T := alW n s a d i) (i := (i : Int)) (by omega) n e
      show rdW s a (i : Int) (alW n s a d i) n e = -1 ∨ _
      by_cases r : ∃ x, 1 ≤ x ∧ x ≤ n ∧ ((alW n s a d i x = i ∧ (e = s x ∨ e = a x)) ∨ (e = x ∧ (alW n s a d i (s x) = i ∨ alW n s a d i (a x) = i)))
      · exact Or.inr ((hR.2 q).1 r)
      · exact Or.inl ((hR.2 q).2 r)
    · have hyes : ¬ (arI s a (bt d) i &&& bt e = 0) := hb.mpr ⟨en, q⟩
      simp only [wayL]
      rw [if_neg hyes]
      have hi : alW n s a d i e = i := h.elim (fun z => absurd z q) id
      have keep : ∀ j, alW n s a d (i + j) e = i := by
        intro j
        induction j with
        | zero => exact hi
        | succ j ih =>
          have hR := RdW.rd (s := s) (a := a) (T := alW n s a d (i + j)) (i := ((i + j : Nat) : Int)) (by omega) n e
          exact (hR.1 (by omega)).trans ih
      have h2 := keep (n - i)
      rw [show i + (n - i) = n by omega] at h2
      unfold wayM
      rw [h2, if_neg (by omega)]
theorem hyp_WAYE : WAYE := by
  intro n s a d e hV d1 dn e1 en
  obtain ⟨⟨h1, h7⟩, hs, ha⟩ := hV
  refine way_eq h7 hs ha (by omega) (by omega) (by omega) (by omega) n 0 (by omega) ?_
  show (if e.toNat = d.toNat then (0 : Int) else -1) = -1 ∨ _
  split
  · rename_i q
    refine Or.inr ?_
    show (if e.toNat = d.toNat then (0 : Int) else -1) = _
    rw [if_pos q]; rfl
  · exact Or.inl rfl

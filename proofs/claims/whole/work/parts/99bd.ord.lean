/-! the order: what the chain's table counts is the group -/
theorem bAdd_or {n : Nat} {p q : Nat → Nat} {d : Int} {B : BS} (h : q ∈ (bAdd n p d B).1) : q ∈ B.1 ∨ q = p := by
  unfold bAdd at h
  split at h
  · rcases List.mem_append.mp h with h | h
    · exact Or.inl h
    · exact Or.inr (List.mem_singleton.mp h)
  · exact Or.inl h
theorem bfs_ind {n : Nat} {s a : Nat → Nat} {X : (Nat → Nat) → Prop} (h0 : X pid) (hX : ∀ q, X q → ∀ t, (t = s ∨ t = a ∨ t = pinv s ∨ t = pinv a) → X (pcomp q t)) : ∀ i, ∀ q ∈ (bfsI n s a i).1, X q
  | 0, q, h => by
    rcases bAdd_or h with h | h
    · exact absurd h List.not_mem_nil
    · rw [h]; exact h0
  | i + 1, q, h => by
    have ih := bfs_ind (n := n) h0 hX i
    have h : q ∈ (bExp n s a i (bfsI n s a i)).1 := h
    unfold bExp at h
    split at h
    · rename_i hlt
      have hp := ih _ (getD_mem (d := pid) hlt)
      rcases bAdd_or h with h | h
      · rcases bAdd_or h with h | h
        · rcases bAdd_or h with h | h
          · rcases bAdd_or h with h | h
            · exact ih q h
            · rw [h]; exact hX _ hp s (Or.inl rfl)
          · rw [h]; exact hX _ hp a (Or.inr (Or.inl rfl))
        · rw [h]; exact hX _ hp (pinv s) (Or.inr (Or.inr (Or.inl rfl)))
      · rw [h]; exact hX _ hp (pinv a) (Or.inr (Or.inr (Or.inr rfl)))
    · exact ih q h
theorem nd_full {α : Type} {A B : List α} (hA : A.Pairwise (fun x y => x ≠ y)) (hs : ∀ x, x ∈ A → x ∈ B) (hl : B.length ≤ A.length) {b : α} (hb : b ∈ B) : b ∈ A := by
  refine Classical.byContradiction (fun hno => ?_)
  have h := nd_le (b :: A) B (List.pairwise_cons.mpr ⟨fun x hx e => hno (by rw [e]; exact hx), hA⟩) (fun x hx => by
    rcases List.mem_cons.mp hx with h | h
    · rw [h]; exact hb
    · exact hs x h)
  rw [List.length_cons] at h
  omega
def Fx (k : Nat) (r : Nat → Nat) : Prop := ∀ i, 1 ≤ i → i < k → r i = i
theorem fx_up {n k : Nat} {r : Nat → Nat} (hr : Pm n r) (hf : Fx k r) (k1 : 1 ≤ k) (kn : k ≤ n) (h : r k ≠ k) : k < r k ∧ r k ≤ n := by
  have hb := hr.1 k k1 kn
  refine ⟨?_, hb.2⟩
  rcases Nat.lt_or_ge (r k) k with q | q
  · have := hf (r k) hb.1 q
    exact absurd (hr.2.1 _ _ hb.1 hb.2 k1 kn this) h
  · omega
theorem fx_id {n : Nat} {r : Nat → Nat} (hr : Pm n r) (hf : Fx n r) : r = pid := by
  funext x
  by_cases q : 1 ≤ x ∧ x ≤ n
  · by_cases e : x < n
    · exact hf x q.1 e
    · have ex : x = n := by omega
      subst ex
      refine Classical.byContradiction (fun h => ?_)
      have := fx_up hr hf q.1 q.2 h
      omega
  · exact hr.2.2 x (by omega)
def Sif (C : ChS) : Nat → Nat → (Nat → Nat) → Prop
  | 0, _, _ => True
  | m + 1, k, r => (r k = k ∧ Sif C m (k + 1) r) ∨ (r k ≠ k ∧ ∃ g, C.2 k (r k) = some g ∧ Sif C m (k + 1) (pcomp r (pinv g)))
def ChLe (C D : ChS) : Prop := ∀ k y g, C.2 k y = some g → D.2 k y = some g
theorem Sif.mono {C D : ChS} (h : ChLe C D) : ∀ m k r, Sif C m k r → Sif D m k r
  | 0, _, _, _ => trivial
  | m + 1, k, r, hs => by
    rcases hs with ⟨e, hs⟩ | ⟨e, g, hg, hs⟩
    · exact Or.inl ⟨e, hs.mono h m _ _⟩
    · exact Or.inr ⟨e, g, h _ _ _ hg, hs.mono h m _ _⟩
theorem Sif.one {C : ChS} : ∀ m k, Sif C m k pid
  | 0, _ => trivial
  | m + 1, k => Or.inl ⟨rfl, Sif.one m (k + 1)⟩
def SPos (n : Nat) : List (Nat × Nat) := (List.range n).flatMap (fun k => (List.range k).map (fun i => (i + 1, k + 1)))
theorem spos_len : ∀ n, n < 8 → (SPos n).length = n * (n - 1) / 2 ∧ n * (n - 1) / 2 ≤ 21 := by decide +kernel
theorem spos_mem {n k y : Nat} : (k, y) ∈ SPos n ↔ (1 ≤ k ∧ k < y ∧ y ≤ n) := by
  unfold SPos
  rw [List.mem_flatMap]
  constructor
  · rintro ⟨j, hj, h⟩
    obtain ⟨i, hi, e⟩ := List.mem_map.mp h
    rw [List.mem_range] at hj hi
    have e1 := congrArg Prod.fst e
    have e2 := congrArg Prod.snd e
    simp only [] at e1 e2
    omega
  · rintro ⟨h1, h2, h3⟩
    exact ⟨y - 1, List.mem_range.mpr (by omega), List.mem_map.mpr ⟨k - 1, List.mem_range.mpr (by omega), by rw [show k - 1 + 1 = k by omega, show y - 1 + 1 = y by omega]⟩⟩
def TV (n : Nat) (G : (Nat → Nat) → Prop) (C : ChS) (P : List (Nat × Nat)) : Prop :=
  (P.Pairwise (fun x y => x ≠ y) ∧ P.length = C.1.length) ∧ (∀ k y, (k, y) ∈ P ↔ C.2 k y ≠ none) ∧ (∀ k y g, C.2 k y = some g → ((1 ≤ k ∧ k < y ∧ y ≤ n) ∧ G g ∧ g ∈ C.1 ∧ Fx k g ∧ g k = y)) ∧ ∀ g, g ∈ C.1 → G g
section Tab
variable {n : Nat} {G : (Nat → Nat) → Prop} {C : ChS} {P : List (Nat × Nat)}
theorem TV.sub (h : TV n G C P) : ∀ q, q ∈ P → q ∈ SPos n := fun ⟨k, y⟩ hq => by
  have h1 := (h.2.1 k y).mp hq
  rcases ho : C.2 k y with _ | g
  · exact absurd ho h1
  · exact spos_mem.mpr (h.2.2.1 k y g ho).1
theorem TV.len (h7 : n ≤ 7) (h : TV n G C P) : C.1.length ≤ 21 := by
  have := nd_le P (SPos n) h.1.1 h.sub
  have := spos_len n (by omega)
  have := h.1.2
  omega
theorem TV.nil : TV n G chn0 [] := ⟨⟨List.Pairwise.nil, rfl⟩, fun k y => ⟨fun h => absurd h List.not_mem_nil, fun h => absurd rfl h⟩, fun k y g h => (by cases h), fun g h => absurd h List.not_mem_nil⟩
theorem TV.sf (h7 : n ≤ 7) (gp : ∀ g, G g → Pm n g) (gm : ∀ p q, G p → G q → G (pcomp p q)) (gi : ∀ p, G p → G (pinv p)) (h : TV n G C P) : ∀ m k r, G r → Fx k r → 1 ≤ k → k + m = n → (∃ P', TV n G (sfL C m k r) P') ∧ Sif (sfL C m k r) m k r ∧ ChLe C (sfL C m k r)
  | 0, k, r, _, _, _, _ => ⟨⟨P, h⟩, trivial, fun _ _ _ e => e⟩
  | m + 1, k, r, hr, hf, k1, hk => by
    have hrp := gp r hr
    by_cases e : r k = k
    · rw [sfL_stay e]
      obtain ⟨a1, a2, a3⟩ := TV.sf h7 gp gm gi h m (k + 1) r hr (fun i i1 i2 => by
        by_cases q : i = k
        · rw [q]; exact e
        · exact hf i i1 (by omega)) (by omega) (by omega)
      exact ⟨a1, Or.inl ⟨e, a2⟩, a3⟩
    · have hu := fx_up hrp hf k1 (by omega) e
      rcases ho : C.2 k (r k) with _ | g
      · rw [sfL_none e ho]
        have hn : (k, r k) ∉ P := fun q => (h.2.1 k (r k)).mp q ho
        have hnd : (P ++ [(k, r k)]).Pairwise (fun x y => x ≠ y) := by
          rw [List.pairwise_append]
          refine ⟨h.1.1, by simp, fun x hx y hy e => ?_⟩
          rw [List.mem_singleton.mp hy] at e
          rw [e] at hx
          exact hn hx
        have hlt : C.1.length < 21 := by
          have h1 := nd_le (P ++ [(k, r k)]) (SPos n) hnd (fun x hx => by
            rcases List.mem_append.mp hx with hx | hx
            · exact h.sub x hx
            · rw [List.mem_singleton.mp hx]; exact spos_mem.mpr ⟨k1, hu.1, hu.2⟩)
          have h2 := spos_len n (by omega)
          have h3 := h.1.2
          rw [List.length_append, List.length_singleton] at h1
          omega
        unfold chPut
        rw [if_pos hlt]
        have hs : ∀ k' y', (fun k' y' => if k' = k ∧ y' = r k then some r else C.2 k' y') k' y' = if k' = k ∧ y' = r k then some r else C.2 k' y' := fun _ _ => rfl
        refine ⟨⟨P ++ [(k, r k)], ⟨hnd, by rw [List.length_append, List.length_append, h.1.2]; rfl⟩, fun k' y' => ?_, fun k' y' g' hg' => ?_, fun g' hg' => ?_⟩, Or.inr ⟨e, r, ?_, ?_⟩, fun k' y' g' hg' => ?_⟩
        · show _ ↔ (if k' = k ∧ y' = r k then some r else C.2 k' y') ≠ none
          by_cases q : k' = k ∧ y' = r k
          · rw [if_pos q]
            refine ⟨fun _ => by simp, fun _ => List.mem_append_right _ (List.mem_singleton.mpr (by rw [q.1, q.2]))⟩
          · rw [if_neg q, ← h.2.1 k' y']
            refine ⟨fun z => ?_, fun z => List.mem_append_left _ z⟩
            rcases List.mem_append.mp z with z | z
            · exact z
            · have z := List.mem_singleton.mp z
              exact absurd ⟨congrArg Prod.fst z, congrArg Prod.snd z⟩ q
        · have hg' : (if k' = k ∧ y' = r k then some r else C.2 k' y') = some g' := hg'
          by_cases q : k' = k ∧ y' = r k
          · rw [if_pos q] at hg'
            have eg := Option.some.inj hg'
            rw [← eg, q.1, q.2]
            exact ⟨⟨k1, hu.1, hu.2⟩, hr, List.mem_append_right _ (List.mem_singleton.mpr rfl), hf, rfl⟩
          · rw [if_neg q] at hg'
            obtain ⟨b1, b2, b3, b4⟩ := h.2.2.1 k' y' g' hg'
            exact ⟨b1, b2, List.mem_append_left _ b3, b4⟩
        · rcases List.mem_append.mp hg' with z | z
          · exact h.2.2.2 g' z
          · rw [List.mem_singleton.mp z]; exact hr
        · show (if k = k ∧ r k = r k then some r else C.2 k (r k)) = some r
          rw [if_pos ⟨rfl, rfl⟩]
        · rw [pinv_comp_id h7 hrp]; exact Sif.one m (k + 1)
        · show (if k' = k ∧ y' = r k then some r else C.2 k' y') = some g'
          rw [if_neg (fun q => by rw [q.1, q.2, ho] at hg'; cases hg')]
          exact hg'
      · rw [sfL_some e ho]
        obtain ⟨b1, b2, b3, b4, b5⟩ := h.2.2.1 k (r k) g ho
        have hg := gp g b2
        obtain ⟨a1, a2, a3⟩ := TV.sf h7 gp gm gi h m (k + 1) (pcomp r (pinv g)) (gm _ _ hr (gi _ b2)) (fun i i1 i2 => by
          show pinv g (r i) = i
          by_cases q : i = k
          · rw [q, ← b5, hg.inv_f h7]
          · have e1 := hf i i1 (by omega)
            have e2 := b4 i i1 (by omega)
            rw [e1]
            conv => lhs; rw [← e2]
            exact hg.inv_f h7 i) (by omega) (by omega)
        exact ⟨a1, Or.inr ⟨e, g, a3 _ _ _ ho, a2⟩, a3⟩
def Mk (n : Nat) (C : ChS) (k : Nat) (r : Nat → Nat) : Prop := Pm n r ∧ Fx k r ∧ Sif C (n - k) k r
def TT (C : ChS) (k : Nat) (g : Nat → Nat) : Prop := g = pid ∨ ∃ y, C.2 k y = some g
theorem Mk.dec (h7 : n ≤ 7) (gp : ∀ g, G g → Pm n g) (h : TV n G C P) {k : Nat} (k1 : 1 ≤ k) (kn : k < n) {r : Nat → Nat} (hr : Mk n C k r) : ∃ m g, Mk n C (k + 1) m ∧ TT C k g ∧ r = pcomp m g := by
  obtain ⟨r1, r2, r3⟩ := hr
  rw [show n - k = (n - (k + 1)) + 1 by omega] at r3
  rcases r3 with ⟨e, r3⟩ | ⟨e, g, hg, r3⟩
  · exact ⟨r, pid, ⟨r1, fun i i1 i2 => by
      by_cases q : i = k
      · rw [q]; exact e
      · exact r2 i i1 (by omega), r3⟩, Or.inl rfl, rfl⟩
  · obtain ⟨b1, b2, b3, b4, b5⟩ := h.2.2.1 k (r k) g hg
    have hgp := gp g b2
    refine ⟨pcomp r (pinv g), g, ⟨r1.comp (hgp.inv h7), fun i i1 i2 => ?_, r3⟩, Or.inr ⟨_, hg⟩, ?_⟩
    · show pinv g (r i) = i
      by_cases q : i = k
      · rw [q, ← b5, hgp.inv_f h7]
      · have e1 := r2 i i1 (by omega)
        have e2 := b4 i i1 (by omega)
        rw [e1]
        conv => lhs; rw [← e2]
        exact hgp.inv_f h7 i
    · funext x
      show r x = g (pinv g (r x))
      rw [hgp.f_inv h7]
theorem Mk.mul (h7 : n ≤ 7) (gp : ∀ g, G g → Pm n g) (h : TV n G C P) {k : Nat} (kn : k < n) {m g : Nat → Nat} (k1 : 1 ≤ k) (hm : Mk n C (k + 1) m) (hg : TT C k g) : Mk n C k (pcomp m g) := by
  obtain ⟨m1, m2, m3⟩ := hm
  have mk := m2 k k1 (by omega)
  unfold Mk
  rw [show n - k = (n - (k + 1)) + 1 by omega]
  rcases hg with rfl | ⟨y, hg⟩
  · exact ⟨m1, fun i i1 i2 => m2 i i1 (by omega), Or.inl ⟨mk, m3⟩⟩
  · obtain ⟨b1, b2, b3, b4, b5⟩ := h.2.2.1 k y g hg
    have hgp := gp g b2
    have e : pcomp m g k = y := by show g (m k) = y; rw [mk, b5]
    refine ⟨m1.comp hgp, fun i i1 i2 => ?_, Or.inr ⟨by rw [e]; omega, g, by rw [e]; exact hg, ?_⟩⟩
    · show g (m i) = i
      rw [m2 i i1 (by omega), b4 i i1 i2]
    · have : pcomp (pcomp m g) (pinv g) = m := by
        funext x
        exact hgp.inv_f h7 (m x)
      rw [this]; exact m3
theorem Mk.one {k : Nat} : Mk n C k pid := ⟨pm_id n, fun _ _ _ => rfl, Sif.one _ _⟩
theorem Mk.up (h7 : n ≤ 7) (gp : ∀ g, G g → Pm n g) (h : TV n G C P) {r : Nat → Nat} {k : Nat} (k1 : 1 ≤ k) : ∀ d, k + d ≤ n → Mk n C (k + d) r → Mk n C k r
  | 0, _, hr => hr
  | d + 1, hd, hr => Mk.up h7 gp h k1 d (by omega) (Mk.mul h7 gp h (by omega) (g := pid) (by omega) hr (Or.inl rfl))
theorem Mk.down1 {r : Nat → Nat} {k : Nat} (k1 : 1 ≤ k) (kn : k < n) (hr : Mk n C k r) (hf : Fx (k + 1) r) : Mk n C (k + 1) r := by
  obtain ⟨r1, r2, r3⟩ := hr
  rw [show n - k = (n - (k + 1)) + 1 by omega] at r3
  rcases r3 with ⟨e, r3⟩ | ⟨e, -⟩
  · exact ⟨r1, hf, r3⟩
  · exact absurd (hf k k1 (by omega)) e
theorem Mk.down {r : Nat → Nat} (hr : Mk n C 1 r) : ∀ k, k + 1 ≤ n → Fx (k + 1) r → Mk n C (k + 1) r
  | 0, _, _ => hr
  | k + 1, hk, hf => Mk.down1 (by omega) (by omega) (Mk.down hr k (by omega) (fun i i1 i2 => hf i i1 (by omega))) hf
theorem TT.mk (h7 : n ≤ 7) (gp : ∀ g, G g → Pm n g) (h : TV n G C P) {k j : Nat} (k1 : 1 ≤ k) (kj : k ≤ j) (jn : j < n) {g : Nat → Nat} (hg : TT C j g) : Mk n C k g := by
  have := Mk.mul h7 gp h jn (m := pid) (by omega) Mk.one hg
  have e := Mk.up h7 gp h (k := k) k1 (j - k) (by omega) (by rw [show k + (j - k) = j by omega]; exact this)
  exact e
/-- closed, when every product of two steps comes to nothing -/
theorem Mk.closed (h1 : 1 ≤ n) (h7 : n ≤ 7) (gp : ∀ g, G g → Pm n g) (h : TV n G C P) (hH : ∀ g q, g ∈ C.1 → q ∈ C.1 → Mk n C 1 (pcomp g q)) : ∀ d k, 1 ≤ k → k + d = n → ∀ m q, Mk n C k m → Mk n C k q → Mk n C k (pcomp m q)
  | 0, k, _, hk, m, q, hm, hq => by
    have e : k = n := by omega
    subst e
    rw [fx_id hm.1 hm.2.1]
    exact hq
  | d + 1, k, k1, hk, m, q, hm, hq => by
    have ih := Mk.closed h1 h7 gp h hH d (k + 1) (by omega) (by omega)
    have tp : ∀ g u j, TT C k g → TT C j u → k ≤ j → j < n → Mk n C k (pcomp g u) := by
      intro g u j hg hu kj jn
      rcases id hg with eg | ⟨y, hy⟩
      · rw [eg]; exact TT.mk h7 gp h k1 kj jn hu
      · rcases id hu with eu | ⟨z, hz⟩
        · rw [eu]; exact TT.mk h7 gp h k1 (Nat.le_refl k) (by omega) hg
        · obtain ⟨-, -, b3, b4, -⟩ := h.2.2.1 k y g hy
          obtain ⟨-, -, c3, c4, -⟩ := h.2.2.1 j z u hz
          have := Mk.down (hH g u b3 c3) (k - 1) (by omega) (by
            rw [show k - 1 + 1 = k by omega]
            intro i i1 i2
            show u (g i) = i
            rw [b4 i i1 i2, c4 i i1 (by omega)])
          rwa [show k - 1 + 1 = k by omega] at this
    have st : ∀ m, Mk n C k m → ∀ j u, k ≤ j → j < n → TT C j u → Mk n C k (pcomp m u) := by
      intro m hm j u kj jn hu
      obtain ⟨m1, g, a1, a2, rfl⟩ := Mk.dec h7 gp h k1 (by omega) hm
      obtain ⟨m2, g2, b1, b2, e⟩ := Mk.dec h7 gp h k1 (by omega) (tp g u j a2 hu kj jn)
      have e2 : pcomp (pcomp m1 g) u = pcomp (pcomp m1 m2) g2 := by
        show pcomp m1 (pcomp g u) = pcomp m1 (pcomp m2 g2)
        rw [e]
      rw [e2]
      exact Mk.mul h7 gp h (by omega) k1 (ih m1 m2 a1 b1) b2
    have all : ∀ d j, k ≤ j → j + d = n → ∀ q, Mk n C j q → ∀ m, Mk n C k m → Mk n C k (pcomp m q) := by
      intro d
      induction d with
      | zero =>
        intro j kj jd q hq m hm
        have e : j = n := by omega
        subst e
        rw [fx_id hq.1 hq.2.1]
        exact hm
      | succ d ihd =>
        intro j kj jd q hq m hm
        obtain ⟨q1, g, a1, a2, rfl⟩ := Mk.dec h7 gp h (by omega) (by omega) hq
        exact st _ (ihd (j + 1) (by omega) (by omega) q1 a1 m hm) j g kj (by omega) a2
    exact all (d + 1) k (Nat.le_refl k) hk q hq m hm
theorem Mk.inG (h7 : n ≤ 7) (gp : ∀ g, G g → Pm n g) (gm : ∀ p q, G p → G q → G (pcomp p q)) (g1 : G pid) (h : TV n G C P) : ∀ d k, 1 ≤ k → k + d = n → ∀ m, Mk n C k m → G m
  | 0, k, _, hk, m, hm => by
    have e : k = n := by omega
    subst e
    rw [fx_id hm.1 hm.2.1]; exact g1
  | d + 1, k, k1, hk, m, hm => by
    obtain ⟨m1, g, a1, a2, rfl⟩ := Mk.dec h7 gp h k1 (by omega) hm
    refine gm _ _ (Mk.inG h7 gp gm g1 h d (k + 1) (by omega) (by omega) m1 a1) ?_
    rcases a2 with rfl | ⟨y, hy⟩
    · exact g1
    · exact (h.2.2.1 k y g hy).2.1
/-- when every place that is asked for is filled -/
theorem Sif.filled (h7 : n ≤ 7) (gp : ∀ g, G g → Pm n g) (gm : ∀ p q, G p → G q → G (pcomp p q)) (gi : ∀ p, G p → G (pinv p)) (h : TV n G C P) (hF : ∀ k r, G r → Fx k r → 1 ≤ k → k < n → r k ≠ k → C.2 k (r k) ≠ none) : ∀ m k r, G r → Fx k r → 1 ≤ k → k + m = n → Sif C m k r
  | 0, _, _, _, _, _, _ => trivial
  | m + 1, k, r, hr, hf, k1, hk => by
    by_cases e : r k = k
    · exact Or.inl ⟨e, Sif.filled h7 gp gm gi h hF m (k + 1) r hr (fun i i1 i2 => by
        by_cases q : i = k
        · rw [q]; exact e
        · exact hf i i1 (by omega)) (by omega) (by omega)⟩
    · rcases ho : C.2 k (r k) with _ | g
      · exact absurd ho (hF k r hr hf k1 (by omega) e)
      · obtain ⟨b1, b2, b3, b4, b5⟩ := h.2.2.1 k (r k) g ho
        have hg := gp g b2
        refine Or.inr ⟨e, g, ho, Sif.filled h7 gp gm gi h hF m (k + 1) (pcomp r (pinv g)) (gm _ _ hr (gi _ b2)) (fun i i1 i2 => ?_) (by omega) (by omega)⟩
        show pinv g (r i) = i
        by_cases q : i = k
        · rw [q, ← b5, hg.inv_f h7]
        · have e1 := hf i i1 (by omega)
          have e2 := b4 i i1 (by omega)
          rw [e1]
          conv => lhs; rw [← e2]
          exact hg.inv_f h7 i
end Tab

/-! families: twelve at most -/
theorem conj_pc (p r : Nat → Nat) : pconj p r = pcomp (pcomp (pinv r) p) r := rfl
theorem conj_pinv {n : Nat} {p r : Nat → Nat} (h7 : n ≤ 7) (hp : Pm n p) (hr : Pm n r) : pinv (pconj p r) = pconj (pinv p) r := by
  rw [conj_pc, conj_pc, inv_comp h7 ((hr.inv h7).comp hp) hr, inv_comp h7 (hr.inv h7) hp, inv_inv h7 hr]
  rfl
theorem conj_face {n : Nat} {p q r : Nat → Nat} (h7 : n ≤ 7) (hp : Pm n p) (hq : Pm n q) (hr : Pm n r) : pface (pconj p r) (pconj q r) = pconj (pface p q) r := by
  unfold pface
  rw [conj_comp h7 hr, conj_pinv h7 (hp.comp hq) hr]
theorem conj_bw {n : Nat} {p q r : Nat → Nat} (h7 : n ≤ 7) (hp : Pm n p) (hq : Pm n q) (hr : Pm n r) (k : Nat) : pblack k (pconj p r) (pconj q r) = pconj (pblack k p q) r ∧ pwhite k (pconj p r) (pconj q r) = pconj (pwhite k p q) r := by
  unfold pblack pwhite
  rw [conj_face h7 hp hq hr, conj_pinv h7 hp hr, conj_pinv h7 hq hr]
  constructor
  · split
    · rfl
    · split <;> rfl
  · split
    · rfl
    · split
      · rfl
      · split <;> rfl
/-- the least form is of the class -/
theorem canC_conj {n : Nat} {s a r : Nat → Nat} (h1 : 1 ≤ n) (h7 : n ≤ 7) (hs : Pm n s) (ha : Pm n a) (hr : Pm n r) : canC n (pconj s r) (pconj a r) = canC n s a := by
  have hs' := Pm.conj h7 hs hr
  have ha' := Pm.conj h7 ha hr
  have eS : canS n (pconj s r) = canS n s := by unfold canS; rw [kind_conj h1 h7 hs hr]
  obtain ⟨u, hu, u1, u2, u3⟩ := canA_ok h1 h7 hs ha
  obtain ⟨v, hv, v1, v2, v3⟩ := canA_ok h1 h7 hs' ha'
  unfold canC
  rw [eS]
  have hri := hr.inv h7
  have k1 := u3 (pcomp r v) (hr.comp hv) (by rw [← conj_conj h7 hr hv, v1, eS])
  rw [← conj_conj h7 hr hv] at k1
  have k2 := v3 (pcomp (pinv r) u) (hri.comp hu) (by rw [← conj_conj h7 hri hu, conj_back h7 hr, u1, eS])
  rw [← conj_conj h7 hri hu, conj_back h7 hr] at k2
  rw [u2, v2]
  rw [Nat.le_antisymm k2 k1]
abbrev PP : Type := (Nat → Nat) × (Nat → Nat)
def E6 (s a : Nat → Nat) : List PP := [(s, a), (a, pface s a), (pface s a, s), (a, s), (pface s a, a), (s, pface s a)]
def W6 (n : Nat) (s a : Nat → Nat) : List PC := (E6 s a).map (fun q => canC n q.1 q.2)
def W12 (n : Nat) (s a : Nat → Nat) : List PC := W6 n s a ++ W6 n (pinv s) (pinv a)
section Fam
variable {n : Nat} {s a : Nat → Nat}
theorem E6_pm (h7 : n ≤ 7) (hs : Pm n s) (ha : Pm n a) : ∀ q ∈ E6 s a, Pm n q.1 ∧ Pm n q.2 := by
  have hf := hs.face h7 ha
  intro q hq
  simp only [E6, List.mem_cons, List.not_mem_nil, or_false] at hq
  rcases hq with rfl | rfl | rfl | rfl | rfl | rfl
  · exact ⟨hs, ha⟩
  · exact ⟨ha, hf⟩
  · exact ⟨hf, hs⟩
  · exact ⟨ha, hs⟩
  · exact ⟨hf, ha⟩
  · exact ⟨hs, hf⟩
theorem W6_of {q : PP} (h : q ∈ E6 s a) : canC n q.1 q.2 ∈ W6 n s a := List.mem_map.mpr ⟨q, h, rfl⟩
theorem fc_pc (h7 : n ≤ 7) (hs : Pm n s) (ha : Pm n a) : pface s a = pcomp (pinv a) (pinv s) := inv_comp h7 hs ha
theorem fc_2 (h7 : n ≤ 7) (hs : Pm n s) (ha : Pm n a) : pface a (pface s a) = s ∧ pface (pface s a) s = a := by
  have hf := hs.face h7 ha
  rw [fc_pc h7 ha hf, fc_pc h7 hf hs]
  have e : pinv (pface s a) = pcomp s a := inv_inv h7 (hs.comp ha)
  rw [e]
  constructor
  · funext x
    show pinv a (a (s x)) = s x
    rw [ha.inv_f h7]
  · funext x
    show a (s (pinv s x)) = a x
    rw [hs.f_inv h7]
/-- the other way round, up to relabelling -/
theorem fc_x (h7 : n ≤ 7) (hs : Pm n s) (ha : Pm n a) : pconj (pface s a) s = pface a s ∧ pconj s a = pface (pface s a) a ∧ pconj a (pface s a) = pface s (pface s a) := by
  have hf := hs.face h7 ha
  have e : pinv (pface s a) = pcomp s a := inv_inv h7 (hs.comp ha)
  have fs := fun y => hs.f_inv h7 y
  have sf := fun y => hs.inv_f h7 y
  have fa := fun y => ha.f_inv h7 y
  have af := fun y => ha.inv_f h7 y
  refine ⟨?_, ?_, ?_⟩
  · rw [fc_pc h7 ha hs, conj_pc, fc_pc h7 hs ha]
    funext x
    show s (pinv s (pinv a (pinv s x))) = pinv a (pinv s x)
    rw [fs]
  · rw [fc_pc h7 hf ha, e, conj_pc]
    rfl
  · rw [fc_pc h7 hs hf, e, conj_pc, e, fc_pc h7 hs ha]
    funext x
    show pinv s (pinv a (a (a (s x)))) = pinv s (a (s x))
    rw [af]
theorem can_as (h1 : 1 ≤ n) (h7 : n ≤ 7) {x y x' y' r : Nat → Nat} (hx : Pm n x) (hy : Pm n y) (hr : Pm n r) (e1 : pconj x r = x') (e2 : pconj y r = y') : canC n x' y' = canC n x y := by
  rw [← e1, ← e2]; exact canC_conj h1 h7 hx hy hr
theorem conj_self (h7 : n ≤ 7) (hs : Pm n s) : pconj s s = s := by
  funext x
  show s (s (pinv s x)) = s x
  rw [hs.f_inv h7]
theorem W6_0 {q : PP} (h : q ∈ E6 s a) : canC n (pblack 0 q.1 q.2) (pwhite 0 q.1 q.2) ∈ W6 n s a := by
  simp only [E6, List.mem_cons, List.not_mem_nil, or_false] at h
  rcases h with rfl | rfl | rfl | rfl | rfl | rfl
  all_goals
    show canC n _ _ ∈ W6 n s a
    simp [W6, E6, pblack, pwhite]
theorem W6_2 (h1 : 1 ≤ n) (h7 : n ≤ 7) (hs : Pm n s) (ha : Pm n a) {q : PP} (h : q ∈ E6 s a) : ∃ q', q' ∈ E6 s a ∧ canC n (pblack 2 q.1 q.2) (pwhite 2 q.1 q.2) = canC n q'.1 q'.2 ∧ ∃ r, Pm n r ∧ pconj q'.1 r = pblack 2 q.1 q.2 ∧ pconj q'.2 r = pwhite 2 q.1 q.2 := by
  have hf := hs.face h7 ha
  obtain ⟨g1, g2⟩ := fc_2 h7 hs ha
  obtain ⟨x1, x2, x3⟩ := fc_x h7 hs ha
  have hp := E6_pm h7 hs ha
  have key : ∀ (q' : PP) (r : Nat → Nat), q' ∈ E6 s a → Pm n r → pconj q'.1 r = pblack 2 q.1 q.2 → pconj q'.2 r = pwhite 2 q.1 q.2 → ∃ q', q' ∈ E6 s a ∧ canC n (pblack 2 q.1 q.2) (pwhite 2 q.1 q.2) = canC n q'.1 q'.2 ∧ ∃ r, Pm n r ∧ pconj q'.1 r = pblack 2 q.1 q.2 ∧ pconj q'.2 r = pwhite 2 q.1 q.2 := fun q' r hq hr e1 e2 => ⟨q', hq, can_as h1 h7 (hp q' hq).1 (hp q' hq).2 hr e1 e2, r, hr, e1, e2⟩
  simp only [E6, List.mem_cons, List.not_mem_nil, or_false] at h
  rcases h with rfl | rfl | rfl | rfl | rfl | rfl
  · exact key (a, pface s a) pid (by simp [E6]) (pm_id n) (conj_id h7 _) (conj_id h7 _)
  · exact key (pface s a, s) pid (by simp [E6]) (pm_id n) (conj_id h7 _) ((conj_id h7 _).trans g1.symm)
  · exact key (s, a) pid (by simp [E6]) (pm_id n) (conj_id h7 _) ((conj_id h7 _).trans g2.symm)
  · exact key (s, pface s a) s (by simp [E6]) hs (conj_self h7 hs) x1
  · exact key (a, s) a (by simp [E6]) ha (conj_self h7 ha) x2
  · exact key (pface s a, a) (pface s a) (by simp [E6]) hf (conj_self h7 hf) x3
theorem W6_3 (h1 : 1 ≤ n) (h7 : n ≤ 7) (hs : Pm n s) (ha : Pm n a) {q : PP} (h : q ∈ E6 s a) : canC n (pblack 3 q.1 q.2) (pwhite 3 q.1 q.2) ∈ W6 n s a := by
  obtain ⟨q', hq', -, r, hr, e1, e2⟩ := W6_2 h1 h7 hs ha h
  have hp := E6_pm h7 hs ha q' hq'
  have b1 : pblack 3 q.1 q.2 = pblack 0 (pblack 2 q.1 q.2) (pwhite 2 q.1 q.2) := rfl
  have b2 : pwhite 3 q.1 q.2 = pwhite 0 (pblack 2 q.1 q.2) (pwhite 2 q.1 q.2) := rfl
  obtain ⟨c1, c2⟩ := conj_bw h7 hp.1 hp.2 hr 0
  rw [b1, b2, ← e1, ← e2, c1, c2, canC_conj h1 h7 (pblack_pm h7 hp.1 hp.2 0) (pwhite_pm h7 hp.1 hp.2 0) hr]
  exact W6_0 hq'
theorem W6_1 (h1 : 1 ≤ n) (h7 : n ≤ 7) (hs : Pm n s) (ha : Pm n a) {q : PP} (h : q ∈ E6 s a) : canC n (pblack 1 q.1 q.2) (pwhite 1 q.1 q.2) ∈ W6 n (pinv s) (pinv a) := by
  have hsi := hs.inv h7
  have hai := ha.inv h7
  have hf := hs.face h7 ha
  have hfi := hsi.face h7 hai
  have e : pinv (pface s a) = pcomp s a := inv_inv h7 (hs.comp ha)
  have f : pface (pinv s) (pinv a) = pcomp a s := by rw [fc_pc h7 hsi hai, inv_inv h7 hs, inv_inv h7 ha]
  have fs := fun y => hs.f_inv h7 y
  have sf := fun y => hs.inv_f h7 y
  have fa := fun y => ha.f_inv h7 y
  have af := fun y => ha.inv_f h7 y
  -- by a turned back, by s
  have k1 : pconj (pcomp s a) (pinv a) = pcomp a s := by
    rw [conj_pc, inv_inv h7 ha]
    funext x
    show pinv a (a (s (a x))) = s (a x)
    rw [af]
  have k2 : pconj (pcomp s a) s = pcomp a s := by
    rw [conj_pc]
    funext x
    show s (a (s (pinv s x))) = s (a x)
    rw [fs]
  have k3 : pconj (pinv a) (pinv a) = pinv a := conj_self h7 hai
  have k4 : pconj (pinv s) s = pinv s := by
    funext x
    show s (pinv s (pinv s x)) = pinv s x
    rw [fs]
  have m : ∀ (q' : PP) (X Y r : Nat → Nat), q' ∈ E6 (pinv s) (pinv a) → Pm n X → Pm n Y → Pm n r → pconj X r = q'.1 → pconj Y r = q'.2 → canC n X Y ∈ W6 n (pinv s) (pinv a) := fun q' X Y r hq hX hY hr e1 e2 => by
    rw [← can_as h1 h7 hX hY hr e1 e2]; exact W6_of hq
  have hsa := hs.comp ha
  simp only [E6, List.mem_cons, List.not_mem_nil, or_false] at h
  rcases h with rfl | rfl | rfl | rfl | rfl | rfl
  · exact m (pinv s, pinv a) _ _ pid (by simp [E6]) hsi hai (pm_id n) (conj_id h7 _) (conj_id h7 _)
  · exact m (pinv a, pface (pinv s) (pinv a)) (pinv a) (pinv (pface s a)) (pinv a) (by simp [E6]) hai (hf.inv h7) hai k3 (by rw [e, k1, f])
  · exact m (pface (pinv s) (pinv a), pinv s) (pinv (pface s a)) (pinv s) s (by simp [E6]) (hf.inv h7) hsi hs (by rw [e, k2, f]) k4
  · exact m (pinv a, pinv s) _ _ pid (by simp [E6]) hai hsi (pm_id n) (conj_id h7 _) (conj_id h7 _)
  · exact m (pface (pinv s) (pinv a), pinv a) (pinv (pface s a)) (pinv a) (pinv a) (by simp [E6]) (hf.inv h7) hai hai (by rw [e, k1, f]) k3
  · exact m (pinv s, pface (pinv s) (pinv a)) (pinv s) (pinv (pface s a)) s (by simp [E6]) hsi (hf.inv h7) hs k4 (by rw [e, k2, f])
/-- an operation on a class of the twelve gives one of them -/
theorem W12_op (h1 : 1 ≤ n) (h7 : n ≤ 7) (hs : Pm n s) (ha : Pm n a) {p : PC} (hp : p ∈ W12 n s a) {k : Nat} (hk : k < 4) : fOp n k p ∈ W12 n s a := by
  have hsi := hs.inv h7
  have hai := ha.inv h7
  have step : ∀ (x y : Nat → Nat), Pm n x → Pm n y → fOp n k (canC n x y) = canC n (pblack k x y) (pwhite k x y) := by
    intro x y hX hY
    obtain ⟨r, hr, r1, r2, -⟩ := canA_ok h1 h7 hX hY
    have hS := canS_pm h1 h7 hX
    have hA := canA_pm h1 h7 hX hY
    have e1 : dg (canC n x y).1 = pconj x r := by
      show dg (hx (canS n x)) = _
      rw [dg_hx hS h7, r1]
    have e2 : dg (canC n x y).2 = pconj y r := by
      show dg (setA n x y) = _
      rw [r2, dg_hx (Pm.conj h7 hY hr) h7]
    unfold fOp
    obtain ⟨c1, c2⟩ := conj_bw h7 hX hY hr k
    rw [e1, e2, c1, c2, canC_conj h1 h7 (pblack_pm h7 hX hY k) (pwhite_pm h7 hX hY k) hr]
  have two : ∀ (u v : Nat → Nat), Pm n u → Pm n v → ∀ q ∈ E6 u v, k ≠ 1 → canC n (pblack k q.1 q.2) (pwhite k q.1 q.2) ∈ W6 n u v := by
    intro u v hu hv q hq hk1
    rcases (show k = 0 ∨ k = 2 ∨ k = 3 by omega) with rfl | rfl | rfl
    · exact W6_0 hq
    · obtain ⟨q', h', e', -⟩ := W6_2 h1 h7 hu hv hq
      rw [e']; exact W6_of h'
    · exact W6_3 h1 h7 hu hv hq
  rcases List.mem_append.mp hp with hp | hp
  · obtain ⟨q, hq, rfl⟩ := List.mem_map.mp hp
    have hpm := E6_pm h7 hs ha q hq
    rw [step q.1 q.2 hpm.1 hpm.2]
    by_cases hk1 : k = 1
    · subst hk1
      exact List.mem_append_right _ (W6_1 h1 h7 hs ha hq)
    · exact List.mem_append_left _ (two s a hs ha q hq hk1)
  · obtain ⟨q, hq, rfl⟩ := List.mem_map.mp hp
    have hpm := E6_pm h7 hsi hai q hq
    rw [step q.1 q.2 hpm.1 hpm.2]
    by_cases hk1 : k = 1
    · subst hk1
      have h := W6_1 h1 h7 hsi hai hq
      rw [inv_inv h7 hs, inv_inv h7 ha] at h
      exact List.mem_append_left _ h
    · exact List.mem_append_right _ (two (pinv s) (pinv a) hsi hai q hq hk1)
theorem fAdd_W {W L : List PC} (h : ∀ p ∈ L, p ∈ W) {x : PC} (hx : x ∈ W) : ∀ p ∈ fAdd L x, p ∈ W := by
  intro p hp
  unfold fAdd at hp
  split at hp
  · exact h p hp
  · split at hp
    · rcases List.mem_append.mp hp with h1 | h1
      · exact h p h1
      · rw [List.mem_singleton.mp h1]; exact hx
    · exact h p hp
theorem fInn_W (h1 : 1 ≤ n) (h7 : n ≤ 7) (hs : Pm n s) (ha : Pm n a) {L : List PC} {i : Nat} (hi : i < L.length) (h : ∀ p ∈ L, p ∈ W12 n s a) : ∀ k, k ≤ 4 → ∀ p ∈ fInn n L i k, p ∈ W12 n s a
  | 0, _ => h
  | k + 1, hk => fAdd_W (fInn_W h1 h7 hs ha hi h k (by omega)) (W12_op h1 h7 hs ha (h _ (getD_mem hi)) (by omega))
theorem famI_W (h1 : 1 ≤ n) (h7 : n ≤ 7) (hs : Pm n s) (ha : Pm n a) : ∀ i, ∀ p ∈ famI n s a i, p ∈ W12 n s a
  | 0 => fAdd_W (fun p hp => absurd hp List.not_mem_nil) (List.mem_append_left _ (by simp [W6, E6]))
  | i + 1 => by
    unfold famI
    split
    · rename_i h
      exact fInn_W h1 h7 hs ha h (famI_W h1 h7 hs ha i) 4 (Nat.le_refl _)
    · exact famI_W h1 h7 hs ha i
end Fam
theorem hyp_FAM12 : FAM12 := by
  intro n s a h1 h7 hs ha k j hk hj hno
  have hW := famI_W h1 h7 hs ha k
  have hL := fInn_W h1 h7 hs ha hk hW j (by omega)
  have hx := W12_op h1 h7 hs ha (hW _ (getD_mem (d := ((0, 0) : PC)) hk)) hj
  have hnd := ((famI_FV h1 h7 hs ha k).inn h1 h7 hk j).2.1
  have h := nd_le (fInn n (famI n s a k) k j ++ [fOp n j ((famI n s a k).getD k (0, 0))]) (W12 n s a) (by
    rw [List.pairwise_append]
    refine ⟨hnd, by simp, fun x hx y hy e => ?_⟩
    rw [List.mem_singleton.mp hy] at e
    rw [e] at hx
    exact hno hx) (fun x hx2 => by
    rcases List.mem_append.mp hx2 with h1 | h1
    · exact hL x h1
    · rw [List.mem_singleton.mp h1]; exact hx)
  have hl : (W12 n s a).length = 12 := rfl
  rw [hl, List.length_append] at h
  simp only [List.length_cons, List.length_nil] at h
  omega

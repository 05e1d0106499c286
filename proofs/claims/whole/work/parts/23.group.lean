/-! ===== Group ===== -/
theorem Fr.trs {cs : List Nat} {w w' w'' : Wd} (h1 : Fr cs w w') (h2 : Fr cs w' w'') : Fr cs w w'' := fun o j h => by rw [h2 o j h, h1 o j h]
abbrev BS : Type := List (Nat → Nat) × (Nat → Int)
def bAdd (n : Nat) (p : Nat → Nat) (d : Int) (B : BS) : BS := if B.2 (rankN p n) = -1 then (B.1 ++ [p], fun i => if i = rankN p n then d else B.2 i) else B
def bExp (n : Nat) (s a : Nat → Nat) (i : Nat) (B : BS) : BS :=
  if i < B.1.length then bAdd n (pcomp (B.1.getD i pid) (pinv a)) (B.2 (rankN (B.1.getD i pid) n) + 1) (bAdd n (pcomp (B.1.getD i pid) (pinv s)) (B.2 (rankN (B.1.getD i pid) n) + 1) (bAdd n (pcomp (B.1.getD i pid) a) (B.2 (rankN (B.1.getD i pid) n) + 1) (bAdd n (pcomp (B.1.getD i pid) s) (B.2 (rankN (B.1.getD i pid) n) + 1) B))) else B
def b0 (n : Nat) : BS := bAdd n pid 0 ([], fun _ => -1)
def bfsI (n : Nat) (s a : Nat → Nat) : Nat → BS
  | 0 => b0 n
  | i + 1 => bExp n s a i (bfsI n s a i)
def bfs (n : Nat) (s a : Nat → Nat) : BS := bfsI n s a 5040
def BI (n : Nat) (B : BS) : Prop := (∀ p, p ∈ B.1 → Pm n p) ∧ B.1.Nodup ∧ (∀ p, Pm n p → (B.2 (rankN p n) = -1 ↔ ¬ p ∈ B.1)) ∧ ∀ i, -1 ≤ B.2 i ∧ (B.2 i = -1 ∨ B.2 i < B.1.length)
section BIs
variable {n : Nat} {B : BS}
theorem BI.len (h1 : 1 ≤ n) (h7 : n ≤ 7) (h : BI n B) : B.1.length ≤ facN n := few h1 h7 h.1 h.2.1
theorem BI.full (h1 : 1 ≤ n) (h7 : n ≤ 7) (h : BI n B) {p : Nat → Nat} (hp : Pm n p) (hd : B.2 (rankN p n) = -1) : B.1.length < facN n := by
  have hno := (h.2.2.1 p hp).mp hd
  have := few (L := B.1 ++ [p]) h1 h7 (fun g hg => by
    rw [List.mem_append] at hg
    rcases hg with q | q
    · exact h.1 g q
    · rw [List.mem_singleton.mp q]; exact hp) (by
    rw [List.pairwise_append]
    refine ⟨h.2.1, by simp, fun a ha b hb e => ?_⟩
    rw [List.mem_singleton.mp hb] at e
    rw [e] at ha; exact hno ha)
  rw [List.length_append] at this
  simp at this
  omega
theorem bAdd_len (p : Nat → Nat) (d : Int) : B.1.length ≤ (bAdd n p d B).1.length := by
  unfold bAdd
  split
  · simp
  · exact Nat.le_refl _
theorem BI.add (h1 : 1 ≤ n) (h7 : n ≤ 7) (h : BI n B) {p : Nat → Nat} (hp : Pm n p) {d : Int} (hd0 : 0 ≤ d) (hd : d ≤ B.1.length) : BI n (bAdd n p d B) := by
  unfold bAdd
  by_cases q : B.2 (rankN p n) = -1
  · rw [if_pos q]
    have hno := (h.2.2.1 p hp).mp q
    refine ⟨fun g hg => ?_, ?_, fun g hg => ?_, fun i => ?_⟩
    · rw [List.mem_append] at hg
      rcases hg with r | r
      · exact h.1 g r
      · rw [List.mem_singleton.mp r]; exact hp
    · unfold List.Nodup
      rw [List.pairwise_append]
      refine ⟨h.2.1, by simp, fun a ha b hb e => ?_⟩
      rw [List.mem_singleton.mp hb] at e
      rw [e] at ha; exact hno ha
    · show (if rankN g n = rankN p n then d else B.2 (rankN g n)) = -1 ↔ ¬ g ∈ B.1 ++ [p]
      by_cases r : rankN g n = rankN p n
      · rw [if_pos r, rank_inj h1 h7 hg hp r]
        exact ⟨fun e => by omega, fun e => absurd (by simp) e⟩
      · rw [if_neg r, h.2.2.1 g hg, List.mem_append, List.mem_singleton]
        exact ⟨fun e f => f.elim e (fun f => r (by rw [f])), fun e f => e (Or.inl f)⟩
    · show -1 ≤ (if i = rankN p n then d else B.2 i) ∧ ((if i = rankN p n then d else B.2 i) = -1 ∨ (if i = rankN p n then d else B.2 i) < ((B.1 ++ [p]).length : Nat))
      have := h.2.2.2 i
      rw [List.length_append]
      split
      · simp; omega
      · simp; omega
  · rw [if_neg q]; exact h
theorem BI.nil (n : Nat) : BI n ([], fun _ => -1) := ⟨fun p h => absurd h List.not_mem_nil, List.nodup_nil, fun p _ => ⟨fun _ => List.not_mem_nil, fun _ => rfl⟩, fun i => ⟨Int.le_refl _, Or.inl rfl⟩⟩
theorem BI.exp (h1 : 1 ≤ n) (h7 : n ≤ 7) {s a : Nat → Nat} (hs : Pm n s) (ha : Pm n a) {i : Nat} (h : BI n B) : BI n (bExp n s a i B) := by
  unfold bExp
  by_cases q : i < B.1.length
  · rw [if_pos q]
    have hp := h.1 _ (getD_mem (L := B.1) (i := i) (d := pid) q)
    have hd := h.2.2.2 (rankN (B.1.getD i pid) n)
    have l1 := bAdd_len (n := n) (B := B) (pcomp (B.1.getD i pid) s) (B.2 (rankN (B.1.getD i pid) n) + 1)
    have l2 := bAdd_len (n := n) (B := bAdd n (pcomp (B.1.getD i pid) s) (B.2 (rankN (B.1.getD i pid) n) + 1) B) (pcomp (B.1.getD i pid) a) (B.2 (rankN (B.1.getD i pid) n) + 1)
    have l3 := bAdd_len (n := n) (B := bAdd n (pcomp (B.1.getD i pid) a) (B.2 (rankN (B.1.getD i pid) n) + 1) (bAdd n (pcomp (B.1.getD i pid) s) (B.2 (rankN (B.1.getD i pid) n) + 1) B)) (pcomp (B.1.getD i pid) (pinv s)) (B.2 (rankN (B.1.getD i pid) n) + 1)
    refine BI.add h1 h7 (BI.add h1 h7 (BI.add h1 h7 (BI.add h1 h7 h (hp.comp hs) (by omega) (by omega)) (hp.comp ha) (by omega) (by omega)) (hp.comp (hs.inv h7)) (by omega) (by omega)) (hp.comp (ha.inv h7)) (by omega) (by omega)
  · rw [if_neg q]; exact h
theorem bfsI_BI (h1 : 1 ≤ n) (h7 : n ≤ 7) {s a : Nat → Nat} (hs : Pm n s) (ha : Pm n a) : ∀ i, BI n (bfsI n s a i)
  | 0 => BI.add h1 h7 (BI.nil n) (pm_id n) (by omega) (by omega)
  | i + 1 => BI.exp h1 h7 hs ha (bfsI_BI h1 h7 hs ha i)
theorem bfsI_stay {s a : Nat → Nat} {k : Nat} (h : (bfsI n s a k).1.length ≤ k) : ∀ m, bfsI n s a (k + m) = bfsI n s a k
  | 0 => rfl
  | m + 1 => by
    show bExp n s a (k + m) (bfsI n s a (k + m)) = _
    rw [bfsI_stay h m]
    unfold bExp
    rw [if_neg (by omega)]
theorem bfs_at {s a : Nat → Nat} {k : Nat} (hk : k ≤ 5040) (h : (bfsI n s a k).1.length ≤ k) : bfs n s a = bfsI n s a k := by
  unfold bfs
  have := bfsI_stay h (5040 - k)
  rw [show k + (5040 - k) = 5040 by omega] at this
  exact this
end BIs
def GW (w : Wd) (B : BS) : Prop := w 14 2 = (B.1.length : Nat) ∧ (∀ i, i < B.1.length → w 15 i = (hx (B.1.getD i pid) : Nat)) ∧ ∀ r, r < 5040 → w 16 r = B.2 r
def GrpOK (w : Wd) (n : Nat) (s a : Nat → Nat) : Prop := (w 14 3 = n ∧ w 14 4 = (hx s : Nat) ∧ w 14 5 = (hx a : Nat)) ∧ GW w (bfs n s a)
theorem GW.add {w w' : Wd} {n : Nat} {B : BS} (h : GW w B) {p : Nat → Nat} {d : Int} {r : Nat} (hr : r = rankN p n) (hD : B.2 (rankN p n) = -1) (e : w' = up (up (up w 16 r d) 15 B.1.length (hx p : Nat)) 14 2 ((B.1.length : Nat) + 1)) : GW w' (bAdd n p d B) := by
  subst e
  subst hr
  unfold bAdd
  rw [if_pos hD]
  refine ⟨by rw [up_eq]; simp, fun i hi => ?_, fun r hr => ?_⟩
  · rw [up_ne _ _ (by omega), List.getD_eq_getElem?_getD]
    rw [List.length_append] at hi
    by_cases q : i = B.1.length
    · subst q
      rw [up_eq, List.getElem?_append_right (Nat.le_refl _)]; simp
    · rw [up_ne _ _ (by omega), up_ne _ _ (by omega), h.2.1 i (by simp at hi; omega), List.getElem?_append_left (by simp at hi; omega), List.getD_eq_getElem?_getD]
  · rw [up_ne _ _ (by omega), up_ne _ _ (by omega)]
    show _ = if r = rankN p n then d else B.2 r
    by_cases q : r = rankN p n
    · rw [if_pos q, q, up_eq]
    · rw [if_neg q, up_ne _ _ (by omega)]; exact h.2.2 r hr
set_option maxHeartbeats 4000000 in
set_option maxRecDepth 100000 in
theorem c_add4 (l : Launch) (G : Gx) {p0 d0 : Int} {n : Nat} {f : Nat → Nat} {B : BS} (hn1 : 1 ≤ n) (hn7 : n ≤ 7) (hp : p0 = (hx f : Nat)) (hf : Pm n f) (hB : BI n B) (w : Wd) (hG : GW w B) (h3 : w 14 3 = n) : Sp l G 2 mX4_add [aR 14, aI (p0), aI (d0)] w (fun _ w' => GW w' (bAdd n f d0 B) ∧ Fr [14, 15, 16] w w' ∧ ∀ j, j ≠ 2 → w' 14 j = w 14 j) := by
  have hm := hG.1
  have hl := hB.len hn1 hn7
  have hf5 := fac_5040 hn1 hn7
  have hrk := (pn_rank hn1 hn7 hf).1
  have hD := hB.2.2.2 (rankN f n)
  refine Sp_of RX4 rfl (by decide +kernel) rfl (Nat.le_of_ble_eq_true rfl) ?_
  refine v_iload_n 1 (pc' := 1) rfl dX4_add_0 rfl rfl ?_
  refine v_aload_n 0 (pc' := 2) rfl dX4_add_1 rfl rfl ?_
  refine v_get (z := (n : Int)) (pc' := 5) rfl dX4_add_2 fk_RX4_18 ly_14 rfl (h3) ?_
  refine v_cSP (pc' := 8) rfl dX4_add_5 lk_RX4_49 rfl (c_rank l G hp (hf.b7 hn7) rfl hn7 w) rfl rfl rfl ?_
  refine v_nm (fun rank1 hrank1 => ?_)
  refine v_istore_n (ls' := [(3, _), (0, _), (1, _), (2, _)]) (pc' := 9) rfl dX4_add_8 rfl rfl rfl ?_
  refine v_aload_n 1 (pc' := 10) rfl dX4_add_9 rfl rfl ?_
  refine v_get (z := ((B.1.length : Nat) : Int)) (pc' := 13) rfl dX4_add_10 fk_RX4_28 ly_14 rfl (hm) ?_
  refine v_sipush (pc' := 16) rfl dX4_add_13 rfl ?_
  refine v_icmp_ge (pc' := 19) (tgt := 34) rfl dX4_add_16 (by decide) (by omega) (by omega) (fun c0 => ?_) (fun c0 => ?_)
  ·
    have hno : ¬ B.2 (rankN f n) = -1 := fun e => by have := hB.full hn1 hn7 hf e; omega
    refine v_iconst (pc' := 35) rfl dX4_add_34 ?_
    refine v_istore (ls' := [(4, _), (3, _), (0, _), (1, _), (2, _)]) (pc' := 37) rfl dX4_add_35 rfl rfl ?_
    refine v_iload 0 (pc' := 39) rfl dX4_add_37 rfl ?_
    refine v_if_eq (pc' := 42) (tgt := 79) rfl dX4_add_39 (by decide) (by omega) (fun c3 => ?_) (fun c3 => absurd c3 (by decide))
    refine v_vret dX4_add_79 ?_
    refine ⟨?_, Fr.rf _ _, fun _ _ => rfl⟩
    unfold bAdd
    rw [if_neg hno]
    exact hG
  ·
    refine v_iload_n 0 (pc' := 20) rfl dX4_add_19 rfl rfl ?_
    refine v_if_lt (pc' := 23) (tgt := 34) rfl dX4_add_20 (by decide) (by omega) (fun c1 => absurd c1 (by omega)) (fun c1 => ?_)
    refine v_iload_n 0 (pc' := 24) rfl dX4_add_23 rfl rfl ?_
    refine v_sipush (pc' := 27) rfl dX4_add_24 rfl ?_
    refine v_icmp_ge (pc' := 30) (tgt := 34) rfl dX4_add_27 (by decide) (by omega) (by omega) (fun c2 => absurd c2 (by omega)) (fun c2 => ?_)
    refine v_iconst (pc' := 31) rfl dX4_add_30 ?_
    refine v_goto (tgt := 35) dX4_add_31 (by decide) ?_
    refine v_istore (ls' := [(4, _), (3, _), (0, _), (1, _), (2, _)]) (pc' := 37) rfl dX4_add_35 rfl rfl ?_
    refine v_iload 0 (pc' := 39) rfl dX4_add_37 rfl ?_
    refine v_if_eq (pc' := 42) (tgt := 79) rfl dX4_add_39 (by decide) (by omega) (fun c3 => absurd c3 (by decide)) (fun c3 => ?_)
    refine v_aload_n 2 (pc' := 43) rfl dX4_add_42 rfl rfl ?_
    refine v_getR (pc' := 46) rfl dX4_add_43 fk_RX4_15 ly_14 rfl ?_
    refine v_iload_n 1 (pc' := 47) rfl dX4_add_46 rfl rfl ?_
    refine v_iald (z := (B.2 (rankN f n))) (pc' := 48) rfl dX4_add_47 ly_16 (by omega) (by omega) rfl (by rw [show rank1.toNat = rankN f n by omega]; exact hG.2.2 _ (by omega)) ?_
    refine v_iconst (pc' := 49) rfl dX4_add_48 ?_
    refine v_icmp_ne (pc' := 52) (tgt := 79) rfl dX4_add_49 (by decide) (by omega) (by omega) (fun c4 => ?_) (fun c4 => ?_)
    ·
      have hno : ¬ B.2 (rankN f n) = -1 := by omega
      refine v_vret dX4_add_79 ?_
      refine ⟨?_, Fr.rf _ _, fun _ _ => rfl⟩
      unfold bAdd
      rw [if_neg hno]
      exact hG
    ·
      refine v_aload_n 2 (pc' := 53) rfl dX4_add_52 rfl rfl ?_
      refine v_getR (pc' := 56) rfl dX4_add_53 fk_RX4_15 ly_14 rfl ?_
      refine v_iload_n 1 (pc' := 57) rfl dX4_add_56 rfl rfl ?_
      refine v_iload_n 4 (pc' := 58) rfl dX4_add_57 rfl rfl ?_
      refine v_iast (pc' := 59) rfl dX4_add_58 ly_16 (by omega) (by omega) rfl ?_
      refine v_nmw (fun w2 hw2 => ?_)
      have h3 : w2 14 3 = (n : Int) := by rw [hw2, up_ne _ _ (by omega)]; exact h3
      have hm : w2 14 2 = ((B.1.length : Nat) : Int) := by rw [hw2, up_ne _ _ (by omega)]; exact hm
      refine v_aload_n 2 (pc' := 60) rfl dX4_add_59 rfl rfl ?_
      refine v_getR (pc' := 63) rfl dX4_add_60 fk_RX4_9 ly_14 rfl ?_
      refine v_aload_n 2 (pc' := 64) rfl dX4_add_63 rfl rfl ?_
      refine v_get (z := ((B.1.length : Nat) : Int)) (pc' := 67) rfl dX4_add_64 fk_RX4_28 ly_14 rfl (hm) ?_
      refine v_iload_n 3 (pc' := 68) rfl dX4_add_67 rfl rfl ?_
      refine v_iast (pc' := 69) rfl dX4_add_68 ly_15 (by omega) (by omega) rfl ?_
      refine v_nmw (fun w3 hw3 => ?_)
      have h3 : w3 14 3 = (n : Int) := by rw [hw3, up_ne _ _ (by omega)]; exact h3
      have hm : w3 14 2 = ((B.1.length : Nat) : Int) := by rw [hw3, up_ne _ _ (by omega)]; exact hm
      refine v_aload_n 2 (pc' := 70) rfl dX4_add_69 rfl rfl ?_
      refine v_dupR (pc' := 71) rfl dX4_add_70 ?_
      refine v_get (z := ((B.1.length : Nat) : Int)) (pc' := 74) rfl dX4_add_71 fk_RX4_28 ly_14 rfl (hm) ?_
      refine v_iconst (pc' := 75) rfl dX4_add_74 ?_
      refine v_iadd (pc' := 76) rfl dX4_add_75 ?_
      refine v_put (pc' := 79) rfl dX4_add_76 fi_RX4_28 ly_14 rfl ?_
      refine v_nmw (fun w4 hw4 => ?_)
      have h3 : w4 14 3 = (n : Int) := by rw [hw4, up_ne _ _ (by omega)]; exact h3
      have F14_2 : w4 14 2 = (((B.1.length : Nat) : Int) + 1) := by rw [hw4, up_eq]
      refine v_vret dX4_add_79 ?_
      refine ⟨hG.add (p := f) (d := d0) (r := rank1.toNat) (n := n) (by omega) (by omega) (by rw [hw4, hw3, hw2, hp, show ((B.1.length : Nat) : Int).toNat = B.1.length from rfl]), by rw [hw4, hw3, hw2]; exact (((Fr.rf _ _).up rfl).up rfl).up rfl, fun j hj => by rw [hw4, up_ne _ _ (by omega), hw3, up_ne _ _ (by omega), hw2, up_ne _ _ (by omega)]⟩
set_option maxHeartbeats 4000000 in
set_option maxRecDepth 100000 in
theorem c_turnsTo (l : Launch) (G : Gx) {p0 : Int} {n : Nat} {f : Nat → Nat} {B : BS} (hn1 : 1 ≤ n) (hn7 : n ≤ 7) (hp : p0 = (hx f : Nat)) (hf : Pm n f) (w : Wd) (hG : GW w B) (h3 : w 14 3 = n) : SpP l G 2 mX4_turnsTo [aR 14, aI (p0)] w (B.2 (rankN f n)) := by
  have hf5 := fac_5040 hn1 hn7
  have hrk := (pn_rank hn1 hn7 hf).1
  refine Sp_of RX4 rfl (by decide +kernel) rfl (Nat.le_of_ble_eq_true rfl) ?_
  refine v_iload_n 1 (pc' := 1) rfl dX4_turnsTo_0 rfl rfl ?_
  refine v_aload_n 0 (pc' := 2) rfl dX4_turnsTo_1 rfl rfl ?_
  refine v_get (z := (n : Int)) (pc' := 5) rfl dX4_turnsTo_2 fk_RX4_18 ly_14 rfl (h3) ?_
  refine v_cSP (pc' := 8) rfl dX4_turnsTo_5 lk_RX4_49 rfl (c_rank l G hp (hf.b7 hn7) rfl hn7 w) rfl rfl rfl ?_
  refine v_nm (fun rank1 hrank1 => ?_)
  refine v_istore_n (ls' := [(2, _), (0, _), (1, _)]) (pc' := 9) rfl dX4_turnsTo_8 rfl rfl rfl ?_
  refine v_iload_n 0 (pc' := 10) rfl dX4_turnsTo_9 rfl rfl ?_
  refine v_if_lt (pc' := 13) (tgt := 20) rfl dX4_turnsTo_10 (by decide) (by omega) (fun c0 => absurd c0 (by omega)) (fun c0 => ?_)
  refine v_iload_n 0 (pc' := 14) rfl dX4_turnsTo_13 rfl rfl ?_
  refine v_sipush (pc' := 17) rfl dX4_turnsTo_14 rfl ?_
  refine v_icmp_lt (pc' := 20) (tgt := 24) rfl dX4_turnsTo_17 (by decide) (by omega) (by omega) (fun c1 => ?_) (fun c1 => absurd c1 (by omega))
  refine v_aload_n 1 (pc' := 25) rfl dX4_turnsTo_24 rfl rfl ?_
  refine v_getR (pc' := 28) rfl dX4_turnsTo_25 fk_RX4_15 ly_14 rfl ?_
  refine v_iload_n 0 (pc' := 29) rfl dX4_turnsTo_28 rfl rfl ?_
  refine v_iald (z := (B.2 (rankN f n))) (pc' := 30) rfl dX4_turnsTo_29 ly_16 (by omega) (by omega) rfl (by rw [show rank1.toNat = rankN f n by omega]; exact hG.2.2 _ (by omega)) ?_
  refine v_iret dX4_turnsTo_30 (by decide) (rfl) ?_
  exact ⟨rfl, rfl⟩
set_option maxHeartbeats 4000000 in
set_option maxRecDepth 100000 in
theorem c_fillHit (l : Launch) (G : Gx) {n0 p q : Int} {n : Nat} {s a : Nat → Nat} (hn : n0 = n) (hn1 : 1 ≤ n) (hn7 : n ≤ 7) (hs : Pm n s) (ha : Pm n a) (hp : p = (hx s : Nat)) (hq : q = (hx a : Nat)) (w : Wd) (hG : GrpOK w n s a) : Sp l G 3 mX4_fill [aR 14, aI (n0), aI (p), aI (q)] w (fun _ w' => w' = w) := by
  obtain ⟨⟨hG3, hG4, hG5⟩, -⟩ := hG
  have p1 := hx_pos hs hn7
  have p2 := hx_pos ha hn7
  refine Sp_of RX4 rfl (by decide +kernel) rfl (Nat.le_of_ble_eq_true rfl) ?_
  refine v_aload_n 0 (pc' := 1) rfl dX4_fill_0 rfl rfl ?_
  refine v_get (z := (n : Int)) (pc' := 4) rfl dX4_fill_1 fk_RX4_18 ly_14 rfl (hG3) ?_
  refine v_iload_n 1 (pc' := 5) rfl dX4_fill_4 rfl rfl ?_
  refine v_icmp_ne (pc' := 8) (tgt := 25) rfl dX4_fill_5 (by decide) (by omega) (by omega) (fun c0 => absurd c0 (by omega)) (fun c0 => ?_)
  refine v_aload_n 0 (pc' := 9) rfl dX4_fill_8 rfl rfl ?_
  refine v_get (z := ((hx s : Nat) : Int)) (pc' := 12) rfl dX4_fill_9 fk_RX4_22 ly_14 rfl (hG4) ?_
  refine v_iload_n 2 (pc' := 13) rfl dX4_fill_12 rfl rfl ?_
  refine v_icmp_ne (pc' := 16) (tgt := 25) rfl dX4_fill_13 (by decide) (by omega) (by omega) (fun c1 => absurd c1 (by omega)) (fun c1 => ?_)
  refine v_aload_n 0 (pc' := 17) rfl dX4_fill_16 rfl rfl ?_
  refine v_get (z := ((hx a : Nat) : Int)) (pc' := 20) rfl dX4_fill_17 fk_RX4_25 ly_14 rfl (hG5) ?_
  refine v_iload_n 3 (pc' := 21) rfl dX4_fill_20 rfl rfl ?_
  refine v_icmp_ne (pc' := 24) (tgt := 25) rfl dX4_fill_21 (by decide) (by omega) (by omega) (fun c2 => absurd c2 (by omega)) (fun c2 => ?_)
  refine v_vret dX4_fill_24 ?_
  rfl
set_option maxHeartbeats 4000000 in
set_option maxRecDepth 100000 in
theorem c_fillMiss (l : Launch) (G : Gx) {n0 p q : Int} {n : Nat} {s a : Nat → Nat} (hn : n0 = n) (hn1 : 1 ≤ n) (hn7 : n ≤ 7) (hs : Pm n s) (ha : Pm n a) (hp : p = (hx s : Nat)) (hq : q = (hx a : Nat)) (w : Wd) (hmiss : rg (w 14 3) ∧ (w 14 3 = n → rg (w 14 4) ∧ (w 14 4 = (hx s : Nat) → rg (w 14 5) ∧ w 14 5 ≠ (hx a : Nat)))) : Sp l G 3 mX4_fill [aR 14, aI (n0), aI (p), aI (q)] w (fun _ w' => Fr [14, 15, 16] w w' ∧ GrpOK w' n s a) := by
  have p1 := hx_pos hs hn7
  have p2 := hx_pos ha hn7
  have hf5 := fac_5040 hn1 hn7
  refine Sp_of RX4 rfl (by decide +kernel) rfl (Nat.le_of_ble_eq_true rfl) ?_
  refine v_aload_n 0 (pc' := 1) rfl dX4_fill_0 rfl rfl ?_
  refine v_get (pc' := 4) rfl dX4_fill_1 fk_RX4_18 ly_14 rfl rfl ?_
  refine v_iload_n 1 (pc' := 5) rfl dX4_fill_4 rfl rfl ?_
  refine v_icmp_ne (pc' := 8) (tgt := 25) rfl dX4_fill_5 (by decide) (hmiss.1) (by omega) (fun c0 => ?_) (fun c0 => ?_)
  ·
    refine v_aload_n 0 (pc' := 26) rfl dX4_fill_25 rfl rfl ?_
    refine v_iload_n 1 (pc' := 27) rfl dX4_fill_26 rfl rfl ?_
    refine v_put (pc' := 30) rfl dX4_fill_27 fi_RX4_18 ly_14 rfl ?_
    refine v_nmw (fun w1 hw1 => ?_)
    refine v_aload_n 0 (pc' := 31) rfl dX4_fill_30 rfl rfl ?_
    refine v_iload_n 2 (pc' := 32) rfl dX4_fill_31 rfl rfl ?_
    refine v_put (pc' := 35) rfl dX4_fill_32 fi_RX4_22 ly_14 rfl ?_
    refine v_nmw (fun w2 hw2 => ?_)
    refine v_aload_n 0 (pc' := 36) rfl dX4_fill_35 rfl rfl ?_
    refine v_iload_n 3 (pc' := 37) rfl dX4_fill_36 rfl rfl ?_
    refine v_put (pc' := 40) rfl dX4_fill_37 fi_RX4_25 ly_14 rfl ?_
    refine v_nmw (fun w3 hw3 => ?_)
    refine v_iconst (pc' := 41) rfl dX4_fill_40 ?_
    refine v_istore (ls' := [(4, _), (0, _), (1, _), (2, _), (3, _)]) (pc' := 43) rfl dX4_fill_41 rfl rfl ?_
    refine v_ls [1, 2, 3, 4, 0] rfl ?_
    refine v_loop2 43 (fun (i : Int) (wl : Wd) => ∃ k : Nat, i = k ∧ k ≤ 5040 ∧ (wl 14 3 = n ∧ wl 14 4 = (hx s : Nat) ∧ wl 14 5 = (hx a : Nat)) ∧ (∀ j, j < k → wl 16 j = -1) ∧ Fr [14, 15, 16] w wl) (fun (i : Int) (wl : Wd) => (5040 - i).toNat) (fun (i : Int) (wl : Wd) => [(0, aR 14), (1, aI (n0)), (2, aI (p)), (3, aI (q)), (4, aI (i))]) (fun (i : Int) (wl : Wd) => []) (fun (i : Int) (wl : Wd) => wl) (fun i wl hI0 ih0 => ?_) (0) w3 (⟨0, rfl, by omega, by simp [hw1, hw2, hw3, up_at, hn, hp, hq], fun j h => by omega, by rw [hw3, hw2, hw1]; exact (((Fr.rf _ _).up rfl).up rfl).up rfl⟩)
    obtain ⟨k, hi, hk, hF, hA, hfl⟩ := hI0
    have hik : i.toNat = k := by omega
    refine v_iload 4 (pc' := 45) rfl dX4_fill_43 rfl ?_
    refine v_sipush (pc' := 48) rfl dX4_fill_45 rfl ?_
    refine v_icmp_ge (pc' := 51) (tgt := 65) rfl dX4_fill_48 (by decide) (by omega) (by omega) (fun c3 => ?_) (fun c3 => ?_)
    ·
      refine v_aload_n 0 (pc' := 66) rfl dX4_fill_65 rfl rfl ?_
      refine v_iconst (pc' := 67) rfl dX4_fill_66 ?_
      refine v_put (pc' := 70) rfl dX4_fill_67 fi_RX4_28 ly_14 rfl ?_
      refine v_nmw (fun w5 hw5 => ?_)
      have h3z : w5 14 3 = n := by rw [hw5, up_ne _ _ (by omega)]; exact hF.1
      have hk0 : k = 5040 := by omega
      have hGz : GW w5 ([], fun _ => -1) := ⟨by rw [hw5, up_eq]; rfl, fun j hj => absurd hj (Nat.not_lt_zero _), fun r hr => by rw [hw5, up_ne _ _ (by omega)]; exact hA r (by omega)⟩
      refine v_aload_n 0 (pc' := 71) rfl dX4_fill_70 rfl rfl ?_
      refine v_ldc (z := 19088743) (pc' := 73) rfl dX4_fill_71 kc_RX4_33 ?_
      refine v_iconst (pc' := 74) rfl dX4_fill_73 ?_
      refine v_cVv (pc' := 77) rfl dX4_fill_74 lk_RX4_34 ly_14 rfl (c_add4 l G hn1 hn7 (f := pid) rfl (pm_id n) (BI.nil n) w5 hGz h3z) rfl rfl rfl (fun add1 w6 hq6 => ?_)
      obtain ⟨hq6a, hq6b, hq6c⟩ := hq6
      have g3 : w6 14 3 = n := by rw [hq6c 3 (by decide)]; exact h3z
      have g4 : w6 14 4 = (hx s : Nat) := by rw [hq6c 4 (by decide), hw5, up_ne _ _ (by omega)]; exact hF.2.1
      have g5 : w6 14 5 = (hx a : Nat) := by rw [hq6c 5 (by decide), hw5, up_ne _ _ (by omega)]; exact hF.2.2
      refine v_aload_n 0 (pc' := 78) rfl dX4_fill_77 rfl rfl ?_
      refine v_get (z := ((hx s : Nat) : Int)) (pc' := 81) rfl dX4_fill_78 fk_RX4_22 ly_14 rfl (g4) ?_
      refine v_cSP (pc' := 84) rfl dX4_fill_81 lk_RX4_38 rfl (c_back l G rfl (hs.mono hn7) w6) rfl rfl rfl ?_
      refine v_nm (fun back1 hback1 => ?_)
      refine v_istore (ls' := [(4, _), (0, _), (1, _), (2, _), (3, _)]) (pc' := 86) rfl dX4_fill_84 rfl rfl ?_
      refine v_aload_n 1 (pc' := 87) rfl dX4_fill_86 rfl rfl ?_
      refine v_get (z := ((hx a : Nat) : Int)) (pc' := 90) rfl dX4_fill_87 fk_RX4_25 ly_14 rfl (g5) ?_
      refine v_cSP (pc' := 93) rfl dX4_fill_90 lk_RX4_38 rfl (c_back l G rfl (ha.mono hn7) w6) rfl rfl rfl ?_
      refine v_nm (fun back2 hback2 => ?_)
      refine v_istore (ls' := [(5, _), (4, _), (0, _), (1, _), (2, _), (3, _)]) (pc' := 95) rfl dX4_fill_93 rfl rfl ?_
      refine v_iconst (pc' := 96) rfl dX4_fill_95 ?_
      refine v_istore (ls' := [(6, _), (5, _), (4, _), (0, _), (1, _), (2, _), (3, _)]) (pc' := 98) rfl dX4_fill_96 rfl rfl ?_
      refine v_ls [3, 4, 5, 6, 2, 1, 0] rfl ?_
      refine v_loop2 98 (fun (i : Int) (wm : Wd) => ∃ k : Nat, i = k ∧ k ≤ 5040 ∧ (wm 14 3 = n ∧ wm 14 4 = (hx s : Nat) ∧ wm 14 5 = (hx a : Nat)) ∧ GW wm (bfsI n s a k) ∧ Fr [14, 15, 16] w wm) (fun (i : Int) (wm : Wd) => (5040 - i).toNat) (fun (i : Int) (wm : Wd) => [(0, aR 14), (1, aI (n0)), (2, aI (p)), (3, aI (q)), (4, aI (back1)), (5, aI (back2)), (6, aI (i))]) (fun (i : Int) (wm : Wd) => []) (fun (i : Int) (wm : Wd) => wm) (fun i wm hI1 ih1 => ?_) (0) w6 (⟨0, rfl, by omega, ⟨g3, g4, g5⟩, hq6a, (show Fr [14, 15, 16] w w5 by rw [hw5]; exact hfl.up rfl).trs hq6b⟩)
      obtain ⟨k, hi, hk, ⟨g3, g4, g5⟩, hGm, hfm⟩ := hI1
      have hBI := bfsI_BI hn1 hn7 hs ha k
      have hlen := hBI.len hn1 hn7
      have gm := hGm.1
      refine v_iload 6 (pc' := 100) rfl dX4_fill_98 rfl ?_
      refine v_aload_n 0 (pc' := 101) rfl dX4_fill_100 rfl rfl ?_
      refine v_get (z := (((bfsI n s a k).1.length : Nat) : Int)) (pc' := 104) rfl dX4_fill_101 fk_RX4_28 ly_14 rfl (gm) ?_
      refine v_icmp_ge (pc' := 107) (tgt := 196) rfl dX4_fill_104 (by decide) (by omega) (by omega) (fun c4 => ?_) (fun c4 => ?_)
      ·
        refine v_vret dX4_fill_196 ?_
        have hst : bfs n s a = bfsI n s a k := bfs_at hk (by omega)
        exact ⟨hfm, ⟨g3, g4, g5⟩, by rw [hst]; exact hGm⟩
      ·
        have hkl : k < (bfsI n s a k).1.length := by omega
        have hpp := hBI.1 _ (getD_mem (L := (bfsI n s a k).1) (i := k) (d := pid) hkl)
        have hdd := hBI.2.2.2 (rankN ((bfsI n s a k).1.getD k pid) n)
        have hB1 := hBI.add hn1 hn7 (p := pcomp ((bfsI n s a k).1.getD k pid) s) (d := (bfsI n s a k).2 (rankN ((bfsI n s a k).1.getD k pid) n) + 1) (hpp.comp hs) (by omega) (by omega)
        have l1 := bAdd_len (n := n) (B := bfsI n s a k) (pcomp ((bfsI n s a k).1.getD k pid) s) ((bfsI n s a k).2 (rankN ((bfsI n s a k).1.getD k pid) n) + 1)
        have hB2 := hB1.add hn1 hn7 (p := pcomp ((bfsI n s a k).1.getD k pid) a) (d := (bfsI n s a k).2 (rankN ((bfsI n s a k).1.getD k pid) n) + 1) (hpp.comp ha) (by omega) (by omega)
        have l2 := bAdd_len (n := n) (B := bAdd n (pcomp ((bfsI n s a k).1.getD k pid) s) ((bfsI n s a k).2 (rankN ((bfsI n s a k).1.getD k pid) n) + 1) (bfsI n s a k)) (pcomp ((bfsI n s a k).1.getD k pid) a) ((bfsI n s a k).2 (rankN ((bfsI n s a k).1.getD k pid) n) + 1)
        have hB3 := hB2.add hn1 hn7 (p := pcomp ((bfsI n s a k).1.getD k pid) (pinv s)) (d := (bfsI n s a k).2 (rankN ((bfsI n s a k).1.getD k pid) n) + 1) (hpp.comp (hs.inv hn7)) (by omega) (by omega)
        refine v_iload 6 (pc' := 109) rfl dX4_fill_107 rfl ?_
        refine v_sipush (pc' := 112) rfl dX4_fill_109 rfl ?_
        refine v_icmp_ge (pc' := 115) (tgt := 196) rfl dX4_fill_112 (by decide) (by omega) (by omega) (fun c5 => ?_) (fun c5 => ?_)
        ·
          refine v_vret dX4_fill_196 ?_
          have hst : bfs n s a = bfsI n s a k := bfs_at hk (by omega)
          exact ⟨hfm, ⟨g3, g4, g5⟩, by rw [hst]; exact hGm⟩
        ·
          refine v_aload_n 0 (pc' := 116) rfl dX4_fill_115 rfl rfl ?_
          refine v_getR (pc' := 119) rfl dX4_fill_116 fk_RX4_9 ly_14 rfl ?_
          refine v_iload 6 (pc' := 121) rfl dX4_fill_119 rfl ?_
          refine v_iald (z := ((hx ((bfsI n s a k).1.getD k pid) : Nat) : Int)) (pc' := 122) rfl dX4_fill_121 ly_15 (by omega) (by omega) rfl (by rw [show i.toNat = k by omega]; exact hGm.2.1 k hkl) ?_
          refine v_nm (fun pp' hpp' => ?_)
          refine v_istore (ls' := [(7, _), (0, _), (1, _), (2, _), (3, _), (4, _), (5, _), (6, _)]) (pc' := 124) rfl dX4_fill_122 rfl rfl ?_
          refine v_aload_n 1 (pc' := 125) rfl dX4_fill_124 rfl rfl ?_
          refine v_iload 0 (pc' := 127) rfl dX4_fill_125 rfl ?_
          refine v_cVP (pc' := 130) rfl dX4_fill_127 lk_RX4_42 ly_14 rfl (c_turnsTo l G hn1 hn7 hpp' hpp wm hGm g3) rfl rfl rfl ?_
          refine v_nm (fun turnsTo1 hturnsTo1 => ?_)
          refine v_iconst (pc' := 131) rfl dX4_fill_130 ?_
          refine v_iadd (pc' := 132) rfl dX4_fill_131 ?_
          refine v_nm (fun next' hnext' => ?_)
          refine v_istore (ls' := [(8, _), (7, _), (0, _), (1, _), (2, _), (3, _), (4, _), (5, _), (6, _)]) (pc' := 134) rfl dX4_fill_132 rfl rfl ?_
          refine v_aload_n 2 (pc' := 135) rfl dX4_fill_134 rfl rfl ?_
          refine v_iload 1 (pc' := 137) rfl dX4_fill_135 rfl ?_
          refine v_aload_n 2 (pc' := 138) rfl dX4_fill_137 rfl rfl ?_
          refine v_get (z := ((hx s : Nat) : Int)) (pc' := 141) rfl dX4_fill_138 fk_RX4_22 ly_14 rfl (g4) ?_
          refine v_cSP (pc' := 144) rfl dX4_fill_141 lk_RX4_45 rfl (c_then l G hpp' rfl (hpp.b7 hn7) (hs.B hn7) wm) rfl rfl rfl ?_
          refine v_nm (fun then1 hthen1 => ?_)
          refine v_iload 0 (pc' := 146) rfl dX4_fill_144 rfl ?_
          refine v_cVv (pc' := 149) rfl dX4_fill_146 lk_RX4_34 ly_14 rfl (c_add4 l G hn1 hn7 hthen1 (hpp.comp hs) hBI wm hGm g3) rfl rfl rfl (fun add2 w11 hq11 => ?_)
          obtain ⟨a1, f1, e1⟩ := hq11
          rw [hnext', hturnsTo1] at a1
          have g51 : w11 14 5 = (hx a : Nat) := by rw [e1 5 (by decide)]; exact g5
          have g31 : w11 14 3 = n := by rw [e1 3 (by decide)]; exact g3
          refine v_aload_n 2 (pc' := 150) rfl dX4_fill_149 rfl rfl ?_
          refine v_iload 1 (pc' := 152) rfl dX4_fill_150 rfl ?_
          refine v_aload_n 2 (pc' := 153) rfl dX4_fill_152 rfl rfl ?_
          refine v_get (z := ((hx a : Nat) : Int)) (pc' := 156) rfl dX4_fill_153 fk_RX4_25 ly_14 rfl (g51) ?_
          refine v_cSP (pc' := 159) rfl dX4_fill_156 lk_RX4_45 rfl (c_then l G hpp' rfl (hpp.b7 hn7) (ha.B hn7) w11) rfl rfl rfl ?_
          refine v_nm (fun then2 hthen2 => ?_)
          refine v_iload 0 (pc' := 161) rfl dX4_fill_159 rfl ?_
          refine v_cVv (pc' := 164) rfl dX4_fill_161 lk_RX4_34 ly_14 rfl (c_add4 l G hn1 hn7 hthen2 (hpp.comp ha) hB1 w11 a1 g31) rfl rfl rfl (fun add3 w13 hq13 => ?_)
          obtain ⟨a2, f2, e2⟩ := hq13
          rw [hnext', hturnsTo1] at a2
          have g32 : w13 14 3 = n := by rw [e2 3 (by decide)]; exact g31
          refine v_aload_n 2 (pc' := 165) rfl dX4_fill_164 rfl rfl ?_
          refine v_iload 1 (pc' := 167) rfl dX4_fill_165 rfl ?_
          refine v_iload 6 (pc' := 169) rfl dX4_fill_167 rfl ?_
          refine v_cSP (pc' := 172) rfl dX4_fill_169 lk_RX4_45 rfl (c_then l G hpp' hback1 (hpp.b7 hn7) ((hs.inv hn7).B hn7) w13) rfl rfl rfl ?_
          refine v_nm (fun then3 hthen3 => ?_)
          refine v_iload 0 (pc' := 174) rfl dX4_fill_172 rfl ?_
          refine v_cVv (pc' := 177) rfl dX4_fill_174 lk_RX4_34 ly_14 rfl (c_add4 l G hn1 hn7 hthen3 (hpp.comp (hs.inv hn7)) hB2 w13 a2 g32) rfl rfl rfl (fun add4 w15 hq15 => ?_)
          obtain ⟨a3, f3, e3⟩ := hq15
          rw [hnext', hturnsTo1] at a3
          have g33 : w15 14 3 = n := by rw [e3 3 (by decide)]; exact g32
          refine v_aload_n 2 (pc' := 178) rfl dX4_fill_177 rfl rfl ?_
          refine v_iload 1 (pc' := 180) rfl dX4_fill_178 rfl ?_
          refine v_iload 7 (pc' := 182) rfl dX4_fill_180 rfl ?_
          refine v_cSP (pc' := 185) rfl dX4_fill_182 lk_RX4_45 rfl (c_then l G hpp' hback2 (hpp.b7 hn7) ((ha.inv hn7).B hn7) w15) rfl rfl rfl ?_
          refine v_nm (fun then4 hthen4 => ?_)
          refine v_iload 0 (pc' := 187) rfl dX4_fill_185 rfl ?_
          refine v_cVv (pc' := 190) rfl dX4_fill_187 lk_RX4_34 ly_14 rfl (c_add4 l G hn1 hn7 hthen4 (hpp.comp (ha.inv hn7)) hB3 w15 a3 g33) rfl rfl rfl (fun add5 w17 hq17 => ?_)
          obtain ⟨a4, f4, e4⟩ := hq17
          rw [hnext', hturnsTo1] at a4
          refine v_iinc (ls' := [(6, _), (8, _), (7, _), (0, _), (1, _), (2, _), (3, _), (4, _), (5, _)]) 8 (pc' := 193) rfl dX4_fill_190 rfl rfl rfl ?_
          refine v_nl (fun i' hi' => ?_)
          refine v_goto (tgt := 98) dX4_fill_193 (by decide) ?_
          refine v_ls [3, 4, 5, 6, 7, 8, 0] rfl ?_
          exact ih1 (i') w17 (⟨k + 1, by omega, by omega, ⟨by rw [e4 3 (by decide), e3 3 (by decide), e2 3 (by decide), e1 3 (by decide)]; exact g3, by rw [e4 4 (by decide), e3 4 (by decide), e2 4 (by decide), e1 4 (by decide)]; exact g4, by rw [e4 5 (by decide), e3 5 (by decide), e2 5 (by decide), e1 5 (by decide)]; exact g5⟩, by have : bfsI n s a (k + 1) = bExp n s a k (bfsI n s a k) := rfl; rw [this]; unfold bExp; rw [if_pos hkl]; exact a4, (((hfm.trs f1).trs f2).trs f3).trs f4⟩) (by omega)
    ·
      refine v_aload_n 0 (pc' := 52) rfl dX4_fill_51 rfl rfl ?_
      refine v_getR (pc' := 55) rfl dX4_fill_52 fk_RX4_15 ly_14 rfl ?_
      refine v_iload 4 (pc' := 57) rfl dX4_fill_55 rfl ?_
      refine v_iconst (pc' := 58) rfl dX4_fill_57 ?_
      refine v_iast (pc' := 59) rfl dX4_fill_58 ly_16 (by omega) (by omega) rfl ?_
      refine v_nmw (fun w4 hw4 => ?_)
      refine v_iinc (ls' := [(4, _), (0, _), (1, _), (2, _), (3, _)]) 4 (pc' := 62) rfl dX4_fill_59 rfl rfl rfl ?_
      refine v_nl (fun i' hi' => ?_)
      refine v_goto (tgt := 43) dX4_fill_62 (by decide) ?_
      refine v_ls [1, 2, 3, 4, 0] rfl ?_
      exact ih0 (i') w4 (⟨k + 1, by omega, by omega, by simp [hw4, up_at, hF], fun j h => by
          rw [hw4, up_at, hik]
          split
          · rfl
          · exact hA j (by omega), by rw [hw4]; exact hfl.up rfl⟩) (by omega)
  ·
    refine v_aload_n 0 (pc' := 9) rfl dX4_fill_8 rfl rfl ?_
    refine v_get (pc' := 12) rfl dX4_fill_9 fk_RX4_22 ly_14 rfl rfl ?_
    refine v_iload_n 2 (pc' := 13) rfl dX4_fill_12 rfl rfl ?_
    refine v_icmp_ne (pc' := 16) (tgt := 25) rfl dX4_fill_13 (by decide) ((hmiss.2 (by omega)).1) (by omega) (fun c1 => ?_) (fun c1 => ?_)
    ·
      refine v_aload_n 0 (pc' := 26) rfl dX4_fill_25 rfl rfl ?_
      refine v_iload_n 1 (pc' := 27) rfl dX4_fill_26 rfl rfl ?_
      refine v_put (pc' := 30) rfl dX4_fill_27 fi_RX4_18 ly_14 rfl ?_
      refine v_nmw (fun w1 hw1 => ?_)
      refine v_aload_n 0 (pc' := 31) rfl dX4_fill_30 rfl rfl ?_
      refine v_iload_n 2 (pc' := 32) rfl dX4_fill_31 rfl rfl ?_
      refine v_put (pc' := 35) rfl dX4_fill_32 fi_RX4_22 ly_14 rfl ?_
      refine v_nmw (fun w2 hw2 => ?_)
      refine v_aload_n 0 (pc' := 36) rfl dX4_fill_35 rfl rfl ?_
      refine v_iload_n 3 (pc' := 37) rfl dX4_fill_36 rfl rfl ?_
      refine v_put (pc' := 40) rfl dX4_fill_37 fi_RX4_25 ly_14 rfl ?_
      refine v_nmw (fun w3 hw3 => ?_)
      refine v_iconst (pc' := 41) rfl dX4_fill_40 ?_
      refine v_istore (ls' := [(4, _), (0, _), (1, _), (2, _), (3, _)]) (pc' := 43) rfl dX4_fill_41 rfl rfl ?_
      refine v_ls [1, 2, 3, 4, 0] rfl ?_
      refine v_loop2 43 (fun (i : Int) (wl : Wd) => ∃ k : Nat, i = k ∧ k ≤ 5040 ∧ (wl 14 3 = n ∧ wl 14 4 = (hx s : Nat) ∧ wl 14 5 = (hx a : Nat)) ∧ (∀ j, j < k → wl 16 j = -1) ∧ Fr [14, 15, 16] w wl) (fun (i : Int) (wl : Wd) => (5040 - i).toNat) (fun (i : Int) (wl : Wd) => [(0, aR 14), (1, aI (n0)), (2, aI (p)), (3, aI (q)), (4, aI (i))]) (fun (i : Int) (wl : Wd) => []) (fun (i : Int) (wl : Wd) => wl) (fun i wl hI0 ih0 => ?_) (0) w3 (⟨0, rfl, by omega, by simp [hw1, hw2, hw3, up_at, hn, hp, hq], fun j h => by omega, by rw [hw3, hw2, hw1]; exact (((Fr.rf _ _).up rfl).up rfl).up rfl⟩)
      obtain ⟨k, hi, hk, hF, hA, hfl⟩ := hI0
      have hik : i.toNat = k := by omega
      refine v_iload 4 (pc' := 45) rfl dX4_fill_43 rfl ?_
      refine v_sipush (pc' := 48) rfl dX4_fill_45 rfl ?_
      refine v_icmp_ge (pc' := 51) (tgt := 65) rfl dX4_fill_48 (by decide) (by omega) (by omega) (fun c3 => ?_) (fun c3 => ?_)
      ·
        refine v_aload_n 0 (pc' := 66) rfl dX4_fill_65 rfl rfl ?_
        refine v_iconst (pc' := 67) rfl dX4_fill_66 ?_
        refine v_put (pc' := 70) rfl dX4_fill_67 fi_RX4_28 ly_14 rfl ?_
        refine v_nmw (fun w5 hw5 => ?_)
        have h3z : w5 14 3 = n := by rw [hw5, up_ne _ _ (by omega)]; exact hF.1
        have hk0 : k = 5040 := by omega
        have hGz : GW w5 ([], fun _ => -1) := ⟨by rw [hw5, up_eq]; rfl, fun j hj => absurd hj (Nat.not_lt_zero _), fun r hr => by rw [hw5, up_ne _ _ (by omega)]; exact hA r (by omega)⟩
        refine v_aload_n 0 (pc' := 71) rfl dX4_fill_70 rfl rfl ?_
        refine v_ldc (z := 19088743) (pc' := 73) rfl dX4_fill_71 kc_RX4_33 ?_
        refine v_iconst (pc' := 74) rfl dX4_fill_73 ?_
        refine v_cVv (pc' := 77) rfl dX4_fill_74 lk_RX4_34 ly_14 rfl (c_add4 l G hn1 hn7 (f := pid) rfl (pm_id n) (BI.nil n) w5 hGz h3z) rfl rfl rfl (fun add1 w6 hq6 => ?_)
        obtain ⟨hq6a, hq6b, hq6c⟩ := hq6
        have g3 : w6 14 3 = n := by rw [hq6c 3 (by decide)]; exact h3z
        have g4 : w6 14 4 = (hx s : Nat) := by rw [hq6c 4 (by decide), hw5, up_ne _ _ (by omega)]; exact hF.2.1
        have g5 : w6 14 5 = (hx a : Nat) := by rw [hq6c 5 (by decide), hw5, up_ne _ _ (by omega)]; exact hF.2.2
        refine v_aload_n 0 (pc' := 78) rfl dX4_fill_77 rfl rfl ?_
        refine v_get (z := ((hx s : Nat) : Int)) (pc' := 81) rfl dX4_fill_78 fk_RX4_22 ly_14 rfl (g4) ?_
        refine v_cSP (pc' := 84) rfl dX4_fill_81 lk_RX4_38 rfl (c_back l G rfl (hs.mono hn7) w6) rfl rfl rfl ?_
        refine v_nm (fun back1 hback1 => ?_)
        refine v_istore (ls' := [(4, _), (0, _), (1, _), (2, _), (3, _)]) (pc' := 86) rfl dX4_fill_84 rfl rfl ?_
        refine v_aload_n 1 (pc' := 87) rfl dX4_fill_86 rfl rfl ?_
        refine v_get (z := ((hx a : Nat) : Int)) (pc' := 90) rfl dX4_fill_87 fk_RX4_25 ly_14 rfl (g5) ?_
        refine v_cSP (pc' := 93) rfl dX4_fill_90 lk_RX4_38 rfl (c_back l G rfl (ha.mono hn7) w6) rfl rfl rfl ?_
        refine v_nm (fun back2 hback2 => ?_)
        refine v_istore (ls' := [(5, _), (4, _), (0, _), (1, _), (2, _), (3, _)]) (pc' := 95) rfl dX4_fill_93 rfl rfl ?_
        refine v_iconst (pc' := 96) rfl dX4_fill_95 ?_
        refine v_istore (ls' := [(6, _), (5, _), (4, _), (0, _), (1, _), (2, _), (3, _)]) (pc' := 98) rfl dX4_fill_96 rfl rfl ?_
        refine v_ls [3, 4, 5, 6, 2, 1, 0] rfl ?_
        refine v_loop2 98 (fun (i : Int) (wm : Wd) => ∃ k : Nat, i = k ∧ k ≤ 5040 ∧ (wm 14 3 = n ∧ wm 14 4 = (hx s : Nat) ∧ wm 14 5 = (hx a : Nat)) ∧ GW wm (bfsI n s a k) ∧ Fr [14, 15, 16] w wm) (fun (i : Int) (wm : Wd) => (5040 - i).toNat) (fun (i : Int) (wm : Wd) => [(0, aR 14), (1, aI (n0)), (2, aI (p)), (3, aI (q)), (4, aI (back1)), (5, aI (back2)), (6, aI (i))]) (fun (i : Int) (wm : Wd) => []) (fun (i : Int) (wm : Wd) => wm) (fun i wm hI1 ih1 => ?_) (0) w6 (⟨0, rfl, by omega, ⟨g3, g4, g5⟩, hq6a, (show Fr [14, 15, 16] w w5 by rw [hw5]; exact hfl.up rfl).trs hq6b⟩)
        obtain ⟨k, hi, hk, ⟨g3, g4, g5⟩, hGm, hfm⟩ := hI1
        have hBI := bfsI_BI hn1 hn7 hs ha k
        have hlen := hBI.len hn1 hn7
        have gm := hGm.1
        refine v_iload 6 (pc' := 100) rfl dX4_fill_98 rfl ?_
        refine v_aload_n 0 (pc' := 101) rfl dX4_fill_100 rfl rfl ?_
        refine v_get (z := (((bfsI n s a k).1.length : Nat) : Int)) (pc' := 104) rfl dX4_fill_101 fk_RX4_28 ly_14 rfl (gm) ?_
        refine v_icmp_ge (pc' := 107) (tgt := 196) rfl dX4_fill_104 (by decide) (by omega) (by omega) (fun c4 => ?_) (fun c4 => ?_)
        ·
          refine v_vret dX4_fill_196 ?_
          have hst : bfs n s a = bfsI n s a k := bfs_at hk (by omega)
          exact ⟨hfm, ⟨g3, g4, g5⟩, by rw [hst]; exact hGm⟩
        ·
          have hkl : k < (bfsI n s a k).1.length := by omega
          have hpp := hBI.1 _ (getD_mem (L := (bfsI n s a k).1) (i := k) (d := pid) hkl)
          have hdd := hBI.2.2.2 (rankN ((bfsI n s a k).1.getD k pid) n)
          have hB1 := hBI.add hn1 hn7 (p := pcomp ((bfsI n s a k).1.getD k pid) s) (d := (bfsI n s a k).2 (rankN ((bfsI n s a k).1.getD k pid) n) + 1) (hpp.comp hs) (by omega) (by omega)
          have l1 := bAdd_len (n := n) (B := bfsI n s a k) (pcomp ((bfsI n s a k).1.getD k pid) s) ((bfsI n s a k).2 (rankN ((bfsI n s a k).1.getD k pid) n) + 1)
          have hB2 := hB1.add hn1 hn7 (p := pcomp ((bfsI n s a k).1.getD k pid) a) (d := (bfsI n s a k).2 (rankN ((bfsI n s a k).1.getD k pid) n) + 1) (hpp.comp ha) (by omega) (by omega)
          have l2 := bAdd_len (n := n) (B := bAdd n (pcomp ((bfsI n s a k).1.getD k pid) s) ((bfsI n s a k).2 (rankN ((bfsI n s a k).1.getD k pid) n) + 1) (bfsI n s a k)) (pcomp ((bfsI n s a k).1.getD k pid) a) ((bfsI n s a k).2 (rankN ((bfsI n s a k).1.getD k pid) n) + 1)
          have hB3 := hB2.add hn1 hn7 (p := pcomp ((bfsI n s a k).1.getD k pid) (pinv s)) (d := (bfsI n s a k).2 (rankN ((bfsI n s a k).1.getD k pid) n) + 1) (hpp.comp (hs.inv hn7)) (by omega) (by omega)
          refine v_iload 6 (pc' := 109) rfl dX4_fill_107 rfl ?_
          refine v_sipush (pc' := 112) rfl dX4_fill_109 rfl ?_
          refine v_icmp_ge (pc' := 115) (tgt := 196) rfl dX4_fill_112 (by decide) (by omega) (by omega) (fun c5 => ?_) (fun c5 => ?_)
          ·
            refine v_vret dX4_fill_196 ?_
            have hst : bfs n s a = bfsI n s a k := bfs_at hk (by omega)
            exact ⟨hfm, ⟨g3, g4, g5⟩, by rw [hst]; exact hGm⟩
          ·
            refine v_aload_n 0 (pc' := 116) rfl dX4_fill_115 rfl rfl ?_
            refine v_getR (pc' := 119) rfl dX4_fill_116 fk_RX4_9 ly_14 rfl ?_
            refine v_iload 6 (pc' := 121) rfl dX4_fill_119 rfl ?_
            refine v_iald (z := ((hx ((bfsI n s a k).1.getD k pid) : Nat) : Int)) (pc' := 122) rfl dX4_fill_121 ly_15 (by omega) (by omega) rfl (by rw [show i.toNat = k by omega]; exact hGm.2.1 k hkl) ?_
            refine v_nm (fun pp' hpp' => ?_)
            refine v_istore (ls' := [(7, _), (0, _), (1, _), (2, _), (3, _), (4, _), (5, _), (6, _)]) (pc' := 124) rfl dX4_fill_122 rfl rfl ?_
            refine v_aload_n 1 (pc' := 125) rfl dX4_fill_124 rfl rfl ?_
            refine v_iload 0 (pc' := 127) rfl dX4_fill_125 rfl ?_
            refine v_cVP (pc' := 130) rfl dX4_fill_127 lk_RX4_42 ly_14 rfl (c_turnsTo l G hn1 hn7 hpp' hpp wm hGm g3) rfl rfl rfl ?_
            refine v_nm (fun turnsTo1 hturnsTo1 => ?_)
            refine v_iconst (pc' := 131) rfl dX4_fill_130 ?_
            refine v_iadd (pc' := 132) rfl dX4_fill_131 ?_
            refine v_nm (fun next' hnext' => ?_)
            refine v_istore (ls' := [(8, _), (7, _), (0, _), (1, _), (2, _), (3, _), (4, _), (5, _), (6, _)]) (pc' := 134) rfl dX4_fill_132 rfl rfl ?_
            refine v_aload_n 2 (pc' := 135) rfl dX4_fill_134 rfl rfl ?_
            refine v_iload 1 (pc' := 137) rfl dX4_fill_135 rfl ?_
            refine v_aload_n 2 (pc' := 138) rfl dX4_fill_137 rfl rfl ?_
            refine v_get (z := ((hx s : Nat) : Int)) (pc' := 141) rfl dX4_fill_138 fk_RX4_22 ly_14 rfl (g4) ?_
            refine v_cSP (pc' := 144) rfl dX4_fill_141 lk_RX4_45 rfl (c_then l G hpp' rfl (hpp.b7 hn7) (hs.B hn7) wm) rfl rfl rfl ?_
            refine v_nm (fun then1 hthen1 => ?_)
            refine v_iload 0 (pc' := 146) rfl dX4_fill_144 rfl ?_
            refine v_cVv (pc' := 149) rfl dX4_fill_146 lk_RX4_34 ly_14 rfl (c_add4 l G hn1 hn7 hthen1 (hpp.comp hs) hBI wm hGm g3) rfl rfl rfl (fun add2 w11 hq11 => ?_)
            obtain ⟨a1, f1, e1⟩ := hq11
            rw [hnext', hturnsTo1] at a1
            have g51 : w11 14 5 = (hx a : Nat) := by rw [e1 5 (by decide)]; exact g5
            have g31 : w11 14 3 = n := by rw [e1 3 (by decide)]; exact g3
            refine v_aload_n 2 (pc' := 150) rfl dX4_fill_149 rfl rfl ?_
            refine v_iload 1 (pc' := 152) rfl dX4_fill_150 rfl ?_
            refine v_aload_n 2 (pc' := 153) rfl dX4_fill_152 rfl rfl ?_
            refine v_get (z := ((hx a : Nat) : Int)) (pc' := 156) rfl dX4_fill_153 fk_RX4_25 ly_14 rfl (g51) ?_
            refine v_cSP (pc' := 159) rfl dX4_fill_156 lk_RX4_45 rfl (c_then l G hpp' rfl (hpp.b7 hn7) (ha.B hn7) w11) rfl rfl rfl ?_
            refine v_nm (fun then2 hthen2 => ?_)
            refine v_iload 0 (pc' := 161) rfl dX4_fill_159 rfl ?_
            refine v_cVv (pc' := 164) rfl dX4_fill_161 lk_RX4_34 ly_14 rfl (c_add4 l G hn1 hn7 hthen2 (hpp.comp ha) hB1 w11 a1 g31) rfl rfl rfl (fun add3 w13 hq13 => ?_)
            obtain ⟨a2, f2, e2⟩ := hq13
            rw [hnext', hturnsTo1] at a2
            have g32 : w13 14 3 = n := by rw [e2 3 (by decide)]; exact g31
            refine v_aload_n 2 (pc' := 165) rfl dX4_fill_164 rfl rfl ?_
            refine v_iload 1 (pc' := 167) rfl dX4_fill_165 rfl ?_
            refine v_iload 6 (pc' := 169) rfl dX4_fill_167 rfl ?_
            refine v_cSP (pc' := 172) rfl dX4_fill_169 lk_RX4_45 rfl (c_then l G hpp' hback1 (hpp.b7 hn7) ((hs.inv hn7).B hn7) w13) rfl rfl rfl ?_
            refine v_nm (fun then3 hthen3 => ?_)
            refine v_iload 0 (pc' := 174) rfl dX4_fill_172 rfl ?_
            refine v_cVv (pc' := 177) rfl dX4_fill_174 lk_RX4_34 ly_14 rfl (c_add4 l G hn1 hn7 hthen3 (hpp.comp (hs.inv hn7)) hB2 w13 a2 g32) rfl rfl rfl (fun add4 w15 hq15 => ?_)
            obtain ⟨a3, f3, e3⟩ := hq15
            rw [hnext', hturnsTo1] at a3
            have g33 : w15 14 3 = n := by rw [e3 3 (by decide)]; exact g32
            refine v_aload_n 2 (pc' := 178) rfl dX4_fill_177 rfl rfl ?_
            refine v_iload 1 (pc' := 180) rfl dX4_fill_178 rfl ?_
            refine v_iload 7 (pc' := 182) rfl dX4_fill_180 rfl ?_
            refine v_cSP (pc' := 185) rfl dX4_fill_182 lk_RX4_45 rfl (c_then l G hpp' hback2 (hpp.b7 hn7) ((ha.inv hn7).B hn7) w15) rfl rfl rfl ?_
            refine v_nm (fun then4 hthen4 => ?_)
            refine v_iload 0 (pc' := 187) rfl dX4_fill_185 rfl ?_
            refine v_cVv (pc' := 190) rfl dX4_fill_187 lk_RX4_34 ly_14 rfl (c_add4 l G hn1 hn7 hthen4 (hpp.comp (ha.inv hn7)) hB3 w15 a3 g33) rfl rfl rfl (fun add5 w17 hq17 => ?_)
            obtain ⟨a4, f4, e4⟩ := hq17
            rw [hnext', hturnsTo1] at a4
            refine v_iinc (ls' := [(6, _), (8, _), (7, _), (0, _), (1, _), (2, _), (3, _), (4, _), (5, _)]) 8 (pc' := 193) rfl dX4_fill_190 rfl rfl rfl ?_
            refine v_nl (fun i' hi' => ?_)
            refine v_goto (tgt := 98) dX4_fill_193 (by decide) ?_
            refine v_ls [3, 4, 5, 6, 7, 8, 0] rfl ?_
            exact ih1 (i') w17 (⟨k + 1, by omega, by omega, ⟨by rw [e4 3 (by decide), e3 3 (by decide), e2 3 (by decide), e1 3 (by decide)]; exact g3, by rw [e4 4 (by decide), e3 4 (by decide), e2 4 (by decide), e1 4 (by decide)]; exact g4, by rw [e4 5 (by decide), e3 5 (by decide), e2 5 (by decide), e1 5 (by decide)]; exact g5⟩, by have : bfsI n s a (k + 1) = bExp n s a k (bfsI n s a k) := rfl; rw [this]; unfold bExp; rw [if_pos hkl]; exact a4, (((hfm.trs f1).trs f2).trs f3).trs f4⟩) (by omega)
      ·
        refine v_aload_n 0 (pc' := 52) rfl dX4_fill_51 rfl rfl ?_
        refine v_getR (pc' := 55) rfl dX4_fill_52 fk_RX4_15 ly_14 rfl ?_
        refine v_iload 4 (pc' := 57) rfl dX4_fill_55 rfl ?_
        refine v_iconst (pc' := 58) rfl dX4_fill_57 ?_
        refine v_iast (pc' := 59) rfl dX4_fill_58 ly_16 (by omega) (by omega) rfl ?_
        refine v_nmw (fun w4 hw4 => ?_)
        refine v_iinc (ls' := [(4, _), (0, _), (1, _), (2, _), (3, _)]) 4 (pc' := 62) rfl dX4_fill_59 rfl rfl rfl ?_
        refine v_nl (fun i' hi' => ?_)
        refine v_goto (tgt := 43) dX4_fill_62 (by decide) ?_
        refine v_ls [1, 2, 3, 4, 0] rfl ?_
        exact ih0 (i') w4 (⟨k + 1, by omega, by omega, by simp [hw4, up_at, hF], fun j h => by
            rw [hw4, up_at, hik]
            split
            · rfl
            · exact hA j (by omega), by rw [hw4]; exact hfl.up rfl⟩) (by omega)
    ·
      refine v_aload_n 0 (pc' := 17) rfl dX4_fill_16 rfl rfl ?_
      refine v_get (pc' := 20) rfl dX4_fill_17 fk_RX4_25 ly_14 rfl rfl ?_
      refine v_iload_n 3 (pc' := 21) rfl dX4_fill_20 rfl rfl ?_
      refine v_icmp_ne (pc' := 24) (tgt := 25) rfl dX4_fill_21 (by decide) (((hmiss.2 (by omega)).2 (by omega)).1) (by omega) (fun c2 => ?_) (fun c2 => absurd c2 (fun e => ((hmiss.2 (by omega)).2 (by omega)).2 (by omega)))
      refine v_aload_n 0 (pc' := 26) rfl dX4_fill_25 rfl rfl ?_
      refine v_iload_n 1 (pc' := 27) rfl dX4_fill_26 rfl rfl ?_
      refine v_put (pc' := 30) rfl dX4_fill_27 fi_RX4_18 ly_14 rfl ?_
      refine v_nmw (fun w1 hw1 => ?_)
      refine v_aload_n 0 (pc' := 31) rfl dX4_fill_30 rfl rfl ?_
      refine v_iload_n 2 (pc' := 32) rfl dX4_fill_31 rfl rfl ?_
      refine v_put (pc' := 35) rfl dX4_fill_32 fi_RX4_22 ly_14 rfl ?_
      refine v_nmw (fun w2 hw2 => ?_)
      refine v_aload_n 0 (pc' := 36) rfl dX4_fill_35 rfl rfl ?_
      refine v_iload_n 3 (pc' := 37) rfl dX4_fill_36 rfl rfl ?_
      refine v_put (pc' := 40) rfl dX4_fill_37 fi_RX4_25 ly_14 rfl ?_
      refine v_nmw (fun w3 hw3 => ?_)
      refine v_iconst (pc' := 41) rfl dX4_fill_40 ?_
      refine v_istore (ls' := [(4, _), (0, _), (1, _), (2, _), (3, _)]) (pc' := 43) rfl dX4_fill_41 rfl rfl ?_
      refine v_ls [1, 2, 3, 4, 0] rfl ?_
      refine v_loop2 43 (fun (i : Int) (wl : Wd) => ∃ k : Nat, i = k ∧ k ≤ 5040 ∧ (wl 14 3 = n ∧ wl 14 4 = (hx s : Nat) ∧ wl 14 5 = (hx a : Nat)) ∧ (∀ j, j < k → wl 16 j = -1) ∧ Fr [14, 15, 16] w wl) (fun (i : Int) (wl : Wd) => (5040 - i).toNat) (fun (i : Int) (wl : Wd) => [(0, aR 14), (1, aI (n0)), (2, aI (p)), (3, aI (q)), (4, aI (i))]) (fun (i : Int) (wl : Wd) => []) (fun (i : Int) (wl : Wd) => wl) (fun i wl hI0 ih0 => ?_) (0) w3 (⟨0, rfl, by omega, by simp [hw1, hw2, hw3, up_at, hn, hp, hq], fun j h => by omega, by rw [hw3, hw2, hw1]; exact (((Fr.rf _ _).up rfl).up rfl).up rfl⟩)
      obtain ⟨k, hi, hk, hF, hA, hfl⟩ := hI0
      have hik : i.toNat = k := by omega
      refine v_iload 4 (pc' := 45) rfl dX4_fill_43 rfl ?_
      refine v_sipush (pc' := 48) rfl dX4_fill_45 rfl ?_
      refine v_icmp_ge (pc' := 51) (tgt := 65) rfl dX4_fill_48 (by decide) (by omega) (by omega) (fun c3 => ?_) (fun c3 => ?_)
      ·
        refine v_aload_n 0 (pc' := 66) rfl dX4_fill_65 rfl rfl ?_
        refine v_iconst (pc' := 67) rfl dX4_fill_66 ?_
        refine v_put (pc' := 70) rfl dX4_fill_67 fi_RX4_28 ly_14 rfl ?_
        refine v_nmw (fun w5 hw5 => ?_)
        have h3z : w5 14 3 = n := by rw [hw5, up_ne _ _ (by omega)]; exact hF.1
        have hk0 : k = 5040 := by omega
        have hGz : GW w5 ([], fun _ => -1) := ⟨by rw [hw5, up_eq]; rfl, fun j hj => absurd hj (Nat.not_lt_zero _), fun r hr => by rw [hw5, up_ne _ _ (by omega)]; exact hA r (by omega)⟩
        refine v_aload_n 0 (pc' := 71) rfl dX4_fill_70 rfl rfl ?_
        refine v_ldc (z := 19088743) (pc' := 73) rfl dX4_fill_71 kc_RX4_33 ?_
        refine v_iconst (pc' := 74) rfl dX4_fill_73 ?_
        refine v_cVv (pc' := 77) rfl dX4_fill_74 lk_RX4_34 ly_14 rfl (c_add4 l G hn1 hn7 (f := pid) rfl (pm_id n) (BI.nil n) w5 hGz h3z) rfl rfl rfl (fun add1 w6 hq6 => ?_)
        obtain ⟨hq6a, hq6b, hq6c⟩ := hq6
        have g3 : w6 14 3 = n := by rw [hq6c 3 (by decide)]; exact h3z
        have g4 : w6 14 4 = (hx s : Nat) := by rw [hq6c 4 (by decide), hw5, up_ne _ _ (by omega)]; exact hF.2.1
        have g5 : w6 14 5 = (hx a : Nat) := by rw [hq6c 5 (by decide), hw5, up_ne _ _ (by omega)]; exact hF.2.2
        refine v_aload_n 0 (pc' := 78) rfl dX4_fill_77 rfl rfl ?_
        refine v_get (z := ((hx s : Nat) : Int)) (pc' := 81) rfl dX4_fill_78 fk_RX4_22 ly_14 rfl (g4) ?_
        refine v_cSP (pc' := 84) rfl dX4_fill_81 lk_RX4_38 rfl (c_back l G rfl (hs.mono hn7) w6) rfl rfl rfl ?_
        refine v_nm (fun back1 hback1 => ?_)
        refine v_istore (ls' := [(4, _), (0, _), (1, _), (2, _), (3, _)]) (pc' := 86) rfl dX4_fill_84 rfl rfl ?_
        refine v_aload_n 1 (pc' := 87) rfl dX4_fill_86 rfl rfl ?_
        refine v_get (z := ((hx a : Nat) : Int)) (pc' := 90) rfl dX4_fill_87 fk_RX4_25 ly_14 rfl (g5) ?_
        refine v_cSP (pc' := 93) rfl dX4_fill_90 lk_RX4_38 rfl (c_back l G rfl (ha.mono hn7) w6) rfl rfl rfl ?_
        refine v_nm (fun back2 hback2 => ?_)
        refine v_istore (ls' := [(5, _), (4, _), (0, _), (1, _), (2, _), (3, _)]) (pc' := 95) rfl dX4_fill_93 rfl rfl ?_
        refine v_iconst (pc' := 96) rfl dX4_fill_95 ?_
        refine v_istore (ls' := [(6, _), (5, _), (4, _), (0, _), (1, _), (2, _), (3, _)]) (pc' := 98) rfl dX4_fill_96 rfl rfl ?_
        refine v_ls [3, 4, 5, 6, 2, 1, 0] rfl ?_
        refine v_loop2 98 (fun (i : Int) (wm : Wd) => ∃ k : Nat, i = k ∧ k ≤ 5040 ∧ (wm 14 3 = n ∧ wm 14 4 = (hx s : Nat) ∧ wm 14 5 = (hx a : Nat)) ∧ GW wm (bfsI n s a k) ∧ Fr [14, 15, 16] w wm) (fun (i : Int) (wm : Wd) => (5040 - i).toNat) (fun (i : Int) (wm : Wd) => [(0, aR 14), (1, aI (n0)), (2, aI (p)), (3, aI (q)), (4, aI (back1)), (5, aI (back2)), (6, aI (i))]) (fun (i : Int) (wm : Wd) => []) (fun (i : Int) (wm : Wd) => wm) (fun i wm hI1 ih1 => ?_) (0) w6 (⟨0, rfl, by omega, ⟨g3, g4, g5⟩, hq6a, (show Fr [14, 15, 16] w w5 by rw [hw5]; exact hfl.up rfl).trs hq6b⟩)
        obtain ⟨k, hi, hk, ⟨g3, g4, g5⟩, hGm, hfm⟩ := hI1
        have hBI := bfsI_BI hn1 hn7 hs ha k
        have hlen := hBI.len hn1 hn7
        have gm := hGm.1
        refine v_iload 6 (pc' := 100) rfl dX4_fill_98 rfl ?_
        refine v_aload_n 0 (pc' := 101) rfl dX4_fill_100 rfl rfl ?_
        refine v_get (z := (((bfsI n s a k).1.length : Nat) : Int)) (pc' := 104) rfl dX4_fill_101 fk_RX4_28 ly_14 rfl (gm) ?_
        refine v_icmp_ge (pc' := 107) (tgt := 196) rfl dX4_fill_104 (by decide) (by omega) (by omega) (fun c4 => ?_) (fun c4 => ?_)
        ·
          refine v_vret dX4_fill_196 ?_
          have hst : bfs n s a = bfsI n s a k := bfs_at hk (by omega)
          exact ⟨hfm, ⟨g3, g4, g5⟩, by rw [hst]; exact hGm⟩
        ·
          have hkl : k < (bfsI n s a k).1.length := by omega
          have hpp := hBI.1 _ (getD_mem (L := (bfsI n s a k).1) (i := k) (d := pid) hkl)
          have hdd := hBI.2.2.2 (rankN ((bfsI n s a k).1.getD k pid) n)
          have hB1 := hBI.add hn1 hn7 (p := pcomp ((bfsI n s a k).1.getD k pid) s) (d := (bfsI n s a k).2 (rankN ((bfsI n s a k).1.getD k pid) n) + 1) (hpp.comp hs) (by omega) (by omega)
          have l1 := bAdd_len (n := n) (B := bfsI n s a k) (pcomp ((bfsI n s a k).1.getD k pid) s) ((bfsI n s a k).2 (rankN ((bfsI n s a k).1.getD k pid) n) + 1)
          have hB2 := hB1.add hn1 hn7 (p := pcomp ((bfsI n s a k).1.getD k pid) a) (d := (bfsI n s a k).2 (rankN ((bfsI n s a k).1.getD k pid) n) + 1) (hpp.comp ha) (by omega) (by omega)
          have l2 := bAdd_len (n := n) (B := bAdd n (pcomp ((bfsI n s a k).1.getD k pid) s) ((bfsI n s a k).2 (rankN ((bfsI n s a k).1.getD k pid) n) + 1) (bfsI n s a k)) (pcomp ((bfsI n s a k).1.getD k pid) a) ((bfsI n s a k).2 (rankN ((bfsI n s a k).1.getD k pid) n) + 1)
          have hB3 := hB2.add hn1 hn7 (p := pcomp ((bfsI n s a k).1.getD k pid) (pinv s)) (d := (bfsI n s a k).2 (rankN ((bfsI n s a k).1.getD k pid) n) + 1) (hpp.comp (hs.inv hn7)) (by omega) (by omega)
          refine v_iload 6 (pc' := 109) rfl dX4_fill_107 rfl ?_
          refine v_sipush (pc' := 112) rfl dX4_fill_109 rfl ?_
          refine v_icmp_ge (pc' := 115) (tgt := 196) rfl dX4_fill_112 (by decide) (by omega) (by omega) (fun c5 => ?_) (fun c5 => ?_)
          ·
            refine v_vret dX4_fill_196 ?_
            have hst : bfs n s a = bfsI n s a k := bfs_at hk (by omega)
            exact ⟨hfm, ⟨g3, g4, g5⟩, by rw [hst]; exact hGm⟩
          ·
            refine v_aload_n 0 (pc' := 116) rfl dX4_fill_115 rfl rfl ?_
            refine v_getR (pc' := 119) rfl dX4_fill_116 fk_RX4_9 ly_14 rfl ?_
            refine v_iload 6 (pc' := 121) rfl dX4_fill_119 rfl ?_
            refine v_iald (z := ((hx ((bfsI n s a k).1.getD k pid) : Nat) : Int)) (pc' := 122) rfl dX4_fill_121 ly_15 (by omega) (by omega) rfl (by rw [show i.toNat = k by omega]; exact hGm.2.1 k hkl) ?_
            refine v_nm (fun pp' hpp' => ?_)
            refine v_istore (ls' := [(7, _), (0, _), (1, _), (2, _), (3, _), (4, _), (5, _), (6, _)]) (pc' := 124) rfl dX4_fill_122 rfl rfl ?_
            refine v_aload_n 1 (pc' := 125) rfl dX4_fill_124 rfl rfl ?_
            refine v_iload 0 (pc' := 127) rfl dX4_fill_125 rfl ?_
            refine v_cVP (pc' := 130) rfl dX4_fill_127 lk_RX4_42 ly_14 rfl (c_turnsTo l G hn1 hn7 hpp' hpp wm hGm g3) rfl rfl rfl ?_
            refine v_nm (fun turnsTo1 hturnsTo1 => ?_)
            refine v_iconst (pc' := 131) rfl dX4_fill_130 ?_
            refine v_iadd (pc' := 132) rfl dX4_fill_131 ?_
            refine v_nm (fun next' hnext' => ?_)
            refine v_istore (ls' := [(8, _), (7, _), (0, _), (1, _), (2, _), (3, _), (4, _), (5, _), (6, _)]) (pc' := 134) rfl dX4_fill_132 rfl rfl ?_
            refine v_aload_n 2 (pc' := 135) rfl dX4_fill_134 rfl rfl ?_
            refine v_iload 1 (pc' := 137) rfl dX4_fill_135 rfl ?_
            refine v_aload_n 2 (pc' := 138) rfl dX4_fill_137 rfl rfl ?_
            refine v_get (z := ((hx s : Nat) : Int)) (pc' := 141) rfl dX4_fill_138 fk_RX4_22 ly_14 rfl (g4) ?_
            refine v_cSP (pc' := 144) rfl dX4_fill_141 lk_RX4_45 rfl (c_then l G hpp' rfl (hpp.b7 hn7) (hs.B hn7) wm) rfl rfl rfl ?_
            refine v_nm (fun then1 hthen1 => ?_)
            refine v_iload 0 (pc' := 146) rfl dX4_fill_144 rfl ?_
            refine v_cVv (pc' := 149) rfl dX4_fill_146 lk_RX4_34 ly_14 rfl (c_add4 l G hn1 hn7 hthen1 (hpp.comp hs) hBI wm hGm g3) rfl rfl rfl (fun add2 w11 hq11 => ?_)
            obtain ⟨a1, f1, e1⟩ := hq11
            rw [hnext', hturnsTo1] at a1
            have g51 : w11 14 5 = (hx a : Nat) := by rw [e1 5 (by decide)]; exact g5
            have g31 : w11 14 3 = n := by rw [e1 3 (by decide)]; exact g3
            refine v_aload_n 2 (pc' := 150) rfl dX4_fill_149 rfl rfl ?_
            refine v_iload 1 (pc' := 152) rfl dX4_fill_150 rfl ?_
            refine v_aload_n 2 (pc' := 153) rfl dX4_fill_152 rfl rfl ?_
            refine v_get (z := ((hx a : Nat) : Int)) (pc' := 156) rfl dX4_fill_153 fk_RX4_25 ly_14 rfl (g51) ?_
            refine v_cSP (pc' := 159) rfl dX4_fill_156 lk_RX4_45 rfl (c_then l G hpp' rfl (hpp.b7 hn7) (ha.B hn7) w11) rfl rfl rfl ?_
            refine v_nm (fun then2 hthen2 => ?_)
            refine v_iload 0 (pc' := 161) rfl dX4_fill_159 rfl ?_
            refine v_cVv (pc' := 164) rfl dX4_fill_161 lk_RX4_34 ly_14 rfl (c_add4 l G hn1 hn7 hthen2 (hpp.comp ha) hB1 w11 a1 g31) rfl rfl rfl (fun add3 w13 hq13 => ?_)
            obtain ⟨a2, f2, e2⟩ := hq13
            rw [hnext', hturnsTo1] at a2
            have g32 : w13 14 3 = n := by rw [e2 3 (by decide)]; exact g31
            refine v_aload_n 2 (pc' := 165) rfl dX4_fill_164 rfl rfl ?_
            refine v_iload 1 (pc' := 167) rfl dX4_fill_165 rfl ?_
            refine v_iload 6 (pc' := 169) rfl dX4_fill_167 rfl ?_
            refine v_cSP (pc' := 172) rfl dX4_fill_169 lk_RX4_45 rfl (c_then l G hpp' hback1 (hpp.b7 hn7) ((hs.inv hn7).B hn7) w13) rfl rfl rfl ?_
            refine v_nm (fun then3 hthen3 => ?_)
            refine v_iload 0 (pc' := 174) rfl dX4_fill_172 rfl ?_
            refine v_cVv (pc' := 177) rfl dX4_fill_174 lk_RX4_34 ly_14 rfl (c_add4 l G hn1 hn7 hthen3 (hpp.comp (hs.inv hn7)) hB2 w13 a2 g32) rfl rfl rfl (fun add4 w15 hq15 => ?_)
            obtain ⟨a3, f3, e3⟩ := hq15
            rw [hnext', hturnsTo1] at a3
            have g33 : w15 14 3 = n := by rw [e3 3 (by decide)]; exact g32
            refine v_aload_n 2 (pc' := 178) rfl dX4_fill_177 rfl rfl ?_
            refine v_iload 1 (pc' := 180) rfl dX4_fill_178 rfl ?_
            refine v_iload 7 (pc' := 182) rfl dX4_fill_180 rfl ?_
            refine v_cSP (pc' := 185) rfl dX4_fill_182 lk_RX4_45 rfl (c_then l G hpp' hback2 (hpp.b7 hn7) ((ha.inv hn7).B hn7) w15) rfl rfl rfl ?_
            refine v_nm (fun then4 hthen4 => ?_)
            refine v_iload 0 (pc' := 187) rfl dX4_fill_185 rfl ?_
            refine v_cVv (pc' := 190) rfl dX4_fill_187 lk_RX4_34 ly_14 rfl (c_add4 l G hn1 hn7 hthen4 (hpp.comp (ha.inv hn7)) hB3 w15 a3 g33) rfl rfl rfl (fun add5 w17 hq17 => ?_)
            obtain ⟨a4, f4, e4⟩ := hq17
            rw [hnext', hturnsTo1] at a4
            refine v_iinc (ls' := [(6, _), (8, _), (7, _), (0, _), (1, _), (2, _), (3, _), (4, _), (5, _)]) 8 (pc' := 193) rfl dX4_fill_190 rfl rfl rfl ?_
            refine v_nl (fun i' hi' => ?_)
            refine v_goto (tgt := 98) dX4_fill_193 (by decide) ?_
            refine v_ls [3, 4, 5, 6, 7, 8, 0] rfl ?_
            exact ih1 (i') w17 (⟨k + 1, by omega, by omega, ⟨by rw [e4 3 (by decide), e3 3 (by decide), e2 3 (by decide), e1 3 (by decide)]; exact g3, by rw [e4 4 (by decide), e3 4 (by decide), e2 4 (by decide), e1 4 (by decide)]; exact g4, by rw [e4 5 (by decide), e3 5 (by decide), e2 5 (by decide), e1 5 (by decide)]; exact g5⟩, by have : bfsI n s a (k + 1) = bExp n s a k (bfsI n s a k) := rfl; rw [this]; unfold bExp; rw [if_pos hkl]; exact a4, (((hfm.trs f1).trs f2).trs f3).trs f4⟩) (by omega)
      ·
        refine v_aload_n 0 (pc' := 52) rfl dX4_fill_51 rfl rfl ?_
        refine v_getR (pc' := 55) rfl dX4_fill_52 fk_RX4_15 ly_14 rfl ?_
        refine v_iload 4 (pc' := 57) rfl dX4_fill_55 rfl ?_
        refine v_iconst (pc' := 58) rfl dX4_fill_57 ?_
        refine v_iast (pc' := 59) rfl dX4_fill_58 ly_16 (by omega) (by omega) rfl ?_
        refine v_nmw (fun w4 hw4 => ?_)
        refine v_iinc (ls' := [(4, _), (0, _), (1, _), (2, _), (3, _)]) 4 (pc' := 62) rfl dX4_fill_59 rfl rfl rfl ?_
        refine v_nl (fun i' hi' => ?_)
        refine v_goto (tgt := 43) dX4_fill_62 (by decide) ?_
        refine v_ls [1, 2, 3, 4, 0] rfl ?_
        exact ih0 (i') w4 (⟨k + 1, by omega, by omega, by simp [hw4, up_at, hF], fun j h => by
            rw [hw4, up_at, hik]
            split
            · rfl
            · exact hA j (by omega), by rw [hw4]; exact hfl.up rfl⟩) (by omega)

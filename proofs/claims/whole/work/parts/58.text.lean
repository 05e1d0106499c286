/-! ===== DrawnMaps: text ===== -/
def RdQ (n tl : Nat) (h : Nat → Nat) : Prop := (∀ z, 1 ≤ z → z ≤ 7 → (hasb tl z → z ≤ n ∧ hasb tl (h z) ∧ 1 ≤ h z ∧ h z ≤ 7) ∧ (¬ hasb tl z → h z = 0)) ∧ ∀ z v, 1 ≤ z → z ≤ 7 → 1 ≤ v → v ≤ 7 → hasb tl z → hasb tl v → h z = h v → z = v
theorem RdQ.new {n tl x : Nat} {h : Nat → Nat} (ht : tl < 128) (hn : n ≤ 7) (q : RdQ n tl h) (h1 : 1 ≤ x) (h2 : x ≤ n) (hx : ¬ hasb tl x) : RdQ n (tl ||| bt x) (gset h x x) := by
  have ho : ∀ y, 1 ≤ y → y ≤ 7 → (hasb (tl ||| bt x) y ↔ (hasb tl y ∨ y = x)) := fun y a b => hasb_or ht h1 (by omega) a b
  refine ⟨fun z a b => ⟨fun e => ?_, fun e => ?_⟩, fun z v a b c d e f g => ?_⟩
  · rw [ho z a b] at e
    unfold gset
    by_cases k : z = x
    · rw [if_pos k]; exact ⟨by omega, (ho x h1 (by omega)).mpr (Or.inr rfl), by omega, by omega⟩
    · rw [if_neg k]
      have := (q.1 z a b).1 (e.resolve_right k)
      exact ⟨this.1, (ho _ this.2.2.1 this.2.2.2).mpr (Or.inl this.2.1), this.2.2⟩
  · rw [ho z a b] at e
    unfold gset
    rw [if_neg (fun k => e (Or.inr k))]
    exact (q.1 z a b).2 (fun k => e (Or.inl k))
  · rw [ho z a b] at e
    rw [ho v c d] at f
    unfold gset at g
    by_cases k : z = x
    · by_cases l : v = x
      · omega
      · rw [if_pos k, if_neg l] at g
        have := (q.1 v c d).1 (f.resolve_right l)
        rw [← g] at this; exact absurd this.2.1 hx
    · rw [if_neg k] at g
      by_cases l : v = x
      · rw [if_pos l] at g
        have := (q.1 z a b).1 (e.resolve_right k)
        rw [g] at this; exact absurd this.2.1 hx
      · rw [if_neg l] at g
        exact q.2 z v a b c d (e.resolve_right k) (f.resolve_right l) g
theorem RdQ.link {n tl x la fi : Nat} {g : Nat → Nat} (ht : tl < 128) (hn : n ≤ 7) (q : RdQ n tl (gset g la fi)) (h1 : 1 ≤ x) (h2 : x ≤ n) (hx : ¬ hasb tl x) (l1 : 1 ≤ la) (l7 : la ≤ 7) (hl : hasb tl la) (f1 : 1 ≤ fi) (f7 : fi ≤ 7) (hf : hasb tl fi) : RdQ n (tl ||| bt x) (gset (gset g la x) x fi) := by
  have ho : ∀ y, 1 ≤ y → y ≤ 7 → (hasb (tl ||| bt x) y ↔ (hasb tl y ∨ y = x)) := fun y a b => hasb_or ht h1 (by omega) a b
  have hlx : la ≠ x := fun e => hx (by rw [← e]; exact hl)
  have ev : ∀ z, gset (gset g la x) x fi z = if z = x then fi else if z = la then x else gset g la fi z := fun z => by
    unfold gset
    by_cases k : z = x
    · rw [if_pos k, if_pos k]
    · rw [if_neg k, if_neg k]
      by_cases l : z = la
      · rw [if_pos l, if_pos l]
      · rw [if_neg l, if_neg l, if_neg l]
  have el : gset g la fi la = fi := if_pos rfl
  refine ⟨fun z a b => ⟨fun e => ?_, fun e => ?_⟩, fun z v a b c d e f w => ?_⟩
  · rw [ho z a b] at e
    rw [ev]
    by_cases k : z = x
    · rw [if_pos k]; exact ⟨by omega, (ho fi f1 f7).mpr (Or.inl hf), f1, f7⟩
    · rw [if_neg k]
      have t := (q.1 z a b).1 (e.resolve_right k)
      by_cases l : z = la
      · rw [if_pos l]; exact ⟨t.1, (ho x h1 (by omega)).mpr (Or.inr rfl), by omega, by omega⟩
      · rw [if_neg l]
        exact ⟨t.1, (ho _ t.2.2.1 t.2.2.2).mpr (Or.inl t.2.1), t.2.2⟩
  · rw [ho z a b] at e
    rw [ev, if_neg (fun k => e (Or.inr k)), if_neg (fun k => e (Or.inl (by rw [k]; exact hl)))]
    exact (q.1 z a b).2 (fun k => e (Or.inl k))
  · rw [ho z a b] at e
    rw [ho v c d] at f
    rw [ev, ev] at w
    by_cases k : z = x
    · rw [if_pos k] at w
      by_cases l : v = x
      · omega
      · rw [if_neg l] at w
        by_cases m : v = la
        · rw [if_pos m] at w; exact absurd (by rw [← w]; exact hf) hx
        · rw [if_neg m] at w
          have := q.2 la v l1 l7 c d hl (f.resolve_right l) (by rw [el]; exact w)
          omega
    · rw [if_neg k] at w
      have ez := e.resolve_right k
      by_cases l : v = x
      · rw [if_pos l] at w
        by_cases m : z = la
        · rw [if_pos m] at w; exact absurd (by rw [w]; exact hf) hx
        · rw [if_neg m] at w
          have := q.2 z la a b l1 l7 ez hl (by rw [el]; exact w)
          omega
      · rw [if_neg l] at w
        have fv := f.resolve_right l
        by_cases m : z = la
        · rw [if_pos m] at w
          by_cases o : v = la
          · omega
          · rw [if_neg o] at w
            have := (q.1 v c d).1 fv
            rw [← w] at this; exact absurd this.2.1 hx
        · rw [if_neg m] at w
          by_cases o : v = la
          · rw [if_pos o] at w
            have := (q.1 z a b).1 ez
            rw [w] at this; exact absurd this.2.1 hx
          · rw [if_neg o] at w
            exact q.2 z v a b c d ez fv w
abbrev RS : Type := Nat × (Nat × (Nat × (Nat × (Nat → Nat))))
def rs0 : RS := (0, 0, 0, 0, fun _ => 0)
def rdN (S : RS) (c : Nat) : RS := (rdSt S.1 c, rdTl S.2.1 c, rdFi S.2.2.1 c, rdLa S.2.2.2.1 c, rdG S.2.2.1 S.2.2.2.1 S.2.2.2.2 c)
def RdV (n : Nat) (S : RS) : Prop := rdOK n S.1 S.2.1 S.2.2.1 S.2.2.2.1 S.2.2.2.2 ∧
  ((S.1 = 3 ∨ S.1 = 4) → hasb S.2.1 S.2.2.2.1 ∧ hasb S.2.1 S.2.2.1 ∧ RdQ n S.2.1 (gset S.2.2.2.2 S.2.2.2.1 S.2.2.1)) ∧ (¬ (S.1 = 3 ∨ S.1 = 4) → RdQ n S.2.1 S.2.2.2.2)
theorem RdV.of {n st tl fi la : Nat} {g : Nat → Nat} (a : rdOK n st tl fi la g) (b : (st = 3 ∨ st = 4) → hasb tl la ∧ hasb tl fi ∧ RdQ n tl (gset g la fi)) (c : ¬ (st = 3 ∨ st = 4) → RdQ n tl g) : RdV n (st, tl, fi, la, g) := ⟨a, b, c⟩
theorem RdV.init {n : Nat} (hn : n ≤ 7) : RdV n rs0 := RdV.of ⟨hn, by decide, by decide, by decide, by decide, fun x _ _ => Nat.zero_le _, fun h => by omega, fun h => absurd rfl h⟩ (fun h => by omega) (fun _ => ⟨fun z _ _ => ⟨fun h => absurd (Nat.zero_and _) h, fun _ => rfl⟩, fun z v _ _ _ _ h => absurd (Nat.zero_and _) h⟩)
theorem RdV.step {n c : Nat} {S : RS} (h : RdV n S) (h0 : rdFault n S.1 S.2.1 c = 0) : RdV n (rdN S c) := by
  obtain ⟨st, tl, fi, la, g⟩ := S
  obtain ⟨⟨hn, hst, htl, hfi, hla, hg, hop, hfs⟩, hq1, hq2⟩ := h
  simp only [] at hn hst htl hfi hla hg hop hfs hq1 hq2 h0
  unfold rdFault at h0
  by_cases c32 : c = 32
  · subst c32
    have e0 : rdN (st, tl, fi, la, g) 32 = (if st = 3 then 4 else st, tl, fi, la, g) := by simp [rdN, rdSt, rdTl, rdFi, rdLa, rdG]
    have e : ((if st = 3 then 4 else st) = 3 ∨ (if st = 3 then 4 else st) = 4) ↔ (st = 3 ∨ st = 4) := by split <;> omega
    rw [e0]
    exact RdV.of ⟨hn, by split <;> omega, htl, hfi, hla, hg, fun k => hop (e.mp k), fun k => e.mpr (hfs k)⟩ (fun k => hq1 (e.mp k)) (fun k => hq2 (fun k2 => k (e.mpr k2)))
  · rw [if_neg c32] at h0
    by_cases c40 : c = 40
    · subst c40
      simp only [if_true] at h0
      have hs : st = 0 ∨ st = 1 := Classical.byContradiction (fun q => by rw [if_neg q] at h0; exact absurd h0 (by decide))
      have ns : ¬ (st = 3 ∨ st = 4) := by omega
      have f0 : fi = 0 := Classical.byContradiction (fun q => ns (hfs q))
      subst f0
      have e0 : rdN (st, tl, 0, la, g) 40 = (2, tl, 0, la, g) := by simp [rdN, rdSt, rdTl, rdFi, rdLa, rdG]
      rw [e0]
      exact RdV.of ⟨hn, by decide, htl, by decide, hla, hg, fun k => by omega, fun k => absurd rfl k⟩ (fun k => by omega) (fun _ => hq2 ns)
    · rw [if_neg c40] at h0
      by_cases c41 : c = 41
      · subst c41
        simp only [if_true] at h0
        have hs : st = 3 ∨ st = 4 := Classical.byContradiction (fun q => by rw [if_neg q] at h0; exact absurd h0 (by decide))
        have e0 : rdN (st, tl, fi, la, g) 41 = (1, tl, 0, la, gset g la fi) := by simp [rdN, rdSt, rdTl, rdFi, rdLa, rdG]
        rw [e0]
        exact RdV.of ⟨hn, by decide, htl, by decide, hla, gset_7 hg hfi, fun k => by omega, fun k => absurd rfl k⟩ (fun k => by omega) (fun _ => (hq1 hs).2.2)
      · rw [if_neg c41] at h0
        by_cases c101 : c = 101
        · subst c101
          simp only [if_true] at h0
          have hs : st = 0 := Classical.byContradiction (fun q => by rw [if_neg q] at h0; exact absurd h0 (by decide))
          have ns : ¬ (st = 3 ∨ st = 4) := by omega
          have f0 : fi = 0 := Classical.byContradiction (fun q => ns (hfs q))
          subst f0
          have e0 : rdN (st, tl, 0, la, g) 101 = (5, tl, 0, la, g) := by simp [rdN, rdSt, rdTl, rdFi, rdLa, rdG]
          rw [e0]
          exact RdV.of ⟨hn, by decide, htl, by decide, hla, hg, fun k => by omega, fun k => absurd rfl k⟩ (fun k => by omega) (fun _ => hq2 ns)
        · rw [if_neg c101] at h0
          by_cases cd : 48 ≤ c ∧ c ≤ 57
          · rw [if_pos cd] at h0
            have hs : st = 2 ∨ st = 4 := Classical.byContradiction (fun q => by rw [if_neg q] at h0; exact absurd h0 (by decide))
            rw [if_pos hs] at h0
            have hx : ¬ (c - 48 < 1 ∨ n < c - 48) := fun q => by rw [if_pos q] at h0; exact absurd h0 (by decide)
            rw [if_neg hx] at h0
            have ht : ¬ hasb tl (c - 48) := fun q => by rw [if_pos q] at h0; exact absurd h0 (by decide)
            have bl := bt_lt (x := c - 48) (by omega) (by omega)
            have ho : ∀ y, 1 ≤ y → y ≤ 7 → (hasb (tl ||| bt (c - 48)) y ↔ (hasb tl y ∨ y = c - 48)) := fun y a b => hasb_or htl (by omega) (by omega) a b
            by_cases f0 : fi = 0
            · subst f0
              have e0 : rdN (st, tl, 0, la, g) c = (3, tl ||| bt (c - 48), c - 48, c - 48, g) := by simp [rdN, rdSt, rdTl, rdFi, rdLa, rdG, c32, c40, c41, c101]
              rw [e0]
              have ns : ¬ (st = 3 ∨ st = 4) := fun q => by have := (hop q).2.2; omega
              have Q := (hq2 ns)
              have g0 := (Q.1 (c - 48) (by omega) (by omega)).2 ht
              exact RdV.of ⟨hn, by decide, or_lt7 htl bl, by omega, by omega, hg, fun _ => ⟨by omega, g0, by omega⟩, fun _ => Or.inl rfl⟩ (fun _ => ⟨(ho _ (by omega) (by omega)).mpr (Or.inr rfl), (ho _ (by omega) (by omega)).mpr (Or.inr rfl), Q.new htl hn (by omega) (by omega) ht⟩) (fun k => absurd (Or.inl rfl) k)
            · have h34 := hfs f0
              have hq := hq1 h34
              have hp := hop h34
              have hlx : ¬ c - 48 = la := fun e => ht (by rw [e]; exact hq.1)
              have g0 : gset g la (c - 48) (c - 48) = 0 := by
                have := (hq.2.2.1 (c - 48) (by omega) (by omega)).2 ht
                unfold gset at this ⊢
                rw [if_neg hlx] at this ⊢; exact this
              have e0 : rdN (st, tl, fi, la, g) c = (3, tl ||| bt (c - 48), fi, c - 48, gset g la (c - 48)) := by simp [rdN, rdSt, rdTl, rdFi, rdLa, rdG, c32, c40, c41, c101, f0]
              rw [e0]
              exact RdV.of ⟨hn, by decide, or_lt7 htl bl, by omega, by omega, gset_7 hg (by omega), fun _ => ⟨by omega, g0, by omega⟩, fun _ => Or.inl rfl⟩ (fun _ => ⟨(ho _ (by omega) (by omega)).mpr (Or.inr rfl), (ho _ (by omega) (by omega)).mpr (Or.inl hq.2.1), RdQ.link htl hn hq.2.2 (by omega) (by omega) ht hp.1 hla hq.1 hp.2.2 hfi hq.2.1⟩) (fun k => absurd (Or.inl rfl) k)
          · rw [if_neg cd] at h0; exact absurd h0 (by decide)
def txF (tl : Nat) (g : Nat → Nat) : Nat → Nat := fun z => if 1 ≤ z ∧ z ≤ 7 ∧ hasb tl z then g z else z
theorem rdP_at (tl : Nat) (g : Nat → Nat) : ∀ k z, 1 ≤ z → z ≤ k → rdP tl g k z = if hasb tl z then g z else z
  | 0, _, _, _ => by omega
  | k + 1, z, h1, h2 => by
    simp only [rdP]
    by_cases e : z = k + 1
    · subst e
      by_cases q : tl &&& bt (k + 1) = 0
      · rw [if_pos q, if_neg (fun h => h q)]
        unfold gset; rw [if_pos rfl]
      · rw [if_neg q, if_pos q, rdP_hi tl g k _ (by omega)]
    · have ih := rdP_at tl g k z h1 (by omega)
      split
      · unfold gset; rw [if_neg e]; exact ih
      · exact ih
theorem txF_hx (tl : Nat) (g : Nat → Nat) : hx (rdP tl g 7) = hx (txF tl g) := hx_congr (fun z h1 h2 => by
  rw [rdP_at tl g 7 z h1 h2]
  unfold txF
  by_cases q : hasb tl z
  · rw [if_pos q, if_pos ⟨h1, h2, q⟩]
  · rw [if_neg q, if_neg (fun k => q k.2.2)])
theorem txF_pm {n tl : Nat} {g : Nat → Nat} (hn : n ≤ 7) (q : RdQ n tl g) : Pm n (txF tl g) := by
  refine ⟨fun x a b => ?_, fun x y a b c d e => ?_, fun x h => ?_⟩
  · unfold txF
    by_cases k : hasb tl x
    · rw [if_pos ⟨a, by omega, k⟩]
      have t := (q.1 x a (by omega)).1 k
      have t2 := (q.1 (g x) t.2.2.1 t.2.2.2).1 t.2.1
      exact ⟨t.2.2.1, t2.1⟩
    · rw [if_neg (fun k2 => k k2.2.2)]; exact ⟨a, b⟩
  · unfold txF at e
    by_cases k : hasb tl x
    · rw [if_pos ⟨a, by omega, k⟩] at e
      by_cases l : hasb tl y
      · rw [if_pos ⟨c, by omega, l⟩] at e
        exact q.2 x y a (by omega) c (by omega) k l e
      · rw [if_neg (fun k2 => l k2.2.2)] at e
        have t := (q.1 x a (by omega)).1 k
        rw [e] at t; exact absurd t.2.1 l
    · rw [if_neg (fun k2 => k k2.2.2)] at e
      by_cases l : hasb tl y
      · rw [if_pos ⟨c, by omega, l⟩] at e
        have t := (q.1 y c (by omega)).1 l
        rw [← e] at t; exact absurd t.2.1 k
      · rw [if_neg (fun k2 => l k2.2.2)] at e; exact e
  · unfold txF
    rw [if_neg (fun k => ?_)]
    have t := (q.1 x k.1 k.2.1).1 k.2.2
    omega
def txL (n : Nat) (T : Nat → Int) : Nat → Nat → RS → Int × RS
  | 0, _, S => (0, S)
  | m + 1, i, S => if rdFault n S.1 S.2.1 (T i).toNat = 0 then txL n T m (i + 1) (rdN S (T i).toNat) else (-1000 * (rdFault n S.1 S.2.1 (T i).toNat : Int) - i, S)
def txR (n : Nat) (T : Nat → Int) (k : Int) : Int × RS := txL n T k.toNat 0 rs0
def txG (n : Nat) (T : Nat → Int) (k : Int) : Nat → Nat := txF (txR n T k).2.2.1 (txR n T k).2.2.2.2.2
def TxtP (w : Wd) (n : Nat) (s a : Nat → Nat) (b wh k z : Int) (w' : Wd) : Prop :=
  (¬ ((wh = 0 ∨ wh = 1) ∧ 1 ≤ k ∧ k ≤ 60 ∧ k ≤ b) ∧ w' = w ∧ z = -1) ∨
  (((wh = 0 ∨ wh = 1) ∧ 1 ≤ k ∧ k ≤ 60 ∧ k ≤ b) ∧ Fr [0, 2, 30] w w' ∧ w' 0 1 = 0 ∧ (∀ j, j ≠ 1 → w' 0 j = w 0 j) ∧ (∀ j, 3 ≤ j → w' 2 j = w 2 j) ∧
    (((txR n (w 1) k).1 ≠ 0 ∧ z = (txR n (w 1) k).1 ∧ MapW w' n s a) ∨
     ((txR n (w 1) k).1 = 0 ∧ ¬ ((txR n (w 1) k).2.1 = 1 ∨ (txR n (w 1) k).2.1 = 5) ∧ z = -1000 - k ∧ MapW w' n s a) ∨
     ((txR n (w 1) k).1 = 0 ∧ ((txR n (w 1) k).2.1 = 1 ∨ (txR n (w 1) k).2.1 = 5) ∧ Pm n (txG n (w 1) k) ∧ MapW w' n (if wh = 0 then txG n (w 1) k else s) (if wh = 0 then a else txG n (w 1) k) ∧ z = (cdk (txG n (w 1) k) n : Nat))))
theorem hx_0 : hx (fun _ => 0) = 0 := by decide
theorem rdFault_le (n st tl c : Nat) : rdFault n st tl c ≤ 3 := by
  unfold rdFault
  repeat' split
  all_goals omega
set_option maxHeartbeats 4000000 in
set_option maxRecDepth 100000 in
theorem c_text (l : Launch) (G : Gx) {wh k b : Int} (hwh : rg wh) (hk : rg k) (hb : rg b) {n : Nat} {s a : Nat → Nat} (hV : MapV n s a) (w : Wd) (hM : MapW w n s a) (hB : w 0 1 = b) (hT : ∀ j, j < 120 → 0 ≤ w 1 j ∧ w 1 j ≤ 255) : Sp l G 4 mX10_text [aR 0, aI (wh), aI (k)] w (fun z w' => TxtP w n s a b wh k z w') := by
  obtain ⟨⟨hn1, hn7⟩, hs, ha⟩ := id hV
  obtain ⟨m0, m1, m2⟩ := id hM
  refine Sp_of RX10 rfl (by decide +kernel) rfl (Nat.le_of_ble_eq_true rfl) ?_
  refine v_iload_n 1 (pc' := 1) rfl dX10_text_0 rfl rfl ?_
  refine v_cSP (pc' := 4) rfl dX10_text_1 lk_RX10_97 rfl (c_colour l G hwh w) rfl rfl rfl ?_
  refine v_nm (fun colour1 hcolour1 => ?_)
  refine v_if_eq (pc' := 7) (tgt := 15) rfl dX10_text_4 (by decide) (col_r hcolour1) (fun c0 => ?_) (fun c0 => ?_)
  ·
    have hz1 := col_0 hcolour1 (by omega)
    refine v_iconst (pc' := 16) rfl dX10_text_15 ?_
    refine v_iret dX10_text_16 (by decide) (rfl) ?_
    first | exact Or.inl ⟨fun q => hz1 q.1, rfl, rfl⟩ | exact Or.inl ⟨fun q => hq q.2, rfl, rfl⟩ | skip
    first | done | (refine Or.inr ⟨⟨hz1, hq⟩, (hfl.trs (q5b.mono rfl)).mono rfl, by rw [q5b 0 1 rfl]; exact hb1, fun j hj => by rw [q5b 0 j rfl]; exact ho1 j hj, fun j hj => by rw [q5b 2 j rfl]; exact hfl 2 j rfl, Or.inl ?_⟩; have hR2 : txR n (w 1) k = (-1000 * (rdFault n S.1 S.2.1 (w 1 iN).toNat : Int) - iN, S) := (by rw [← hR]; simp only [txL]; rw [if_neg hz0]); rw [hR2]; exact ⟨by simp only []; omega, by simp only []; rw [q5a, hi], ⟨by rw [q5b 2 0 rfl, hfl 2 0 rfl]; exact hM.1, by rw [q5b 2 1 rfl, hfl 2 1 rfl]; exact hM.2.1, by rw [q5b 2 2 rfl, hfl 2 2 rfl]; exact hM.2.2⟩⟩) | exact Or.inr ⟨⟨hz1, hq⟩, hfl.mono rfl, hb1, ho1, fun j hj => hfl 2 j rfl, Or.inr (Or.inl (by rw [hR2]; exact ⟨rfl, hst, rfl, ⟨(hfl 2 0 rfl).trans hM.1, (hfl 2 1 rfl).trans hM.2.1, (hfl 2 2 rfl).trans hM.2.2⟩⟩))⟩ | exact Or.inr ⟨⟨hz1, hq⟩, by rw [hput]; exact (hfl.mono rfl).up rfl, by rw [hput, up_ne _ _ (by omega)]; exact hb1, fun j hj => by rw [hput, up_ne _ _ (by omega)]; exact ho1 j hj, fun j hj => by rw [hput, up_ne _ _ (by split <;> omega)]; exact hfl 2 j rfl, Or.inr (Or.inr (by unfold txG; rw [hR2]; exact ⟨rfl, hst, hpm, hM8, hdigits1⟩))⟩
  ·
    have hz1 := col_1 hcolour1 (by omega)
    refine v_aload_n 0 (pc' := 8) rfl dX10_text_7 rfl rfl ?_
    refine v_iload_n 2 (pc' := 9) rfl dX10_text_8 rfl rfl ?_
    refine v_cVP (pc' := 12) rfl dX10_text_9 lk_RX10_112 ly_0 rfl (c_readable l G hk hb w hB) rfl rfl rfl ?_
    refine v_nm (fun readable1 hreadable1 => ?_)
    refine v_if_ne (pc' := 15) (tgt := 17) rfl dX10_text_12 (by decide) (rdb_r hreadable1) (fun c1 => ?_) (fun c1 => ?_)
    ·
      have hq := rdb_1 hreadable1 (by omega)
      refine v_aload_n 0 (pc' := 18) rfl dX10_text_17 rfl rfl ?_
      refine v_iconst (pc' := 19) rfl dX10_text_18 ?_
      refine v_put (pc' := 22) rfl dX10_text_19 fi_RX10_73 ly_0 rfl ?_
      refine v_nmw (fun w3 hw3 => ?_)
      have m0 : w3 2 0 = (n : Int) := by rw [hw3, up_ne _ _ (by omega)]; exact m0
      have m1 : w3 2 1 = ((hx s : Nat) : Int) := by rw [hw3, up_ne _ _ (by omega)]; exact m1
      have m2 : w3 2 2 = ((hx a : Nat) : Int) := by rw [hw3, up_ne _ _ (by omega)]; exact m2
      have F0_1 : w3 0 1 = 0 := by rw [hw3, up_eq]
      refine v_aload_n 0 (pc' := 23) rfl dX10_text_22 rfl rfl ?_
      refine v_getR (pc' := 26) rfl dX10_text_23 fk_RX10_69 ly_0 rfl ?_
      refine v_aload_n 0 (pc' := 27) rfl dX10_text_26 rfl rfl ?_
      refine v_getR (pc' := 30) rfl dX10_text_27 fk_RX10_16 ly_0 rfl ?_
      refine v_get (z := (n : Int)) (pc' := 33) rfl dX10_text_30 fk_RX10_81 ly_2 rfl (m0) ?_
      refine v_cVv (pc' := 36) rfl dX10_text_33 lk_RX10_115 ly_30 rfl (c_begin l G w3) rfl rfl rfl (fun begin1 w4 hq4 => ?_)
      have hR0 : RdI w4 n rs0.1 rs0.2.1 rs0.2.2.1 rs0.2.2.2.1 rs0.2.2.2.2 := by rw [hq4]; exact ⟨by simp [up_at], by simp [up_at]; rfl, by simp [up_at]; rfl, by simp [up_at]; rfl, by simp [up_at]; rfl, by rw [up_eq]; exact congrArg Int.ofNat hx_0.symm⟩
      have hf0 : Fr [0, 30] w w4 := by rw [hq4, hw3]; exact (((((((Fr.rf _ _).up rfl).up rfl).up rfl).up rfl).up rfl).up rfl).up rfl
      have hb0 : w4 0 1 = 0 := by rw [hq4, hw3]; rfl
      have ho0 : ∀ j, j ≠ 1 → w4 0 j = w 0 j := fun j hj => by rw [hq4, hw3]; simp [up_at, hj]
      refine v_iconst (pc' := 37) rfl dX10_text_36 ?_
      refine v_istore_n (ls' := [(3, _), (0, _), (1, _), (2, _)]) (pc' := 38) rfl dX10_text_37 rfl rfl rfl ?_
      refine v_ls [1, 2, 3, 0] rfl ?_
      refine v_loop2 38 (fun (i : Int) (wl : Wd) => ∃ (m iN : Nat) (S : RS), i = iN ∧ iN + m = k.toNat ∧ RdV n S ∧ RdI wl n S.1 S.2.1 S.2.2.1 S.2.2.2.1 S.2.2.2.2 ∧ txL n (w 1) m iN S = txR n (w 1) k ∧ Fr [0, 30] w wl ∧ wl 0 1 = 0 ∧ (∀ j, j ≠ 1 → wl 0 j = w 0 j)) (fun (i : Int) (wl : Wd) => (k - i).toNat) (fun (i : Int) (wl : Wd) => [(0, aR 0), (1, aI (wh)), (2, aI (k)), (3, aI (i))]) (fun (i : Int) (wl : Wd) => []) (fun (i : Int) (wl : Wd) => wl) (fun i wl hI0 ih0 => ?_) (0) w4 (⟨k.toNat, 0, rs0, rfl, by omega, RdV.init hn7, hR0, rfl, hf0, hb0, ho0⟩)
      clear hq4 hR0 hf0 hb0 ho0
      obtain ⟨m, iN, S, hi, him, hVS, hRS, hR, hfl, hb1, ho1⟩ := hI0
      refine v_iload_n 3 (pc' := 39) rfl dX10_text_38 rfl rfl ?_
      refine v_iload_n 2 (pc' := 40) rfl dX10_text_39 rfl rfl ?_
      refine v_icmp_ge (pc' := 43) (tgt := 84) rfl dX10_text_40 (by decide) (by omega) (by omega) (fun c2 => ?_) (fun c2 => ?_)
      ·
        have hm0 : m = 0 := by omega
        subst hm0
        have hR2 : txR n (w 1) k = (0, S) := hR.symm
        refine v_aload_n 0 (pc' := 85) rfl dX10_text_84 rfl rfl ?_
        refine v_getR (pc' := 88) rfl dX10_text_85 fk_RX10_69 ly_0 rfl ?_
        refine v_cVP (pc' := 91) rfl dX10_text_88 lk_RX10_121 ly_30 rfl (c_complete l G hVS.1.2.1 wl hRS.2.1) rfl rfl rfl ?_
        refine v_nm (fun complete1 hcomplete1 => ?_)
        refine v_if_ne (pc' := 94) (tgt := 100) rfl dX10_text_91 (by decide) (by rw [hcomplete1]; split <;> decide) (fun c5 => ?_) (fun c5 => ?_)
        ·
          have hst : S.1 = 1 ∨ S.1 = 5 := Classical.byContradiction (fun q => by rw [if_neg q] at hcomplete1; omega)
          have hQ := hVS.2.2 (by omega)
          have hpm := txF_pm hn7 hQ
          refine v_aload_n 0 (pc' := 101) rfl dX10_text_100 rfl rfl ?_
          refine v_iload_n 1 (pc' := 102) rfl dX10_text_101 rfl rfl ?_
          refine v_aload_n 0 (pc' := 103) rfl dX10_text_102 rfl rfl ?_
          refine v_getR (pc' := 106) rfl dX10_text_103 fk_RX10_69 ly_0 rfl ?_
          refine v_cVP (pc' := 109) rfl dX10_text_106 lk_RX10_125 ly_30 rfl (c_permutation7 l G hVS.1.2.2.1 hVS.1.2.2.2.2.2.1 (fun z a b e => (hQ.1 z a b).2 (fun q => q e)) wl hRS.2.2.1 hRS.2.2.2.2.2) rfl rfl rfl ?_
          refine v_nm (fun permutation1 hpermutation1 => ?_)
          refine v_cVv (pc' := 112) rfl dX10_text_109 lk_RX10_108 ly_0 rfl (c_put l G hwh (by have := hx_pos hpm hn7; rw [hpermutation1, txF_hx]; omega) wl) rfl rfl rfl (fun put1 w8 hq8 => ?_)
          have hput : w8 = up wl 2 (if wh = 0 then 1 else 2) (hx (txF S.2.1 S.2.2.2.2) : Nat) := by rw [hq8, hpermutation1, txF_hx]
          have hV8 : MapV n (if wh = 0 then txF S.2.1 S.2.2.2.2 else s) (if wh = 0 then a else txF S.2.1 S.2.2.2.2) := by
            split
            · exact ⟨⟨hn1, hn7⟩, hpm, ha⟩
            · exact ⟨⟨hn1, hn7⟩, hs, hpm⟩
          have hM8 : MapW w8 n (if wh = 0 then txF S.2.1 S.2.2.2.2 else s) (if wh = 0 then a else txF S.2.1 S.2.2.2.2) := by
            rw [hput]
            rcases hz1 with q | q
            · rw [if_pos q, if_pos q, if_pos q]; exact ⟨by rw [up_ne _ _ (by omega), hfl 2 0 rfl]; exact hM.1, by rw [up_eq], by rw [up_ne _ _ (by omega), hfl 2 2 rfl]; exact hM.2.2⟩
            · rw [if_neg (by omega), if_neg (by omega), if_neg (by omega)]; exact ⟨by rw [up_ne _ _ (by omega), hfl 2 0 rfl]; exact hM.1, by rw [up_ne _ _ (by omega), hfl 2 1 rfl]; exact hM.2.1, by rw [up_eq]⟩
          have hT0 : tok wh := by omega
          have n0b := hM8.1
          refine v_aload_n 0 (pc' := 113) rfl dX10_text_112 rfl rfl ?_
          refine v_iload_n 1 (pc' := 114) rfl dX10_text_113 rfl rfl ?_
          refine v_cVP (pc' := 117) rfl dX10_text_114 lk_RX10_101 ly_0 rfl (c_turn l G hwh hV8 w8 hM8) rfl rfl rfl ?_
          refine v_nm (fun turn1 hturn1 => ?_)
          refine v_aload_n 0 (pc' := 118) rfl dX10_text_117 rfl rfl ?_
          refine v_getR (pc' := 121) rfl dX10_text_118 fk_RX10_16 ly_0 rfl ?_
          refine v_get (z := (n : Int)) (pc' := 124) rfl dX10_text_121 fk_RX10_81 ly_2 rfl (n0b) ?_
          refine v_cSP (pc' := 127) rfl dX10_text_124 lk_RX10_105 rfl (c_digits l G (f := txF S.2.1 S.2.2.2.2) (hturn1.trans ((trI_ok hT0).trans (by unfold trF; rcases hz1 with q | q; (rw [if_pos q, if_pos q]); (rw [if_neg (by omega), if_pos q, if_neg (by omega)])))) (hpm.B hn7) rfl hn7 w8) rfl rfl rfl ?_
          refine v_nm (fun digits1 hdigits1 => ?_)
          refine v_iret dX10_text_127 (by decide) (rfl) ?_
          first | exact Or.inl ⟨fun q => hz1 q.1, rfl, rfl⟩ | exact Or.inl ⟨fun q => hq q.2, rfl, rfl⟩ | skip
          first | done | (refine Or.inr ⟨⟨hz1, hq⟩, (hfl.trs (q5b.mono rfl)).mono rfl, by rw [q5b 0 1 rfl]; exact hb1, fun j hj => by rw [q5b 0 j rfl]; exact ho1 j hj, fun j hj => by rw [q5b 2 j rfl]; exact hfl 2 j rfl, Or.inl ?_⟩; have hR2 : txR n (w 1) k = (-1000 * (rdFault n S.1 S.2.1 (w 1 iN).toNat : Int) - iN, S) := (by rw [← hR]; simp only [txL]; rw [if_neg hz0]); rw [hR2]; exact ⟨by simp only []; omega, by simp only []; rw [q5a, hi], ⟨by rw [q5b 2 0 rfl, hfl 2 0 rfl]; exact hM.1, by rw [q5b 2 1 rfl, hfl 2 1 rfl]; exact hM.2.1, by rw [q5b 2 2 rfl, hfl 2 2 rfl]; exact hM.2.2⟩⟩) | exact Or.inr ⟨⟨hz1, hq⟩, hfl.mono rfl, hb1, ho1, fun j hj => hfl 2 j rfl, Or.inr (Or.inl (by rw [hR2]; exact ⟨rfl, hst, rfl, ⟨(hfl 2 0 rfl).trans hM.1, (hfl 2 1 rfl).trans hM.2.1, (hfl 2 2 rfl).trans hM.2.2⟩⟩))⟩ | exact Or.inr ⟨⟨hz1, hq⟩, by rw [hput]; exact (hfl.mono rfl).up rfl, by rw [hput, up_ne _ _ (by omega)]; exact hb1, fun j hj => by rw [hput, up_ne _ _ (by omega)]; exact ho1 j hj, fun j hj => by rw [hput, up_ne _ _ (by split <;> omega)]; exact hfl 2 j rfl, Or.inr (Or.inr (by unfold txG; rw [hR2]; exact ⟨rfl, hst, hpm, hM8, hdigits1⟩))⟩
        ·
          have hst : ¬ (S.1 = 1 ∨ S.1 = 5) := fun q => by rw [if_pos q] at hcomplete1; omega
          refine v_sipush (pc' := 97) rfl dX10_text_94 rfl ?_
          refine v_iload_n 2 (pc' := 98) rfl dX10_text_97 rfl rfl ?_
          refine v_isub (pc' := 99) rfl dX10_text_98 ?_
          refine v_iret dX10_text_99 (by decide) (rfl) ?_
          first | exact Or.inl ⟨fun q => hz1 q.1, rfl, rfl⟩ | exact Or.inl ⟨fun q => hq q.2, rfl, rfl⟩ | skip
          first | done | (refine Or.inr ⟨⟨hz1, hq⟩, (hfl.trs (q5b.mono rfl)).mono rfl, by rw [q5b 0 1 rfl]; exact hb1, fun j hj => by rw [q5b 0 j rfl]; exact ho1 j hj, fun j hj => by rw [q5b 2 j rfl]; exact hfl 2 j rfl, Or.inl ?_⟩; have hR2 : txR n (w 1) k = (-1000 * (rdFault n S.1 S.2.1 (w 1 iN).toNat : Int) - iN, S) := (by rw [← hR]; simp only [txL]; rw [if_neg hz0]); rw [hR2]; exact ⟨by simp only []; omega, by simp only []; rw [q5a, hi], ⟨by rw [q5b 2 0 rfl, hfl 2 0 rfl]; exact hM.1, by rw [q5b 2 1 rfl, hfl 2 1 rfl]; exact hM.2.1, by rw [q5b 2 2 rfl, hfl 2 2 rfl]; exact hM.2.2⟩⟩) | exact Or.inr ⟨⟨hz1, hq⟩, hfl.mono rfl, hb1, ho1, fun j hj => hfl 2 j rfl, Or.inr (Or.inl (by rw [hR2]; exact ⟨rfl, hst, rfl, ⟨(hfl 2 0 rfl).trans hM.1, (hfl 2 1 rfl).trans hM.2.1, (hfl 2 2 rfl).trans hM.2.2⟩⟩))⟩ | exact Or.inr ⟨⟨hz1, hq⟩, by rw [hput]; exact (hfl.mono rfl).up rfl, by rw [hput, up_ne _ _ (by omega)]; exact hb1, fun j hj => by rw [hput, up_ne _ _ (by omega)]; exact ho1 j hj, fun j hj => by rw [hput, up_ne _ _ (by split <;> omega)]; exact hfl 2 j rfl, Or.inr (Or.inr (by unfold txG; rw [hR2]; exact ⟨rfl, hst, hpm, hM8, hdigits1⟩))⟩
      ·
        obtain ⟨m0, rfl⟩ : ∃ x, m = x + 1 := ⟨m - 1, by omega⟩
        refine v_iload_n 3 (pc' := 44) rfl dX10_text_43 rfl rfl ?_
        refine v_bipush (pc' := 46) rfl dX10_text_44 rfl ?_
        refine v_icmp_ge (pc' := 49) (tgt := 84) rfl dX10_text_46 (by decide) (by omega) (by omega) (fun c3 => absurd c3 (by omega)) (fun c3 => ?_)
        refine v_aload_n 0 (pc' := 50) rfl dX10_text_49 rfl rfl ?_
        refine v_getR (pc' := 53) rfl dX10_text_50 fk_RX10_69 ly_0 rfl ?_
        refine v_aload_n 0 (pc' := 54) rfl dX10_text_53 rfl rfl ?_
        refine v_getR (pc' := 57) rfl dX10_text_54 fk_RX10_9 ly_0 rfl ?_
        refine v_iload_n 3 (pc' := 58) rfl dX10_text_57 rfl rfl ?_
        refine v_iald (z := (w 1 iN)) (pc' := 59) rfl dX10_text_58 ly_1 (by omega) (by omega) rfl (by rw [show i.toNat = iN by omega]; exact hfl 1 iN rfl) ?_
        refine v_cVi (pc' := 62) rfl dX10_text_59 lk_RX10_118 ly_30 rfl (c_fault l G (c := (w 1 iN).toNat) (by have := hT iN (by omega); omega) (by have := hT iN (by omega); omega) hVS.1 wl hRS) rfl rfl rfl (fun fault1 w5 hq5 => ?_)
        obtain ⟨q5a, q5b, q5c⟩ := hq5
        have hrl := rdFault_le n S.1 S.2.1 (w 1 iN).toNat
        refine v_istore (ls' := [(4, _), (0, _), (1, _), (2, _), (3, _)]) (pc' := 64) rfl dX10_text_62 rfl rfl ?_
        refine v_iload 0 (pc' := 66) rfl dX10_text_64 rfl ?_
        refine v_if_eq (pc' := 69) (tgt := 78) rfl dX10_text_66 (by decide) (by omega) (fun c4 => ?_) (fun c4 => ?_)
        ·
          have hz0 : rdFault n S.1 S.2.1 (w 1 iN).toNat = 0 := by omega
          refine v_iinc (ls' := [(3, _), (4, _), (0, _), (1, _), (2, _)]) 4 (pc' := 81) rfl dX10_text_78 rfl rfl rfl ?_
          refine v_nl (fun i' hi' => ?_)
          refine v_goto (tgt := 38) dX10_text_81 (by decide) ?_
          refine v_ls [2, 3, 4, 0] rfl ?_
          exact ih0 (i') w5 (⟨m0, iN + 1, rdN S (w 1 iN).toNat, by omega, by omega, hVS.step hz0, q5c hz0, by rw [← hR]; simp only [txL]; rw [if_pos hz0], hfl.trs (q5b.mono rfl), by rw [q5b 0 1 rfl]; exact hb1, fun j hj => by rw [q5b 0 j rfl]; exact ho1 j hj⟩) (by omega)
        ·
          have hz0 : rdFault n S.1 S.2.1 (w 1 iN).toNat ≠ 0 := by omega
          refine v_sipush (pc' := 72) rfl dX10_text_69 rfl ?_
          refine v_iload 0 (pc' := 74) rfl dX10_text_72 rfl ?_
          refine v_imul (pc' := 75) rfl dX10_text_74 ?_
          refine v_iload_n 4 (pc' := 76) rfl dX10_text_75 rfl rfl ?_
          refine v_isub (pc' := 77) rfl dX10_text_76 ?_
          refine v_iret dX10_text_77 (by decide) (rfl) ?_
          first | exact Or.inl ⟨fun q => hz1 q.1, rfl, rfl⟩ | exact Or.inl ⟨fun q => hq q.2, rfl, rfl⟩ | skip
          first | done | (refine Or.inr ⟨⟨hz1, hq⟩, (hfl.trs (q5b.mono rfl)).mono rfl, by rw [q5b 0 1 rfl]; exact hb1, fun j hj => by rw [q5b 0 j rfl]; exact ho1 j hj, fun j hj => by rw [q5b 2 j rfl]; exact hfl 2 j rfl, Or.inl ?_⟩; have hR2 : txR n (w 1) k = (-1000 * (rdFault n S.1 S.2.1 (w 1 iN).toNat : Int) - iN, S) := (by rw [← hR]; simp only [txL]; rw [if_neg hz0]); rw [hR2]; exact ⟨by simp only []; omega, by simp only []; rw [q5a, hi], ⟨by rw [q5b 2 0 rfl, hfl 2 0 rfl]; exact hM.1, by rw [q5b 2 1 rfl, hfl 2 1 rfl]; exact hM.2.1, by rw [q5b 2 2 rfl, hfl 2 2 rfl]; exact hM.2.2⟩⟩) | exact Or.inr ⟨⟨hz1, hq⟩, hfl.mono rfl, hb1, ho1, fun j hj => hfl 2 j rfl, Or.inr (Or.inl (by rw [hR2]; exact ⟨rfl, hst, rfl, ⟨(hfl 2 0 rfl).trans hM.1, (hfl 2 1 rfl).trans hM.2.1, (hfl 2 2 rfl).trans hM.2.2⟩⟩))⟩ | exact Or.inr ⟨⟨hz1, hq⟩, by rw [hput]; exact (hfl.mono rfl).up rfl, by rw [hput, up_ne _ _ (by omega)]; exact hb1, fun j hj => by rw [hput, up_ne _ _ (by omega)]; exact ho1 j hj, fun j hj => by rw [hput, up_ne _ _ (by split <;> omega)]; exact hfl 2 j rfl, Or.inr (Or.inr (by unfold txG; rw [hR2]; exact ⟨rfl, hst, hpm, hM8, hdigits1⟩))⟩
    ·
      have hq := rdb_0 hreadable1 (by omega)
      refine v_iconst (pc' := 16) rfl dX10_text_15 ?_
      refine v_iret dX10_text_16 (by decide) (rfl) ?_
      first | exact Or.inl ⟨fun q => hz1 q.1, rfl, rfl⟩ | exact Or.inl ⟨fun q => hq q.2, rfl, rfl⟩ | skip
      first | done | (refine Or.inr ⟨⟨hz1, hq⟩, (hfl.trs (q5b.mono rfl)).mono rfl, by rw [q5b 0 1 rfl]; exact hb1, fun j hj => by rw [q5b 0 j rfl]; exact ho1 j hj, fun j hj => by rw [q5b 2 j rfl]; exact hfl 2 j rfl, Or.inl ?_⟩; have hR2 : txR n (w 1) k = (-1000 * (rdFault n S.1 S.2.1 (w 1 iN).toNat : Int) - iN, S) := (by rw [← hR]; simp only [txL]; rw [if_neg hz0]); rw [hR2]; exact ⟨by simp only []; omega, by simp only []; rw [q5a, hi], ⟨by rw [q5b 2 0 rfl, hfl 2 0 rfl]; exact hM.1, by rw [q5b 2 1 rfl, hfl 2 1 rfl]; exact hM.2.1, by rw [q5b 2 2 rfl, hfl 2 2 rfl]; exact hM.2.2⟩⟩) | exact Or.inr ⟨⟨hz1, hq⟩, hfl.mono rfl, hb1, ho1, fun j hj => hfl 2 j rfl, Or.inr (Or.inl (by rw [hR2]; exact ⟨rfl, hst, rfl, ⟨(hfl 2 0 rfl).trans hM.1, (hfl 2 1 rfl).trans hM.2.1, (hfl 2 2 rfl).trans hM.2.2⟩⟩))⟩ | exact Or.inr ⟨⟨hz1, hq⟩, by rw [hput]; exact (hfl.mono rfl).up rfl, by rw [hput, up_ne _ _ (by omega)]; exact hb1, fun j hj => by rw [hput, up_ne _ _ (by omega)]; exact ho1 j hj, fun j hj => by rw [hput, up_ne _ _ (by split <;> omega)]; exact hfl 2 j rfl, Or.inr (Or.inr (by unfold txG; rw [hR2]; exact ⟨rfl, hst, hpm, hM8, hdigits1⟩))⟩

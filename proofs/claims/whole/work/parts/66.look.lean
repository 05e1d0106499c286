/-! ===== the reference: what a look leaves; degree, codes ===== -/
def keepB (o j : Nat) : Bool := if o = 63 then [0, 1, 2, 3, 4, 16, 52, 53].contains j else (Nat.blt o 69 || (o == 74 || Nat.ble 94 o))
def Scr (w w' : Wd) : Prop := ∀ o j, keepB o j = true → w' o j = w o j
theorem Scr.rf (w : Wd) : Scr w w := fun _ _ _ => rfl
theorem Scr.tr {w w1 w2 : Wd} (h : Scr w w1) (h2 : Scr w1 w2) : Scr w w2 := fun o j k => (h2 o j k).trans (h o j k)
theorem keepB_ne {o : Nat} (h : o ≠ 63) (j k : Nat) : keepB o j = keepB o k := by unfold keepB; rw [if_neg h, if_neg h]
theorem Scr.of {cs : List Nat} {w w' : Wd} (hf : Fr cs w w') (hc : cs.all (fun o => !(o == 63) && !keepB o 0) = true) : Scr w w' := fun o j k => by
  refine hf o j ?_
  rw [← Bool.not_eq_true]
  intro h
  have := List.all_eq_true.mp hc o (by simpa using h)
  simp only [Bool.and_eq_true, Bool.not_eq_true', beq_eq_false_iff_ne] at this
  rw [keepB_ne this.1 j 0, this.2] at k
  exact absurd k (by decide)
theorem Scr.up {w w' : Wd} (h : Scr w w') {o j : Nat} {v : Int} (hk : keepB o j = false) : Scr w (up w' o j v) := fun o' j' k => by
  rw [up_ne _ _ (fun e => by rw [e.1, e.2, hk] at k; exact absurd k (by decide))]; exact h o' j' k
theorem RMW.s {w w' : Wd} {n : Nat} {s a : Nat → Nat} (h : RMW w n s a) (hs : Scr w w') : RMW w' n s a := ⟨(hs 63 0 (by decide)).trans h.1, (hs 63 1 (by decide)).trans h.2.1, (hs 63 2 (by decide)).trans h.2.2⟩
theorem RTab.s {w w' : Wd} {n : Nat} (h : RTab w n) (hs : Scr w w') : RTab w' n := h.fr (hs 63 3 (by decide)) (hs 63 4 (by decide)) (fun o h1 h2 j => hs o j (by
  unfold keepB; rw [if_neg (by omega)]; simp [Nat.blt]; omega))
def keepT (o j : Nat) : Bool := if o = 63 then [16, 52, 53].contains j else (Nat.blt o 63 || (o == 74 || Nat.ble 94 o))
def Tld (w w' : Wd) : Prop := ∀ o j, keepT o j = true → w' o j = w o j
theorem Tld.rf (w : Wd) : Tld w w := fun _ _ _ => rfl
theorem Tld.tr {w w1 w2 : Wd} (h : Tld w w1) (h2 : Tld w1 w2) : Tld w w2 := fun o j k => (h2 o j k).trans (h o j k)
theorem keepT_ne {o : Nat} (h : o ≠ 63) (j k : Nat) : keepT o j = keepT o k := by unfold keepT; rw [if_neg h, if_neg h]
theorem Tld.of {cs : List Nat} {w w' : Wd} (hf : Fr cs w w') (hc : cs.all (fun o => (o == 63) || !keepT o 0) = true) (h63 : w' 63 16 = w 63 16 ∧ w' 63 52 = w 63 52 ∧ w' 63 53 = w 63 53) : Tld w w' := fun o j k => by
  by_cases e : o = 63
  · subst e
    simp only [keepT, if_true, List.contains_cons, List.contains_nil, Bool.or_false, Bool.or_eq_true, beq_iff_eq] at k
    rcases k with k | k | k <;> rw [k]
    · exact h63.1
    · exact h63.2.1
    · exact h63.2.2
  · refine hf o j ?_
    rw [← Bool.not_eq_true]
    intro h
    have := List.all_eq_true.mp hc o (by simpa using h)
    simp only [Bool.or_eq_true, beq_iff_eq, Bool.not_eq_true'] at this
    rw [keepT_ne e j 0, this.resolve_left e] at k
    exact absurd k (by decide)
theorem Tld.up {w w' : Wd} (h : Tld w w') {o j : Nat} {v : Int} (hk : keepT o j = false) : Tld w (up w' o j v) := fun o' j' k => by
  rw [up_ne _ _ (fun e => by rw [e.1, e.2, hk] at k; exact absurd k (by decide))]; exact h o' j' k
theorem Scr.tld {w w' : Wd} (h : Scr w w') : Tld w w' := fun o j k => h o j (by
  unfold keepT at k
  unfold keepB
  by_cases e : o = 63
  · rw [if_pos e] at k ⊢
    simp only [List.contains_cons, List.contains_nil, Bool.or_false, Bool.or_eq_true, beq_iff_eq] at k ⊢
    omega
  · rw [if_neg e] at k ⊢
    simp [Nat.blt] at k ⊢
    omega)
set_option maxHeartbeats 4000000 in
set_option maxRecDepth 100000 in
theorem c_becomes (l : Launch) (G : Gx) {m0 n0 : Int} {m : Nat} (hm : m0 = (m : Nat)) (hm1 : 1 ≤ m) (hm7 : m ≤ 7) (hn0 : rg n0) (w : Wd) (r0 : w 63 0 = n0) (hT : n0 = (m : Nat) → RTab w m) : Sp l G 4 mX11_becomes [aR 63, aI (m0)] w (fun _ w' => w' 63 0 = (m : Nat) ∧ RTab w' m ∧ (∀ q, q ≠ 0 → q ≠ 3 → q ≠ 4 → w' 63 q = w 63 q) ∧ Fr [63, 64, 65, 66, 67, 68, 69, 72, 73] w w') := by
  refine Sp_of RX11 rfl (by decide +kernel) rfl (Nat.le_of_ble_eq_true rfl) ?_
  refine v_aload_n 0 (pc' := 1) rfl dX11_becomes_0 rfl rfl ?_
  refine v_get (z := n0) (pc' := 4) rfl dX11_becomes_1 fk_RX11_125 ly_63 rfl (r0) ?_
  refine v_iload_n 1 (pc' := 5) rfl dX11_becomes_4 rfl rfl ?_
  refine v_icmp_ne (pc' := 8) (tgt := 12) rfl dX11_becomes_5 (by decide) (by omega) (by omega) (fun c0 => ?_) (fun c0 => ?_)
  ·
    refine v_iconst (pc' := 13) rfl dX11_becomes_12 ?_
    refine v_istore_n (ls' := [(2, _), (0, _), (1, _)]) (pc' := 14) rfl dX11_becomes_13 rfl rfl rfl ?_
    refine v_aload_n 1 (pc' := 15) rfl dX11_becomes_14 rfl rfl ?_
    refine v_iload_n 2 (pc' := 16) rfl dX11_becomes_15 rfl rfl ?_
    refine v_put (pc' := 19) rfl dX11_becomes_16 fi_RX11_125 ly_63 rfl ?_
    refine v_nmw (fun w1 hw1 => ?_)
    refine v_iload_n 0 (pc' := 20) rfl dX11_becomes_19 rfl rfl ?_
    refine v_if_ne (pc' := 23) (tgt := 27) rfl dX11_becomes_20 (by decide) (by decide) (fun c1 => ?_) (fun c1 => ?_)
    ·
      refine v_vret dX11_becomes_27 ?_
      first | exact ⟨by rw [hw1, up_eq]; exact hm, (hT (by omega)).fr (by rw [hw1, up_ne _ _ (by omega)]) (by rw [hw1, up_ne _ _ (by omega)]) (fun o h1 h2 j => by rw [hw1, up_ne _ _ (by omega)]), fun q a b c => by rw [hw1, up_ne _ _ (by omega)], by rw [hw1]; exact (Fr.rf _ _).up rfl⟩ | exact ⟨by rw [u2 0 (by decide) (by decide), hw1, up_eq]; exact hm, q2, fun q a b c => by rw [u2 q b c, hw1, up_ne _ _ (by omega)], (show Fr [63, 64, 65, 66, 67, 68, 69, 72, 73] w w1 by rw [hw1]; exact (Fr.rf _ _).up rfl).trs f2⟩ | exact absurd rfl c1 | exact absurd c1 (by decide)
    ·
      refine v_aload_n 1 (pc' := 24) rfl dX11_becomes_23 rfl rfl ?_
      refine v_cVv (pc' := 27) rfl dX11_becomes_24 lk_RX11_181 ly_63 rfl (c_laysAll l G hm1 hm7 w1 (by rw [hw1, up_eq]; exact hm)) rfl rfl rfl (fun laysAll1 w2 hq2 => ?_)
      obtain ⟨q2, u2, f2⟩ := hq2
      refine v_vret dX11_becomes_27 ?_
      first | exact ⟨by rw [hw1, up_eq]; exact hm, (hT (by omega)).fr (by rw [hw1, up_ne _ _ (by omega)]) (by rw [hw1, up_ne _ _ (by omega)]) (fun o h1 h2 j => by rw [hw1, up_ne _ _ (by omega)]), fun q a b c => by rw [hw1, up_ne _ _ (by omega)], by rw [hw1]; exact (Fr.rf _ _).up rfl⟩ | exact ⟨by rw [u2 0 (by decide) (by decide), hw1, up_eq]; exact hm, q2, fun q a b c => by rw [u2 q b c, hw1, up_ne _ _ (by omega)], (show Fr [63, 64, 65, 66, 67, 68, 69, 72, 73] w w1 by rw [hw1]; exact (Fr.rf _ _).up rfl).trs f2⟩ | exact absurd rfl c1 | exact absurd c1 (by decide)
  ·
    refine v_iconst (pc' := 9) rfl dX11_becomes_8 ?_
    refine v_goto (tgt := 13) dX11_becomes_9 (by decide) ?_
    refine v_istore_n (ls' := [(2, _), (0, _), (1, _)]) (pc' := 14) rfl dX11_becomes_13 rfl rfl rfl ?_
    refine v_aload_n 1 (pc' := 15) rfl dX11_becomes_14 rfl rfl ?_
    refine v_iload_n 2 (pc' := 16) rfl dX11_becomes_15 rfl rfl ?_
    refine v_put (pc' := 19) rfl dX11_becomes_16 fi_RX11_125 ly_63 rfl ?_
    refine v_nmw (fun w1 hw1 => ?_)
    refine v_iload_n 0 (pc' := 20) rfl dX11_becomes_19 rfl rfl ?_
    refine v_if_ne (pc' := 23) (tgt := 27) rfl dX11_becomes_20 (by decide) (by decide) (fun c1 => ?_) (fun c1 => ?_)
    ·
      refine v_vret dX11_becomes_27 ?_
      first | exact ⟨by rw [hw1, up_eq]; exact hm, (hT (by omega)).fr (by rw [hw1, up_ne _ _ (by omega)]) (by rw [hw1, up_ne _ _ (by omega)]) (fun o h1 h2 j => by rw [hw1, up_ne _ _ (by omega)]), fun q a b c => by rw [hw1, up_ne _ _ (by omega)], by rw [hw1]; exact (Fr.rf _ _).up rfl⟩ | exact ⟨by rw [u2 0 (by decide) (by decide), hw1, up_eq]; exact hm, q2, fun q a b c => by rw [u2 q b c, hw1, up_ne _ _ (by omega)], (show Fr [63, 64, 65, 66, 67, 68, 69, 72, 73] w w1 by rw [hw1]; exact (Fr.rf _ _).up rfl).trs f2⟩ | exact absurd rfl c1 | exact absurd c1 (by decide)
    ·
      refine v_aload_n 1 (pc' := 24) rfl dX11_becomes_23 rfl rfl ?_
      refine v_cVv (pc' := 27) rfl dX11_becomes_24 lk_RX11_181 ly_63 rfl (c_laysAll l G hm1 hm7 w1 (by rw [hw1, up_eq]; exact hm)) rfl rfl rfl (fun laysAll1 w2 hq2 => ?_)
      obtain ⟨q2, u2, f2⟩ := hq2
      refine v_vret dX11_becomes_27 ?_
      first | exact ⟨by rw [hw1, up_eq]; exact hm, (hT (by omega)).fr (by rw [hw1, up_ne _ _ (by omega)]) (by rw [hw1, up_ne _ _ (by omega)]) (fun o h1 h2 j => by rw [hw1, up_ne _ _ (by omega)]), fun q a b c => by rw [hw1, up_ne _ _ (by omega)], by rw [hw1]; exact (Fr.rf _ _).up rfl⟩ | exact ⟨by rw [u2 0 (by decide) (by decide), hw1, up_eq]; exact hm, q2, fun q a b c => by rw [u2 q b c, hw1, up_ne _ _ (by omega)], (show Fr [63, 64, 65, 66, 67, 68, 69, 72, 73] w w1 by rw [hw1]; exact (Fr.rf _ _).up rfl).trs f2⟩ | exact absurd rfl c1 | exact absurd c1 (by decide)
set_option maxHeartbeats 4000000 in
set_option maxRecDepth 100000 in
theorem c_begins (l : Launch) (G : Gx) {m0 n0 : Int} {m : Nat} (hm : m0 = (m : Nat)) (hm1 : 1 ≤ m) (hm7 : m ≤ 7) (hn0 : rg n0) (w : Wd) (r0 : w 63 0 = n0) (hT : n0 = (m : Nat) → RTab w m) : Sp l G 5 mX11_begins [aR 63, aI (m0)] w (fun _ w' => RMW w' m pid pid ∧ RTab w' m ∧ (∀ q, 5 ≤ q → w' 63 q = w 63 q) ∧ Fr [63, 64, 65, 66, 67, 68, 69, 72, 73] w w') := by
  refine Sp_of RX11 rfl (by decide +kernel) rfl (Nat.le_of_ble_eq_true rfl) ?_
  refine v_aload_n 0 (pc' := 1) rfl dX11_begins_0 rfl rfl ?_
  refine v_iload_n 1 (pc' := 2) rfl dX11_begins_1 rfl rfl ?_
  refine v_cVv (pc' := 5) rfl dX11_begins_2 lk_RX11_184 ly_63 rfl (c_becomes l G hm hm1 hm7 hn0 w r0 hT) rfl rfl rfl (fun becomes1 w1 hq1 => ?_)
  obtain ⟨b0, b1, b2, b3⟩ := hq1
  refine v_aload_n 0 (pc' := 6) rfl dX11_begins_5 rfl rfl ?_
  refine v_aload_n 0 (pc' := 7) rfl dX11_begins_6 rfl rfl ?_
  refine v_cVP (pc' := 10) rfl dX11_begins_7 lk_RX11_187 ly_63 rfl (c_stays l G hm7 w1 b0) rfl rfl rfl ?_
  refine v_nm (fun stays1 hstays1 => ?_)
  refine v_put (pc' := 13) rfl dX11_begins_10 fi_RX11_149 ly_63 rfl ?_
  refine v_nmw (fun w3 hw3 => ?_)
  have F63_1 : w3 63 1 = stays1 := by rw [hw3, up_eq]
  refine v_aload_n 0 (pc' := 14) rfl dX11_begins_13 rfl rfl ?_
  refine v_aload_n 0 (pc' := 15) rfl dX11_begins_14 rfl rfl ?_
  refine v_get (z := stays1) (pc' := 18) rfl dX11_begins_15 fk_RX11_149 ly_63 rfl (F63_1) ?_
  refine v_put (pc' := 21) rfl dX11_begins_18 fi_RX11_152 ly_63 rfl ?_
  refine v_nmw (fun w4 hw4 => ?_)
  have F63_1 : w4 63 1 = stays1 := by rw [hw4, up_ne _ _ (by omega)]; exact F63_1
  have F63_2 : w4 63 2 = stays1 := by rw [hw4, up_eq]
  refine v_vret dX11_begins_21 ?_
  refine ⟨⟨by rw [hw4, up_ne _ _ (by omega), hw3, up_ne _ _ (by omega)]; exact b0, by rw [hw4, up_ne _ _ (by omega), hw3, up_eq]; exact hstays1, by rw [hw4, up_eq]; exact hstays1⟩, b1.fr (by rw [hw4, hw3]; rfl) (by rw [hw4, hw3]; rfl) (fun o h1 h2 j => by rw [hw4, up_ne _ _ (by omega), hw3, up_ne _ _ (by omega)]), fun q hq => by rw [hw4, up_ne _ _ (by omega), hw3, up_ne _ _ (by omega)]; exact b2 q (by omega) (by omega) (by omega), by rw [hw4, hw3]; exact (b3.up rfl).up rfl⟩
def DegM (w : Wd) (n : Nat) (d z : Int) (w' : Wd) : Prop := (¬ (1 ≤ d ∧ d ≤ 7) ∧ w' = w ∧ z = -1) ∨
  ((1 ≤ d ∧ d ≤ 7) ∧ Tld w w' ∧ RMW w' d.toNat pid pid ∧ RTab w' d.toNat ∧ z = n)
theorem inB_1 {P : Prop} {hd : Decidable P} {z : Int} (h : z = if P then 1 else 0) (hz : z ≠ 0) : P := Classical.byContradiction (fun q => hz (h.trans (if_neg q)))
theorem inB_0 {P : Prop} {hd : Decidable P} {z : Int} (h : z = if P then 1 else 0) (hz : z = 0) : ¬ P := fun q => by rw [if_pos q] at h; omega
theorem inB_r {P : Prop} {hd : Decidable P} {z : Int} (h : z = if P then 1 else 0) : rg z := by rw [h]; split <;> decide
set_option maxHeartbeats 4000000 in
set_option maxRecDepth 100000 in
theorem c_degreeM (l : Launch) (G : Gx) {d : Int} (hd : rg d) {n : Nat} {s a : Nat → Nat} (hV : MapV n s a) (w : Wd) (hM : RMW w n s a) (hR : RTab w n) : Sp l G 6 mX11_degree [aR 63, aI (d)] w (fun z w' => DegM w n d z w') := by
  obtain ⟨⟨hn1, hn7⟩, hs, ha⟩ := id hV
  obtain ⟨r0, r1, r2⟩ := id hM
  obtain ⟨r3, r4, rPK, rTK⟩ := id hR
  have hfc := fac_le hn1 hn7
  have hk15 := kmany_le n hn7
  refine Sp_of RX11 rfl (by decide +kernel) rfl (Nat.le_of_ble_eq_true rfl) ?_
  refine v_iload_n 1 (pc' := 1) rfl dX11_degree_0 rfl rfl ?_
  refine v_iconst (pc' := 2) rfl dX11_degree_1 ?_
  refine v_bipush (pc' := 4) rfl dX11_degree_2 rfl ?_
  refine v_cSP (pc' := 7) rfl dX11_degree_4 lk_RX11_121 rfl (c_in l G hd (by decide) (by decide) w) rfl rfl rfl ?_
  refine v_nm (fun in1 hin1 => ?_)
  refine v_if_ne (pc' := 10) (tgt := 12) rfl dX11_degree_7 (by decide) (inB_r hin1) (fun c0 => ?_) (fun c0 => ?_)
  ·
    have q1 := inB_1 hin1 (by omega)
    refine v_aload_n 0 (pc' := 13) rfl dX11_degree_12 rfl rfl ?_
    refine v_get (z := (n : Int)) (pc' := 16) rfl dX11_degree_13 fk_RX11_125 ly_63 rfl (r0) ?_
    refine v_nm (fun was' hwas' => ?_)
    refine v_istore_n (ls' := [(2, _), (0, _), (1, _)]) (pc' := 17) rfl dX11_degree_16 rfl rfl rfl ?_
    refine v_aload_n 1 (pc' := 18) rfl dX11_degree_17 rfl rfl ?_
    refine v_iload_n 2 (pc' := 19) rfl dX11_degree_18 rfl rfl ?_
    refine v_cVv (pc' := 22) rfl dX11_degree_19 lk_RX11_117 ly_63 rfl (c_begins l G (m := d.toNat) (n0 := n) (by omega) (by omega) (by omega) (by omega) w hM.1 (fun e => (show n = d.toNat by omega) ▸ hR)) rfl rfl rfl (fun begins1 w2 hq2 => ?_)
    obtain ⟨b1, b2, b3, b4⟩ := hq2
    refine v_iload_n 0 (pc' := 23) rfl dX11_degree_22 rfl rfl ?_
    refine v_iret dX11_degree_23 (by decide) (rfl) ?_
    first | exact Or.inl ⟨q1, rfl, rfl⟩ | exact Or.inr ⟨q1, Tld.of b4 (by decide) ⟨b3 16 (by decide), b3 52 (by decide), b3 53 (by decide)⟩, b1, b2, hwas'⟩
  ·
    have q1 := inB_0 hin1 (by omega)
    refine v_iconst (pc' := 11) rfl dX11_degree_10 ?_
    refine v_iret dX11_degree_11 (by decide) (rfl) ?_
    first | exact Or.inl ⟨q1, rfl, rfl⟩ | exact Or.inr ⟨q1, Tld.of b4 (by decide) ⟨b3 16 (by decide), b3 52 (by decide), b3 53 (by decide)⟩, b1, b2, hwas'⟩
set_option maxHeartbeats 4000000 in
set_option maxRecDepth 100000 in
theorem c_puts (l : Launch) (G : Gx) {wh c : Int} (hwh : rg wh) (w : Wd)  : Sp l G 0 mX11_puts [aR 63, aI (wh), aI (c)] w (fun _ w' => w' = up w 63 (if wh = 0 then 1 else 2) c) := by
  refine Sp_of RX11 rfl (by decide +kernel) rfl (Nat.le_of_ble_eq_true rfl) ?_
  refine v_iload_n 1 (pc' := 1) rfl dX11_puts_0 rfl rfl ?_
  refine v_if_ne (pc' := 4) (tgt := 12) rfl dX11_puts_1 (by decide) (by omega) (fun c0 => ?_) (fun c0 => ?_)
  ·
    refine v_aload_n 0 (pc' := 13) rfl dX11_puts_12 rfl rfl ?_
    refine v_iload_n 2 (pc' := 14) rfl dX11_puts_13 rfl rfl ?_
    refine v_put (pc' := 17) rfl dX11_puts_14 fi_RX11_152 ly_63 rfl ?_
    refine v_nmw (fun w2 hw2 => ?_)
    have F63_2 : w2 63 2 = c := by rw [hw2, up_eq]
    refine v_vret dX11_puts_17 ?_
    first | exact (by rw [if_pos (by omega)]; exact hw1) | exact (by rw [if_neg (by omega)]; exact hw2)
  ·
    refine v_aload_n 0 (pc' := 5) rfl dX11_puts_4 rfl rfl ?_
    refine v_iload_n 2 (pc' := 6) rfl dX11_puts_5 rfl rfl ?_
    refine v_put (pc' := 9) rfl dX11_puts_6 fi_RX11_149 ly_63 rfl ?_
    refine v_nmw (fun w1 hw1 => ?_)
    have F63_1 : w1 63 1 = c := by rw [hw1, up_eq]
    refine v_goto (tgt := 17) dX11_puts_9 (by decide) ?_
    refine v_vret dX11_puts_17 ?_
    first | exact (by rw [if_pos (by omega)]; exact hw1) | exact (by rw [if_neg (by omega)]; exact hw2)
theorem or2 (u d : Nat) : 2 * u ||| 2 ^ (d + 1) = 2 * (u ||| 2 ^ d) := by
  rw [Nat.pow_succ, Nat.mul_comm 2 u, Nat.mul_comm 2 (u ||| 2 ^ d)]
  apply Nat.eq_of_testBit_eq
  intro i
  rw [Nat.testBit_or]
  cases i with
  | zero => simp [Nat.testBit_zero]
  | succ i => rw [Nat.testBit_succ, Nat.testBit_succ, Nat.testBit_succ, Nat.mul_div_cancel _ (by decide), Nat.mul_div_cancel _ (by decide), Nat.mul_div_cancel _ (by decide), Nat.testBit_or]
theorem or2b (u : Nat) {d : Nat} (h : 1 ≤ d) : 2 * u ||| 2 ^ d = 2 * (u ||| bt d) := by
  have e := or2 u (d - 1)
  rw [show d - 1 + 1 = d by omega] at e
  exact e
/-- the digits of a code, from the right -/
def dgt (C j : Nat) : Nat := C / 10 ^ j % 10
def IsC (n : Nat) (C k u : Nat) : Prop := u < 128 ∧ ∀ y, 1 ≤ y → y ≤ 7 → (hasb u y ↔ ∃ j, j < k ∧ dgt C j = y ∧ y ≤ n)
theorem IsC.yes {n C k u : Nat} (h : IsC n C k u) (h1 : 1 ≤ dgt C k) (h2 : dgt C k ≤ n) (hn : n ≤ 7) : IsC n C (k + 1) (u ||| bt (dgt C k)) := by
  refine ⟨or_lt7 h.1 (bt_lt h1 (by omega)), fun y a b => ?_⟩
  rw [hasb_or h.1 h1 (by omega) a b, h.2 y a b]
  constructor
  · rintro (⟨j, p, q, r⟩ | e)
    · exact ⟨j, by omega, q, r⟩
    · exact ⟨k, by omega, e.symm, by omega⟩
  · rintro ⟨j, p, q, r⟩
    by_cases e : j = k
    · right; rw [← q, e]
    · exact Or.inl ⟨j, by omega, q, r⟩
theorem IsC.no {n C k u : Nat} (h : IsC n C k u) (h1 : ¬ (1 ≤ dgt C k ∧ dgt C k ≤ n)) : IsC n C (k + 1) u := by
  refine ⟨h.1, fun y a b => ?_⟩
  rw [h.2 y a b]
  constructor
  · rintro ⟨j, p, q, r⟩; exact ⟨j, by omega, q, r⟩
  · rintro ⟨j, p, q, r⟩
    by_cases e : j = k
    · rw [e] at q; exact absurd ⟨by omega, by omega⟩ h1
    · exact ⟨j, by omega, q, r⟩
theorem cdk_dgt {n : Nat} (g : Nat → Nat) (C : Nat) : ∀ k, k ≤ n → (∀ x, 1 ≤ x → x ≤ n → g x = dgt C (n - x)) → C / 10 ^ n = 0 → cdk g k = C / 10 ^ (n - k)
  | 0, _, _, h0 => by rw [Nat.sub_zero, h0]; rfl
  | k + 1, hk, hg, h0 => by
    rw [cdk_s, cdk_dgt g C k (by omega) hg h0, hg (k + 1) (by omega) hk]
    unfold dgt
    have e : 10 ^ (n - k) = 10 ^ (n - (k + 1)) * 10 := by rw [← Nat.pow_succ]; congr 1; omega
    rw [e, ← Nat.div_div_eq_div_mul]
    exact Nat.div_add_mod _ 10
theorem isC_end {n C u : Nat} (hn : n ≤ 7) (h : IsC n C n u) (h0 : C / 10 ^ n = 0) (hu : u = full n) : ∃ f, Pm n f ∧ cdk f n = C := by
  have hall : ∀ y, 1 ≤ y → y ≤ n → ∃ j, j < n ∧ dgt C j = y := fun y a b => by
    have := (h.2 y a (by omega)).mp (by rw [hu]; exact (hasb_full hn a (by omega)).mpr b)
    obtain ⟨j, p, q, -⟩ := this
    exact ⟨j, p, q⟩
  let g : Nat → Nat := fun x => if 1 ≤ x ∧ x ≤ n then dgt C (n - x) else x
  have sur : ∀ y, 1 ≤ y → y ≤ n → ∃ x, (1 ≤ x ∧ x ≤ n) ∧ g x = y := fun y a b => by
    obtain ⟨j, p, q⟩ := hall y a b
    refine ⟨n - j, by omega, ?_⟩
    show (if 1 ≤ n - j ∧ n - j ≤ n then dgt C (n - (n - j)) else n - j) = y
    rw [if_pos (by omega), show n - (n - j) = j by omega]; exact q
  -- a way back, which takes each place once
  let b : Nat → Nat := fun i => if h : 1 ≤ i + 1 ∧ i + 1 ≤ n then Classical.choose (sur (i + 1) h.1 h.2) - 1 else 0
  have bs : ∀ i, i < n → b i < n ∧ g (b i + 1) = i + 1 := fun i hi => by
    have hh : 1 ≤ i + 1 ∧ i + 1 ≤ n := by omega
    have sp := Classical.choose_spec (sur (i + 1) hh.1 hh.2)
    have e : b i = Classical.choose (sur (i + 1) hh.1 hh.2) - 1 := dif_pos hh
    rw [e]
    exact ⟨by omega, by rw [show Classical.choose (sur (i + 1) hh.1 hh.2) - 1 + 1 = Classical.choose (sur (i + 1) hh.1 hh.2) by omega]; exact sp.2⟩
  have onto := fun {y : Nat} (hy : y < n) => fb_onto (n := n) (f := b) (fun i hi => (bs i hi).1) (fun i j hij hj e => by
    have a := (bs i (by omega)).2
    have c := (bs j hj).2
    rw [e] at a; omega) hy
  refine ⟨g, ⟨fun x a c => ?_, fun x y a c d e q => ?_, fun x hx => if_neg (by omega)⟩, ?_⟩
  · obtain ⟨i, hi, e⟩ := onto (y := x - 1) (by omega)
    have := (bs i hi).2
    rw [e, show x - 1 + 1 = x by omega] at this
    omega
  · obtain ⟨i, hi, e1⟩ := onto (y := x - 1) (by omega)
    obtain ⟨j, hj, e2⟩ := onto (y := y - 1) (by omega)
    have a1 := (bs i hi).2
    have a2 := (bs j hj).2
    rw [e1, show x - 1 + 1 = x by omega] at a1
    rw [e2, show y - 1 + 1 = y by omega] at a2
    have : i = j := by omega
    subst this; omega
  · rw [cdk_dgt g C n (Nat.le_refl n) (fun x a c => if_pos ⟨a, c⟩) h0, Nat.sub_self, Nat.pow_zero, Nat.div_one]
theorem dgt_cdk {n : Nat} {f : Nat → Nat} (hf : Pm n f) (hn : n ≤ 7) : ∀ j, j ≤ n → cdk f n / 10 ^ j = cdk f (n - j)
  | 0, _ => by rw [Nat.pow_zero, Nat.div_one, Nat.sub_zero]
  | j + 1, h => by
    have ih := dgt_cdk hf hn j (by omega)
    have hv := hf.1 (n - j) (by omega) (by omega)
    rw [Nat.pow_succ, ← Nat.div_div_eq_div_mul, ih, show n - j = (n - (j + 1)) + 1 by omega, cdk_s]
    rw [show n - j = n - (j + 1) + 1 by omega] at hv
    omega
theorem dgt_of {n j : Nat} {f : Nat → Nat} (hf : Pm n f) (hn : n ≤ 7) (hj : j < n) : dgt (cdk f n) j = f (n - j) := by
  have hv := hf.1 (n - j) (by omega) (by omega)
  unfold dgt
  rw [dgt_cdk hf hn j (by omega), show n - j = (n - j - 1) + 1 by omega, cdk_s]
  rw [show n - j - 1 + 1 = n - j by omega]
  omega
theorem isC_all {n u : Nat} {f : Nat → Nat} (hf : Pm n f) (hn : n ≤ 7) (h : IsC n (cdk f n) n u) : u = full n := full_ext hn h.1 (fun y a b => by
  rw [h.2 y a b]
  constructor
  · rintro ⟨j, -, -, h⟩; exact h
  · intro hy
    obtain ⟨x, x1, x2, e⟩ := hf.onto a hy
    exact ⟨n - x, by omega, by rw [dgt_of hf hn (by omega), show n - (n - x) = x by omega]; exact e, hy⟩)
def IsP (n : Nat) (c z : Int) : Prop := (z = 1 ∧ ∃ f, Pm n f ∧ (cdk f n : Int) = c) ∨ (z = 0 ∧ ∀ f, Pm n f → (cdk f n : Int) ≠ c)
theorem full2 : ∀ n : Nat, n < 8 → 2 ^ (n + 1) = 2 * full n + 2 := by decide +kernel
theorem full_le7 : ∀ n : Nat, n < 8 → full n ≤ 127 := by decide +kernel
set_option maxHeartbeats 4000000 in
set_option maxRecDepth 100000 in
theorem c_isCode (l : Launch) (G : Gx) {cc0 : Int} {n : Nat} (hcc0 : rg cc0) (hn1 : 1 ≤ n) (hn7 : n ≤ 7) (w : Wd) (r0 : w 63 0 = n) : SpR l G 2 mX11_isCode [aR 63, aI (cc0)] w (IsP n cc0) := by
  have hfl7 := full_le7 n (by omega)
  have f2 := full2 n (by omega)
  refine Sp_of RX11 rfl (by decide +kernel) rfl (Nat.le_of_ble_eq_true rfl) ?_
  refine v_iload_n 1 (pc' := 1) rfl dX11_isCode_0 rfl rfl ?_
  refine v_istore_n (ls' := [(2, _), (0, _), (1, _)]) (pc' := 2) rfl dX11_isCode_1 rfl rfl rfl ?_
  refine v_iconst (pc' := 3) rfl dX11_isCode_2 ?_
  refine v_istore_n (ls' := [(3, _), (2, _), (0, _), (1, _)]) (pc' := 4) rfl dX11_isCode_3 rfl rfl rfl ?_
  refine v_iconst (pc' := 5) rfl dX11_isCode_4 ?_
  refine v_istore (ls' := [(4, _), (3, _), (2, _), (0, _), (1, _)]) (pc' := 7) rfl dX11_isCode_5 rfl rfl ?_
  have hstart : (0 < cc0 ∧ cc0 = ((cc0.toNat : Nat) : Int) ∧ cc0.toNat = cc0.toNat / 10 ^ 0 ∧ IsC n cc0.toNat 0 0) ∨ (cc0 ≤ 0 ∧ cc0 ≤ 0) := by
    rcases Int.lt_or_le 0 cc0 with h | h
    · exact Or.inl ⟨h, by omega, by rw [Nat.pow_zero, Nat.div_one], by decide, fun y a b => ⟨fun q => absurd (Nat.zero_and _) q, fun ⟨j, p, _⟩ => by omega⟩⟩
    · exact Or.inr ⟨h, h⟩
  refine v_ls [3, 4, 2, 1, 0] rfl ?_
  refine v_loop3 7 (fun (c : Int) (set : Int) (x : Int) => ∃ k u D : Nat, x = k ∧ k ≤ n ∧ set = ((2 * u : Nat) : Int) ∧ u < 128 ∧ rg c ∧ ((0 < cc0 ∧ c = (D : Int) ∧ D = cc0.toNat / 10 ^ k ∧ IsC n cc0.toNat k u) ∨ (cc0 ≤ 0 ∧ c ≤ 0))) (fun (c : Int) (set : Int) (x : Int) => (8 - x).toNat) (fun (c : Int) (set : Int) (x : Int) => [(0, aR 63), (1, aI (cc0)), (2, aI (c)), (3, aI (set)), (4, aI (x))]) (fun (c : Int) (set : Int) (x : Int) => []) (fun (c : Int) (set : Int) (x : Int) => w) (fun c set x hI0 ih0 => ?_) (cc0) (0) (0) (⟨0, 0, cc0.toNat, rfl, by omega, rfl, by decide, hcc0, hstart⟩)
  obtain ⟨k, u, D, hx, hk, hset, hu, hcr, hD⟩ := hI0
  refine v_iload 4 (pc' := 9) rfl dX11_isCode_7 rfl ?_
  refine v_aload_n 0 (pc' := 10) rfl dX11_isCode_9 rfl rfl ?_
  refine v_get (z := (n : Int)) (pc' := 13) rfl dX11_isCode_10 fk_RX11_125 ly_63 rfl (r0) ?_
  refine v_icmp_ge (pc' := 16) (tgt := 55) rfl dX11_isCode_13 (by decide) (by omega) (by omega) (fun c0 => ?_) (fun c0 => ?_)
  ·
    have hke : k = n := by omega
    refine v_iload_n 1 (pc' := 56) rfl dX11_isCode_55 rfl rfl ?_
    refine v_if_le (pc' := 59) (tgt := 81) rfl dX11_isCode_56 (by decide) (by omega) (fun c3 => ?_) (fun c3 => ?_)
    ·
      have hans : IsP n cc0 0 := Or.inr ⟨rfl, fun f hf e => by have := cd_pos hf hn1; omega⟩
      refine v_iconst (pc' := 82) rfl dX11_isCode_81 ?_
      refine v_iret dX11_isCode_82 (by decide) (rfl) ?_
      exact ⟨hans, rfl⟩
    ·
      obtain ⟨-, hcv, hDe, hC⟩ := hD.resolve_right (by omega)
      refine v_iload_n 2 (pc' := 60) rfl dX11_isCode_59 rfl rfl ?_
      refine v_if_ne (pc' := 63) (tgt := 81) rfl dX11_isCode_60 (by decide) (by omega) (fun c4 => ?_) (fun c4 => ?_)
      ·
        have hans : IsP n cc0 0 := Or.inr ⟨rfl, fun f hf e => by
          have h := dgt_cdk hf hn7 n (Nat.le_refl n)
          rw [Nat.sub_self] at h
          have h2 : cc0.toNat = cdk f n := by omega
          rw [hke, h2, h] at hDe
          have h3 : cdk f 0 = 0 := rfl
          omega⟩
        refine v_iconst (pc' := 82) rfl dX11_isCode_81 ?_
        refine v_iret dX11_isCode_82 (by decide) (rfl) ?_
        exact ⟨hans, rfl⟩
      ·
        have hcz : cc0.toNat / 10 ^ n = 0 := by rw [← hke, ← hDe]; omega
        refine v_iload_n 3 (pc' := 64) rfl dX11_isCode_63 rfl rfl ?_
        refine v_iconst (pc' := 65) rfl dX11_isCode_64 ?_
        refine v_aload_n 0 (pc' := 66) rfl dX11_isCode_65 rfl rfl ?_
        refine v_get (z := (n : Int)) (pc' := 69) rfl dX11_isCode_66 fk_RX11_125 ly_63 rfl (r0) ?_
        refine v_iconst (pc' := 70) rfl dX11_isCode_69 ?_
        refine v_iadd (pc' := 71) rfl dX11_isCode_70 ?_
        refine v_ishl (z := ((2 * full n + 2 : Nat) : Int)) (pc' := 72) rfl dX11_isCode_71 (by rw [← f2]; exact iz_one_shl (by omega) (by omega)) ?_
        refine v_iconst (pc' := 73) rfl dX11_isCode_72 ?_
        refine v_isub (pc' := 74) rfl dX11_isCode_73 ?_
        refine v_icmp_ne (pc' := 77) (tgt := 81) rfl dX11_isCode_74 (by decide) (by omega) (by omega) (fun c5 => ?_) (fun c5 => ?_)
        ·
          have hans : IsP n cc0 0 := Or.inr ⟨rfl, fun f hf e => by
            have h2 : cc0.toNat = cdk f n := by omega
            rw [hke, h2] at hC
            have := isC_all hf hn7 hC
            omega⟩
          refine v_iconst (pc' := 82) rfl dX11_isCode_81 ?_
          refine v_iret dX11_isCode_82 (by decide) (rfl) ?_
          exact ⟨hans, rfl⟩
        ·
          have hans : IsP n cc0 1 := by
            rw [hke] at hC
            obtain ⟨f, hf, hfc⟩ := isC_end hn7 hC hcz (by omega)
            exact Or.inl ⟨rfl, f, hf, by omega⟩
          refine v_iconst (pc' := 78) rfl dX11_isCode_77 ?_
          refine v_goto (tgt := 82) dX11_isCode_78 (by decide) ?_
          refine v_iret dX11_isCode_82 (by decide) (rfl) ?_
          exact ⟨hans, rfl⟩
  ·
    have hE : 0 < cc0 → D / 10 = cc0.toNat / 10 ^ (k + 1) := fun h => by rw [(hD.resolve_right (by omega)).2.2.1, Nat.pow_succ, Nat.div_div_eq_div_mul]
    have hcn : rg (c.tdiv 10) ∧ ((0 < cc0 → c.tdiv 10 = ((D / 10 : Nat) : Int)) ∧ (cc0 ≤ 0 → c.tdiv 10 ≤ 0)) := by
      rcases hD with ⟨h, e, -⟩ | ⟨h, e⟩
      · have e2 : c.tdiv 10 = c / 10 := Int.tdiv_eq_ediv_of_nonneg (by omega)
        rw [e2]
        exact ⟨by omega, fun _ => by omega, fun q => by omega⟩
      · have h3 : (-c).tdiv 10 = -(c.tdiv 10) := Int.neg_tdiv _ _
        have h4 := Int.tdiv_eq_ediv_of_nonneg (b := 10) (show 0 ≤ -c by omega)
        have h2 : c.tdiv 10 = -((-c) / 10) := by omega
        rw [h2]
        exact ⟨by omega, fun q => by omega, fun _ => by omega⟩
    have hdD : 0 < cc0 → dgt cc0.toNat k = D % 10 := fun h => by unfold dgt; rw [← (hD.resolve_right (by omega)).2.2.1]
    refine v_iload_n 2 (pc' := 17) rfl dX11_isCode_16 rfl rfl ?_
    refine v_if_le (pc' := 20) (tgt := 42) rfl dX11_isCode_17 (by decide) (by omega) (fun c1 => ?_) (fun c1 => ?_)
    ·
      have hnoC : 0 < cc0 → IsC n cc0.toNat (k + 1) u := fun h => by
        obtain ⟨-, e, -, hC⟩ := hD.resolve_right (by omega)
        refine hC.no (fun q => ?_)
        rw [hdD h] at q
        omega
      refine v_iload_n 3 (pc' := 43) rfl dX11_isCode_42 rfl rfl ?_
      refine v_istore_n (ls' := [(3, _), (0, _), (1, _), (2, _), (4, _)]) (pc' := 44) rfl dX11_isCode_43 rfl rfl rfl ?_
      refine v_iload_n 3 (pc' := 45) rfl dX11_isCode_44 rfl rfl ?_
      refine v_bipush (pc' := 47) rfl dX11_isCode_45 rfl ?_
      refine v_idiv (z := (c.tdiv 10)) (pc' := 48) rfl dX11_isCode_47 (iz_ne (by decide) (by decide)) (iz_div hcr (by decide) (by decide) (by omega)) ?_
      refine v_nm (fun c' hc' => ?_)
      refine v_istore_n (ls' := [(2, _), (3, _), (0, _), (1, _), (4, _)]) (pc' := 49) rfl dX11_isCode_48 rfl rfl rfl ?_
      refine v_iinc (ls' := [(4, _), (2, _), (3, _), (0, _), (1, _)]) 4 (pc' := 52) rfl dX11_isCode_49 rfl rfl rfl ?_
      refine v_nl (fun x' hx' => ?_)
      refine v_goto (tgt := 7) dX11_isCode_52 (by decide) ?_
      refine v_ls [3, 4, 1, 2, 0] rfl ?_
      exact ih0 (c') (set) (x') (⟨k + 1, u, D / 10, by omega, by omega, hset, hu, by rw [hc']; exact hcn.1, by
          rw [hc']
          rcases Int.lt_or_le 0 cc0 with h | h
          · exact Or.inl ⟨h, hcn.2.1 h, hE h, hnoC h⟩
          · exact Or.inr ⟨h, hcn.2.2 h⟩⟩) (by omega)
    ·
      obtain ⟨hcp, hcD, -, hCC⟩ := hD.resolve_right (by omega)
      have hdk := hdD hcp
      refine v_aload_n 0 (pc' := 21) rfl dX11_isCode_20 rfl rfl ?_
      refine v_iload_n 2 (pc' := 22) rfl dX11_isCode_21 rfl rfl ?_
      refine v_bipush (pc' := 24) rfl dX11_isCode_22 rfl ?_
      refine v_irem (z := (c % 10)) (pc' := 25) rfl dX11_isCode_24 (iz_ne (by decide) (by decide)) (iz_remN (by omega) (by omega) (by decide) (by decide)) ?_
      refine v_cVP (pc' := 28) rfl dX11_isCode_25 lk_RX11_129 ly_63 rfl (c_isDart l G (by omega) hn7 w r0) rfl rfl rfl ?_
      refine v_nm (fun isDart1 hisDart1 => ?_)
      refine v_if_eq (pc' := 31) (tgt := 42) rfl dX11_isCode_28 (by decide) (inB_r hisDart1) (fun c2 => ?_) (fun c2 => ?_)
      ·
        have hnd := inB_0 hisDart1 (by omega)
        have hnoC : 0 < cc0 → IsC n cc0.toNat (k + 1) u := fun h => hCC.no (fun q => hnd (by omega))
        refine v_iload_n 3 (pc' := 43) rfl dX11_isCode_42 rfl rfl ?_
        refine v_istore_n (ls' := [(3, _), (0, _), (1, _), (2, _), (4, _)]) (pc' := 44) rfl dX11_isCode_43 rfl rfl rfl ?_
        refine v_iload_n 3 (pc' := 45) rfl dX11_isCode_44 rfl rfl ?_
        refine v_bipush (pc' := 47) rfl dX11_isCode_45 rfl ?_
        refine v_idiv (z := (c.tdiv 10)) (pc' := 48) rfl dX11_isCode_47 (iz_ne (by decide) (by decide)) (iz_div hcr (by decide) (by decide) (by omega)) ?_
        refine v_nm (fun c' hc' => ?_)
        refine v_istore_n (ls' := [(2, _), (3, _), (0, _), (1, _), (4, _)]) (pc' := 49) rfl dX11_isCode_48 rfl rfl rfl ?_
        refine v_iinc (ls' := [(4, _), (2, _), (3, _), (0, _), (1, _)]) 4 (pc' := 52) rfl dX11_isCode_49 rfl rfl rfl ?_
        refine v_nl (fun x' hx' => ?_)
        refine v_goto (tgt := 7) dX11_isCode_52 (by decide) ?_
        refine v_ls [3, 4, 1, 2, 0] rfl ?_
        exact ih0 (c') (set) (x') (⟨k + 1, u, D / 10, by omega, by omega, hset, hu, by rw [hc']; exact hcn.1, by
            rw [hc']
            rcases Int.lt_or_le 0 cc0 with h | h
            · exact Or.inl ⟨h, hcn.2.1 h, hE h, hnoC h⟩
            · exact Or.inr ⟨h, hcn.2.2 h⟩⟩) (by omega)
      ·
        have hyd := inB_1 hisDart1 (by omega)
        have hd1 : 1 ≤ D % 10 := by omega
        have hyes : IsC n cc0.toNat (k + 1) (u ||| bt (D % 10)) := by
          have := hCC.yes (by omega) (by omega) hn7
          rw [hdk] at this; exact this
        refine v_iload_n 3 (pc' := 32) rfl dX11_isCode_31 rfl rfl ?_
        refine v_iconst (pc' := 33) rfl dX11_isCode_32 ?_
        refine v_iload_n 2 (pc' := 34) rfl dX11_isCode_33 rfl rfl ?_
        refine v_bipush (pc' := 36) rfl dX11_isCode_34 rfl ?_
        refine v_irem (z := (c % 10)) (pc' := 37) rfl dX11_isCode_36 (iz_ne (by decide) (by decide)) (iz_remN (by omega) (by omega) (by decide) (by decide)) ?_
        refine v_ishl (z := ((2 ^ (D % 10) : Nat) : Int)) (pc' := 38) rfl dX11_isCode_37 (iz_one_shl (by omega) (by omega)) ?_
        refine v_ior (z := ((2 * (u ||| bt (D % 10)) : Nat) : Int)) (pc' := 39) rfl dX11_isCode_38 (by rw [← or2b u hd1]; exact iz_orE hset rfl) ?_
        refine v_goto (tgt := 43) dX11_isCode_39 (by decide) ?_
        refine v_nm (fun set' hset' => ?_)
        refine v_istore_n (ls' := [(3, _), (0, _), (1, _), (2, _), (4, _)]) (pc' := 44) rfl dX11_isCode_43 rfl rfl rfl ?_
        refine v_iload_n 3 (pc' := 45) rfl dX11_isCode_44 rfl rfl ?_
        refine v_bipush (pc' := 47) rfl dX11_isCode_45 rfl ?_
        refine v_idiv (z := (c.tdiv 10)) (pc' := 48) rfl dX11_isCode_47 (iz_ne (by decide) (by decide)) (iz_div hcr (by decide) (by decide) (by omega)) ?_
        refine v_nm (fun c' hc' => ?_)
        refine v_istore_n (ls' := [(2, _), (3, _), (0, _), (1, _), (4, _)]) (pc' := 49) rfl dX11_isCode_48 rfl rfl rfl ?_
        refine v_iinc (ls' := [(4, _), (2, _), (3, _), (0, _), (1, _)]) 4 (pc' := 52) rfl dX11_isCode_49 rfl rfl rfl ?_
        refine v_nl (fun x' hx' => ?_)
        refine v_goto (tgt := 7) dX11_isCode_52 (by decide) ?_
        refine v_ls [3, 4, 1, 2, 0] rfl ?_
        exact ih0 (c') (set') (x') (⟨k + 1, u ||| bt (D % 10), D / 10, by omega, by omega, hset', or_lt7 hu (bt_lt hd1 (by omega)), by rw [hc']; exact hcn.1, by rw [hc']; exact Or.inl ⟨by omega, hcn.2.1 (by omega), hE (by omega), hyes⟩⟩) (by omega)

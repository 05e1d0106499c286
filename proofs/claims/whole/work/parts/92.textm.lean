/-! ===== the reference: text ===== -/
def TxK (w w' : Wd) : Prop := (∀ q, q ≠ 1 → q ≠ 2 → q ≠ 16 → q ≠ 17 → q ≠ 18 → q ≠ 19 → w' 63 q = w 63 q) ∧ Fr [63, 69, 70, 75] w w'
def TxtM (w : Wd) (n : Nat) (s a : Nat → Nat) (T : Nat → Int) (b wh k z : Int) (w' : Wd) : Prop :=
  (¬ ((wh = 0 ∨ wh = 1) ∧ 1 ≤ k ∧ k ≤ 60 ∧ k ≤ b) ∧ w' = w ∧ z = -1) ∨
  (((wh = 0 ∨ wh = 1) ∧ 1 ≤ k ∧ k ≤ 60 ∧ k ≤ b) ∧ TxK w w' ∧ w' 63 16 = 0 ∧
    (((txR n T k).1 ≠ 0 ∧ z = (txR n T k).1 ∧ RMW w' n s a) ∨
     ((txR n T k).1 = 0 ∧ ¬ ((txR n T k).2.1 = 1 ∨ (txR n T k).2.1 = 5) ∧ z = -1000 - k ∧ RMW w' n s a) ∨
     ((txR n T k).1 = 0 ∧ ((txR n T k).2.1 = 1 ∨ (txR n T k).2.1 = 5) ∧ Pm n (txG n T k) ∧ RMW w' n (if wh = 0 then txG n T k else s) (if wh = 0 then a else txG n T k) ∧ z = (cdk (txG n T k) n : Nat))))
/-- what stays while a text is read -/
def TxH (w wl : Wd) (K : Nat) : Prop := (∀ q, q ≠ 16 → q ≠ 17 → q ≠ 18 → q ≠ 19 → wl 63 q = w 63 q) ∧ Fr [63, 75] w wl ∧ wl 63 16 = 0 ∧ wl 63 18 = (K : Nat)
theorem TxH.kt {w w1 w2 : Wd} {K : Nat} (h : TxH w w1 K) (h2 : KT w1 w2) : TxH w w2 K := ⟨fun q a b c d => (h2.1 q b d).trans (h.1 q a b c d), h.2.1.trs h2.2, (h2.1 16 (by decide) (by decide)).trans h.2.2.1, (h2.1 18 (by decide) (by decide)).trans h.2.2.2⟩
def TxG (n K : Nat) (T : Nat → Int) (wl : Wd) (told : Int) (q : Nat) (S : RS) : Prop := wl 63 19 = 0 ∧ MR n T K q S ∧ wl 63 17 = (q : Nat) ∧ told = ((2 * S.2.1 : Nat) : Int) ∧ DRw wl n S
def TxI (w : Wd) (n K : Nat) (T : Nat → Int) (wl : Wd) (told more : Int) : Prop := TxH w wl K ∧
  ((more = 0 ∧ CyF n T K wl) ∨ ∃ (q : Nat) (S : RS), TxG n K T wl told q S ∧
    ((more = 1 ∧ (S.1 = 0 ∨ S.1 = 1) ∧ ((q < K ∧ T q ≠ 32) ∨ (q = K ∧ S.1 = 0)) ∧ (S.1 = 0 → q < K → T q ≠ 101)) ∨ (more = 0 ∧ q = K ∧ (S.1 = 1 ∨ S.1 = 5))))
theorem rdF_top {n st tl c : Nat} (h32 : c ≠ 32) (h40 : c ≠ 40) (hs : st = 0 ∨ st = 1) (h101 : st = 0 → c ≠ 101) : rdFault n st tl c = 1 := by
  unfold rdFault
  rw [if_neg h32, if_neg h40]
  by_cases r : c = 41
  · rw [if_pos r, if_neg (by omega)]
  · rw [if_neg r]
    by_cases u : c = 101
    · rw [if_pos u, if_neg (fun e => h101 e u)]
    · rw [if_neg u]
      by_cases d : 48 ≤ c ∧ c ≤ 57
      · rw [if_pos d, if_neg (by omega)]
      · rw [if_neg d]
theorem MR.spn {n K p p' : Nat} {T : Nat → Int} {S : RS} (h : MR n T K p S) (h1 : p ≤ p') (h2 : p' ≤ K) (hs : ∀ j, p ≤ j → j < p' → T j = 32) (h3 : S.1 ≠ 3) : MR n T K p' S := by
  obtain ⟨st, hm, hc⟩ := h.sp (p' - p) (by omega) (fun j a b => hs j a (by omega))
  rw [show p + (p' - p) = p' by omega] at hm
  have : st = S.1 := by
    rcases hc with ⟨-, e⟩ | ⟨-, e⟩
    · exact e
    · rw [e, if_neg h3]
  rw [this] at hm; exact hm
theorem MR.top {n K q : Nat} {T : Nat → Int} {S : RS} (h : MR n T K q S) (hT : ∀ j, j < 120 → 0 ≤ T j ∧ T j ≤ 255) (hK : K ≤ 60) (hs : S.1 = 0 ∨ S.1 = 1) (hq : (q < K ∧ T q ≠ 32) ∨ (q = K ∧ S.1 = 0)) (h101 : S.1 = 0 → q < K → T q ≠ 101) (h40 : q < K → T q ≠ 40) {F : Int} (hF : F = -1000 - (q : Int)) : TxE n T K F := by
  rcases hq with ⟨hk, h32⟩ | ⟨e, e0⟩
  · have := hT q (by omega)
    have h4 := h40 hk
    exact h.badE hK hk (f := 1) (rdF_top (by omega) (by omega) hs (fun e => by have := h101 e hk; omega)) (by decide) (by decide) (by omega)
  · subst e; exact h.finE hK (by omega) hF
theorem SeeP.id {T : Nat → Int} {p K : Nat} {z : Int} {w w' : Wd} (h : SeeP T p K z w w') (hp : p = K ∨ T p ≠ 32) : w' 63 17 = (p : Nat) ∧ w' 63 19 = w 63 19 ∧ KT w w' ∧ (∀ j, w' 75 j = w 75 j) ∧ ((p = K ∧ z = -1) ∨ (p < K ∧ T p ≠ 32 ∧ z = T p)) := by
  obtain ⟨p', h1, h2, hs, a, b, c, d, e⟩ := h
  have : p' = p := by
    by_cases q : p' = p
    · exact q
    · rcases hp with r | r
      · omega
      · exact absurd (hs p (Nat.le_refl p) (by omega)) r
  subst this
  exact ⟨a, b, c, d, e⟩
theorem ht_r {k b z : Int} (h : z = if 1 ≤ k ∧ k ≤ 60 ∧ k ≤ b then 1 else 0) : rg z := by rw [h]; split <;> decide
theorem SeeP.rg {T : Nat → Int} {p K : Nat} {z : Int} {w w' : Wd} (h : SeeP T p K z w w') (hT : ∀ j, j < 120 → 0 ≤ T j ∧ T j ≤ 255) (hK : K ≤ 60) : rg z := by
  obtain ⟨p', -, -, -, -, -, -, -, e⟩ := h
  rcases e with e | e
  · rw [e.2]; decide
  · have := hT p' (by omega); omega
theorem rdF_5 {n st tl c : Nat} (h32 : c ≠ 32) (hs : st = 5) : rdFault n st tl c = 1 := by
  unfold rdFault
  rw [if_neg h32]
  repeat' split
  all_goals omega
theorem dr_0 (x : Nat) : drF rs0 x = x := by
  unfold drF txF
  rw [if_neg (fun e => e.2.2 (Nat.zero_and _))]
theorem txg_dr {n K : Nat} {T : Nat → Int} {S : RS} (h : MR n T K K S) (hs : S.1 = 1 ∨ S.1 = 5) : txG n T (K : Int) = drF S := by
  unfold txG drF
  rw [h.fin, if_neg (by omega)]
set_option maxHeartbeats 4000000 in
set_option maxRecDepth 100000 in
theorem c_textM (l : Launch) (G : Gx) {wh k b : Int} {T : Nat → Int} (hwh : rg wh) (hk : rg k) (hb : rg b) (hT : ∀ j, j < 120 → 0 ≤ T j ∧ T j ≤ 255) {n : Nat} {s a : Nat → Nat} (hV : MapV n s a) (w : Wd) (hM : RMW w n s a) (hB : w 63 16 = b) (hTp : TpM w T) : Sp l G 4 mX11_text [aR 63, aI (wh), aI (k)] w (fun z w' => TxtM w n s a T b wh k z w') := by
  obtain ⟨⟨hn1, hn7⟩, hs, ha⟩ := id hV
  obtain ⟨r0, r1, r2⟩ := id hM
  refine Sp_of RX11 rfl (by decide +kernel) rfl (Nat.le_of_ble_eq_true rfl) ?_
  refine v_iload_n 1 (pc' := 1) rfl dX11_text_0 rfl rfl ?_
  refine v_iconst (pc' := 2) rfl dX11_text_1 ?_
  refine v_iconst (pc' := 3) rfl dX11_text_2 ?_
  refine v_cSP (pc' := 6) rfl dX11_text_3 lk_RX11_121 rfl (c_in l G hwh (by decide) (by decide) w) rfl rfl rfl ?_
  refine v_nm (fun in1 hin1 => ?_)
  refine v_if_eq (pc' := 9) (tgt := 17) rfl dX11_text_6 (by decide) (in_r hin1) (fun c0 => ?_) (fun c0 => ?_)
  ·
    have hno : ¬ ((wh = 0 ∨ wh = 1) ∧ 1 ≤ k ∧ k ≤ 60 ∧ k ≤ b) := fun q => in_0 hin1 (by omega) (by omega)
    refine v_iconst (pc' := 18) rfl dX11_text_17 ?_
    refine v_iret dX11_text_18 (by decide) (rfl) ?_
    exact Or.inl ⟨hno, rfl, rfl⟩
  ·
    have q1 := in_1 hin1 (by omega)
    refine v_aload_n 0 (pc' := 10) rfl dX11_text_9 rfl rfl ?_
    refine v_iload_n 2 (pc' := 11) rfl dX11_text_10 rfl rfl ?_
    refine v_cVP (pc' := 14) rfl dX11_text_11 lk_RX11_222 ly_63 rfl (c_hasText l G hk hb w hB) rfl rfl rfl ?_
    refine v_nm (fun hasText1 hhasText1 => ?_)
    refine v_if_ne (pc' := 17) (tgt := 19) rfl dX11_text_14 (by decide) (ht_r hhasText1) (fun c1 => ?_) (fun c1 => ?_)
    ·
      have q2 : 1 ≤ k ∧ k ≤ 60 ∧ k ≤ b := by
        by_cases h : 1 ≤ k ∧ k ≤ 60 ∧ k ≤ b
        · exact h
        · rw [if_neg h] at hhasText1; omega
      obtain ⟨K, hK⟩ : ∃ x : Nat, k = (x : Int) := ⟨k.toNat, by omega⟩
      refine v_aload_n 0 (pc' := 20) rfl dX11_text_19 rfl rfl ?_
      refine v_iconst (pc' := 21) rfl dX11_text_20 ?_
      refine v_put (pc' := 24) rfl dX11_text_21 fi_RX11_191 ly_63 rfl ?_
      refine v_nmw (fun w3 hw3 => ?_)
      have r0 : w3 63 0 = (n : Int) := by rw [hw3, up_ne _ _ (by omega)]; exact r0
      have r1 : w3 63 1 = ((cdk s n : Nat) : Int) := by rw [hw3, up_ne _ _ (by omega)]; exact r1
      have r2 : w3 63 2 = ((cdk a n : Nat) : Int) := by rw [hw3, up_ne _ _ (by omega)]; exact r2
      refine v_aload_n 0 (pc' := 25) rfl dX11_text_24 rfl rfl ?_
      refine v_iload_n 2 (pc' := 26) rfl dX11_text_25 rfl rfl ?_
      refine v_put (pc' := 29) rfl dX11_text_26 fi_RX11_210 ly_63 rfl ?_
      refine v_nmw (fun w4 hw4 => ?_)
      have r0 : w4 63 0 = (n : Int) := by rw [hw4, up_ne _ _ (by omega)]; exact r0
      have r1 : w4 63 1 = ((cdk s n : Nat) : Int) := by rw [hw4, up_ne _ _ (by omega)]; exact r1
      have r2 : w4 63 2 = ((cdk a n : Nat) : Int) := by rw [hw4, up_ne _ _ (by omega)]; exact r2
      refine v_aload_n 0 (pc' := 30) rfl dX11_text_29 rfl rfl ?_
      refine v_iconst (pc' := 31) rfl dX11_text_30 ?_
      refine v_put (pc' := 34) rfl dX11_text_31 fi_RX11_207 ly_63 rfl ?_
      refine v_nmw (fun w5 hw5 => ?_)
      have r0 : w5 63 0 = (n : Int) := by rw [hw5, up_ne _ _ (by omega)]; exact r0
      have r1 : w5 63 1 = ((cdk s n : Nat) : Int) := by rw [hw5, up_ne _ _ (by omega)]; exact r1
      have r2 : w5 63 2 = ((cdk a n : Nat) : Int) := by rw [hw5, up_ne _ _ (by omega)]; exact r2
      refine v_aload_n 0 (pc' := 35) rfl dX11_text_34 rfl rfl ?_
      refine v_iconst (pc' := 36) rfl dX11_text_35 ?_
      refine v_put (pc' := 39) rfl dX11_text_36 fi_RX11_213 ly_63 rfl ?_
      refine v_nmw (fun w6 hw6 => ?_)
      have r0 : w6 63 0 = (n : Int) := by rw [hw6, up_ne _ _ (by omega)]; exact r0
      have r1 : w6 63 1 = ((cdk s n : Nat) : Int) := by rw [hw6, up_ne _ _ (by omega)]; exact r1
      have r2 : w6 63 2 = ((cdk a n : Nat) : Int) := by rw [hw6, up_ne _ _ (by omega)]; exact r2
      refine v_iconst (pc' := 40) rfl dX11_text_39 ?_
      refine v_istore_n (ls' := [(3, _), (0, _), (1, _), (2, _)]) (pc' := 41) rfl dX11_text_40 rfl rfl rfl ?_
      refine v_ls [1, 2, 3, 0] rfl ?_
      refine v_loop2 41 (fun (x : Int) (wl : Wd) => ∃ m : Nat, x = (m : Int) + 1 ∧ m ≤ n ∧ (∀ v, 1 ≤ v → v ≤ m → wl 75 v = (v : Nat)) ∧ wl 63 17 = 0 ∧ wl 63 19 = 0 ∧ TxH w wl K) (fun (x : Int) (wl : Wd) => (8 - x).toNat) (fun (x : Int) (wl : Wd) => [(0, aR 63), (1, aI (wh)), (2, aI (k)), (3, aI (x))]) (fun (x : Int) (wl : Wd) => []) (fun (x : Int) (wl : Wd) => wl) (fun x wl hI0 ih0 => ?_) (1) w6 (⟨0, rfl, Nat.zero_le _, fun v a b => absurd b (by omega), by rw [hw6, up_ne _ _ (by omega), hw5, up_eq], by rw [hw6, up_eq], ⟨fun q a b c d => by rw [hw6, up_ne _ _ (by omega), hw5, up_ne _ _ (by omega), hw4, up_ne _ _ (by omega), hw3, up_ne _ _ (by omega)], by rw [hw6, hw5, hw4, hw3]; exact ((((Fr.rf _ _).up rfl).up rfl).up rfl).up rfl, by rw [hw6, up_ne _ _ (by omega), hw5, up_ne _ _ (by omega), hw4, up_ne _ _ (by omega), hw3, up_eq], by rw [hw6, up_ne _ _ (by omega), hw5, up_ne _ _ (by omega), hw4, up_eq]; exact hK⟩⟩)
      obtain ⟨m, hx, hm, hZ, p17, p19, hH⟩ := hI0
      have g0 := (hH.1 0 (by decide) (by decide) (by decide) (by decide)).trans hM.1
      refine v_iload_n 3 (pc' := 42) rfl dX11_text_41 rfl rfl ?_
      refine v_aload_n 0 (pc' := 43) rfl dX11_text_42 rfl rfl ?_
      refine v_get (z := (n : Int)) (pc' := 46) rfl dX11_text_43 fk_RX11_125 ly_63 rfl (g0) ?_
      refine v_icmp_gt (pc' := 49) (tgt := 62) rfl dX11_text_46 (by decide) (by omega) (by omega) (fun c2 => ?_) (fun c2 => ?_)
      ·
        have hmn : m = n := by omega
        have J155 : ∀ (toldf : Int) (wj : Wd) (hJ : TxI w n K T wj toldf 0), V (mX l G 4 5 (some .int) (fun z w' => TxtM w n s a T b wh k z w')) RX11 cX11_text 155 [(0, aR 63), (1, aI (wh)), (2, aI (k)), (3, aI (toldf))] [] wj := by
          intro toldf wj hJ
          obtain ⟨hHj, hcf⟩ := hJ
          obtain ⟨fv, hfv⟩ : ∃ v : Int, wj 63 19 = v := ⟨_, rfl⟩
          have hfr : rg fv := by
            rw [← hfv]
            rcases hcf with h | ⟨q, S, h, -⟩
            · exact h.2.rg
            · rw [h.1]; decide
          have e1 := hHj.1 1 (by decide) (by decide) (by decide) (by decide)
          have e2 := hHj.1 2 (by decide) (by decide) (by decide) (by decide)
          have e0 := hHj.1 0 (by decide) (by decide) (by decide) (by decide)
          refine v_aload_n 0 (pc' := 156) rfl dX11_text_155 rfl rfl ?_
          refine v_get (z := fv) (pc' := 159) rfl dX11_text_156 fk_RX11_213 ly_63 rfl (hfv) ?_
          refine v_if_eq (pc' := 162) (tgt := 167) rfl dX11_text_159 (by decide) (hfr) (fun c9 => ?_) (fun c9 => ?_)
          ·
            obtain ⟨q, S, hGf, hqK, hs15⟩ : ∃ (q : Nat) (S : RS), TxG n K T wj toldf q S ∧ q = K ∧ (S.1 = 1 ∨ S.1 = 5) := by
              rcases hcf with h | ⟨q, S, h, r | r⟩
              · exact absurd (hfv.trans (by omega)) h.2.1
              · omega
              · exact ⟨q, S, h, r.2⟩
            refine v_aload_n 0 (pc' := 168) rfl dX11_text_167 rfl rfl ?_
            refine v_iload_n 1 (pc' := 169) rfl dX11_text_168 rfl rfl ?_
            refine v_aload_n 0 (pc' := 170) rfl dX11_text_169 rfl rfl ?_
            refine v_aload_n 0 (pc' := 171) rfl dX11_text_170 rfl rfl ?_
            refine v_getR (pc' := 174) rfl dX11_text_171 fk_RX11_44 ly_63 rfl ?_
            refine v_cVP (pc' := 177) rfl dX11_text_174 lk_RX11_137 ly_63 rfl (c_told_75 l G (g := drF S) hn7 wj ((hHj.1 0 (by decide) (by decide) (by decide) (by decide)).trans hM.1) hGf.2.2.2.2) rfl rfl rfl ?_
            refine v_nm (fun told1 htold1 => ?_)
            refine v_cVv (pc' := 180) rfl dX11_text_177 lk_RX11_203 ly_63 rfl (c_puts l G hwh wj) rfl rfl rfl (fun puts1 w17 hq17 => ?_)
            have hdP : Pm n (drF S) := by
              have h := hGf.2.1.2.2.2.2 (by omega)
              unfold drF; rw [if_neg (by omega)]; exact txF_pm hn7 h
            have hVn : MapV n (if wh = 0 then drF S else s) (if wh = 0 then a else drF S) := by
              refine ⟨⟨hn1, hn7⟩, ?_, ?_⟩
              · split
                · exact hdP
                · exact hs
              · split
                · exact ha
                · exact hdP
            have hMn : RMW w17 n (if wh = 0 then drF S else s) (if wh = 0 then a else drF S) := by
              by_cases h : wh = 0
              · rw [if_pos h, if_pos h]; rw [if_pos h] at hq17; exact ⟨by rw [hq17, up_ne _ _ (by omega)]; exact e0.trans hM.1, by rw [hq17, up_eq, htold1], by rw [hq17, up_ne _ _ (by omega)]; exact e2.trans hM.2.2⟩
              · rw [if_neg h, if_neg h]; rw [if_neg h] at hq17; exact ⟨by rw [hq17, up_ne _ _ (by omega)]; exact e0.trans hM.1, by rw [hq17, up_ne _ _ (by omega)]; exact e1.trans hM.2.1, by rw [hq17, up_eq, htold1]⟩
            refine v_aload_n 0 (pc' := 181) rfl dX11_text_180 rfl rfl ?_
            refine v_iload_n 1 (pc' := 182) rfl dX11_text_181 rfl rfl ?_
            refine v_cVi (pc' := 185) rfl dX11_text_182 lk_RX11_200 ly_63 rfl (c_codeOf l G hwh (n := n) (s := if wh = 0 then drF S else s) (a := if wh = 0 then a else drF S) hVn w17 hMn) rfl rfl rfl (fun codeOf1 w18 hq18 => ?_)
            obtain ⟨f18, z18⟩ := hq18
            refine v_iret dX11_text_185 (by decide) (rfl) ?_
            refine Or.inr ⟨⟨by omega, q2⟩, ⟨fun q a b c d e f => by rw [f18 63 q rfl, hq17, up_ne _ _ (by split <;> omega)]; exact hHj.1 q c d e f, by rw [hq17] at f18; exact ((hHj.2.1.mono rfl).up rfl).trs (f18.mono rfl)⟩, by rw [f18 63 16 rfl, hq17, up_ne _ _ (by split <;> omega)]; exact hHj.2.2.1, Or.inr (Or.inr ?_)⟩
            have hm := hGf.2.1
            rw [hqK] at hm
            have hg := txg_dr hm hs15
            have hfin := hm.fin
            rw [hK, hg, hfin]
            exact ⟨rfl, hs15, hdP, ⟨(f18 63 0 rfl).trans hMn.1, (f18 63 1 rfl).trans hMn.2.1, (f18 63 2 rfl).trans hMn.2.2⟩, by
              rw [z18]
              by_cases h : wh = 0
              · rw [trF_0 h, if_pos h]
              · rw [trF_1 (by omega), if_neg h]⟩
          ·
            refine v_aload_n 0 (pc' := 163) rfl dX11_text_162 rfl rfl ?_
            refine v_get (z := fv) (pc' := 166) rfl dX11_text_163 fk_RX11_213 ly_63 rfl (hfv) ?_
            refine v_iret dX11_text_166 (by decide) (rfl) ?_
            refine Or.inr ⟨⟨by omega, q2⟩, ⟨fun q a b c d e f => hHj.1 q c d e f, hHj.2.1.mono rfl⟩, hHj.2.2.1, ?_⟩
            have hRM : RMW wj n s a := ⟨e0.trans hM.1, e1.trans hM.2.1, e2.trans hM.2.2⟩
            rcases hcf with h | ⟨q, S, h, -⟩
            · have ht := h.2.2.2
              rw [hfv] at ht
              rw [hK]
              rcases ht with t | t
              · exact Or.inl ⟨t.1, t.2, hRM⟩
              · exact Or.inr (Or.inl ⟨t.1, t.2.1, t.2.2, hRM⟩)
            · exact absurd (hfv.symm.trans h.1) (by omega)
        refine v_iconst (pc' := 63) rfl dX11_text_62 ?_
        refine v_istore_n (ls' := [(3, _), (0, _), (1, _), (2, _)]) (pc' := 64) rfl dX11_text_63 rfl rfl rfl ?_
        refine v_aload_n 1 (pc' := 65) rfl dX11_text_64 rfl rfl ?_
        refine v_cVi (pc' := 68) rfl dX11_text_65 lk_RX11_216 ly_63 rfl (c_see l G (p := 0) (K := K) hT (by omega) (Nat.zero_le _) wl p17 hH.2.2.2 (fun j hj => (hH.2.1 74 j rfl).trans (hTp j hj))) rfl rfl rfl (fun see1 w8 hq8 => ?_)
        have hsr8 := hq8.rg hT (by omega)
        obtain ⟨r, hr0, hrK, hsp, g17, g19, hk8, g75, hz⟩ := hq8
        have hm8 := (MR.init (n := n) (K := K) (T := T) hn7).spn hr0 hrK hsp (by decide)
        have hH8 := hH.kt hk8
        have hG8 : TxG n K T w8 0 r rs0 := ⟨g19.trans p19, hm8, g17, rfl, fun x p q => by rw [g75, dr_0]; exact hZ x p (by omega)⟩
        refine v_bipush (pc' := 70) rfl dX11_text_68 rfl ?_
        refine v_icmp_ne (pc' := 73) (tgt := 99) rfl dX11_text_70 (by decide) (hsr8) (by decide) (fun c3 => ?_) (fun c3 => ?_)
        ·
          refine v_iconst (pc' := 100) rfl dX11_text_99 ?_
          refine v_istore (ls' := [(4, _), (3, _), (0, _), (1, _), (2, _)]) (pc' := 102) rfl dX11_text_100 rfl rfl ?_
          refine v_ls [2, 3, 4, 1, 0] rfl ?_
          refine v_loop3 102 (fun (told : Int) (more : Int) (wm : Wd) => TxI w n K T wm told more) (fun (told : Int) (more : Int) (wm : Wd) => (if more = 0 then 0 else (62 - wm 63 17).toNat)) (fun (told : Int) (more : Int) (wm : Wd) => [(0, aR 63), (1, aI (wh)), (2, aI (k)), (3, aI (told)), (4, aI (more))]) (fun (told : Int) (more : Int) (wm : Wd) => []) (fun (told : Int) (more : Int) (wm : Wd) => wm) (fun told more wm hI1 ih1 => ?_) (0) (1) w8 (⟨hH8, Or.inr ⟨r, rs0, hG8, Or.inl ⟨rfl, Or.inl rfl, hz.elim (fun z => Or.inr ⟨z.1, rfl⟩) (fun z => Or.inl ⟨z.1, z.2.1⟩), fun _ h e => by rcases hz with z | z <;> omega⟩⟩⟩)
          have hIl := hI1
          obtain ⟨hHl, hcase⟩ := hI1
          have hmr : more = 1 ∨ more = 0 := by
            rcases hcase with h | ⟨q, S, -, h | h⟩
            · exact Or.inr h.1
            · exact Or.inl h.1
            · exact Or.inr h.1
          refine v_iload 4 (pc' := 104) rfl dX11_text_102 rfl ?_
          refine v_if_eq (pc' := 107) (tgt := 155) rfl dX11_text_104 (by decide) (by omega) (fun c5 => ?_) (fun c5 => ?_)
          ·
            refine v_ls [0, 1, 2, 3] rfl ?_
            exact J155 (told) wm (by have e : more = 0 := (by omega); rw [← e]; exact hIl)
          ·
            obtain ⟨q, S, hGq, hst, hqs, hq101⟩ : ∃ (q : Nat) (S : RS), TxG n K T wm told q S ∧ (S.1 = 0 ∨ S.1 = 1) ∧ ((q < K ∧ T q ≠ 32) ∨ (q = K ∧ S.1 = 0)) ∧ (S.1 = 0 → q < K → T q ≠ 101) := by
              rcases hcase with h | ⟨q, S, h, r | r⟩
              · omega
              · exact ⟨q, S, h, r.2⟩
              · omega
            refine v_aload_n 0 (pc' := 108) rfl dX11_text_107 rfl rfl ?_
            refine v_cVi (pc' := 111) rfl dX11_text_108 lk_RX11_216 ly_63 rfl (c_see l G (p := q) (K := K) hT (by omega) hGq.2.1.1 wm hGq.2.2.1 hHl.2.2.2 (fun j hj => (hHl.2.1 74 j rfl).trans (hTp j hj))) rfl rfl rfl (fun see3 w12 hq12 => ?_)
            have hsr12 := hq12.rg hT (by omega)
            obtain ⟨l17, l19, hk12, l75, hz3⟩ := hq12.id (by omega)
            have hH12 := hHl.kt hk12
            have f12 : w12 63 19 = 0 := l19.trans hGq.1
            have J130 : ∀ (told2 : Int) (wj : Wd) (hJ : TxH w wj K ∧ (CyF n T K wj ∨ (∃ (q2 : Nat) (S2 : RS), TxG n K T wj told2 q2 S2 ∧ S2.1 = 1 ∧ q < q2))), V (mX l G 4 5 (some .int) (fun z w' => TxtM w n s a T b wh k z w')) RX11 cX11_text 130 [(0, aR 63), (1, aI (wh)), (2, aI (k)), (3, aI (told2)), (4, aI (more))] [] wj := by
              intro told2 wj hJ
              obtain ⟨hHj, hcj⟩ := hJ
              obtain ⟨fv, hfv⟩ : ∃ v : Int, wj 63 19 = v := ⟨_, rfl⟩
              have hfr : rg fv := by
                rw [← hfv]
                rcases hcj with h | ⟨q2, S2, h, -⟩
                · exact h.rg
                · rw [h.1]; decide
              have J150 : ∀ (m2 : Int) (wx : Wd) (hJ : TxI w n K T wx told2 m2 ∧ (m2 = 0 ∨ (m2 = 1 ∧ ((q : Nat) : Int) < wx 63 17))), V (mX l G 4 5 (some .int) (fun z w' => TxtM w n s a T b wh k z w')) RX11 cX11_text 150 [(0, aR 63), (1, aI (wh)), (2, aI (k)), (3, aI (told2)), (4, aI (more))] [aI (m2)] wx := by
                intro m2 wx hJ
                obtain ⟨hI150, hpr⟩ := hJ
                refine v_istore (ls' := [(4, _), (0, _), (1, _), (2, _), (3, _)]) (pc' := 152) rfl dX11_text_150 rfl rfl ?_
                refine v_goto (tgt := 102) dX11_text_152 (by decide) ?_
                refine v_ls [1, 2, 3, 4, 0] rfl ?_
                exact ih1 (told2) (m2) wx (hI150) (by have hp := hGq.2.2.1; have hq9 := hGq.2.1.1; rw [hp]; rcases hpr with h | h <;> first | (rw [if_pos h, if_neg (by omega)]; omega) | (rw [if_neg (by omega), if_neg (by omega)]; omega))
              refine v_aload_n 0 (pc' := 131) rfl dX11_text_130 rfl rfl ?_
              refine v_get (z := fv) (pc' := 134) rfl dX11_text_131 fk_RX11_213 ly_63 rfl (hfv) ?_
              refine v_if_ne (pc' := 137) (tgt := 149) rfl dX11_text_134 (by decide) (hfr) (fun c7 => ?_) (fun c7 => ?_)
              ·
                refine v_iconst (pc' := 150) rfl dX11_text_149 ?_
                exact J150 (0) wj (⟨⟨hHj, Or.inl ⟨rfl, hcj.elim id (fun h => by obtain ⟨q2, S2, h, -⟩ := h; exact absurd (hfv.symm.trans h.1) (by omega))⟩⟩, Or.inl rfl⟩)
              ·
                obtain ⟨q2, S2, hG2, hs21, hqq⟩ : ∃ (q2 : Nat) (S2 : RS), TxG n K T wj told2 q2 S2 ∧ S2.1 = 1 ∧ q < q2 := by
                  rcases hcj with h | h
                  · exact absurd (hfv.trans (by omega)) h.1
                  · exact h
                refine v_aload_n 0 (pc' := 138) rfl dX11_text_137 rfl rfl ?_
                refine v_cVi (pc' := 141) rfl dX11_text_138 lk_RX11_216 ly_63 rfl (c_see l G (p := q2) (K := K) hT (by omega) hG2.2.1.1 wj hG2.2.2.1 hHj.2.2.2 (fun j hj => (hHj.2.1 74 j rfl).trans (hTp j hj))) rfl rfl rfl (fun see4 w15 hq15 => ?_)
                have hsr15 := hq15.rg hT (by omega)
                obtain ⟨r3, hr3, hrK3, hsp3, m17, m19, hk15, m75, hz4⟩ := hq15
                have hm15 := hG2.2.1.spn hr3 hrK3 hsp3 (by rw [hs21]; decide)
                have hH15 := hHj.kt hk15
                have hG15 : TxG n K T w15 told2 r3 S2 := ⟨m19.trans hG2.1, hm15, m17, hG2.2.2.2.1, hG2.2.2.2.2.fr m75 rfl⟩
                refine v_iconst (pc' := 142) rfl dX11_text_141 ?_
                refine v_icmp_eq (pc' := 145) (tgt := 149) rfl dX11_text_142 (by decide) (hsr15) (by decide) (fun c8 => ?_) (fun c8 => ?_)
                ·
                  refine v_iconst (pc' := 150) rfl dX11_text_149 ?_
                  exact J150 (0) w15 (⟨⟨hH15, Or.inr ⟨r3, S2, hG15, Or.inr ⟨rfl, by have := hT r3 (by omega); rcases hz4 with z | z <;> omega, Or.inl hs21⟩⟩⟩, Or.inl rfl⟩)
                ·
                  refine v_iconst (pc' := 146) rfl dX11_text_145 ?_
                  refine v_goto (tgt := 150) dX11_text_146 (by decide) ?_
                  exact J150 (1) w15 (⟨⟨hH15, Or.inr ⟨r3, S2, hG15, Or.inl ⟨rfl, Or.inr hs21, Or.inl (by rcases hz4 with z | z; omega; exact ⟨z.1, z.2.1⟩), fun h => by omega⟩⟩⟩, Or.inr ⟨rfl, by rw [m17]; omega⟩⟩)
            refine v_bipush (pc' := 113) rfl dX11_text_111 rfl ?_
            refine v_icmp_eq (pc' := 116) (tgt := 124) rfl dX11_text_113 (by decide) (hsr12) (by decide) (fun c6 => ?_) (fun c6 => ?_)
            ·
              obtain ⟨hqK, h40⟩ : q < K ∧ T q = 40 := by
                rcases hz3 with z | z
                · omega
                · exact ⟨z.1, by omega⟩
              refine v_aload_n 0 (pc' := 125) rfl dX11_text_124 rfl rfl ?_
              refine v_iload_n 3 (pc' := 126) rfl dX11_text_125 rfl rfl ?_
              refine v_cVi (pc' := 129) rfl dX11_text_126 lk_RX11_225 ly_63 rfl (c_readsCycle l G (p := q) (K := K) (S := S) hT (by omega) hn1 hn7 hGq.2.1 hqK h40 hst hGq.2.2.2.1 w12 l17 hH12.2.2.2 f12 (fun j hj => (hH12.2.1 74 j rfl).trans (hTp j hj)) ((hH12.1 0 (by decide) (by decide) (by decide) (by decide)).trans hM.1) (hGq.2.2.2.2.fr l75 rfl)) rfl rfl rfl (fun readsCycle1 w14 hq14 => ?_)
              obtain ⟨hk14, hcy⟩ := hq14
              have hH14 := hH12.kt hk14
              refine v_istore_n (ls' := [(3, _), (0, _), (1, _), (2, _), (4, _)]) (pc' := 130) rfl dX11_text_129 rfl rfl rfl ?_
              refine v_ls [1, 2, 3, 0, 4] rfl ?_
              exact J130 (readsCycle1) w14 (⟨hH14, hcy.elim Or.inl (fun h => by obtain ⟨h0, q2, S2, a1, b1, c1, d1, e1, f1⟩ := h; exact Or.inr ⟨q2, S2, ⟨h0, a1, c1, d1, e1⟩, b1, f1⟩)⟩)
            ·
              refine v_aload_n 0 (pc' := 117) rfl dX11_text_116 rfl rfl ?_
              refine v_iconst (pc' := 118) rfl dX11_text_117 ?_
              refine v_cVv (pc' := 121) rfl dX11_text_118 lk_RX11_219 ly_63 rfl (c_wrong l G (kd := 1) (by decide) (show q ≤ 60 by omega) w12 l17 f12) rfl rfl rfl (fun wrong2 w13 hq13 => ?_)
              refine v_goto (tgt := 130) dX11_text_121 (by decide) ?_
              exact J130 (told) w13 (⟨hH12.kt (by rw [hq13]; exact kt_up (KT.rf _) (Or.inr rfl)), Or.inl ⟨by rw [hq13, up_eq]; omega, by rw [hq13, up_eq]; exact MR.top hGq.2.1 hT (by omega) hst hqs hq101 (fun _ _ => by rcases hz3 with z | z <;> omega) (by omega)⟩⟩)
        ·
          obtain ⟨hrk, h101⟩ : r < K ∧ T r = 101 := by
            rcases hz with z | z
            · omega
            · exact ⟨z.1, by omega⟩
          have hm9 := hm8.step hrk (by rw [h101]; rfl)
          rw [h101] at hm9
          refine v_aload_n 1 (pc' := 74) rfl dX11_text_73 rfl rfl ?_
          refine v_aload_n 1 (pc' := 75) rfl dX11_text_74 rfl rfl ?_
          refine v_get (z := ((r : Nat) : Int)) (pc' := 78) rfl dX11_text_75 fk_RX11_207 ly_63 rfl (g17) ?_
          refine v_iconst (pc' := 79) rfl dX11_text_78 ?_
          refine v_iadd (pc' := 80) rfl dX11_text_79 ?_
          refine v_put (pc' := 83) rfl dX11_text_80 fi_RX11_207 ly_63 rfl ?_
          refine v_nmw (fun w9 hw9 => ?_)
          have p9 : w9 63 17 = ((r + 1 : Nat) : Int) := by rw [hw9, up_eq]; omega
          have hH9 : TxH w w9 K := hH8.kt (by rw [hw9]; exact kt_up (KT.rf _) (Or.inl rfl))
          have f9 : w9 63 19 = 0 := by rw [hw9, up_ne _ _ (by omega)]; exact g19.trans p19
          refine v_aload_n 1 (pc' := 84) rfl dX11_text_83 rfl rfl ?_
          refine v_cVi (pc' := 87) rfl dX11_text_84 lk_RX11_216 ly_63 rfl (c_see l G (p := r + 1) (K := K) hT (by omega) (by omega) w9 p9 hH9.2.2.2 (fun j hj => (hH9.2.1 74 j rfl).trans (hTp j hj))) rfl rfl rfl (fun see2 w10 hq10 => ?_)
          have hsr10 := hq10.rg hT (by omega)
          obtain ⟨r2, hr2, hrK2, hsp2, k17, k19, hk10, k75, hz2⟩ := hq10
          have hm10 := hm9.spn hr2 hrK2 hsp2 (by decide)
          have hH10 := hH9.kt hk10
          have f10 : w10 63 19 = 0 := k19.trans f9
          refine v_iconst (pc' := 88) rfl dX11_text_87 ?_
          refine v_icmp_eq (pc' := 91) (tgt := 155) rfl dX11_text_88 (by decide) (hsr10) (by decide) (fun c4 => ?_) (fun c4 => ?_)
          ·
            refine v_ls [1, 2, 3, 0] rfl ?_
            exact J155 (0) w10 (⟨hH10, Or.inr ⟨r2, rdN rs0 101, ⟨f10, hm10, k17, rfl, hG8.2.2.2.2.fr (fun j => by rw [k75, hw9, up_ne _ _ (by omega)]) rfl⟩, Or.inr ⟨rfl, by have := hT r2 (by omega); rcases hz2 with z | z <;> omega, Or.inr rfl⟩⟩⟩)
          ·
            refine v_aload_n 1 (pc' := 92) rfl dX11_text_91 rfl rfl ?_
            refine v_iconst (pc' := 93) rfl dX11_text_92 ?_
            refine v_cVv (pc' := 96) rfl dX11_text_93 lk_RX11_219 ly_63 rfl (c_wrong l G (kd := 1) (by decide) (show r2 ≤ 60 by omega) w10 k17 f10) rfl rfl rfl (fun wrong1 w11 hq11 => ?_)
            refine v_goto (tgt := 155) dX11_text_96 (by decide) ?_
            refine v_ls [1, 2, 3, 0] rfl ?_
            exact J155 (0) w11 (⟨hH10.kt (by rw [hq11]; exact kt_up (KT.rf _) (Or.inr rfl)), Or.inl ⟨rfl, by rw [hq11, up_eq]; omega, by rw [hq11, up_eq]; exact hm10.badE (by omega) (by rcases hz2 with z | z <;> omega) (f := 1) (rdF_5 (by have := hT r2 (by omega); rcases hz2 with z | z <;> omega) rfl) (by decide) (by decide) (by omega)⟩⟩)
      ·
        refine v_aload_n 0 (pc' := 50) rfl dX11_text_49 rfl rfl ?_
        refine v_getR (pc' := 53) rfl dX11_text_50 fk_RX11_44 ly_63 rfl ?_
        refine v_iload_n 3 (pc' := 54) rfl dX11_text_53 rfl rfl ?_
        refine v_iload_n 3 (pc' := 55) rfl dX11_text_54 rfl rfl ?_
        refine v_iast (pc' := 56) rfl dX11_text_55 ly_75 (by omega) (by omega) rfl ?_
        refine v_nmw (fun w7 hw7 => ?_)
        have g0 : w7 63 0 = (n : Int) := by rw [hw7, up_ne _ _ (by omega)]; exact g0
        refine v_iinc (ls' := [(3, _), (0, _), (1, _), (2, _)]) 3 (pc' := 59) rfl dX11_text_56 rfl rfl rfl ?_
        refine v_nl (fun x' hx' => ?_)
        refine v_goto (tgt := 41) dX11_text_59 (by decide) ?_
        refine v_ls [1, 2, 3, 0] rfl ?_
        exact ih0 (x') w7 (⟨m + 1, by omega, by omega, fun v a b => by
            rw [hw7, up_at]
            by_cases e : v = m + 1
            · rw [if_pos ⟨rfl, by omega⟩]; omega
            · rw [if_neg (fun r => e (by omega))]; exact hZ v a (by omega), by rw [hw7, up_ne _ _ (by omega)]; exact p17, by rw [hw7, up_ne _ _ (by omega)]; exact p19, hH.kt (by rw [hw7]; exact kt_75 (KT.rf _))⟩) (by omega)
    ·
      have hno : ¬ ((wh = 0 ∨ wh = 1) ∧ 1 ≤ k ∧ k ≤ 60 ∧ k ≤ b) := fun q => by rw [if_pos q.2] at hhasText1; omega
      refine v_iconst (pc' := 18) rfl dX11_text_17 ?_
      refine v_iret dX11_text_18 (by decide) (rfl) ?_
      exact Or.inl ⟨hno, rfl, rfl⟩

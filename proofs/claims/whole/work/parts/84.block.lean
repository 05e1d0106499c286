/-! ===== the reference: the systems in turn, block ===== -/
theorem sysI_s (s a : Nat → Nat) (d m : Nat) : sysI s a d (m + 1) = if sysP s a d (2 * m + 1) then sysI s a d m ++ [2 * m + 1] else sysI s a d m := rfl
theorem sysI_len (s a : Nat → Nat) (d : Nat) : ∀ m, (sysI s a d m).length ≤ m
  | 0 => Nat.le_refl _
  | m + 1 => by
    have := sysI_len s a d m
    rw [sysI_s]; split
    · rw [List.length_append]; simp; omega
    · omega
theorem sysA_len {n : Nat} (h7 : n ≤ 7) (s a : Nat → Nat) : ∀ e, (sysA n s a e).length ≤ 64 * e
  | 0 => Nat.le_refl _
  | e + 1 => by
    have := sysA_len h7 s a e
    have h := sysI_len s a (e + 2) (2 ^ (n - 1))
    have : 2 ^ (n - 1) ≤ 2 ^ 6 := Nat.pow_le_pow_right (by decide) (by omega)
    simp only [sysA, List.length_append]; omega
def BLKD : Prop := ∀ (n : Nat) (s a : Nat → Nat), 1 ≤ n → n ≤ 7 → Pm n s → Pm n a → joinB s a n = true → ∀ d, 2 ≤ d → d < n → n % d ≠ 0 → sysI s a d (2 ^ (n - 1)) = []
def RcW (w : Wd) (X : List Nat) (wh : Int) : Prop := ∀ i : Nat, wh = i → i < X.length → w 63 34 = (popc (X.getD i 0) : Nat) ∧ w 63 35 = (X.getD i 0 : Nat)
theorem RcW.fr {w w' : Wd} {X : List Nat} {wh : Int} (h : RcW w X wh) (h1 : w' 63 34 = w 63 34) (h2 : w' 63 35 = w 63 35) : RcW w' X wh := fun i a b => by rw [h1, h2]; exact h i a b
theorem RcW.hit {w w' : Wd} {X : List Nat} {wh : Int} {v d : Nat} (hl : wh = (X.length : Nat)) (hd : popc v = d) (e1 : w' 63 34 = (d : Nat)) (e2 : w' 63 35 = (v : Nat)) : RcW w' (X ++ [v]) wh := fun i a b => by
  have : i = X.length := by omega
  rw [this, List.getD_eq_getElem?_getD, List.getElem?_append_right (Nat.le_refl _), Nat.sub_self, e1, e2, ← hd]
  exact ⟨rfl, rfl⟩
theorem RcW.oth {w w' : Wd} {X : List Nat} {wh : Int} {v : Nat} (h : RcW w X wh) (hl : wh ≠ (X.length : Nat)) (h1 : w' 63 34 = w 63 34) (h2 : w' 63 35 = w 63 35) : RcW w' (X ++ [v]) wh := fun i a b => by
  rw [List.length_append] at b
  have b' : i < X.length + 1 := b
  have hi : i < X.length := by omega
  rw [h1, h2, List.getD_eq_getElem?_getD, List.getElem?_append_left hi, ← List.getD_eq_getElem?_getD]
  exact h i a hi
theorem Ks.scr {w w' : Wd} (h : Ks w w') : Scr w w' := fun o j k => by
  by_cases e : o = 63
  · rw [e] at k ⊢
    exact h.1 j (fun e2 => by rw [e2] at k; exact absurd k (by decide))
  · refine h.2 o j ?_
    rw [← Bool.not_eq_true]; intro hh
    have : o = 63 ∨ o = 76 ∨ o = 77 ∨ o = 81 := by simpa using hh
    rw [keepB_ne e j 0] at k
    rcases this with e2 | e2 | e2 | e2
    · exact e e2
    all_goals (rw [e2] at k; exact absurd k (by decide))
set_option maxHeartbeats 4000000 in
set_option maxRecDepth 100000 in
theorem c_systemsM (l : Launch) (G : Gx) {wh : Int} (hwh : rg wh) (hblk : BLKD) {n : Nat} {s a : Nat → Nat} (hV : MapV n s a) (w : Wd) (hM : RMW w n s a) : Sp l G 4 mX11_systems [aR 63, aI (wh)] w (fun z w' => Scr w w' ∧ ((joinB s a n = false ∧ z = 0) ∨ (joinB s a n = true ∧ z = ((sysL n s a).length : Nat) ∧ RcW w' (sysL n s a) wh))) := by
  obtain ⟨⟨hn1, hn7⟩, hs, ha⟩ := id hV
  obtain ⟨r0, r1, r2⟩ := id hM
  have h2n : 2 ^ n ≤ 128 := Nat.pow_le_pow_right (show 2 > 0 by decide) hn7
  refine Sp_of RX11 rfl (by decide +kernel) rfl (Nat.le_of_ble_eq_true rfl) ?_
  refine v_iconst (pc' := 1) rfl dX11_systems_0 ?_
  refine v_istore_n (ls' := [(2, _), (0, _), (1, _)]) (pc' := 2) rfl dX11_systems_1 rfl rfl rfl ?_
  refine v_aload_n 1 (pc' := 3) rfl dX11_systems_2 rfl rfl ?_
  refine v_cVi (pc' := 6) rfl dX11_systems_3 lk_RX11_311 ly_63 rfl (c_isOne l G hV w hM) rfl rfl rfl (fun isOne1 w1 hq1 => ?_)
  obtain ⟨f1, z1⟩ := hq1
  have r0 : w1 63 0 = (n : Int) := (f1 63 0 (by decide)).trans r0
  have r1 : w1 63 1 = ((cdk s n : Nat) : Int) := (f1 63 1 (by decide)).trans r1
  have r2 : w1 63 2 = ((cdk a n : Nat) : Int) := (f1 63 2 (by decide)).trans r2
  refine v_if_ne (pc' := 9) (tgt := 11) rfl dX11_systems_6 (by decide) (jn_r z1) (fun c0 => ?_) (fun c0 => ?_)
  ·
    have hjy := jn_1 z1 (by omega)
    refine v_iconst (pc' := 12) rfl dX11_systems_11 ?_
    refine v_istore_n (ls' := [(3, _), (2, _), (0, _), (1, _)]) (pc' := 13) rfl dX11_systems_12 rfl rfl rfl ?_
    refine v_ls [2, 3, 1, 0] rfl ?_
    refine v_loop3 13 (fun (many : Int) (d : Int) (wl : Wd) => ∃ e : Nat, d = (e : Int) + 2 ∧ e ≤ n - 2 ∧ many = ((sysA n s a e).length : Nat) ∧ RcW wl (sysA n s a e) wh ∧ Scr w wl) (fun (many : Int) (d : Int) (wl : Wd) => (8 - d).toNat) (fun (many : Int) (d : Int) (wl : Wd) => [(0, aR 63), (1, aI (wh)), (2, aI (many)), (3, aI (d))]) (fun (many : Int) (d : Int) (wl : Wd) => []) (fun (many : Int) (d : Int) (wl : Wd) => wl) (fun many d wl hI0 ih0 => ?_) (0) (2) w1 (⟨0, rfl, by omega, rfl, fun i a b => absurd b (Nat.not_lt_zero _), Scr.of f1 (by decide)⟩)
    obtain ⟨e, hd, he, hmany, hRc, hsl⟩ := hI0
    have g0 := (hsl 63 0 (by decide)).trans hM.1
    have hAl := sysA_len hn7 s a e
    refine v_iload_n 3 (pc' := 14) rfl dX11_systems_13 rfl rfl ?_
    refine v_aload_n 0 (pc' := 15) rfl dX11_systems_14 rfl rfl ?_
    refine v_get (z := (n : Int)) (pc' := 18) rfl dX11_systems_15 fk_RX11_125 ly_63 rfl (g0) ?_
    refine v_icmp_ge (pc' := 21) (tgt := 103) rfl dX11_systems_18 (by decide) (by omega) (by omega) (fun c1 => ?_) (fun c1 => ?_)
    ·
      have hee : e = n - 2 := by omega
      refine v_iload_n 2 (pc' := 104) rfl dX11_systems_103 rfl rfl ?_
      refine v_iret dX11_systems_104 (by decide) (rfl) ?_
      exact ⟨hsl, Or.inr ⟨hjy, by rw [hmany, hee]; rfl, by rw [hee] at hRc; exact hRc⟩⟩
    ·
      have hrl := Nat.mod_lt n (show 0 < e + 2 by omega)
      refine v_aload_n 0 (pc' := 22) rfl dX11_systems_21 rfl rfl ?_
      refine v_get (z := (n : Int)) (pc' := 25) rfl dX11_systems_22 fk_RX11_125 ly_63 rfl (g0) ?_
      refine v_iload_n 3 (pc' := 26) rfl dX11_systems_25 rfl rfl ?_
      refine v_irem (z := ((n % (e + 2) : Nat) : Int)) (pc' := 27) rfl dX11_systems_26 (iz_ne (by omega) (by omega)) (by rw [hd, show (e : Int) + 2 = ((e + 2 : Nat) : Int) by omega]; exact iz_remN (by omega) (by omega) (by omega) (by omega)) ?_
      refine v_if_eq (pc' := 30) (tgt := 33) rfl dX11_systems_27 (by decide) (by omega) (fun c2 => ?_) (fun c2 => ?_)
      ·
        refine v_iconst (pc' := 34) rfl dX11_systems_33 ?_
        refine v_istore (ls' := [(4, _), (0, _), (1, _), (2, _), (3, _)]) (pc' := 36) rfl dX11_systems_34 rfl rfl ?_
        refine v_ls [1, 2, 3, 4, 0] rfl ?_
        refine v_loop3 36 (fun (many : Int) (v : Int) (wm : Wd) => ∃ m : Nat, v = ((2 * m + 1 : Nat) : Int) ∧ m ≤ 2 ^ (n - 1) ∧ many = ((sysA n s a e ++ sysI s a (e + 2) m).length : Nat) ∧ RcW wm (sysA n s a e ++ sysI s a (e + 2) m) wh ∧ Scr w wm) (fun (many : Int) (v : Int) (wm : Wd) => (130 - v).toNat) (fun (many : Int) (v : Int) (wm : Wd) => [(0, aR 63), (1, aI (wh)), (2, aI (many)), (3, aI (d)), (4, aI (v))]) (fun (many : Int) (v : Int) (wm : Wd) => []) (fun (many : Int) (v : Int) (wm : Wd) => wm) (fun many v wm hI1 ih1 => ?_) (many) (1) wl (⟨0, rfl, Nat.zero_le _, by show _ = (((sysA n s a e) ++ []).length : Int); rw [List.append_nil]; exact hmany, by show RcW _ ((sysA n s a e) ++ []) wh; rw [List.append_nil]; exact hRc, hsl⟩)
        obtain ⟨m, hv, hm, hmany2, hRm, hsm⟩ := hI1
        have g0 := (hsm 63 0 (by decide)).trans hM.1
        have hIl := sysI_len s a (e + 2) m
        have hXl : (sysA n s a e ++ sysI s a (e + 2) m).length = (sysA n s a e).length + (sysI s a (e + 2) m).length := List.length_append
        have h2m : 2 ^ n = 2 * 2 ^ (n - 1) := by conv => lhs; rw [show n = n - 1 + 1 by omega, Nat.pow_succ']
        refine v_iload 4 (pc' := 38) rfl dX11_systems_36 rfl ?_
        refine v_iconst (pc' := 39) rfl dX11_systems_38 ?_
        refine v_aload_n 0 (pc' := 40) rfl dX11_systems_39 rfl rfl ?_
        refine v_get (z := (n : Int)) (pc' := 43) rfl dX11_systems_40 fk_RX11_125 ly_63 rfl (g0) ?_
        refine v_ishl (z := ((2 ^ n : Nat) : Int)) (pc' := 44) rfl dX11_systems_43 (iz_one_shl rfl (by omega)) ?_
        refine v_icmp_ge (pc' := 47) (tgt := 97) rfl dX11_systems_44 (by decide) (by omega) (by omega) (fun c3 => ?_) (fun c3 => ?_)
        ·
          have hme : m = 2 ^ (n - 1) := by omega
          refine v_iinc (ls' := [(3, _), (0, _), (1, _), (2, _), (4, _)]) 3 (pc' := 100) rfl dX11_systems_97 rfl rfl rfl ?_
          refine v_nl (fun d' hd' => ?_)
          refine v_goto (tgt := 13) dX11_systems_100 (by decide) ?_
          refine v_ls [1, 2, 3, 0] rfl ?_
          exact ih0 (many) (d') wm (⟨e + 1, by omega, by omega, by rw [hmany2, hme]; rfl, by rw [hme] at hRm; exact hRm, hsm⟩) (by omega)
        ·
          have hp14 := popc_le14 (2 * m + 1)
          refine v_iload 4 (pc' := 49) rfl dX11_systems_47 rfl ?_
          refine v_cSP (pc' := 52) rfl dX11_systems_49 lk_RX11_283 rfl (c_bits l G hv (by omega) wm) rfl rfl rfl ?_
          refine v_nm (fun bits1 hbits1 => ?_)
          refine v_iload_n 3 (pc' := 53) rfl dX11_systems_52 rfl rfl ?_
          refine v_icmp_ne (pc' := 56) (tgt := 88) rfl dX11_systems_53 (by decide) (by omega) (by omega) (fun c4 => ?_) (fun c4 => ?_)
          ·
            have hno : ¬ sysP s a (e + 2) (2 * m + 1) = true := fun q => by
              unfold sysP at q; rw [Bool.and_eq_true, beq_iff_eq] at q
              omega
            refine v_iload 4 (pc' := 90) rfl dX11_systems_88 rfl ?_
            refine v_iconst (pc' := 91) rfl dX11_systems_90 ?_
            refine v_iadd (pc' := 92) rfl dX11_systems_91 ?_
            refine v_nm (fun v' hv' => ?_)
            refine v_istore (ls' := [(4, _), (0, _), (1, _), (2, _), (3, _)]) (pc' := 94) rfl dX11_systems_92 rfl rfl ?_
            refine v_goto (tgt := 36) dX11_systems_94 (by decide) ?_
            refine v_ls [1, 2, 3, 4, 0] rfl ?_
            exact ih1 (many) (v') wm (⟨m + 1, by omega, by omega, by rw [sysI_s, if_neg hno]; exact hmany2, by rw [sysI_s, if_neg hno]; exact hRm, hsm⟩) (by omega)
          ·
            have hpe : popc (2 * m + 1) = e + 2 := by omega
            refine v_aload_n 0 (pc' := 57) rfl dX11_systems_56 rfl rfl ?_
            refine v_iload 4 (pc' := 59) rfl dX11_systems_57 rfl ?_
            refine v_cVi (pc' := 62) rfl dX11_systems_59 lk_RX11_315 ly_63 rfl (c_isSystem l G hv (by omega) hV (by omega) wm (hM.s hsm)) rfl rfl rfl (fun isSystem1 w3 hq3 => ?_)
            obtain ⟨z3, -, -, hK3⟩ := hq3
            have g0 : w3 63 0 = (n : Int) := (hK3.scr 63 0 (by decide)).trans g0
            refine v_if_ne (pc' := 65) (tgt := 68) rfl dX11_systems_62 (by decide) (os_r z3) (fun c5 => ?_) (fun c5 => ?_)
            ·
              have hyes : sysP s a (e + 2) (2 * m + 1) = true := by
                obtain ⟨K, hK⟩ := some_of z3 (by omega)
                unfold sysP; rw [hK, hpe, beq_self_eq_true]; rfl
              refine v_iload_n 2 (pc' := 69) rfl dX11_systems_68 rfl rfl ?_
              refine v_iload_n 1 (pc' := 70) rfl dX11_systems_69 rfl rfl ?_
              refine v_icmp_ne (pc' := 73) (tgt := 84) rfl dX11_systems_70 (by decide) (by omega) (by omega) (fun c6 => ?_) (fun c6 => ?_)
              ·
                refine v_iload_n 2 (pc' := 85) rfl dX11_systems_84 rfl rfl ?_
                refine v_iconst (pc' := 86) rfl dX11_systems_85 ?_
                refine v_iadd (pc' := 87) rfl dX11_systems_86 ?_
                refine v_nm (fun many' hmany' => ?_)
                refine v_istore_n (ls' := [(2, _), (0, _), (1, _), (3, _), (4, _)]) (pc' := 88) rfl dX11_systems_87 rfl rfl rfl ?_
                refine v_iload 4 (pc' := 90) rfl dX11_systems_88 rfl ?_
                refine v_iconst (pc' := 91) rfl dX11_systems_90 ?_
                refine v_iadd (pc' := 92) rfl dX11_systems_91 ?_
                refine v_nm (fun v' hv' => ?_)
                refine v_istore (ls' := [(4, _), (2, _), (0, _), (1, _), (3, _)]) (pc' := 94) rfl dX11_systems_92 rfl rfl ?_
                refine v_goto (tgt := 36) dX11_systems_94 (by decide) ?_
                refine v_ls [2, 3, 1, 4, 0] rfl ?_
                exact ih1 (many') (v') w3 (⟨m + 1, by omega, by omega, by rw [sysI_s, if_pos hyes, ← List.append_assoc, List.length_append]; simp; omega, by rw [sysI_s, if_pos hyes, ← List.append_assoc]; exact hRm.oth (by omega) (hK3.1 34 (by decide)) (hK3.1 35 (by decide)), hsm.tr hK3.scr⟩) (by omega)
              ·
                refine v_aload_n 0 (pc' := 74) rfl dX11_systems_73 rfl rfl ?_
                refine v_iload_n 3 (pc' := 75) rfl dX11_systems_74 rfl rfl ?_
                refine v_put (pc' := 78) rfl dX11_systems_75 fi_RX11_318 ly_63 rfl ?_
                refine v_nmw (fun w4 hw4 => ?_)
                have g0 : w4 63 0 = (n : Int) := by rw [hw4, up_ne _ _ (by omega)]; exact g0
                refine v_aload_n 0 (pc' := 79) rfl dX11_systems_78 rfl rfl ?_
                refine v_iload 4 (pc' := 81) rfl dX11_systems_79 rfl ?_
                refine v_put (pc' := 84) rfl dX11_systems_81 fi_RX11_321 ly_63 rfl ?_
                refine v_nmw (fun w5 hw5 => ?_)
                have g0 : w5 63 0 = (n : Int) := by rw [hw5, up_ne _ _ (by omega)]; exact g0
                refine v_iload_n 2 (pc' := 85) rfl dX11_systems_84 rfl rfl ?_
                refine v_iconst (pc' := 86) rfl dX11_systems_85 ?_
                refine v_iadd (pc' := 87) rfl dX11_systems_86 ?_
                refine v_nm (fun many' hmany' => ?_)
                refine v_istore_n (ls' := [(2, _), (0, _), (1, _), (3, _), (4, _)]) (pc' := 88) rfl dX11_systems_87 rfl rfl rfl ?_
                refine v_iload 4 (pc' := 90) rfl dX11_systems_88 rfl ?_
                refine v_iconst (pc' := 91) rfl dX11_systems_90 ?_
                refine v_iadd (pc' := 92) rfl dX11_systems_91 ?_
                refine v_nm (fun v' hv' => ?_)
                refine v_istore (ls' := [(4, _), (2, _), (0, _), (1, _), (3, _)]) (pc' := 94) rfl dX11_systems_92 rfl rfl ?_
                refine v_goto (tgt := 36) dX11_systems_94 (by decide) ?_
                refine v_ls [2, 3, 1, 4, 0] rfl ?_
                exact ih1 (many') (v') w5 (⟨m + 1, by omega, by omega, by rw [sysI_s, if_pos hyes, ← List.append_assoc, List.length_append]; simp; omega, by rw [sysI_s, if_pos hyes, ← List.append_assoc]; exact RcW.hit (w := wm) (d := e + 2) (v := 2 * m + 1) (by omega) hpe (by rw [hw5, up_ne _ _ (by omega), hw4, up_eq]; omega) (by rw [hw5, up_eq]; omega), by rw [hw5, hw4]; exact ((hsm.tr hK3.scr).up (by decide)).up (by decide)⟩) (by omega)
            ·
              have hno : ¬ sysP s a (e + 2) (2 * m + 1) = true := fun q => by
                unfold sysP at q; rw [Bool.and_eq_true, none_of z3 (by omega)] at q
                exact absurd q.2 (by decide)
              refine v_goto (tgt := 88) dX11_systems_65 (by decide) ?_
              refine v_iload 4 (pc' := 90) rfl dX11_systems_88 rfl ?_
              refine v_iconst (pc' := 91) rfl dX11_systems_90 ?_
              refine v_iadd (pc' := 92) rfl dX11_systems_91 ?_
              refine v_nm (fun v' hv' => ?_)
              refine v_istore (ls' := [(4, _), (0, _), (1, _), (2, _), (3, _)]) (pc' := 94) rfl dX11_systems_92 rfl rfl ?_
              refine v_goto (tgt := 36) dX11_systems_94 (by decide) ?_
              refine v_ls [1, 2, 3, 4, 0] rfl ?_
              exact ih1 (many) (v') w3 (⟨m + 1, by omega, by omega, by rw [sysI_s, if_neg hno]; exact hmany2, by rw [sysI_s, if_neg hno]; exact hRm.fr (hK3.1 34 (by decide)) (hK3.1 35 (by decide)), hsm.tr hK3.scr⟩) (by omega)
      ·
        have hnd : n % (e + 2) ≠ 0 := by omega
        refine v_goto (tgt := 97) dX11_systems_30 (by decide) ?_
        refine v_iinc (ls' := [(3, _), (0, _), (1, _), (2, _)]) 3 (pc' := 100) rfl dX11_systems_97 rfl rfl rfl ?_
        refine v_nl (fun d' hd' => ?_)
        refine v_goto (tgt := 13) dX11_systems_100 (by decide) ?_
        refine v_ls [1, 2, 3, 0] rfl ?_
        exact ih0 (many) (d') wl (⟨e + 1, by omega, by omega, by rw [hmany]; show _ = (((sysA n s a e) ++ sysI s a (e + 2) (2 ^ (n - 1))).length : Int); rw [hblk n s a hn1 hn7 hs ha hjy (e + 2) (by omega) (by omega) hnd, List.append_nil], by show RcW _ ((sysA n s a e) ++ sysI s a (e + 2) (2 ^ (n - 1))) wh; rw [hblk n s a hn1 hn7 hs ha hjy (e + 2) (by omega) (by omega) hnd, List.append_nil]; exact hRc, hsl⟩) (by omega)
  ·
    have hjn := jn_0 z1 (by omega)
    refine v_iconst (pc' := 10) rfl dX11_systems_9 ?_
    refine v_iret dX11_systems_10 (by decide) (rfl) ?_
    exact ⟨Scr.of f1 (by decide), Or.inl ⟨hjn, rfl⟩⟩
theorem lw_ok : ∀ S : Nat, S < 128 → S ≠ 0 → 1 ≤ lowN S ∧ lowN S ≤ 7 ∧ S / 2 ^ (lowN S - 1) % 2 = 1 ∧ ∀ k : Nat, k < 7 → k < lowN S - 1 → S / 2 ^ k % 2 = 0 := by decide +kernel
def nbN (L : List Nat) (x : Nat) : Nat → Nat
  | 0 => 1
  | k + 1 => nbN L x k + (if lowN (L.getD k 0) < lowN x then 1 else 0)
theorem nbN_le (L : List Nat) (x : Nat) : ∀ k, nbN L x k ≤ k + 1
  | 0 => Nat.le_refl _
  | k + 1 => by have := nbN_le L x k; simp only [nbN]; split <;> omega
def qtI (L : List Nat) (p : Nat → Nat) (num acc : Nat) : Nat → Nat
  | 0 => acc
  | i + 1 => if nbN L (L.getD i 0) L.length = num then 10 * qtI L p num acc i + nbN L (mvd p (L.getD i 0)) L.length else qtI L p num acc i
def qtO (L : List Nat) (p : Nat → Nat) : Nat → Nat
  | 0 => 0
  | m + 1 => qtI L p (m + 1) (qtO L p m) L.length
theorem sysL_at {n : Nat} {s a : Nat → Nat} (h1 : 1 ≤ n) {i : Nat} (hi : i < (sysL n s a).length) : (sysL n s a).getD i 0 < 2 ^ n ∧ (sysL n s a).getD i 0 ≠ 0 ∧ (layN s a ((sysL n s a).getD i 0)).isSome = true := by
  obtain ⟨d, hd, hm⟩ := (sysA_mem (n - 2)).mp (getD_mem (d := 0) hi)
  obtain ⟨j, hj, e, hP⟩ := (sysI_mem _).mp hm
  have h2m : 2 ^ n = 2 * 2 ^ (n - 1) := by conv => lhs; rw [show n = n - 1 + 1 by omega, Nat.pow_succ']
  have e' : (sysL n s a).getD i 0 = 2 * j + 1 := e
  refine ⟨by omega, by omega, ?_⟩
  unfold sysP at hP
  rw [Bool.and_eq_true] at hP
  exact hP.2
theorem sys_r {n : Nat} {s a : Nat → Nat} {z : Int} {P : Prop} (h7 : n ≤ 7) (h : (joinB s a n = false ∧ z = 0) ∨ (joinB s a n = true ∧ z = ((sysL n s a).length : Nat) ∧ P)) : rg z := by
  have := sysA_len h7 s a (n - 2)
  have e : (sysL n s a).length = (sysA n s a (n - 2)).length := rfl
  rcases h with q | q
  · rw [q.2]; decide
  · rw [q.2.1]; omega
theorem layF_n {n : Nat} {s a : Nat → Nat} (h7 : n ≤ 7) (hs : Pm n s) (ha : Pm n a) : ∀ k i (L K : List Nat), (∀ x, x ∈ L → x < 2 ^ n) → layF s a k i L = some K → ∀ x, x ∈ K → x < 2 ^ n
  | 0, _, L, K, h, e => by simp only [layF] at e; cases e; exact h
  | k + 1, i, L, K, h, e => by
    simp only [layF] at e
    split at e
    · rename_i hi
      split at e
      · cases e
      · rename_i M hM
        have hm := adm_all h (show mvd s (L.getD i 0) < 2 ^ n by rw [mvd_n h7 (h _ (getD_mem hi))]; exact mvL_ltn hs _ n (Nat.le_refl n)) hM
        split at e
        · cases e
        · rename_i K2 hK2
          have hMl : M.getD i 0 < 2 ^ n := by
            by_cases q : i < M.length
            · exact hm _ (getD_mem q)
            · rw [List.getD_eq_getElem?_getD, List.getElem?_eq_none (by omega)]; exact Nat.two_pow_pos n
          exact layF_n h7 hs ha k (i + 1) K2 K (adm_all hm (by rw [mvd_n h7 hMl]; exact mvL_ltn ha _ n (Nat.le_refl n)) hK2) e
    · cases e; exact h
theorem lay_n {n v : Nat} {s a : Nat → Nat} {K : List Nat} (h7 : n ≤ 7) (hs : Pm n s) (ha : Pm n a) (_ : v < 128) (_ : v ≠ 0) (hv : v < 2 ^ n) (e : layN s a v = some K) : ∀ x, x ∈ K → x < 2 ^ n :=
  layF_n h7 hs ha 7 0 [v] K (fun x hx => by rw [List.mem_singleton.mp hx]; exact hv) e
def BlkM (n : Nat) (s a : Nat → Nat) (i what z : Int) : Prop :=
  (¬ (0 ≤ i ∧ 0 ≤ what ∧ what ≤ 3) ∧ z = -1) ∨
  ((0 ≤ i ∧ 0 ≤ what ∧ what ≤ 3) ∧ (joinB s a n = false ∨ ((sysL n s a).length : Int) ≤ i) ∧ z = -2) ∨
  ((0 ≤ i ∧ 0 ≤ what ∧ what ≤ 3) ∧ joinB s a n = true ∧ i < ((sysL n s a).length : Int) ∧ ∃ L, layN s a ((sysL n s a).getD i.toNat 0) = some L ∧
    z = if what = 0 then (popc ((sysL n s a).getD i.toNat 0) : Int) else if what = 1 then ((sysL n s a).getD i.toNat 0 : Int) else if what = 2 then (qtO L s L.length : Int) else (qtO L a L.length : Int))
set_option maxHeartbeats 4000000 in
set_option maxRecDepth 100000 in
theorem c_lowestM (l : Launch) (G : Gx) {S0 : Int} {S : Nat} (hS : S0 = (S : Nat)) (hS2 : S < 128) (h0 : S ≠ 0) (w : Wd)  : SpP l G 0 mX11_lowest [aI (S0)] w (((lowN S - 1 : Nat) : Int)) := by
  obtain ⟨l1, l7, lb, ln⟩ := lw_ok S hS2 h0
  refine Sp_of RX11 rfl (by decide +kernel) rfl (Nat.le_of_ble_eq_true rfl) ?_
  refine v_iconst (pc' := 1) rfl dX11_lowest_0 ?_
  refine v_istore_n (ls' := [(1, _), (0, _)]) (pc' := 2) rfl dX11_lowest_1 rfl rfl rfl ?_
  refine v_ls [1, 0] rfl ?_
  refine v_loop1 2 (fun (i : Int) => ∃ k : Nat, i = k ∧ k ≤ lowN S - 1) (fun (i : Int) => (8 - i).toNat) (fun (i : Int) => [(0, aI (S0)), (1, aI (i))]) (fun (i : Int) => []) (fun (i : Int) => w) (fun i hI0 ih0 => ?_) (0) (⟨0, rfl, Nat.zero_le _⟩)
  obtain ⟨k, hi, hk⟩ := hI0
  refine v_iload_n 0 (pc' := 3) rfl dX11_lowest_2 rfl rfl ?_
  refine v_iload_n 1 (pc' := 4) rfl dX11_lowest_3 rfl rfl ?_
  refine v_ishr (z := ((S / 2 ^ k : Nat) : Int)) (pc' := 5) rfl dX11_lowest_4 (iz_shrE hS hi (by omega) (by omega)) ?_
  refine v_iconst (pc' := 6) rfl dX11_lowest_5 ?_
  refine v_iand (z := ((S / 2 ^ k % 2 : Nat) : Int)) (pc' := 7) rfl dX11_lowest_6 (iz_and1 rfl) ?_
  refine v_if_ne (pc' := 10) (tgt := 17) rfl dX11_lowest_7 (by decide) (by omega) (fun c0 => ?_) (fun c0 => ?_)
  ·
    have hke : k = lowN S - 1 := by
      by_cases q : k < lowN S - 1
      · have := ln k (by omega) q; omega
      · omega
    refine v_iload_n 1 (pc' := 18) rfl dX11_lowest_17 rfl rfl ?_
    refine v_iret dX11_lowest_18 (by decide) (rfl) ?_
    exact ⟨by rw [hi, hke], rfl⟩
  ·
    have hk1 : k + 1 ≤ lowN S - 1 := by
      by_cases q : k = lowN S - 1
      · rw [← q] at lb; omega
      · omega
    refine v_iload_n 1 (pc' := 11) rfl dX11_lowest_10 rfl rfl ?_
    refine v_iconst (pc' := 12) rfl dX11_lowest_11 ?_
    refine v_iadd (pc' := 13) rfl dX11_lowest_12 ?_
    refine v_nm (fun i' hi' => ?_)
    refine v_istore_n (ls' := [(1, _), (0, _)]) (pc' := 14) rfl dX11_lowest_13 rfl rfl rfl ?_
    refine v_goto (tgt := 2) dX11_lowest_14 (by decide) ?_
    refine v_ls [1, 0] rfl ?_
    exact ih0 (i') (⟨k + 1, by omega, hk1⟩) (by omega)
set_option maxHeartbeats 4000000 in
set_option maxRecDepth 100000 in
theorem c_numberOf (l : Launch) (G : Gx) {X0 : Int} {X : Nat} {L : List Nat} (hX : X0 = (X : Nat)) (hX2 : X < 128) (h0 : X ≠ 0) (hB : BO L) (w : Wd) (hW : SMW w L) : SpP l G 1 mX11_numberOf [aR 63, aI (X0)] w (((nbN L X L.length : Nat) : Int)) := by
  have m33 := hW.1
  have hl7 := hB.le7
  obtain ⟨l1, l7, -, -⟩ := lw_ok X hX2 h0
  refine Sp_of RX11 rfl (by decide +kernel) rfl (Nat.le_of_ble_eq_true rfl) ?_
  refine v_iconst (pc' := 1) rfl dX11_numberOf_0 ?_
  refine v_istore_n (ls' := [(2, _), (0, _), (1, _)]) (pc' := 2) rfl dX11_numberOf_1 rfl rfl rfl ?_
  refine v_iconst (pc' := 3) rfl dX11_numberOf_2 ?_
  refine v_istore_n (ls' := [(3, _), (2, _), (0, _), (1, _)]) (pc' := 4) rfl dX11_numberOf_3 rfl rfl rfl ?_
  refine v_ls [2, 3, 1, 0] rfl ?_
  refine v_loop2 4 (fun (num : Int) (i : Int) => ∃ k : Nat, i = k ∧ k ≤ L.length ∧ num = (nbN L X k : Nat)) (fun (num : Int) (i : Int) => (8 - i).toNat) (fun (num : Int) (i : Int) => [(0, aR 63), (1, aI (X0)), (2, aI (num)), (3, aI (i))]) (fun (num : Int) (i : Int) => []) (fun (num : Int) (i : Int) => w) (fun num i hI0 ih0 => ?_) (1) (0) (⟨0, rfl, by omega, rfl⟩)
  obtain ⟨k, hi, hk, hnum⟩ := hI0
  refine v_iload_n 3 (pc' := 5) rfl dX11_numberOf_4 rfl rfl ?_
  refine v_aload_n 0 (pc' := 6) rfl dX11_numberOf_5 rfl rfl ?_
  refine v_get (z := ((L.length : Nat) : Int)) (pc' := 9) rfl dX11_numberOf_6 fk_RX11_301 ly_63 rfl (m33) ?_
  refine v_icmp_ge (pc' := 12) (tgt := 42) rfl dX11_numberOf_9 (by decide) (by omega) (by omega) (fun c0 => ?_) (fun c0 => ?_)
  ·
    have hke : k = L.length := by omega
    refine v_iload_n 2 (pc' := 43) rfl dX11_numberOf_42 rfl rfl ?_
    refine v_iret dX11_numberOf_43 (by decide) (rfl) ?_
    exact ⟨by rw [hnum, hke], rfl⟩
  ·
    have hkl : k < L.length := by omega
    have hkb := hB.1 _ (getD_mem (d := 0) hkl)
    obtain ⟨j1, j7, -, -⟩ := lw_ok _ hkb.1 hkb.2
    refine v_iload_n 2 (pc' := 13) rfl dX11_numberOf_12 rfl rfl ?_
    have J34 : ∀ (bv : Int) (hJ : bv = if lowN (L.getD k 0) < lowN X then 1 else 0), V (mX l G 1 4 (some .int) (fun z w9 => z = ((nbN L X L.length : Nat) : Int) ∧ w9 = w)) RX11 cX11_numberOf 34 [(0, aR 63), (1, aI (X0)), (2, aI (num)), (3, aI (i))] [aI (bv), aI (num)] w := by
      intro bv hJ
      have hJ34 : num + bv = ((nbN L X (k + 1) : Nat) : Int) := by
        simp only [nbN]
        rw [hnum, hJ]
        split <;> rfl
      refine v_iadd (pc' := 35) rfl dX11_numberOf_34 ?_
      refine v_nm (fun num' hnum' => ?_)
      refine v_istore_n (ls' := [(2, _), (0, _), (1, _), (3, _)]) (pc' := 36) rfl dX11_numberOf_35 rfl rfl rfl ?_
      refine v_iinc (ls' := [(3, _), (2, _), (0, _), (1, _)]) 3 (pc' := 39) rfl dX11_numberOf_36 rfl rfl rfl ?_
      refine v_nl (fun i' hi' => ?_)
      refine v_goto (tgt := 4) dX11_numberOf_39 (by decide) ?_
      refine v_ls [2, 3, 1, 0] rfl ?_
      exact ih0 (num') (i') (⟨k + 1, by omega, by omega, hnum'.trans hJ34⟩) (by omega)
    refine v_aload_n 0 (pc' := 14) rfl dX11_numberOf_13 rfl rfl ?_
    refine v_getR (pc' := 17) rfl dX11_numberOf_14 fk_RX11_62 ly_63 rfl ?_
    refine v_iload_n 3 (pc' := 18) rfl dX11_numberOf_17 rfl rfl ?_
    refine v_iald (z := ((L.getD k 0 : Nat) : Int)) (pc' := 19) rfl dX11_numberOf_18 ly_81 (by omega) (by omega) rfl (by rw [show i.toNat = k by omega]; exact hW.2 k hkl) ?_
    refine v_cSP (pc' := 22) rfl dX11_numberOf_19 lk_RX11_324 rfl (c_lowestM l G (S := L.getD k 0) rfl hkb.1 hkb.2 w) rfl rfl rfl ?_
    refine v_nm (fun lowest1 hlowest1 => ?_)
    refine v_iload_n 1 (pc' := 23) rfl dX11_numberOf_22 rfl rfl ?_
    refine v_cSP (pc' := 26) rfl dX11_numberOf_23 lk_RX11_324 rfl (c_lowestM l G hX hX2 h0 w) rfl rfl rfl ?_
    refine v_nm (fun lowest2 hlowest2 => ?_)
    refine v_icmp_ge (pc' := 29) (tgt := 33) rfl dX11_numberOf_26 (by decide) (by omega) (by omega) (fun c1 => ?_) (fun c1 => ?_)
    ·
      refine v_iconst (pc' := 34) rfl dX11_numberOf_33 ?_
      exact J34 (0) (by first | rw [if_pos (by omega)] | rw [if_neg (by omega)])
    ·
      refine v_iconst (pc' := 30) rfl dX11_numberOf_29 ?_
      refine v_goto (tgt := 34) dX11_numberOf_30 (by decide) ?_
      exact J34 (1) (by first | rw [if_pos (by omega)] | rw [if_neg (by omega)])
set_option maxHeartbeats 4000000 in
set_option maxRecDepth 100000 in
theorem c_quotient_76 (l : Launch) (G : Gx) {L : List Nat} {n : Nat} {p : Nat → Nat} (hB : BO L) (hLn : ∀ x, x ∈ L → x < 2 ^ n) (hp : Pm n p) (hn7 : n ≤ 7) (w : Wd) (r0 : w 63 0 = n) (hW : SMW w L) (hD : ∀ x, 1 ≤ x → x ≤ n → w 76 x = (p x : Nat)) : SpP l G 2 mX11_quotient [aR 63, aR 76] w (((qtO L p L.length : Nat) : Int)) := by
  have m33 := hW.1
  have hl7 := hB.le7
  have p7 := hp.b7 hn7
  refine Sp_of RX11 rfl (by decide +kernel) rfl (Nat.le_of_ble_eq_true rfl) ?_
  refine v_iconst (pc' := 1) rfl dX11_quotient_0 ?_
  refine v_istore_n (ls' := [(2, _), (0, _), (1, _)]) (pc' := 2) rfl dX11_quotient_1 rfl rfl rfl ?_
  refine v_iconst (pc' := 3) rfl dX11_quotient_2 ?_
  refine v_istore_n (ls' := [(3, _), (2, _), (0, _), (1, _)]) (pc' := 4) rfl dX11_quotient_3 rfl rfl rfl ?_
  refine v_ls [2, 3, 1, 0] rfl ?_
  refine v_loop2 4 (fun (is : Int) (num : Int) => ∃ m : Nat, num = (m : Int) + 1 ∧ m ≤ L.length ∧ is = (qtO L p m : Nat)) (fun (is : Int) (num : Int) => (9 - num).toNat) (fun (is : Int) (num : Int) => [(0, aR 63), (1, aR 76), (2, aI (is)), (3, aI (num))]) (fun (is : Int) (num : Int) => []) (fun (is : Int) (num : Int) => w) (fun is num hI0 ih0 => ?_) (0) (1) (⟨0, rfl, Nat.zero_le _, rfl⟩)
  obtain ⟨m, hnum, hm, his⟩ := hI0
  refine v_iload_n 3 (pc' := 5) rfl dX11_quotient_4 rfl rfl ?_
  refine v_aload_n 0 (pc' := 6) rfl dX11_quotient_5 rfl rfl ?_
  refine v_get (z := ((L.length : Nat) : Int)) (pc' := 9) rfl dX11_quotient_6 fk_RX11_301 ly_63 rfl (m33) ?_
  refine v_icmp_gt (pc' := 12) (tgt := 73) rfl dX11_quotient_9 (by decide) (by omega) (by omega) (fun c0 => ?_) (fun c0 => ?_)
  ·
    have hme : m = L.length := by omega
    refine v_iload_n 2 (pc' := 74) rfl dX11_quotient_73 rfl rfl ?_
    refine v_iret dX11_quotient_74 (by decide) (rfl) ?_
    exact ⟨by rw [his, hme], rfl⟩
  ·
    refine v_iconst (pc' := 13) rfl dX11_quotient_12 ?_
    refine v_istore (ls' := [(4, _), (0, _), (1, _), (2, _), (3, _)]) (pc' := 15) rfl dX11_quotient_13 rfl rfl ?_
    refine v_ls [1, 2, 3, 4, 0] rfl ?_
    refine v_loop2 15 (fun (is : Int) (i : Int) => ∃ i9 : Nat, i = i9 ∧ i9 ≤ L.length ∧ is = (qtI L p (m + 1) (qtO L p m) i9 : Nat)) (fun (is : Int) (i : Int) => (8 - i).toNat) (fun (is : Int) (i : Int) => [(0, aR 63), (1, aR 76), (2, aI (is)), (3, aI (num)), (4, aI (i))]) (fun (is : Int) (i : Int) => []) (fun (is : Int) (i : Int) => w) (fun is i hI1 ih1 => ?_) (is) (0) (⟨0, rfl, Nat.zero_le _, his⟩)
    obtain ⟨i9, hi, hi9, his2⟩ := hI1
    have hnl := nbN_le L (L.getD i9 0) L.length
    refine v_iload 4 (pc' := 17) rfl dX11_quotient_15 rfl ?_
    refine v_aload_n 0 (pc' := 18) rfl dX11_quotient_17 rfl rfl ?_
    refine v_get (z := ((L.length : Nat) : Int)) (pc' := 21) rfl dX11_quotient_18 fk_RX11_301 ly_63 rfl (m33) ?_
    refine v_icmp_ge (pc' := 24) (tgt := 67) rfl dX11_quotient_21 (by decide) (by omega) (by omega) (fun c1 => ?_) (fun c1 => ?_)
    ·
      have hie : i9 = L.length := by omega
      refine v_iinc (ls' := [(3, _), (0, _), (1, _), (2, _), (4, _)]) 3 (pc' := 70) rfl dX11_quotient_67 rfl rfl rfl ?_
      refine v_nl (fun num' hnum' => ?_)
      refine v_goto (tgt := 4) dX11_quotient_70 (by decide) ?_
      refine v_ls [1, 2, 3, 0] rfl ?_
      exact ih0 (is) (num') (⟨m + 1, by omega, by omega, by rw [his2, hie]; rfl⟩) (by omega)
    ·
      have hil : i9 < L.length := by omega
      have hXm := getD_mem (d := 0) hil
      have hkb := hB.1 _ hXm
      have hXn := hLn _ hXm
      have hY := mvd_nz p7 hkb.1 hkb.2
      refine v_aload_n 0 (pc' := 25) rfl dX11_quotient_24 rfl rfl ?_
      refine v_aload_n 0 (pc' := 26) rfl dX11_quotient_25 rfl rfl ?_
      refine v_getR (pc' := 29) rfl dX11_quotient_26 fk_RX11_62 ly_63 rfl ?_
      refine v_iload 4 (pc' := 31) rfl dX11_quotient_29 rfl ?_
      refine v_iald (z := ((L.getD i9 0 : Nat) : Int)) (pc' := 32) rfl dX11_quotient_31 ly_81 (by omega) (by omega) rfl (by rw [show i.toNat = i9 by omega]; exact hW.2 i9 hil) ?_
      refine v_cVP (pc' := 35) rfl dX11_quotient_32 lk_RX11_327 ly_63 rfl (c_numberOf l G (X := L.getD i9 0) rfl hkb.1 hkb.2 hB w hW) rfl rfl rfl ?_
      refine v_nm (fun numberOf1 hnumberOf1 => ?_)
      refine v_iload_n 3 (pc' := 36) rfl dX11_quotient_35 rfl rfl ?_
      refine v_icmp_ne (pc' := 39) (tgt := 61) rfl dX11_quotient_36 (by decide) (by omega) (by omega) (fun c2 => ?_) (fun c2 => ?_)
      ·
        refine v_iinc (ls' := [(4, _), (0, _), (1, _), (2, _), (3, _)]) 4 (pc' := 64) rfl dX11_quotient_61 rfl rfl rfl ?_
        refine v_nl (fun i' hi' => ?_)
        refine v_goto (tgt := 15) dX11_quotient_64 (by decide) ?_
        refine v_ls [1, 2, 3, 4, 0] rfl ?_
        exact ih1 (is) (i') (⟨i9 + 1, by omega, by omega, by simp only [qtI]; rw [if_neg (by omega)]; exact his2⟩) (by omega)
      ·
        refine v_bipush (pc' := 41) rfl dX11_quotient_39 rfl ?_
        refine v_iload_n 2 (pc' := 42) rfl dX11_quotient_41 rfl rfl ?_
        refine v_imul (pc' := 43) rfl dX11_quotient_42 ?_
        refine v_aload_n 0 (pc' := 44) rfl dX11_quotient_43 rfl rfl ?_
        refine v_aload_n 0 (pc' := 45) rfl dX11_quotient_44 rfl rfl ?_
        refine v_aload_n 0 (pc' := 46) rfl dX11_quotient_45 rfl rfl ?_
        refine v_getR (pc' := 49) rfl dX11_quotient_46 fk_RX11_62 ly_63 rfl ?_
        refine v_iload 4 (pc' := 51) rfl dX11_quotient_49 rfl ?_
        refine v_iald (z := ((L.getD i9 0 : Nat) : Int)) (pc' := 52) rfl dX11_quotient_51 ly_81 (by omega) (by omega) rfl (by rw [show i.toNat = i9 by omega]; exact hW.2 i9 hil) ?_
        refine v_aload_n 1 (pc' := 53) rfl dX11_quotient_52 rfl rfl ?_
        refine v_cVP (pc' := 56) rfl dX11_quotient_53 lk_RX11_304 ly_63 rfl (c_image_76 l G (S := L.getD i9 0) rfl hXn hp hn7 w r0 hD) rfl rfl rfl ?_
        refine v_nm (fun image1 himage1 => ?_)
        refine v_cVP (pc' := 59) rfl dX11_quotient_56 lk_RX11_327 ly_63 rfl (c_numberOf l G himage1 hY.1 hY.2 hB w hW) rfl rfl rfl ?_
        refine v_nm (fun numberOf2 hnumberOf2 => ?_)
        refine v_iadd (pc' := 60) rfl dX11_quotient_59 ?_
        refine v_nm (fun is' his' => ?_)
        refine v_istore_n (ls' := [(2, _), (0, _), (1, _), (3, _), (4, _)]) (pc' := 61) rfl dX11_quotient_60 rfl rfl rfl ?_
        refine v_iinc (ls' := [(4, _), (2, _), (0, _), (1, _), (3, _)]) 4 (pc' := 64) rfl dX11_quotient_61 rfl rfl rfl ?_
        refine v_nl (fun i' hi' => ?_)
        refine v_goto (tgt := 15) dX11_quotient_64 (by decide) ?_
        refine v_ls [2, 3, 1, 4, 0] rfl ?_
        exact ih1 (is') (i') (⟨i9 + 1, by omega, by omega, by simp only [qtI]; rw [if_pos (by omega), his', his2, hnumberOf2]; rfl⟩) (by omega)
set_option maxHeartbeats 4000000 in
set_option maxRecDepth 100000 in
theorem c_quotient_77 (l : Launch) (G : Gx) {L : List Nat} {n : Nat} {p : Nat → Nat} (hB : BO L) (hLn : ∀ x, x ∈ L → x < 2 ^ n) (hp : Pm n p) (hn7 : n ≤ 7) (w : Wd) (r0 : w 63 0 = n) (hW : SMW w L) (hD : ∀ x, 1 ≤ x → x ≤ n → w 77 x = (p x : Nat)) : SpP l G 2 mX11_quotient [aR 63, aR 77] w (((qtO L p L.length : Nat) : Int)) := by
  have m33 := hW.1
  have hl7 := hB.le7
  have p7 := hp.b7 hn7
  refine Sp_of RX11 rfl (by decide +kernel) rfl (Nat.le_of_ble_eq_true rfl) ?_
  refine v_iconst (pc' := 1) rfl dX11_quotient_0 ?_
  refine v_istore_n (ls' := [(2, _), (0, _), (1, _)]) (pc' := 2) rfl dX11_quotient_1 rfl rfl rfl ?_
  refine v_iconst (pc' := 3) rfl dX11_quotient_2 ?_
  refine v_istore_n (ls' := [(3, _), (2, _), (0, _), (1, _)]) (pc' := 4) rfl dX11_quotient_3 rfl rfl rfl ?_
  refine v_ls [2, 3, 1, 0] rfl ?_
  refine v_loop2 4 (fun (is : Int) (num : Int) => ∃ m : Nat, num = (m : Int) + 1 ∧ m ≤ L.length ∧ is = (qtO L p m : Nat)) (fun (is : Int) (num : Int) => (9 - num).toNat) (fun (is : Int) (num : Int) => [(0, aR 63), (1, aR 77), (2, aI (is)), (3, aI (num))]) (fun (is : Int) (num : Int) => []) (fun (is : Int) (num : Int) => w) (fun is num hI0 ih0 => ?_) (0) (1) (⟨0, rfl, Nat.zero_le _, rfl⟩)
  obtain ⟨m, hnum, hm, his⟩ := hI0
  refine v_iload_n 3 (pc' := 5) rfl dX11_quotient_4 rfl rfl ?_
  refine v_aload_n 0 (pc' := 6) rfl dX11_quotient_5 rfl rfl ?_
  refine v_get (z := ((L.length : Nat) : Int)) (pc' := 9) rfl dX11_quotient_6 fk_RX11_301 ly_63 rfl (m33) ?_
  refine v_icmp_gt (pc' := 12) (tgt := 73) rfl dX11_quotient_9 (by decide) (by omega) (by omega) (fun c0 => ?_) (fun c0 => ?_)
  ·
    have hme : m = L.length := by omega
    refine v_iload_n 2 (pc' := 74) rfl dX11_quotient_73 rfl rfl ?_
    refine v_iret dX11_quotient_74 (by decide) (rfl) ?_
    exact ⟨by rw [his, hme], rfl⟩
  ·
    refine v_iconst (pc' := 13) rfl dX11_quotient_12 ?_
    refine v_istore (ls' := [(4, _), (0, _), (1, _), (2, _), (3, _)]) (pc' := 15) rfl dX11_quotient_13 rfl rfl ?_
    refine v_ls [1, 2, 3, 4, 0] rfl ?_
    refine v_loop2 15 (fun (is : Int) (i : Int) => ∃ i9 : Nat, i = i9 ∧ i9 ≤ L.length ∧ is = (qtI L p (m + 1) (qtO L p m) i9 : Nat)) (fun (is : Int) (i : Int) => (8 - i).toNat) (fun (is : Int) (i : Int) => [(0, aR 63), (1, aR 77), (2, aI (is)), (3, aI (num)), (4, aI (i))]) (fun (is : Int) (i : Int) => []) (fun (is : Int) (i : Int) => w) (fun is i hI1 ih1 => ?_) (is) (0) (⟨0, rfl, Nat.zero_le _, his⟩)
    obtain ⟨i9, hi, hi9, his2⟩ := hI1
    have hnl := nbN_le L (L.getD i9 0) L.length
    refine v_iload 4 (pc' := 17) rfl dX11_quotient_15 rfl ?_
    refine v_aload_n 0 (pc' := 18) rfl dX11_quotient_17 rfl rfl ?_
    refine v_get (z := ((L.length : Nat) : Int)) (pc' := 21) rfl dX11_quotient_18 fk_RX11_301 ly_63 rfl (m33) ?_
    refine v_icmp_ge (pc' := 24) (tgt := 67) rfl dX11_quotient_21 (by decide) (by omega) (by omega) (fun c1 => ?_) (fun c1 => ?_)
    ·
      have hie : i9 = L.length := by omega
      refine v_iinc (ls' := [(3, _), (0, _), (1, _), (2, _), (4, _)]) 3 (pc' := 70) rfl dX11_quotient_67 rfl rfl rfl ?_
      refine v_nl (fun num' hnum' => ?_)
      refine v_goto (tgt := 4) dX11_quotient_70 (by decide) ?_
      refine v_ls [1, 2, 3, 0] rfl ?_
      exact ih0 (is) (num') (⟨m + 1, by omega, by omega, by rw [his2, hie]; rfl⟩) (by omega)
    ·
      have hil : i9 < L.length := by omega
      have hXm := getD_mem (d := 0) hil
      have hkb := hB.1 _ hXm
      have hXn := hLn _ hXm
      have hY := mvd_nz p7 hkb.1 hkb.2
      refine v_aload_n 0 (pc' := 25) rfl dX11_quotient_24 rfl rfl ?_
      refine v_aload_n 0 (pc' := 26) rfl dX11_quotient_25 rfl rfl ?_
      refine v_getR (pc' := 29) rfl dX11_quotient_26 fk_RX11_62 ly_63 rfl ?_
      refine v_iload 4 (pc' := 31) rfl dX11_quotient_29 rfl ?_
      refine v_iald (z := ((L.getD i9 0 : Nat) : Int)) (pc' := 32) rfl dX11_quotient_31 ly_81 (by omega) (by omega) rfl (by rw [show i.toNat = i9 by omega]; exact hW.2 i9 hil) ?_
      refine v_cVP (pc' := 35) rfl dX11_quotient_32 lk_RX11_327 ly_63 rfl (c_numberOf l G (X := L.getD i9 0) rfl hkb.1 hkb.2 hB w hW) rfl rfl rfl ?_
      refine v_nm (fun numberOf1 hnumberOf1 => ?_)
      refine v_iload_n 3 (pc' := 36) rfl dX11_quotient_35 rfl rfl ?_
      refine v_icmp_ne (pc' := 39) (tgt := 61) rfl dX11_quotient_36 (by decide) (by omega) (by omega) (fun c2 => ?_) (fun c2 => ?_)
      ·
        refine v_iinc (ls' := [(4, _), (0, _), (1, _), (2, _), (3, _)]) 4 (pc' := 64) rfl dX11_quotient_61 rfl rfl rfl ?_
        refine v_nl (fun i' hi' => ?_)
        refine v_goto (tgt := 15) dX11_quotient_64 (by decide) ?_
        refine v_ls [1, 2, 3, 4, 0] rfl ?_
        exact ih1 (is) (i') (⟨i9 + 1, by omega, by omega, by simp only [qtI]; rw [if_neg (by omega)]; exact his2⟩) (by omega)
      ·
        refine v_bipush (pc' := 41) rfl dX11_quotient_39 rfl ?_
        refine v_iload_n 2 (pc' := 42) rfl dX11_quotient_41 rfl rfl ?_
        refine v_imul (pc' := 43) rfl dX11_quotient_42 ?_
        refine v_aload_n 0 (pc' := 44) rfl dX11_quotient_43 rfl rfl ?_
        refine v_aload_n 0 (pc' := 45) rfl dX11_quotient_44 rfl rfl ?_
        refine v_aload_n 0 (pc' := 46) rfl dX11_quotient_45 rfl rfl ?_
        refine v_getR (pc' := 49) rfl dX11_quotient_46 fk_RX11_62 ly_63 rfl ?_
        refine v_iload 4 (pc' := 51) rfl dX11_quotient_49 rfl ?_
        refine v_iald (z := ((L.getD i9 0 : Nat) : Int)) (pc' := 52) rfl dX11_quotient_51 ly_81 (by omega) (by omega) rfl (by rw [show i.toNat = i9 by omega]; exact hW.2 i9 hil) ?_
        refine v_aload_n 1 (pc' := 53) rfl dX11_quotient_52 rfl rfl ?_
        refine v_cVP (pc' := 56) rfl dX11_quotient_53 lk_RX11_304 ly_63 rfl (c_image_77 l G (S := L.getD i9 0) rfl hXn hp hn7 w r0 hD) rfl rfl rfl ?_
        refine v_nm (fun image1 himage1 => ?_)
        refine v_cVP (pc' := 59) rfl dX11_quotient_56 lk_RX11_327 ly_63 rfl (c_numberOf l G himage1 hY.1 hY.2 hB w hW) rfl rfl rfl ?_
        refine v_nm (fun numberOf2 hnumberOf2 => ?_)
        refine v_iadd (pc' := 60) rfl dX11_quotient_59 ?_
        refine v_nm (fun is' his' => ?_)
        refine v_istore_n (ls' := [(2, _), (0, _), (1, _), (3, _), (4, _)]) (pc' := 61) rfl dX11_quotient_60 rfl rfl rfl ?_
        refine v_iinc (ls' := [(4, _), (2, _), (0, _), (1, _), (3, _)]) 4 (pc' := 64) rfl dX11_quotient_61 rfl rfl rfl ?_
        refine v_nl (fun i' hi' => ?_)
        refine v_goto (tgt := 15) dX11_quotient_64 (by decide) ?_
        refine v_ls [2, 3, 1, 4, 0] rfl ?_
        exact ih1 (is') (i') (⟨i9 + 1, by omega, by omega, by simp only [qtI]; rw [if_pos (by omega), his', his2, hnumberOf2]; rfl⟩) (by omega)
set_option maxHeartbeats 4000000 in
set_option maxRecDepth 100000 in
theorem c_blockM (l : Launch) (G : Gx) {i what : Int} (hi : rg i) (hwt : rg what) (hblk : BLKD) {n : Nat} {s a : Nat → Nat} (hV : MapV n s a) (w : Wd) (hM : RMW w n s a) : Sp l G 5 mX11_block [aR 63, aI (i), aI (what)] w (fun z w' => Scr w w' ∧ BlkM n s a i what z) := by
  obtain ⟨⟨hn1, hn7⟩, hs, ha⟩ := id hV
  obtain ⟨r0, r1, r2⟩ := id hM
  refine Sp_of RX11 rfl (by decide +kernel) rfl (Nat.le_of_ble_eq_true rfl) ?_
  refine v_iload_n 1 (pc' := 1) rfl dX11_block_0 rfl rfl ?_
  refine v_if_lt (pc' := 4) (tgt := 13) rfl dX11_block_1 (by decide) (by omega) (fun c0 => ?_) (fun c0 => ?_)
  ·
    have hn2 : ¬ (0 ≤ i ∧ 0 ≤ what ∧ what ≤ 3) := fun q => by omega
    refine v_iconst (pc' := 14) rfl dX11_block_13 ?_
    refine v_iret dX11_block_14 (by decide) (rfl) ?_
    first
    | exact ⟨Scr.rf _, Or.inl ⟨hn2, rfl⟩⟩
    | exact ⟨hs2, Or.inr (Or.inl ⟨by omega, hno, rfl⟩)⟩
    | exact ⟨hs2.tr hK3.scr, Or.inr (Or.inr ⟨by omega, hjy, hlt, K, hKl, by rw [if_pos (by omega)]⟩)⟩
    | exact ⟨hs2.tr hK3.scr, Or.inr (Or.inr ⟨by omega, hjy, hlt, K, hKl, by rw [if_neg (by omega), if_pos (by omega)]⟩)⟩
    | exact ⟨hs2.tr hK3.scr, Or.inr (Or.inr ⟨by omega, hjy, hlt, K, hKl, by rw [if_neg (by omega), if_neg (by omega), if_pos (by omega)]; exact hquotient1⟩)⟩
    | exact ⟨hs2.tr hK3.scr, Or.inr (Or.inr ⟨by omega, hjy, hlt, K, hKl, by rw [if_neg (by omega), if_neg (by omega), if_neg (by omega)]; exact hquotient1⟩)⟩
  ·
    refine v_iload_n 2 (pc' := 5) rfl dX11_block_4 rfl rfl ?_
    refine v_iconst (pc' := 6) rfl dX11_block_5 ?_
    refine v_iconst (pc' := 7) rfl dX11_block_6 ?_
    refine v_cSP (pc' := 10) rfl dX11_block_7 lk_RX11_121 rfl (c_in l G hwt (by decide) (by decide) w) rfl rfl rfl ?_
    refine v_nm (fun in1 hin1 => ?_)
    refine v_if_ne (pc' := 13) (tgt := 15) rfl dX11_block_10 (by decide) (in_r hin1) (fun c1 => ?_) (fun c1 => ?_)
    ·
      have hy2 := in_1 hin1 (by omega)
      have h2n : 2 ^ n ≤ 128 := Nat.pow_le_pow_right (show 2 > 0 by decide) hn7
      refine v_iload_n 1 (pc' := 16) rfl dX11_block_15 rfl rfl ?_
      refine v_aload_n 0 (pc' := 17) rfl dX11_block_16 rfl rfl ?_
      refine v_iload_n 1 (pc' := 18) rfl dX11_block_17 rfl rfl ?_
      refine v_cVi (pc' := 21) rfl dX11_block_18 lk_RX11_330 ly_63 rfl (c_systemsM l G hi hblk hV w hM) rfl rfl rfl (fun systems1 w2 hq2 => ?_)
      obtain ⟨hs2, hz2⟩ := hq2
      have hsr : rg systems1 := sys_r hn7 hz2
      refine v_icmp_lt (pc' := 24) (tgt := 27) rfl dX11_block_21 (by decide) (by omega) (hsr) (fun c2 => ?_) (fun c2 => ?_)
      ·
        obtain ⟨hjy, hlt, hrc⟩ : joinB s a n = true ∧ i < ((sysL n s a).length : Int) ∧ RcW w2 (sysL n s a) i := by
          rcases hz2 with q | q
          · omega
          · exact ⟨q.1, by omega, q.2.2⟩
        have hil : i.toNat < (sysL n s a).length := by omega
        have hat := sysL_at (n := n) (s := s) (a := a) hn1 hil
        obtain ⟨hb34, hb35⟩ := hrc i.toNat (by omega) hil
        refine v_aload_n 0 (pc' := 28) rfl dX11_block_27 rfl rfl ?_
        refine v_aload_n 0 (pc' := 29) rfl dX11_block_28 rfl rfl ?_
        refine v_get (z := ((((sysL n s a).getD i.toNat 0) : Nat) : Int)) (pc' := 32) rfl dX11_block_29 fk_RX11_321 ly_63 rfl (hb35) ?_
        refine v_cVi (pc' := 35) rfl dX11_block_32 lk_RX11_315 ly_63 rfl (c_isSystem l G (v := ((sysL n s a).getD i.toNat 0)) rfl hat.2.1 hV hat.1 w2 (hM.s hs2)) rfl rfl rfl (fun isSystem1 w3 hq3 => ?_)
        obtain ⟨z3, hW3, hD3, hK3⟩ := hq3
        obtain ⟨K, hKl⟩ := Option.isSome_iff_exists.mp hat.2.2
        have hWK := hW3 K hKl
        have hBO := layN_BO (hs.b7 hn7) (ha.b7 hn7) (Nat.lt_of_lt_of_le hat.1 h2n) hat.2.1 hKl
        have hKn := lay_n hn7 hs ha (Nat.lt_of_lt_of_le hat.1 h2n) hat.2.1 hat.1 hKl
        have g34 := (hK3.1 34 (by decide)).trans hb34
        have g35 := (hK3.1 35 (by decide)).trans hb35
        have g0 := (hK3.1 0 (by decide)).trans ((hs2 63 0 (by decide)).trans hM.1)
        refine v_istore_n (ls' := [(3, _), (0, _), (1, _), (2, _)]) (pc' := 36) rfl dX11_block_35 rfl rfl rfl ?_
        refine v_iload_n 3 (pc' := 37) rfl dX11_block_36 rfl rfl ?_
        refine v_if_ne (pc' := 40) (tgt := 47) rfl dX11_block_37 (by decide) (by omega) (fun c3 => ?_) (fun c3 => ?_)
        ·
          refine v_iload_n 3 (pc' := 48) rfl dX11_block_47 rfl rfl ?_
          refine v_iconst (pc' := 49) rfl dX11_block_48 ?_
          refine v_icmp_ne (pc' := 52) (tgt := 59) rfl dX11_block_49 (by decide) (by omega) (by omega) (fun c4 => ?_) (fun c4 => ?_)
          ·
            refine v_iload_n 0 (pc' := 60) rfl dX11_block_59 rfl rfl ?_
            refine v_if_eq (pc' := 63) (tgt := 86) rfl dX11_block_60 (by decide) (os_r z3) (fun c5 => absurd c5 (by rw [hKl] at z3; have z4 : isSystem1 = 1 := z3; omega)) (fun c5 => ?_)
            refine v_aload_n 1 (pc' := 64) rfl dX11_block_63 rfl rfl ?_
            refine v_iload_n 3 (pc' := 65) rfl dX11_block_64 rfl rfl ?_
            refine v_iconst (pc' := 66) rfl dX11_block_65 ?_
            refine v_icmp_ne (pc' := 69) (tgt := 76) rfl dX11_block_66 (by decide) (by omega) (by omega) (fun c6 => ?_) (fun c6 => ?_)
            ·
              refine v_aload_n 1 (pc' := 77) rfl dX11_block_76 rfl rfl ?_
              refine v_getR (pc' := 80) rfl dX11_block_77 fk_RX11_50 ly_63 rfl ?_
              refine v_cVP (pc' := 83) rfl dX11_block_80 lk_RX11_333 ly_63 rfl (c_quotient_77 l G hBO.1 hKn ha hn7 w3 g0 hWK hD3.2) rfl rfl rfl ?_
              refine v_nm (fun quotient1 hquotient1 => ?_)
              refine v_goto (tgt := 87) dX11_block_83 (by decide) ?_
              refine v_iret dX11_block_87 (by decide) (rfl) ?_
              first
              | exact ⟨Scr.rf _, Or.inl ⟨hn2, rfl⟩⟩
              | exact ⟨hs2, Or.inr (Or.inl ⟨by omega, hno, rfl⟩)⟩
              | exact ⟨hs2.tr hK3.scr, Or.inr (Or.inr ⟨by omega, hjy, hlt, K, hKl, by rw [if_pos (by omega)]⟩)⟩
              | exact ⟨hs2.tr hK3.scr, Or.inr (Or.inr ⟨by omega, hjy, hlt, K, hKl, by rw [if_neg (by omega), if_pos (by omega)]⟩)⟩
              | exact ⟨hs2.tr hK3.scr, Or.inr (Or.inr ⟨by omega, hjy, hlt, K, hKl, by rw [if_neg (by omega), if_neg (by omega), if_pos (by omega)]; exact hquotient1⟩)⟩
              | exact ⟨hs2.tr hK3.scr, Or.inr (Or.inr ⟨by omega, hjy, hlt, K, hKl, by rw [if_neg (by omega), if_neg (by omega), if_neg (by omega)]; exact hquotient1⟩)⟩
            ·
              refine v_aload_n 1 (pc' := 70) rfl dX11_block_69 rfl rfl ?_
              refine v_getR (pc' := 73) rfl dX11_block_70 fk_RX11_47 ly_63 rfl ?_
              refine v_goto (tgt := 80) dX11_block_73 (by decide) ?_
              refine v_cVP (pc' := 83) rfl dX11_block_80 lk_RX11_333 ly_63 rfl (c_quotient_76 l G hBO.1 hKn hs hn7 w3 g0 hWK hD3.1) rfl rfl rfl ?_
              refine v_nm (fun quotient1 hquotient1 => ?_)
              refine v_goto (tgt := 87) dX11_block_83 (by decide) ?_
              refine v_iret dX11_block_87 (by decide) (rfl) ?_
              first
              | exact ⟨Scr.rf _, Or.inl ⟨hn2, rfl⟩⟩
              | exact ⟨hs2, Or.inr (Or.inl ⟨by omega, hno, rfl⟩)⟩
              | exact ⟨hs2.tr hK3.scr, Or.inr (Or.inr ⟨by omega, hjy, hlt, K, hKl, by rw [if_pos (by omega)]⟩)⟩
              | exact ⟨hs2.tr hK3.scr, Or.inr (Or.inr ⟨by omega, hjy, hlt, K, hKl, by rw [if_neg (by omega), if_pos (by omega)]⟩)⟩
              | exact ⟨hs2.tr hK3.scr, Or.inr (Or.inr ⟨by omega, hjy, hlt, K, hKl, by rw [if_neg (by omega), if_neg (by omega), if_pos (by omega)]; exact hquotient1⟩)⟩
              | exact ⟨hs2.tr hK3.scr, Or.inr (Or.inr ⟨by omega, hjy, hlt, K, hKl, by rw [if_neg (by omega), if_neg (by omega), if_neg (by omega)]; exact hquotient1⟩)⟩
          ·
            refine v_aload_n 1 (pc' := 53) rfl dX11_block_52 rfl rfl ?_
            refine v_get (z := ((((sysL n s a).getD i.toNat 0) : Nat) : Int)) (pc' := 56) rfl dX11_block_53 fk_RX11_321 ly_63 rfl (g35) ?_
            refine v_goto (tgt := 87) dX11_block_56 (by decide) ?_
            refine v_iret dX11_block_87 (by decide) (rfl) ?_
            first
            | exact ⟨Scr.rf _, Or.inl ⟨hn2, rfl⟩⟩
            | exact ⟨hs2, Or.inr (Or.inl ⟨by omega, hno, rfl⟩)⟩
            | exact ⟨hs2.tr hK3.scr, Or.inr (Or.inr ⟨by omega, hjy, hlt, K, hKl, by rw [if_pos (by omega)]⟩)⟩
            | exact ⟨hs2.tr hK3.scr, Or.inr (Or.inr ⟨by omega, hjy, hlt, K, hKl, by rw [if_neg (by omega), if_pos (by omega)]⟩)⟩
            | exact ⟨hs2.tr hK3.scr, Or.inr (Or.inr ⟨by omega, hjy, hlt, K, hKl, by rw [if_neg (by omega), if_neg (by omega), if_pos (by omega)]; exact hquotient1⟩)⟩
            | exact ⟨hs2.tr hK3.scr, Or.inr (Or.inr ⟨by omega, hjy, hlt, K, hKl, by rw [if_neg (by omega), if_neg (by omega), if_neg (by omega)]; exact hquotient1⟩)⟩
        ·
          refine v_aload_n 1 (pc' := 41) rfl dX11_block_40 rfl rfl ?_
          refine v_get (z := ((popc ((sysL n s a).getD i.toNat 0) : Nat) : Int)) (pc' := 44) rfl dX11_block_41 fk_RX11_318 ly_63 rfl (g34) ?_
          refine v_goto (tgt := 87) dX11_block_44 (by decide) ?_
          refine v_iret dX11_block_87 (by decide) (rfl) ?_
          first
          | exact ⟨Scr.rf _, Or.inl ⟨hn2, rfl⟩⟩
          | exact ⟨hs2, Or.inr (Or.inl ⟨by omega, hno, rfl⟩)⟩
          | exact ⟨hs2.tr hK3.scr, Or.inr (Or.inr ⟨by omega, hjy, hlt, K, hKl, by rw [if_pos (by omega)]⟩)⟩
          | exact ⟨hs2.tr hK3.scr, Or.inr (Or.inr ⟨by omega, hjy, hlt, K, hKl, by rw [if_neg (by omega), if_pos (by omega)]⟩)⟩
          | exact ⟨hs2.tr hK3.scr, Or.inr (Or.inr ⟨by omega, hjy, hlt, K, hKl, by rw [if_neg (by omega), if_neg (by omega), if_pos (by omega)]; exact hquotient1⟩)⟩
          | exact ⟨hs2.tr hK3.scr, Or.inr (Or.inr ⟨by omega, hjy, hlt, K, hKl, by rw [if_neg (by omega), if_neg (by omega), if_neg (by omega)]; exact hquotient1⟩)⟩
      ·
        have hno : joinB s a n = false ∨ ((sysL n s a).length : Int) ≤ i := by
          rcases hz2 with q | q
          · exact Or.inl q.1
          · exact Or.inr (by omega)
        refine v_bipush (pc' := 26) rfl dX11_block_24 rfl ?_
        refine v_iret dX11_block_26 (by decide) (rfl) ?_
        first
        | exact ⟨Scr.rf _, Or.inl ⟨hn2, rfl⟩⟩
        | exact ⟨hs2, Or.inr (Or.inl ⟨by omega, hno, rfl⟩)⟩
        | exact ⟨hs2.tr hK3.scr, Or.inr (Or.inr ⟨by omega, hjy, hlt, K, hKl, by rw [if_pos (by omega)]⟩)⟩
        | exact ⟨hs2.tr hK3.scr, Or.inr (Or.inr ⟨by omega, hjy, hlt, K, hKl, by rw [if_neg (by omega), if_pos (by omega)]⟩)⟩
        | exact ⟨hs2.tr hK3.scr, Or.inr (Or.inr ⟨by omega, hjy, hlt, K, hKl, by rw [if_neg (by omega), if_neg (by omega), if_pos (by omega)]; exact hquotient1⟩)⟩
        | exact ⟨hs2.tr hK3.scr, Or.inr (Or.inr ⟨by omega, hjy, hlt, K, hKl, by rw [if_neg (by omega), if_neg (by omega), if_neg (by omega)]; exact hquotient1⟩)⟩
    ·
      have hn2 : ¬ (0 ≤ i ∧ 0 ≤ what ∧ what ≤ 3) := fun q => in_0 hin1 (by omega) q.2
      refine v_iconst (pc' := 14) rfl dX11_block_13 ?_
      refine v_iret dX11_block_14 (by decide) (rfl) ?_
      first
      | exact ⟨Scr.rf _, Or.inl ⟨hn2, rfl⟩⟩
      | exact ⟨hs2, Or.inr (Or.inl ⟨by omega, hno, rfl⟩)⟩
      | exact ⟨hs2.tr hK3.scr, Or.inr (Or.inr ⟨by omega, hjy, hlt, K, hKl, by rw [if_pos (by omega)]⟩)⟩
      | exact ⟨hs2.tr hK3.scr, Or.inr (Or.inr ⟨by omega, hjy, hlt, K, hKl, by rw [if_neg (by omega), if_pos (by omega)]⟩)⟩
      | exact ⟨hs2.tr hK3.scr, Or.inr (Or.inr ⟨by omega, hjy, hlt, K, hKl, by rw [if_neg (by omega), if_neg (by omega), if_pos (by omega)]; exact hquotient1⟩)⟩
      | exact ⟨hs2.tr hK3.scr, Or.inr (Or.inr ⟨by omega, hjy, hlt, K, hKl, by rw [if_neg (by omega), if_neg (by omega), if_neg (by omega)]; exact hquotient1⟩)⟩

/-! ===== the reference: the systems in turn, block ===== -/
theorem sysI_s (s a : Nat → Nat) (d m : Nat) : sysI s a d (m + 1) = if sysP s a d (2 * m + 1) then sysI s a d m ++ [2 * m + 1] else sysI s a d m := rfl
theorem sysI_len (s a : Nat → Nat) (d : Nat) : ∀ m, (sysI s a d m).length ≤ m
  | 0 => Nat.le_refl _
  | m + 1 => by
    have := sysI_len s a d m
    rw [sysI_s]; split
    · rw [List.length_append]; simp; omega
    · omega
theorem sysA_len {n : Nat} (h7 : n ≤ 7) (s a : Nat → Nat) : ∀ e, (sysA n s a e).length ≤ 64 * e
  | 0 => Nat.le_refl _
  | e + 1 => by
    have := sysA_len h7 s a e
    have h := sysI_len s a (e + 2) (2 ^ (n - 1))
    have : 2 ^ (n - 1) ≤ 2 ^ 6 := Nat.pow_le_pow_right (by decide) (by omega)
    simp only [sysA, List.length_append]; omega
def BLKD : Prop := ∀ (n : Nat) (s a : Nat → Nat), 1 ≤ n → n ≤ 7 → Pm n s → Pm n a → joinB s a n = true → ∀ d, 2 ≤ d → d < n → n % d ≠ 0 → sysI s a d (2 ^ (n - 1)) = []
def RcW (w : Wd) (X : List Nat) (wh : Int) : Prop := ∀ i : Nat, wh = i → i < X.length → w 63 34 = (popc (X.getD i 0) : Nat) ∧ w 63 35 = (X.getD i 0 : Nat)
theorem RcW.fr {w w' : Wd} {X : List Nat} {wh : Int} (h : RcW w X wh) (h1 : w' 63 34 = w 63 34) (h2 : w' 63 35 = w 63 35) : RcW w' X wh := fun i a b => by rw [h1, h2]; exact h i a b
theorem RcW.hit {w w' : Wd} {X : List Nat} {wh : Int} {v d : Nat} (hl : wh = (X.length : Nat)) (hd : popc v = d) (e1 : w' 63 34 = (d : Nat)) (e2 : w' 63 35 = (v : Nat)) : RcW w' (X ++ [v]) wh := fun i a b => by
  have : i = X.length := by omega
  rw [this, List.getD_eq_getElem?_getD, List.getElem?_append_right (Nat.le_refl _), Nat.sub_self, e1, e2, ← hd]
  exact ⟨rfl, rfl⟩
theorem RcW.oth {w w' : Wd} {X : List Nat} {wh : Int} {v : Nat} (h : RcW w X wh) (hl : wh ≠ (X.length : Nat)) (h1 : w' 63 34 = w 63 34) (h2 : w' 63 35 = w 63 35) : RcW w' (X ++ [v]) wh := fun i a b => by
  rw [List.length_append] at b
  have b' : i < X.length + 1 := b
  have hi : i < X.length := by omega
  rw [h1, h2, List.getD_eq_getElem?_getD, List.getElem?_append_left hi, ← List.getD_eq_getElem?_getD]
  exact h i a hi
theorem Ks.scr {w w' : Wd} (h : Ks w w') : Scr w w' := fun o j k => by
  by_cases e : o = 63
  · rw [e] at k ⊢
    exact h.1 j (fun e2 => by rw [e2] at k; exact absurd k (by decide))
  · refine h.2 o j ?_
    rw [← Bool.not_eq_true]; intro hh
    have : o = 63 ∨ o = 76 ∨ o = 77 ∨ o = 81 := by simpa using hh
    rw [keepB_ne e j 0] at k
    rcases this with e2 | e2 | e2 | e2
    · exact e e2
    all_goals (rw [e2] at k; exact absurd k (by decide))
set_option maxHeartbeats 4000000 in
set_option maxRecDepth 100000 in
theorem c_systemsM (l : Launch) (G : Gx) {wh : Int} (hwh : rg wh) (hblk : BLKD) {n : Nat} {s a : Nat → Nat} (hV : MapV n s a) (w : Wd) (hM : RMW w n s a) : Sp l G 4 mX11_systems [aR 63, aI (wh)] w (fun z w' => Scr w w' ∧ ((joinB s a n = false ∧ z = 0) ∨ (joinB s a n = true ∧ z = ((sysL n s a).length : Nat) ∧ RcW w' (sysL n s a) wh))) := by
  obtain ⟨⟨hn1, hn7⟩, hs, ha⟩ := id hV
  obtain ⟨r0, r1, r2⟩ := id hM
  have h2n : 2 ^ n ≤ 128 := Nat.pow_le_pow_right (show 2 > 0 by decide) hn7
  refine Sp_of RX11 rfl (by decide +kernel) rfl (Nat.le_of_ble_eq_true rfl) ?_
  refine v_iconst (pc' := 1) rfl dX11_systems_0 ?_
  refine v_istore_n (ls' := [(2, _), (0, _), (1, _)]) (pc' := 2) rfl dX11_systems_1 rfl rfl rfl ?_
  refine v_aload_n 1 (pc' := 3) rfl dX11_systems_2 rfl rfl ?_
  refine v_cVi (pc' := 6) rfl dX11_systems_3 lk_RX11_311 ly_63 rfl (c_isOne l G hV w hM) rfl rfl rfl (fun isOne1 w1 hq1 => ?_)
  obtain ⟨f1, z1⟩ := hq1
  have r0 : w1 63 0 = (n : Int) := (f1 63 0 (by decide)).trans r0
  have r1 : w1 63 1 = ((cdk s n : Nat) : Int) := (f1 63 1 (by decide)).trans r1
  have r2 : w1 63 2 = ((cdk a n : Nat) : Int) := (f1 63 2 (by decide)).trans r2
  refine v_if_ne (pc' := 9) (tgt := 11) rfl dX11_systems_6 (by decide) (jn_r z1) (fun c0 => ?_) (fun c0 => ?_)
  ·
    have hjy := jn_1 z1 (by omega)
    refine v_iconst (pc' := 12) rfl dX11_systems_11 ?_
    refine v_istore_n (ls' := [(3, _), (2, _), (0, _), (1, _)]) (pc' := 13) rfl dX11_systems_12 rfl rfl rfl ?_
    refine v_ls [2, 3, 1, 0] rfl ?_
    refine v_loop3 13 (fun (many : Int) (d : Int) (wl : Wd) => ∃ e : Nat, d = (e : Int) + 2 ∧ e ≤ n - 2 ∧ many = ((sysA n s a e).length : Nat) ∧ RcW wl (sysA n s a e) wh ∧ Scr w wl) (fun (many : Int) (d : Int) (wl : Wd) => (8 - d).toNat) (fun (many : Int) (d : Int) (wl : Wd) => [(0, aR 63), (1, aI (wh)), (2, aI (many)), (3, aI (d))]) (fun (many : Int) (d : Int) (wl : Wd) => []) (fun (many : Int) (d : Int) (wl : Wd) => wl) (fun many d wl hI0 ih0 => ?_) (0) (2) w1 (⟨0, rfl, by omega, rfl, fun i a b => absurd b (Nat.not_lt_zero _), Scr.of f1 (by decide)⟩)
    obtain ⟨e, hd, he, hmany, hRc, hsl⟩ := hI0
    have g0 := (hsl 63 0 (by decide)).trans hM.1
    have hAl := sysA_len hn7 s a e
    refine v_iload_n 3 (pc' := 14) rfl dX11_systems_13 rfl rfl ?_
    refine v_aload_n 0 (pc' := 15) rfl dX11_systems_14 rfl rfl ?_
    refine v_get (z := (n : Int)) (pc' := 18) rfl dX11_systems_15 fk_RX11_125 ly_63 rfl (g0) ?_
    refine v_icmp_ge (pc' := 21) (tgt := 103) rfl dX11_systems_18 (by decide) (by omega) (by omega) (fun c1 => ?_) (fun c1 => ?_)
    ·
      have hee : e = n - 2 := by omega
      refine v_iload_n 2 (pc' := 104) rfl dX11_systems_103 rfl rfl ?_
      refine v_iret dX11_systems_104 (by decide) (rfl) ?_
      exact ⟨hsl, Or.inr ⟨hjy, by rw [hmany, hee]; rfl, by rw [hee] at hRc; exact hRc⟩⟩
    ·
      have hrl := Nat.mod_lt n (show 0 < e + 2 by omega)
      refine v_aload_n 0 (pc' := 22) rfl dX11_systems_21 rfl rfl ?_
      refine v_get (z := (n : Int)) (pc' := 25) rfl dX11_systems_22 fk_RX11_125 ly_63 rfl (g0) ?_
      refine v_iload_n 3 (pc' := 26) rfl dX11_systems_25 rfl rfl ?_
      refine v_irem (z := ((n % (e + 2) : Nat) : Int)) (pc' := 27) rfl dX11_systems_26 (iz_ne (by omega) (by omega)) (by rw [hd, show (e : Int) + 2 = ((e + 2 : Nat) : Int) by omega]; exact iz_remN (by omega) (by omega) (by omega) (by omega)) ?_
      refine v_if_eq (pc' := 30) (tgt := 33) rfl dX11_systems_27 (by decide) (by omega) (fun c2 => ?_) (fun c2 => ?_)
      ·
        refine v_iconst (pc' := 34) rfl dX11_systems_33 ?_
        refine v_istore (ls' := [(4, _), (0, _), (1, _), (2, _), (3, _)]) (pc' := 36) rfl dX11_systems_34 rfl rfl ?_
        refine v_ls [1, 2, 3, 4, 0] rfl ?_
        refine v_loop3 36 (fun (many : Int) (v : Int) (wm : Wd) => ∃ m : Nat, v = ((2 * m + 1 : Nat) : Int) ∧ m ≤ 2 ^ (n - 1) ∧ many = ((sysA n s a e ++ sysI s a (e + 2) m).length : Nat) ∧ RcW wm (sysA n s a e ++ sysI s a (e + 2) m) wh ∧ Scr w wm) (fun (many : Int) (v : Int) (wm : Wd) => (130 - v).toNat) (fun (many : Int) (v : Int) (wm : Wd) => [(0, aR 63), (1, aI (wh)), (2, aI (many)), (3, aI (d)), (4, aI (v))]) (fun (many : Int) (v : Int) (wm : Wd) => []) (fun (many : Int) (v : Int) (wm : Wd) => wm) (fun many v wm hI1 ih1 => ?_) (many) (1) wl (⟨0, rfl, Nat.zero_le _, by show _ = (((sysA n s a e) ++ []).length : Int); rw [List.append_nil]; exact hmany, by show RcW _ ((sysA n s a e) ++ []) wh; rw [List.append_nil]; exact hRc, hsl⟩)
        obtain ⟨m, hv, hm, hmany2, hRm, hsm⟩ := hI1
        have g0 := (hsm 63 0 (by decide)).trans hM.1
        have hIl := sysI_len s a (e + 2) m
        have hXl : (sysA n s a e ++ sysI s a (e + 2) m).length = (sysA n s a e).length + (sysI s a (e + 2) m).length := List.length_append
        have h2m : 2 ^ n = 2 * 2 ^ (n - 1) := by conv => lhs; rw [show n = n - 1 + 1 by omega, Nat.pow_succ']
        refine v_iload 4 (pc' := 38) rfl dX11_systems_36 rfl ?_
        refine v_iconst (pc' := 39) rfl dX11_systems_38 ?_
        refine v_aload_n 0 (pc' := 40) rfl dX11_systems_39 rfl rfl ?_
        refine v_get (z := (n : Int)) (pc' := 43) rfl dX11_systems_40 fk_RX11_125 ly_63 rfl (g0) ?_
        refine v_ishl (z := ((2 ^ n : Nat) : Int)) (pc' := 44) rfl dX11_systems_43 (iz_one_shl rfl (by omega)) ?_
        refine v_icmp_ge (pc' := 47) (tgt := 97) rfl dX11_systems_44 (by decide) (by omega) (by omega) (fun c3 => ?_) (fun c3 => ?_)
        ·
          have hme : m = 2 ^ (n - 1) := by omega
          refine v_iinc (ls' := [(3, _), (0, _), (1, _), (2, _), (4, _)]) 3 (pc' := 100) rfl dX11_systems_97 rfl rfl rfl ?_
          refine v_nl (fun d' hd' => ?_)
          refine v_goto (tgt := 13) dX11_systems_100 (by decide) ?_
          refine v_ls [1, 2, 3, 0] rfl ?_
          exact ih0 (many) (d') wm (⟨e + 1, by omega, by omega, by rw [hmany2, hme]; rfl, by rw [hme] at hRm; exact hRm, hsm⟩) (by omega)
        ·
          have hp14 := popc_le14 (2 * m + 1)
          refine v_iload 4 (pc' := 49) rfl dX11_systems_47 rfl ?_
          refine v_cSP (pc' := 52) rfl dX11_systems_49 lk_RX11_283 rfl (c_bits l G hv (by omega) wm) rfl rfl rfl ?_
          refine v_nm (fun bits1 hbits1 => ?_)
          refine v_iload_n 3 (pc' := 53) rfl dX11_systems_52 rfl rfl ?_
          refine v_icmp_ne (pc' := 56) (tgt := 88) rfl dX11_systems_53 (by decide) (by omega) (by omega) (fun c4 => ?_) (fun c4 => ?_)
          ·
            have hno : ¬ sysP s a (e + 2) (2 * m + 1) = true := fun q => by
              unfold sysP at q; rw [Bool.and_eq_true, beq_iff_eq] at q
              omega
            refine v_iload 4 (pc' := 90) rfl dX11_systems_88 rfl ?_
            refine v_iconst (pc' := 91) rfl dX11_systems_90 ?_
            refine v_iadd (pc' := 92) rfl dX11_systems_91 ?_
            refine v_nm (fun v' hv' => ?_)
            refine v_istore (ls' := [(4, _), (0, _), (1, _), (2, _), (3, _)]) (pc' := 94) rfl dX11_systems_92 rfl rfl ?_
            refine v_goto (tgt := 36) dX11_systems_94 (by decide) ?_
            refine v_ls [1, 2, 3, 4, 0] rfl ?_
            exact ih1 (many) (v') wm (⟨m + 1, by omega, by omega, by rw [sysI_s, if_neg hno]; exact hmany2, by rw [sysI_s, if_neg hno]; exact hRm, hsm⟩) (by omega)
          ·
            have hpe : popc (2 * m + 1) = e + 2 := by omega
            refine v_aload_n 0 (pc' := 57) rfl dX11_systems_56 rfl rfl ?_
            refine v_iload 4 (pc' := 59) rfl dX11_systems_57 rfl ?_
            refine v_cVi (pc' := 62) rfl dX11_systems_59 lk_RX11_315 ly_63 rfl (c_isSystem l G hv (by omega) hV (by omega) wm (hM.s hsm)) rfl rfl rfl (fun isSystem1 w3 hq3 => ?_)
            obtain ⟨z3, -, -, hK3⟩ := hq3
            have g0 : w3 63 0 = (n : Int) := (hK3.scr 63 0 (by decide)).trans g0
            refine v_if_ne (pc' := 65) (tgt := 68) rfl dX11_systems_62 (by decide) (os_r z3) (fun c5 => ?_) (fun c5 => ?_)
            ·
              have hyes : sysP s a (e + 2) (2 * m + 1) = true := by
                obtain ⟨K, hK⟩ := some_of z3 (by omega)
                unfold sysP; rw [hK, hpe, beq_self_eq_true]; rfl
              refine v_iload_n 2 (pc' := 69) rfl dX11_systems_68 rfl rfl ?_
              refine v_iload_n 1 (pc' := 70) rfl dX11_systems_69 rfl rfl ?_
              refine v_icmp_ne (pc' := 73) (tgt := 84) rfl dX11_systems_70 (by decide) (by omega) (by omega) (fun c6 => ?_) (fun c6 => ?_)
              ·
                refine v_iload_n 2 (pc' := 85) rfl dX11_systems_84 rfl rfl ?_
                refine v_iconst (pc' := 86) rfl dX11_systems_85 ?_
                refine v_iadd (pc' := 87) rfl dX11_systems_86 ?_
                refine v_nm (fun many' hmany' => ?_)
                refine v_istore_n (ls' := [(2, _), (0, _), (1, _), (3, _), (4, _)]) (pc' := 88) rfl dX11_systems_87 rfl rfl rfl ?_
                refine v_iload 4 (pc' := 90) rfl dX11_systems_88 rfl ?_
                refine v_iconst (pc' := 91) rfl dX11_systems_90 ?_
                refine v_iadd (pc' := 92) rfl dX11_systems_91 ?_
                refine v_nm (fun v' hv' => ?_)
                refine v_istore (ls' := [(4, _), (2, _), (0, _), (1, _), (3, _)]) (pc' := 94) rfl dX11_systems_92 rfl rfl ?_
                refine v_goto (tgt := 36) dX11_systems_94 (by decide) ?_
                refine v_ls [2, 3, 1, 4, 0] rfl ?_
                exact ih1 (many') (v') w3 (⟨m + 1, by omega, by omega, by rw [sysI_s, if_pos hyes, ← List.append_assoc, List.length_append]; simp; omega, by rw [sysI_s, if_pos hyes, ← List.append_assoc]; exact hRm.oth (by omega) (hK3.1 34 (by decide)) (hK3.1 35 (by decide)), hsm.tr hK3.scr⟩) (by omega)
              ·
                refine v_aload_n 0 (pc' := 74) rfl dX11_systems_73 rfl rfl ?_
                refine v_iload_n 3 (pc' := 75) rfl dX11_systems_74 rfl rfl ?_
                refine v_put (pc' := 78) rfl dX11_systems_75 fi_RX11_318 ly_63 rfl ?_
                refine v_nmw (fun w4 hw4 => ?_)
                have g0 : w4 63 0 = (n : Int) := by rw [hw4, up_ne _ _ (by omega)]; exact g0
                refine v_aload_n 0 (pc' := 79) rfl dX11_systems_78 rfl rfl ?_
                refine v_iload 4 (pc' := 81) rfl dX11_systems_79 rfl ?_
                refine v_put (pc' := 84) rfl dX11_systems_81 fi_RX11_321 ly_63 rfl ?_
                refine v_nmw (fun w5 hw5 => ?_)
                have g0 : w5 63 0 = (n : Int) := by rw [hw5, up_ne _ _ (by omega)]; exact g0
                refine v_iload_n 2 (pc' := 85) rfl dX11_systems_84 rfl rfl ?_
                refine v_iconst (pc' := 86) rfl dX11_systems_85 ?_
                refine v_iadd (pc' := 87) rfl dX11_systems_86 ?_
                refine v_nm (fun many' hmany' => ?_)
                refine v_istore_n (ls' := [(2, _), (0, _), (1, _), (3, _), (4, _)]) (pc' := 88) rfl dX11_systems_87 rfl rfl rfl ?_
                refine v_iload 4 (pc' := 90) rfl dX11_systems_88 rfl ?_
                refine v_iconst (pc' := 91) rfl dX11_systems_90 ?_
                refine v_iadd (pc' := 92) rfl dX11_systems_91 ?_
                refine v_nm (fun v' hv' => ?_)
                refine v_istore (ls' := [(4, _), (2, _), (0, _), (1, _), (3, _)]) (pc' := 94) rfl dX11_systems_92 rfl rfl ?_
                refine v_goto (tgt := 36) dX11_systems_94 (by decide) ?_
                refine v_ls [2, 3, 1, 4, 0] rfl ?_
                exact ih1 (many') (v') w5 (⟨m + 1, by omega, by omega, by rw [sysI_s, if_pos hyes, ← List.append_assoc, List.length_append]; simp; omega, by rw [sysI_s, if_pos hyes, ← List.append_assoc]; exact RcW.hit (w := wm) (d := e + 2) (v := 2 * m + 1) (by omega) hpe (by rw [hw5, up_ne _ _ (by omega), hw4, up_eq]; omega) (by rw [hw5, up_eq]; omega), by rw [hw5, hw4]; exact ((hsm.tr hK3.scr).up (by decide)).up (by decide)⟩) (by omega)
            ·
              have hno : ¬ sysP s a (e + 2) (2 * m + 1) = true := fun q => by
                unfold sysP at q; rw [Bool.and_eq_true, none_of z3 (by omega)] at q
                exact absurd q.2 (by decide)
              refine v_goto (tgt := 88) dX11_systems_65 (by decide) ?_
              refine v_iload 4 (pc' := 90) rfl dX11_systems_88 rfl ?_
              refine v_iconst (pc' := 91) rfl dX11_systems_90 ?_
              refine v_iadd (pc' := 92) rfl dX11_systems_91 ?_
              refine v_nm (fun v' hv' => ?_)
              refine v_istore (ls' := [(4, _), (0, _), (1, _), (2, _), (3, _)]) (pc' := 94) rfl dX11_systems_92 rfl rfl ?_
              refine v_goto (tgt := 36) dX11_systems_94 (by decide) ?_
              refine v_ls [1, 2, 3, 4, 0] rfl ?_
              exact ih1 (many) (v') w3 (⟨m + 1, by omega, by omega, by rw [sysI_s, if_neg hno]; exact hmany2, by rw [sysI_s, if_neg hno]; exact hRm.fr (hK3.1 34 (by decide)) (hK3.1 35 (by decide)), hsm.tr hK3.scr⟩) (by omega)
      ·
        have hnd : n % (e + 2) ≠ 0 := by omega
        refine v_goto (tgt := 97) dX11_systems_30 (by decide) ?_
        refine v_iinc (ls' := [(3, _), (0, _), (1, _), (2, _)]) 3 (pc' := 100) rfl dX11_systems_97 rfl rfl rfl ?_
        refine v_nl (fun d' hd' => ?_)
        refine v_goto (tgt := 13) dX11_systems_100 (by decide) ?_
        refine v_ls [1, 2, 3, 0] rfl ?_
        exact ih0 (many) (d') wl (⟨e + 1, by omega, by omega, by rw [hmany]; show _ = (((sysA n s a e) ++ sysI s a (e + 2) (2 ^ (n - 1))).length : Int); rw [hblk n s a hn1 hn7 hs ha hjy (e + 2) (by omega) (by omega) hnd, List.append_nil], by show RcW _ ((sysA n s a e) ++ sysI s a (e + 2) (2 ^ (n - 1))) wh; rw [hblk n s a hn1 hn7 hs ha hjy (e + 2) (by omega) (by omega) hnd, List.append_nil]; exact hRc, hsl⟩) (by omega)
  ·
    have hjn := jn_0 z1 (by omega)
    refine v_iconst (pc' := 10) rfl dX11_systems_9 ?_
    refine v_iret dX11_systems_10 (by decide) (rfl) ?_
    exact ⟨Scr.of f1 (by decide), Or.inl ⟨hjn, rfl⟩⟩

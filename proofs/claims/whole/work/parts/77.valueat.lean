/-! ===== the reference: the value of a character ===== -/
theorem LsW.fr {w w' : Wd} {c d : Nat} {L : FL} (h : LsW w c d L) (h1 : ∀ j, w' c j = w c j) (h2 : ∀ j, w' d j = w d j) : LsW w' c d L := fun i hi => by rw [h1, h2]; exact h i hi
theorem DgM.fr {w w' : Wd} {t : Nat} (h : DgM w t) (h1 : w' 63 37 = w 63 37) (h2 : ∀ j, w' 82 j = w 82 j) : DgM w' t := ⟨by rw [h1]; exact h.1, fun k hk => by rw [h2]; exact h.2 k hk⟩
set_option maxHeartbeats 4000000 in
set_option maxRecDepth 100000 in
theorem c_valueAt (l : Launch) (G : Gx) {p0 t0 : Int} {p t : Nat} (hp : p0 = (p : Nat)) (hp1 : 1 ≤ p) (hp7 : p < 10000000) (ht : t0 = (t : Nat)) (ht1 : 1 ≤ t) (ht7 : t < 10000000) (hok : okV p t = true) (hdg : ∀ k, k ≤ eT t → 1 ≤ dgT t k ∧ dgT t k ≤ 7) (w : Wd)  : Sp l G 2 mX11_valueAt [aR 63, aI (p0), aI (t0)] w (fun z w' => z = valN p t ∧ Scr w w') := by
  have he6 := (eT_at ht1 ht7).1
  refine Sp_of RX11 rfl (by decide +kernel) rfl (Nat.le_of_ble_eq_true rfl) ?_
  refine v_aload_n 0 (pc' := 1) rfl dX11_valueAt_0 rfl rfl ?_
  refine v_getR (pc' := 4) rfl dX11_valueAt_1 fk_RX11_68 ly_63 rfl ?_
  refine v_iconst (pc' := 5) rfl dX11_valueAt_4 ?_
  refine v_aload_n 0 (pc' := 6) rfl dX11_valueAt_5 rfl rfl ?_
  refine v_iload_n 1 (pc' := 7) rfl dX11_valueAt_6 rfl rfl ?_
  refine v_cVi (pc' := 10) rfl dX11_valueAt_7 lk_RX11_345 ly_63 rfl (c_figureOf l G hp hp1 hp7 w) rfl rfl rfl (fun figureOf1 w1 hq1 => ?_)
  obtain ⟨zf, hK1⟩ := hq1
  have hsc1 := hK1.scr (by decide) (by decide)
  refine v_iast (pc' := 11) rfl dX11_valueAt_10 ly_83 (by omega) (by omega) rfl ?_
  refine v_nmw (fun w2 hw2 => ?_)
  refine v_aload_n 0 (pc' := 12) rfl dX11_valueAt_11 rfl rfl ?_
  refine v_getR (pc' := 15) rfl dX11_valueAt_12 fk_RX11_71 ly_63 rfl ?_
  refine v_iconst (pc' := 16) rfl dX11_valueAt_15 ?_
  refine v_iconst (pc' := 17) rfl dX11_valueAt_16 ?_
  refine v_iast (pc' := 18) rfl dX11_valueAt_17 ly_84 (by omega) (by omega) rfl ?_
  refine v_nmw (fun w3 hw3 => ?_)
  refine v_iconst (pc' := 19) rfl dX11_valueAt_18 ?_
  refine v_istore_n (ls' := [(3, _), (0, _), (1, _), (2, _)]) (pc' := 20) rfl dX11_valueAt_19 rfl rfl rfl ?_
  refine v_aload_n 1 (pc' := 21) rfl dX11_valueAt_20 rfl rfl ?_
  refine v_iload_n 3 (pc' := 22) rfl dX11_valueAt_21 rfl rfl ?_
  refine v_cVv (pc' := 25) rfl dX11_valueAt_22 lk_RX11_339 ly_63 rfl (c_laysDigits l G ht ht1 ht7 w3) rfl rfl rfl (fun laysDigits1 w4 hq4 => ?_)
  obtain ⟨hD0, hK4⟩ := hq4
  have hsc4 : Scr w w4 := by
    have a : Scr w w3 := by rw [hw3, hw2]; exact (hsc1.up (keepB_ne (by decide) _ 0)).up (keepB_ne (by decide) _ 0)
    exact a.tr (hK4.scr (by decide) (by decide))
  have hL4 : LsW w4 83 84 (lsM p t 0) := fun i hi => by
    have hi1 : i < 1 := hi
    have hi0 : i = 0 := by omega
    subst hi0
    rw [hK4.2 83 0 rfl, hK4.2 84 0 rfl, hw3, hw2]
    exact ⟨zf, rfl⟩
  refine v_iconst (pc' := 26) rfl dX11_valueAt_25 ?_
  refine v_istore (ls' := [(4, _), (3, _), (0, _), (1, _), (2, _)]) (pc' := 28) rfl dX11_valueAt_26 rfl rfl ?_
  refine v_ls [2, 3, 4, 1, 0] rfl ?_
  refine v_loop3 28 (fun (many : Int) (k4 : Int) (wl : Wd) => ∃ k : Nat, k4 = k ∧ k ≤ eT t + 1 ∧ many = ((lsM p t k).length : Nat) ∧ LsW wl 83 84 (lsM p t k) ∧ DgM wl t ∧ Scr w wl) (fun (many : Int) (k4 : Int) (wl : Wd) => (8 - k4).toNat) (fun (many : Int) (k4 : Int) (wl : Wd) => [(0, aR 63), (1, aI (p0)), (2, aI (t0)), (3, aI (many)), (4, aI (k4))]) (fun (many : Int) (k4 : Int) (wl : Wd) => []) (fun (many : Int) (k4 : Int) (wl : Wd) => wl) (fun many k4 wl hI0 ih0 => ?_) (1) (0) w4 (⟨0, rfl, by omega, rfl, hL4, hD0, hsc4⟩)
  obtain ⟨k, hk4, hk, hmany, hLl, hDl, hscl⟩ := hI0
  have gd := hDl.1
  have hA := okV_at hok hk
  refine v_iload 4 (pc' := 30) rfl dX11_valueAt_28 rfl ?_
  refine v_aload_n 0 (pc' := 31) rfl dX11_valueAt_30 rfl rfl ?_
  refine v_get (z := ((eT t + 1 : Nat) : Int)) (pc' := 34) rfl dX11_valueAt_31 fk_RX11_336 ly_63 rfl (gd) ?_
  refine v_icmp_ge (pc' := 37) (tgt := 255) rfl dX11_valueAt_34 (by decide) (by omega) (by omega) (fun c0 => ?_) (fun c0 => ?_)
  ·
    have hke : k = eT t + 1 := by omega
    have J269 : ∀ (zz : Int) (hJ : zz = valM p t), V (mX l G 2 9 (some .int) (fun z w' => z = valN p t ∧ Scr w w')) RX11 cX11_valueAt 269 [(0, aR 63), (1, aI (p0)), (2, aI (t0)), (3, aI (many)), (4, aI (k4))] [aI (zz)] wl := by
      intro zz hJ
      have hzz := hJ
      refine v_iret dX11_valueAt_269 (by decide) (rfl) ?_
      exact ⟨hzz.trans (okV_eq hok), hscl⟩
    refine v_iload_n 3 (pc' := 256) rfl dX11_valueAt_255 rfl rfl ?_
    refine v_if_ne (pc' := 259) (tgt := 263) rfl dX11_valueAt_256 (by decide) (by omega) (fun c7 => ?_) (fun c7 => ?_)
    ·
      refine v_aload_n 0 (pc' := 264) rfl dX11_valueAt_263 rfl rfl ?_
      refine v_getR (pc' := 267) rfl dX11_valueAt_264 fk_RX11_71 ly_63 rfl ?_
      refine v_iconst (pc' := 268) rfl dX11_valueAt_267 ?_
      refine v_iald (z := (((lsM p t k).getD 0 (0, 0)).2)) (pc' := 269) rfl dX11_valueAt_268 ly_84 (by omega) (by omega) rfl ((hLl 0 (by omega)).2) ?_
      exact J269 (((((lsM p t k).getD 0 (0, 0)).2))) (by unfold valM; rw [← hke]; rw [if_neg (by omega)])
    ·
      refine v_iconst (pc' := 260) rfl dX11_valueAt_259 ?_
      refine v_goto (tgt := 269) dX11_valueAt_260 (by decide) ?_
      exact J269 (0) (by unfold valM; rw [← hke]; rw [if_pos (by omega)])
  ·
    have hd7 := hdg k (by omega)
    refine v_aload_n 0 (pc' := 38) rfl dX11_valueAt_37 rfl rfl ?_
    refine v_getR (pc' := 41) rfl dX11_valueAt_38 fk_RX11_65 ly_63 rfl ?_
    refine v_iload 4 (pc' := 43) rfl dX11_valueAt_41 rfl ?_
    refine v_iald (z := ((dgT t k : Nat) : Int)) (pc' := 44) rfl dX11_valueAt_43 ly_82 (by omega) (by omega) rfl (by rw [show k4.toNat = k by omega]; exact hDl.2 k (by omega)) ?_
    refine v_nm (fun d' hd' => ?_)
    refine v_istore (ls' := [(5, _), (0, _), (1, _), (2, _), (3, _), (4, _)]) (pc' := 46) rfl dX11_valueAt_44 rfl rfl ?_
    refine v_aload_n 1 (pc' := 47) rfl dX11_valueAt_46 rfl rfl ?_
    refine v_iconst (pc' := 48) rfl dX11_valueAt_47 ?_
    refine v_put (pc' := 51) rfl dX11_valueAt_48 fi_RX11_342 ly_63 rfl ?_
    refine v_nmw (fun w5 hw5 => ?_)
    have gd : w5 63 37 = ((eT t + 1 : Nat) : Int) := by rw [hw5, up_ne _ _ (by omega)]; exact gd
    refine v_iconst (pc' := 52) rfl dX11_valueAt_51 ?_
    refine v_istore (ls' := [(6, _), (5, _), (0, _), (1, _), (2, _), (3, _), (4, _)]) (pc' := 54) rfl dX11_valueAt_52 rfl rfl ?_
    refine v_ls [2, 3, 4, 5, 6, 1, 0] rfl ?_
    refine v_loop2 54 (fun (i : Int) (wm : Wd) => ∃ i0 : Nat, i = i0 ∧ i0 ≤ (lsM p t k).length ∧ wm 63 42 = ((nxM (dgT t k) (lsM p t k) i0).length : Nat) ∧ LsW wm 85 86 (nxM (dgT t k) (lsM p t k) i0) ∧ LsW wm 83 84 (lsM p t k) ∧ DgM wm t ∧ Scr w wm) (fun (i : Int) (wm : Wd) => (64 - i).toNat) (fun (i : Int) (wm : Wd) => [(0, aR 63), (1, aI (p0)), (2, aI (t0)), (3, aI (many)), (4, aI (k4)), (5, aI (d')), (6, aI (i))]) (fun (i : Int) (wm : Wd) => []) (fun (i : Int) (wm : Wd) => wm) (fun i wm hI1 ih1 => ?_) (0) w5 (⟨0, rfl, by omega, by rw [hw5, up_eq]; rfl, fun x hx => absurd hx (Nat.not_lt_zero _), hLl.fr (fun j => by rw [hw5, up_ne _ _ (by omega)]) (fun j => by rw [hw5, up_ne _ _ (by omega)]), hDl.fr (by rw [hw5, up_ne _ _ (by omega)]) (fun j => by rw [hw5, up_ne _ _ (by omega)]), by rw [hw5]; exact hscl.up (by decide)⟩)
    obtain ⟨i0, hi, hi0, hm42, hLm, hLA, hDm, hscm⟩ := hI1
    have gd := hDm.1
    refine v_iload 6 (pc' := 56) rfl dX11_valueAt_54 rfl ?_
    refine v_iload_n 3 (pc' := 57) rfl dX11_valueAt_56 rfl rfl ?_
    refine v_icmp_ge (pc' := 60) (tgt := 198) rfl dX11_valueAt_57 (by decide) (by omega) (by omega) (fun c1 => ?_) (fun c1 => ?_)
    ·
      have hie : i0 = (lsM p t k).length := by omega
      refine v_iconst (pc' := 199) rfl dX11_valueAt_198 ?_
      refine v_istore (ls' := [(6, _), (0, _), (1, _), (2, _), (3, _), (4, _), (5, _)]) (pc' := 201) rfl dX11_valueAt_199 rfl rfl ?_
      obtain ⟨B, hB⟩ : ∃ B, B = nxM (dgT t k) (lsM p t k) (lsM p t k).length := ⟨_, rfl⟩
      have hB15 : B.length ≤ 15 := by rw [hB]; exact (okV_at hok (show k + 1 ≤ eT t + 1 by omega)).1
      rw [hie, ← hB] at hm42 hLm
      refine v_ls [1, 2, 3, 4, 5, 6, 0] rfl ?_
      refine v_loop2 201 (fun (j6 : Int) (wq : Wd) => ∃ j : Nat, j6 = j ∧ j ≤ B.length ∧ wq 63 42 = (B.length : Nat) ∧ LsW wq 85 86 B ∧ (∀ x, x < j → wq 83 x = ((B.getD x (0, 0)).1 : Int) ∧ wq 84 x = (B.getD x (0, 0)).2) ∧ DgM wq t ∧ Scr w wq) (fun (j6 : Int) (wq : Wd) => (64 - j6).toNat) (fun (j6 : Int) (wq : Wd) => [(0, aR 63), (1, aI (p0)), (2, aI (t0)), (3, aI (many)), (4, aI (k4)), (5, aI (d')), (6, aI (j6))]) (fun (j6 : Int) (wq : Wd) => []) (fun (j6 : Int) (wq : Wd) => wq) (fun j6 wq hI3 ih3 => ?_) (0) wm (⟨0, rfl, by omega, hm42, hLm, fun x hx => absurd hx (Nat.not_lt_zero _), hDm, hscm⟩)
      obtain ⟨j, hj6, hj, hq42, hLq, hC, hDq, hscq⟩ := hI3
      refine v_iload 6 (pc' := 203) rfl dX11_valueAt_201 rfl ?_
      refine v_aload_n 0 (pc' := 204) rfl dX11_valueAt_203 rfl rfl ?_
      refine v_get (z := ((B.length : Nat) : Int)) (pc' := 207) rfl dX11_valueAt_204 fk_RX11_342 ly_63 rfl (hq42) ?_
      refine v_icmp_ge (pc' := 210) (tgt := 244) rfl dX11_valueAt_207 (by decide) (by omega) (by omega) (fun c6 => ?_) (fun c6 => ?_)
      ·
        have hje : j = B.length := by omega
        refine v_aload_n 0 (pc' := 245) rfl dX11_valueAt_244 rfl rfl ?_
        refine v_get (z := ((B.length : Nat) : Int)) (pc' := 248) rfl dX11_valueAt_245 fk_RX11_342 ly_63 rfl (hq42) ?_
        refine v_nm (fun many' hmany' => ?_)
        refine v_istore_n (ls' := [(3, _), (0, _), (1, _), (2, _), (4, _), (5, _), (6, _)]) (pc' := 249) rfl dX11_valueAt_248 rfl rfl rfl ?_
        refine v_iinc (ls' := [(4, _), (3, _), (0, _), (1, _), (2, _), (5, _), (6, _)]) 4 (pc' := 252) rfl dX11_valueAt_249 rfl rfl rfl ?_
        refine v_nl (fun k4' hk4' => ?_)
        refine v_goto (tgt := 28) dX11_valueAt_252 (by decide) ?_
        refine v_ls [2, 3, 4, 1, 0] rfl ?_
        exact ih0 (many') (k4') wq (⟨k + 1, by omega, by omega, by rw [hmany', show lsM p t (k + 1) = nxM (dgT t k) (lsM p t k) (lsM p t k).length from rfl, ← hB], by show LsW _ 83 84 (nxM (dgT t k) (lsM p t k) (lsM p t k).length); rw [← hB]; exact fun x hx => hC x (by omega), hDq, hscq⟩) (by omega)
      ·
        refine v_aload_n 0 (pc' := 211) rfl dX11_valueAt_210 rfl rfl ?_
        refine v_getR (pc' := 214) rfl dX11_valueAt_211 fk_RX11_68 ly_63 rfl ?_
        refine v_iload 6 (pc' := 216) rfl dX11_valueAt_214 rfl ?_
        refine v_aload_n 0 (pc' := 217) rfl dX11_valueAt_216 rfl rfl ?_
        refine v_getR (pc' := 220) rfl dX11_valueAt_217 fk_RX11_74 ly_63 rfl ?_
        refine v_iload 6 (pc' := 222) rfl dX11_valueAt_220 rfl ?_
        refine v_iald (pc' := 223) rfl dX11_valueAt_222 ly_85 (by omega) (by omega) rfl (rfl) ?_
        refine v_iast (pc' := 224) rfl dX11_valueAt_223 ly_83 (by omega) (by omega) rfl ?_
        refine v_nmw (fun w8 hw8 => ?_)
        have hq42 : w8 63 42 = ((B.length : Nat) : Int) := by rw [hw8, up_ne _ _ (by omega)]; exact hq42
        refine v_aload_n 0 (pc' := 225) rfl dX11_valueAt_224 rfl rfl ?_
        refine v_getR (pc' := 228) rfl dX11_valueAt_225 fk_RX11_71 ly_63 rfl ?_
        refine v_iload 6 (pc' := 230) rfl dX11_valueAt_228 rfl ?_
        refine v_aload_n 0 (pc' := 231) rfl dX11_valueAt_230 rfl rfl ?_
        refine v_getR (pc' := 234) rfl dX11_valueAt_231 fk_RX11_77 ly_63 rfl ?_
        refine v_iload 6 (pc' := 236) rfl dX11_valueAt_234 rfl ?_
        refine v_iald (pc' := 237) rfl dX11_valueAt_236 ly_86 (by omega) (by omega) rfl (rfl) ?_
        refine v_iast (pc' := 238) rfl dX11_valueAt_237 ly_84 (by omega) (by omega) rfl ?_
        refine v_nmw (fun w9 hw9 => ?_)
        have hq42 : w9 63 42 = ((B.length : Nat) : Int) := by rw [hw9, up_ne _ _ (by omega)]; exact hq42
        refine v_iinc (ls' := [(6, _), (0, _), (1, _), (2, _), (3, _), (4, _), (5, _)]) 6 (pc' := 241) rfl dX11_valueAt_238 rfl rfl rfl ?_
        refine v_nl (fun j6' hj6' => ?_)
        refine v_goto (tgt := 201) dX11_valueAt_241 (by decide) ?_
        refine v_ls [1, 2, 3, 4, 5, 6, 0] rfl ?_
        exact ih3 (j6') w9 (⟨j + 1, by omega, by omega, hq42, hLq.fr (fun x => by rw [hw9, up_ne _ _ (by omega), hw8, up_ne _ _ (by omega)]) (fun x => by rw [hw9, up_ne _ _ (by omega), hw8, up_ne _ _ (by omega)]), fun x hx => by
            rw [hw9, up_ne _ _ (by omega), up_at, hw8, up_at, up_ne _ _ (by omega), show j6.toNat = j by omega]
            by_cases q : x = j
            · rw [if_pos ⟨rfl, q⟩, if_pos ⟨rfl, q⟩, q]; exact hLq j (by omega)
            · rw [if_neg (fun e => q e.2), if_neg (fun e => q e.2)]; exact hC x (by omega), hDq.fr (by rw [hw9, up_ne _ _ (by omega), hw8, up_ne _ _ (by omega)]) (fun x => by rw [hw9, up_ne _ _ (by omega), hw8, up_ne _ _ (by omega)]), by rw [hw9, hw8]; exact (hscq.up (keepB_ne (by decide) _ 0)).up (keepB_ne (by decide) _ 0)⟩) (by omega)
    ·
      have hil : i0 < (lsM p t k).length := by omega
      refine v_iload 5 (pc' := 62) rfl dX11_valueAt_60 rfl ?_
      refine v_istore (ls' := [(7, _), (0, _), (1, _), (2, _), (3, _), (4, _), (5, _), (6, _)]) (pc' := 64) rfl dX11_valueAt_62 rfl rfl ?_
      refine v_ls [1, 2, 3, 4, 5, 6, 7, 0] rfl ?_
      refine v_loop2 64 (fun (fr : Int) (wn : Wd) => ∃ f : Nat, fr = ((dgT t k + f : Nat) : Int) ∧ f ≤ 14 - (dgT t k) ∧ wn 63 42 = ((frM (dgT t k) ((lsM p t k).getD i0 (0, 0)) (nxM (dgT t k) (lsM p t k) i0) f).length : Nat) ∧ LsW wn 85 86 (frM (dgT t k) ((lsM p t k).getD i0 (0, 0)) (nxM (dgT t k) (lsM p t k) i0) f) ∧ LsW wn 83 84 (lsM p t k) ∧ DgM wn t ∧ Scr w wn) (fun (fr : Int) (wn : Wd) => (14 - fr).toNat) (fun (fr : Int) (wn : Wd) => [(0, aR 63), (1, aI (p0)), (2, aI (t0)), (3, aI (many)), (4, aI (k4)), (5, aI (d')), (6, aI (i)), (7, aI (fr))]) (fun (fr : Int) (wn : Wd) => []) (fun (fr : Int) (wn : Wd) => wn) (fun fr wn hI2 ih2 => ?_) (d') wm (⟨0, by omega, by omega, hm42, hLm, hLA, hDm, hscm⟩)
      obtain ⟨f, hfr, hf, hn, hLn, hLA2, hDn, hscn⟩ := hI2
      refine v_iload 7 (pc' := 66) rfl dX11_valueAt_64 rfl ?_
      refine v_bipush (pc' := 68) rfl dX11_valueAt_66 rfl ?_
      refine v_icmp_ge (pc' := 71) (tgt := 192) rfl dX11_valueAt_68 (by decide) (by omega) (by omega) (fun c2 => ?_) (fun c2 => ?_)
      ·
        have hfe : f = 14 - (dgT t k) := by omega
        refine v_iinc (ls' := [(6, _), (0, _), (1, _), (2, _), (3, _), (4, _), (5, _), (7, _)]) 6 (pc' := 195) rfl dX11_valueAt_192 rfl rfl rfl ?_
        refine v_nl (fun i' hi' => ?_)
        refine v_goto (tgt := 54) dX11_valueAt_195 (by decide) ?_
        refine v_ls [1, 2, 3, 4, 5, 6, 0] rfl ?_
        exact ih1 (i') wn (⟨i0 + 1, by omega, by omega, by rw [show nxM (dgT t k) (lsM p t k) (i0 + 1) = frM (dgT t k) ((lsM p t k).getD i0 (0, 0)) (nxM (dgT t k) (lsM p t k) i0) (14 - dgT t k) from rfl, ← hfe]; exact hn, by rw [show nxM (dgT t k) (lsM p t k) (i0 + 1) = frM (dgT t k) ((lsM p t k).getD i0 (0, 0)) (nxM (dgT t k) (lsM p t k) i0) (14 - dgT t k) from rfl, ← hfe]; exact hLn, hLA2, hDn, hscn⟩) (by omega)
      ·
        have hin := in_ok hok (show k ≤ eT t by omega) rfl hil (show f < 14 - (dgT t k) by omega)
        have hst15 := hin.1
        refine v_aload_n 0 (pc' := 72) rfl dX11_valueAt_71 rfl rfl ?_
        refine v_getR (pc' := 75) rfl dX11_valueAt_72 fk_RX11_68 ly_63 rfl ?_
        refine v_iload 6 (pc' := 77) rfl dX11_valueAt_75 rfl ?_
        refine v_iald (z := ((((lsM p t k).getD i0 (0, 0)).1 : Nat) : Int)) (pc' := 78) rfl dX11_valueAt_77 ly_83 (by omega) (by omega) rfl (by rw [show i.toNat = i0 by omega]; exact (hLA2 i0 hil).1) ?_
        refine v_iload 7 (pc' := 80) rfl dX11_valueAt_78 rfl ?_
        refine v_ishr (z := ((((lsM p t k).getD i0 (0, 0)).1 / 2 ^ ((dgT t k) + f) : Nat) : Int)) (pc' := 81) rfl dX11_valueAt_80 (iz_shrE rfl hfr (by omega) (by omega)) ?_
        refine v_iconst (pc' := 82) rfl dX11_valueAt_81 ?_
        refine v_iand (z := ((((lsM p t k).getD i0 (0, 0)).1 / 2 ^ ((dgT t k) + f) % 2 : Nat) : Int)) (pc' := 83) rfl dX11_valueAt_82 (iz_and1 rfl) ?_
        refine v_if_eq (pc' := 86) (tgt := 186) rfl dX11_valueAt_83 (by decide) (by omega) (fun c3 => ?_) (fun c3 => ?_)
        ·
          have hbn : ¬ (((lsM p t k).getD i0 (0, 0)).1 / 2 ^ ((dgT t k) + f) % 2 = 1 ∧ ((lsM p t k).getD i0 (0, 0)).1 / 2 ^ f % 2 = 0) := fun q => by omega
          refine v_iinc (ls' := [(7, _), (0, _), (1, _), (2, _), (3, _), (4, _), (5, _), (6, _)]) 7 (pc' := 189) rfl dX11_valueAt_186 rfl rfl rfl ?_
          refine v_nl (fun fr' hfr' => ?_)
          refine v_goto (tgt := 64) dX11_valueAt_189 (by decide) ?_
          refine v_ls [1, 2, 3, 4, 5, 6, 7, 0] rfl ?_
          exact ih2 (fr') wn (⟨f + 1, by omega, by omega, by show _ = ((stM (dgT t k) ((lsM p t k).getD i0 (0, 0)) f (frM (dgT t k) ((lsM p t k).getD i0 (0, 0)) (nxM (dgT t k) (lsM p t k) i0) f)).length : Int); unfold stM; rw [if_neg hbn]; exact hn, by show LsW _ 85 86 (stM (dgT t k) ((lsM p t k).getD i0 (0, 0)) f (frM (dgT t k) ((lsM p t k).getD i0 (0, 0)) (nxM (dgT t k) (lsM p t k) i0) f)); unfold stM; rw [if_neg hbn]; exact hLn, hLA2, hDn, hscn⟩) (by omega)
        ·
          have hb1 : ((lsM p t k).getD i0 (0, 0)).1 / 2 ^ ((dgT t k) + f) % 2 = 1 := by omega
          refine v_aload_n 0 (pc' := 87) rfl dX11_valueAt_86 rfl rfl ?_
          refine v_getR (pc' := 90) rfl dX11_valueAt_87 fk_RX11_68 ly_63 rfl ?_
          refine v_iload 6 (pc' := 92) rfl dX11_valueAt_90 rfl ?_
          refine v_iald (z := ((((lsM p t k).getD i0 (0, 0)).1 : Nat) : Int)) (pc' := 93) rfl dX11_valueAt_92 ly_83 (by omega) (by omega) rfl (by rw [show i.toNat = i0 by omega]; exact (hLA2 i0 hil).1) ?_
          refine v_iload 7 (pc' := 95) rfl dX11_valueAt_93 rfl ?_
          refine v_iload 5 (pc' := 97) rfl dX11_valueAt_95 rfl ?_
          refine v_isub (pc' := 98) rfl dX11_valueAt_97 ?_
          refine v_ishr (z := ((((lsM p t k).getD i0 (0, 0)).1 / 2 ^ f : Nat) : Int)) (pc' := 99) rfl dX11_valueAt_98 (iz_shrE rfl (by omega) (by omega) (by omega)) ?_
          refine v_iconst (pc' := 100) rfl dX11_valueAt_99 ?_
          refine v_iand (z := ((((lsM p t k).getD i0 (0, 0)).1 / 2 ^ f % 2 : Nat) : Int)) (pc' := 101) rfl dX11_valueAt_100 (iz_and1 rfl) ?_
          refine v_iconst (pc' := 102) rfl dX11_valueAt_101 ?_
          refine v_icmp_ne (pc' := 105) (tgt := 108) rfl dX11_valueAt_102 (by decide) (by omega) (by omega) (fun c4 => ?_) (fun c4 => ?_)
          ·
            have hb2 : ((lsM p t k).getD i0 (0, 0)).1 / 2 ^ f % 2 = 0 := by omega
            have hpc14 := popc_le14 (((lsM p t k).getD i0 (0, 0)).1 / 2 ^ (f + 1) % 2 ^ ((dgT t k) - 1))
            have hmsk : (((lsM p t k).getD i0 (0, 0)).1 / 2 ^ (f + 1) % 2 ^ ((dgT t k) - 1)) < 256 := Nat.lt_of_lt_of_le (Nat.mod_lt _ (Nat.pow_pos (by decide))) (Nat.pow_le_pow_right (show 2 > 0 by decide) (show dgT t k - 1 ≤ 8 by omega))
            refine v_aload_n 0 (pc' := 109) rfl dX11_valueAt_108 rfl rfl ?_
            refine v_getR (pc' := 112) rfl dX11_valueAt_109 fk_RX11_68 ly_63 rfl ?_
            refine v_iload 6 (pc' := 114) rfl dX11_valueAt_112 rfl ?_
            refine v_iald (z := ((((lsM p t k).getD i0 (0, 0)).1 : Nat) : Int)) (pc' := 115) rfl dX11_valueAt_114 ly_83 (by omega) (by omega) rfl (by rw [show i.toNat = i0 by omega]; exact (hLA2 i0 hil).1) ?_
            refine v_iload 7 (pc' := 117) rfl dX11_valueAt_115 rfl ?_
            refine v_iload 5 (pc' := 119) rfl dX11_valueAt_117 rfl ?_
            refine v_isub (pc' := 120) rfl dX11_valueAt_119 ?_
            refine v_iconst (pc' := 121) rfl dX11_valueAt_120 ?_
            refine v_iadd (pc' := 122) rfl dX11_valueAt_121 ?_
            refine v_ishr (z := ((((lsM p t k).getD i0 (0, 0)).1 / 2 ^ (f + 1) : Nat) : Int)) (pc' := 123) rfl dX11_valueAt_122 (iz_shrE rfl (by omega) (by omega) (by omega)) ?_
            refine v_iconst (pc' := 124) rfl dX11_valueAt_123 ?_
            refine v_iload 5 (pc' := 126) rfl dX11_valueAt_124 rfl ?_
            refine v_iconst (pc' := 127) rfl dX11_valueAt_126 ?_
            refine v_isub (pc' := 128) rfl dX11_valueAt_127 ?_
            refine v_ishl (z := ((2 ^ ((dgT t k) - 1) : Nat) : Int)) (pc' := 129) rfl dX11_valueAt_128 (iz_one_shl (by omega) (by omega)) ?_
            refine v_iconst (pc' := 130) rfl dX11_valueAt_129 ?_
            refine v_isub (pc' := 131) rfl dX11_valueAt_130 ?_
            refine v_iand (z := ((((lsM p t k).getD i0 (0, 0)).1 / 2 ^ (f + 1) % 2 ^ ((dgT t k) - 1) : Nat) : Int)) (pc' := 132) rfl dX11_valueAt_131 (iz_andlow rfl rfl) ?_
            refine v_cSP (pc' := 135) rfl dX11_valueAt_132 lk_RX11_283 rfl (c_bits l G (S := (((lsM p t k).getD i0 (0, 0)).1 / 2 ^ (f + 1) % 2 ^ ((dgT t k) - 1))) rfl hmsk wn) rfl rfl rfl ?_
            refine v_nm (fun bits1 hbits1 => ?_)
            refine v_istore (ls' := [(8, _), (0, _), (1, _), (2, _), (3, _), (4, _), (5, _), (6, _), (7, _)]) (pc' := 137) rfl dX11_valueAt_135 rfl rfl ?_
            refine v_aload_n 1 (pc' := 138) rfl dX11_valueAt_137 rfl rfl ?_
            refine v_aload_n 1 (pc' := 139) rfl dX11_valueAt_138 rfl rfl ?_
            refine v_getR (pc' := 142) rfl dX11_valueAt_139 fk_RX11_68 ly_63 rfl ?_
            refine v_iload 7 (pc' := 144) rfl dX11_valueAt_142 rfl ?_
            refine v_iald (z := ((((lsM p t k).getD i0 (0, 0)).1 : Nat) : Int)) (pc' := 145) rfl dX11_valueAt_144 ly_83 (by omega) (by omega) rfl (by rw [show i.toNat = i0 by omega]; exact (hLA2 i0 hil).1) ?_
            refine v_iconst (pc' := 146) rfl dX11_valueAt_145 ?_
            refine v_iload 8 (pc' := 148) rfl dX11_valueAt_146 rfl ?_
            refine v_ishl (z := ((2 ^ ((dgT t k) + f) : Nat) : Int)) (pc' := 149) rfl dX11_valueAt_148 (iz_one_shl hfr (by omega)) ?_
            refine v_ixor (z := ((((lsM p t k).getD i0 (0, 0)).1 ^^^ 2 ^ ((dgT t k) + f) : Nat) : Int)) (pc' := 150) rfl dX11_valueAt_149 (iz_xorE rfl rfl) ?_
            refine v_iconst (pc' := 151) rfl dX11_valueAt_150 ?_
            refine v_iload 8 (pc' := 153) rfl dX11_valueAt_151 rfl ?_
            refine v_iload 6 (pc' := 155) rfl dX11_valueAt_153 rfl ?_
            refine v_isub (pc' := 156) rfl dX11_valueAt_155 ?_
            refine v_ishl (z := ((2 ^ f : Nat) : Int)) (pc' := 157) rfl dX11_valueAt_156 (iz_one_shl (by omega) (by omega)) ?_
            refine v_ixor (z := (((((lsM p t k).getD i0 (0, 0)).1 ^^^ 2 ^ ((dgT t k) + f)) ^^^ 2 ^ f : Nat) : Int)) (pc' := 158) rfl dX11_valueAt_157 (iz_xorE rfl rfl) ?_
            have J183 : ∀ (vv : Int) (hJ : (-40 ≤ vv ∧ vv ≤ 40) ∧ vv = (if popc (((lsM p t k).getD i0 (0, 0)).1 / 2 ^ (f + 1) % 2 ^ ((dgT t k) - 1)) % 2 = 0 then ((lsM p t k).getD i0 (0, 0)).2 else -((lsM p t k).getD i0 (0, 0)).2)), V (mX l G 2 9 (some .int) (fun z w' => z = valN p t ∧ Scr w w')) RX11 cX11_valueAt 183 [(0, aR 63), (1, aI (p0)), (2, aI (t0)), (3, aI (many)), (4, aI (k4)), (5, aI (d')), (6, aI (i)), (7, aI (fr)), (8, aI (bits1))] [aI (vv), aI (((((((lsM p t k).getD i0 (0, 0)).1 ^^^ 2 ^ ((dgT t k) + f)) ^^^ 2 ^ f : Nat) : Int))), aR 63] wn := by
              intro vv hJ
              have hvv := hJ
              have hgo : (stM (dgT t k) ((lsM p t k).getD i0 (0, 0)) f (frM (dgT t k) ((lsM p t k).getD i0 (0, 0)) (nxM (dgT t k) (lsM p t k) i0) f)) = addM (frM (dgT t k) ((lsM p t k).getD i0 (0, 0)) (nxM (dgT t k) (lsM p t k) i0) f) ((((lsM p t k).getD i0 (0, 0)).1 ^^^ 2 ^ ((dgT t k) + f)) ^^^ 2 ^ f) vv := by unfold stM; rw [if_pos ⟨hb1, hb2⟩, ← hvv.2]
              have hst16 := hst15
              rw [hgo] at hst16
              refine v_cVv (pc' := 186) rfl dX11_valueAt_183 lk_RX11_348 ly_63 rfl (c_adds l G (m := ((((lsM p t k).getD i0 (0, 0)).1 ^^^ 2 ^ ((dgT t k) + f)) ^^^ 2 ^ f)) (v := vv) (L := (frM (dgT t k) ((lsM p t k).getD i0 (0, 0)) (nxM (dgT t k) (lsM p t k) i0) f)) rfl (Nat.lt_of_lt_of_le (xor_lt14 (xor_lt14 hin.2.2.1 (by omega)) (by omega)) (by decide)) hvv.1 hin.2.1 hst16 wn hn hLn) rfl rfl rfl (fun adds1 w7 hq7 => ?_)
              obtain ⟨hn8, hL8, hK8⟩ := hq7
              refine v_iinc (ls' := [(7, _), (0, _), (1, _), (2, _), (3, _), (4, _), (5, _), (6, _), (8, _)]) 7 (pc' := 189) rfl dX11_valueAt_186 rfl rfl rfl ?_
              refine v_nl (fun fr' hfr' => ?_)
              refine v_goto (tgt := 64) dX11_valueAt_189 (by decide) ?_
              refine v_ls [1, 2, 3, 4, 5, 6, 7, 0] rfl ?_
              exact ih2 (fr') w7 (⟨f + 1, by omega, by omega, by show _ = ((stM (dgT t k) ((lsM p t k).getD i0 (0, 0)) f (frM (dgT t k) ((lsM p t k).getD i0 (0, 0)) (nxM (dgT t k) (lsM p t k) i0) f)).length : Int); rw [hgo]; exact hn8, by show LsW _ 85 86 (stM (dgT t k) ((lsM p t k).getD i0 (0, 0)) f (frM (dgT t k) ((lsM p t k).getD i0 (0, 0)) (nxM (dgT t k) (lsM p t k) i0) f)); rw [hgo]; exact hL8, hLA2.fr (fun j => hK8.2 83 j rfl) (fun j => hK8.2 84 j rfl), hDn.fr (hK8.1 37 (by decide)) (fun j => hK8.2 82 j rfl), hscn.tr (hK8.scr (by decide) (by decide))⟩) (by omega)
            refine v_iload 0 (pc' := 160) rfl dX11_valueAt_158 rfl ?_
            refine v_iconst (pc' := 161) rfl dX11_valueAt_160 ?_
            refine v_irem (z := ((popc (((lsM p t k).getD i0 (0, 0)).1 / 2 ^ (f + 1) % 2 ^ ((dgT t k) - 1)) % 2 : Nat) : Int)) (pc' := 162) rfl dX11_valueAt_161 (iz_ne (by decide) (by decide)) (by rw [iz_remN (by omega) (by omega) (by omega) (by omega), hbits1]; rfl) ?_
            refine v_if_ne (pc' := 165) (tgt := 175) rfl dX11_valueAt_162 (by decide) (by omega) (fun c5 => ?_) (fun c5 => ?_)
            ·
              have hpar : ¬ popc (((lsM p t k).getD i0 (0, 0)).1 / 2 ^ (f + 1) % 2 ^ ((dgT t k) - 1)) % 2 = 0 := by omega
              refine v_aload_n 1 (pc' := 176) rfl dX11_valueAt_175 rfl rfl ?_
              refine v_getR (pc' := 179) rfl dX11_valueAt_176 fk_RX11_71 ly_63 rfl ?_
              refine v_iload 7 (pc' := 181) rfl dX11_valueAt_179 rfl ?_
              refine v_iald (z := (((lsM p t k).getD i0 (0, 0)).2)) (pc' := 182) rfl dX11_valueAt_181 ly_84 (by omega) (by omega) rfl (by rw [show i.toNat = i0 by omega]; exact (hLA2 i0 hil).2) ?_
              refine v_ineg (pc' := 183) rfl dX11_valueAt_182 ?_
              refine v_ls [1, 2, 3, 4, 5, 6, 7, 8, 0] rfl ?_
              exact J183 ((-((((lsM p t k).getD i0 (0, 0)).2)))) (⟨by omega, by rw [if_neg hpar]⟩)
            ·
              have hpar : popc (((lsM p t k).getD i0 (0, 0)).1 / 2 ^ (f + 1) % 2 ^ ((dgT t k) - 1)) % 2 = 0 := by omega
              refine v_aload_n 1 (pc' := 166) rfl dX11_valueAt_165 rfl rfl ?_
              refine v_getR (pc' := 169) rfl dX11_valueAt_166 fk_RX11_71 ly_63 rfl ?_
              refine v_iload 7 (pc' := 171) rfl dX11_valueAt_169 rfl ?_
              refine v_iald (z := (((lsM p t k).getD i0 (0, 0)).2)) (pc' := 172) rfl dX11_valueAt_171 ly_84 (by omega) (by omega) rfl (by rw [show i.toNat = i0 by omega]; exact (hLA2 i0 hil).2) ?_
              refine v_goto (tgt := 183) dX11_valueAt_172 (by decide) ?_
              refine v_ls [1, 2, 3, 4, 5, 6, 7, 8, 0] rfl ?_
              exact J183 (((((lsM p t k).getD i0 (0, 0)).2))) (⟨by omega, by rw [if_pos hpar]⟩)
          ·
            have hbn : ¬ (((lsM p t k).getD i0 (0, 0)).1 / 2 ^ ((dgT t k) + f) % 2 = 1 ∧ ((lsM p t k).getD i0 (0, 0)).1 / 2 ^ f % 2 = 0) := fun q => by omega
            refine v_goto (tgt := 186) dX11_valueAt_105 (by decide) ?_
            refine v_iinc (ls' := [(7, _), (0, _), (1, _), (2, _), (3, _), (4, _), (5, _), (6, _)]) 7 (pc' := 189) rfl dX11_valueAt_186 rfl rfl rfl ?_
            refine v_nl (fun fr' hfr' => ?_)
            refine v_goto (tgt := 64) dX11_valueAt_189 (by decide) ?_
            refine v_ls [1, 2, 3, 4, 5, 6, 7, 0] rfl ?_
            exact ih2 (fr') wn (⟨f + 1, by omega, by omega, by show _ = ((stM (dgT t k) ((lsM p t k).getD i0 (0, 0)) f (frM (dgT t k) ((lsM p t k).getD i0 (0, 0)) (nxM (dgT t k) (lsM p t k) i0) f)).length : Int); unfold stM; rw [if_neg hbn]; exact hn, by show LsW _ 85 86 (stM (dgT t k) ((lsM p t k).getD i0 (0, 0)) f (frM (dgT t k) ((lsM p t k).getD i0 (0, 0)) (nxM (dgT t k) (lsM p t k) i0) f)); unfold stM; rw [if_neg hbn]; exact hLn, hLA2, hDn, hscn⟩) (by omega)
theorem dg_at {n i : Nat} (h7 : n ≤ 7) (hi : i < kmany n) : ∀ k, k ≤ eT (kT n i) → 1 ≤ dgT (kT n i) k ∧ dgT (kT n i) k ≤ 7 := fun k hk => by
  have := List.all_eq_true.mp (kT_dig n (by omega) i hi) k (List.mem_range.mpr (by omega))
  rw [Bool.and_eq_true] at this
  exact ⟨Nat.le_of_ble_eq_true this.1, Nat.le_of_ble_eq_true this.2⟩
theorem bc_prod {n i1 i2 i3 : Nat} {s : Int} : ((membersN (kT n i1) n : Nat) : Int) * ((membersN (kT n i2) n : Nat) : Int) * ((membersN (kT n i3) n : Nat) : Int) * s = s * ((membersN (kT n i1) n : Nat) : Int) * ((membersN (kT n i2) n : Nat) : Int) * ((membersN (kT n i3) n : Nat) : Int) := by
  rw [Int.mul_comm, Int.mul_assoc s, Int.mul_assoc s]
theorem bc_term (n i1 i2 i3 k : Nat) : valN (kT n k) (kT n i1) * valN (kT n k) (kT n i2) * valN (kT n k) (kT n i3) * ((facN n : Int) / valN (kT n k) (kT n 0)) = bcT n i1 i2 i3 k := by
  unfold bcT
  rw [Int.mul_comm _ ((facN n : Int) / valN (kT n k) (kT n 0)), ← Int.mul_assoc, ← Int.mul_assoc]
set_option maxHeartbeats 4000000 in
set_option maxRecDepth 100000 in
theorem c_characterM (l : Launch) (G : Gx) {t u : Int} (ht : rg t) (hu : rg u) {n : Nat} {s a : Nat → Nat} (hV : MapV n s a) (w : Wd) (hM : RMW w n s a) (hR : RTab w n) : Sp l G 3 mX11_character [aR 63, aI (t), aI (u)] w (fun z w' => Scr w w' ∧ z = (if (kndB n t = true ∧ kndB n u = true) then valN t.toNat u.toNat else -1000000)) := by
  obtain ⟨⟨hn1, hn7⟩, hs, ha⟩ := id hV
  obtain ⟨r0, r1, r2⟩ := id hM
  obtain ⟨r3, r4, rPK, rTK⟩ := id hR
  have hfc := fac_le hn1 hn7
  have hk15 := kmany_le n hn7
  refine Sp_of RX11 rfl (by decide +kernel) rfl (Nat.le_of_ble_eq_true rfl) ?_
  refine v_aload_n 0 (pc' := 1) rfl dX11_character_0 rfl rfl ?_
  refine v_iload_n 1 (pc' := 2) rfl dX11_character_1 rfl rfl ?_
  refine v_cVR (pc' := 5) rfl dX11_character_2 lk_RX11_178 ly_63 rfl (c_kindOf l G (n := n) ht hn1 hn7 w r4 (fun k hk => (rTK k hk).1)) rfl rfl rfl (fun kindOf1 hkindOf1 => ?_)
  refine v_iconst (pc' := 6) rfl dX11_character_5 ?_
  refine v_icmp_eq (pc' := 9) (tgt := 18) rfl dX11_character_6 (by decide) (KX_r hn7 hkindOf1) (by decide) (fun c0 => ?_) (fun c0 => ?_)
  ·
    have hno := KX_no hkindOf1 (by omega)
    have hz : ¬ (kndB n t = true ∧ kndB n u = true) := fun q => hno q.1
    refine v_ldcw (z := (-1000000)) (pc' := 21) rfl dX11_character_18 kc_RX11_351 ?_
    refine v_goto (tgt := 30) dX11_character_21 (by decide) ?_
    refine v_iret dX11_character_30 (by decide) (rfl) ?_
    first | exact ⟨Scr.rf _, by rw [if_neg hz]⟩ | exact ⟨hsv3, by rw [if_pos hz, ht1, hu1]; exact zv3⟩
  ·
    obtain ⟨k1, hkz1, hk1, hkt1⟩ := KX_at hkindOf1 (by omega)
    refine v_aload_n 0 (pc' := 10) rfl dX11_character_9 rfl rfl ?_
    refine v_iload_n 2 (pc' := 11) rfl dX11_character_10 rfl rfl ?_
    refine v_cVR (pc' := 14) rfl dX11_character_11 lk_RX11_178 ly_63 rfl (c_kindOf l G (n := n) hu hn1 hn7 w r4 (fun k hk => (rTK k hk).1)) rfl rfl rfl (fun kindOf2 hkindOf2 => ?_)
    refine v_iconst (pc' := 15) rfl dX11_character_14 ?_
    refine v_icmp_ne (pc' := 18) (tgt := 24) rfl dX11_character_15 (by decide) (KX_r hn7 hkindOf2) (by decide) (fun c1 => ?_) (fun c1 => ?_)
    ·
      obtain ⟨k2, hkz2, hk2, hkt2⟩ := KX_at hkindOf2 (by omega)
      have hz : (kndB n t = true ∧ kndB n u = true) := ⟨kndB_iff.mpr ⟨k1, hk1, hkt1⟩, kndB_iff.mpr ⟨k2, hk2, hkt2⟩⟩
      refine v_aload_n 0 (pc' := 25) rfl dX11_character_24 rfl rfl ?_
      refine v_iload_n 1 (pc' := 26) rfl dX11_character_25 rfl rfl ?_
      refine v_iload_n 2 (pc' := 27) rfl dX11_character_26 rfl rfl ?_
      refine v_cVi (pc' := 30) rfl dX11_character_27 lk_RX11_352 ly_63 rfl (c_valueAt l G (p := kT n k1) (t := kT n k2) hkt1.symm (kT_le hn7 hk1).1 (by have := kT_le hn7 hk1; omega) hkt2.symm (kT_le hn7 hk2).1 (by have := kT_le hn7 hk2; omega) (valM_ok n (by omega) k1 hk1 k2 hk2) (dg_at hn7 hk2) w) rfl rfl rfl (fun valueAt1 w3 hq3 => ?_)
      obtain ⟨zv3, hsv3⟩ := hq3
      have ht1 : t.toNat = kT n k1 := by omega
      have hu1 : u.toNat = kT n k2 := by omega
      have r0 : w3 63 0 = (n : Int) := (hsv3 63 0 (by decide)).trans r0
      have r1 : w3 63 1 = ((cdk s n : Nat) : Int) := (hsv3 63 1 (by decide)).trans r1
      have r2 : w3 63 2 = ((cdk a n : Nat) : Int) := (hsv3 63 2 (by decide)).trans r2
      have r3 : w3 63 3 = ((facN n : Nat) : Int) := (hsv3 63 3 (by decide)).trans r3
      have r4 : w3 63 4 = ((kmany n : Nat) : Int) := (hsv3 63 4 (by decide)).trans r4
      refine v_iret dX11_character_30 (by decide) (rfl) ?_
      first | exact ⟨Scr.rf _, by rw [if_neg hz]⟩ | exact ⟨hsv3, by rw [if_pos hz, ht1, hu1]; exact zv3⟩
    ·
      have hno := KX_no hkindOf2 (by omega)
      have hz : ¬ (kndB n t = true ∧ kndB n u = true) := fun q => hno q.2
      refine v_ldcw (z := (-1000000)) (pc' := 21) rfl dX11_character_18 kc_RX11_351 ?_
      refine v_goto (tgt := 30) dX11_character_21 (by decide) ?_
      refine v_iret dX11_character_30 (by decide) (rfl) ?_
      first | exact ⟨Scr.rf _, by rw [if_neg hz]⟩ | exact ⟨hsv3, by rw [if_pos hz, ht1, hu1]; exact zv3⟩
set_option maxHeartbeats 4000000 in
set_option maxRecDepth 100000 in
theorem c_byCharactersM (l : Launch) (G : Gx) {a b c : Int} {n i1 i2 i3 : Nat} (ha : a = (i1 : Nat)) (hb : b = (i2 : Nat)) (hc : c = (i3 : Nat)) (hn1 : 1 ≤ n) (hn7 : n ≤ 7) (h1 : i1 < kmany n) (h2 : i2 < kmany n) (h3 : i3 < kmany n) (hsz : OPSZ) (w : Wd) (hR : RTab w n) : Sp l G 3 mX11_byCharacters [aR 63, aI (a), aI (b), aI (c)] w (fun z w' => Scr w w' ∧ z = bcI n i1 i2 i3) := by
  obtain ⟨r3, r4, rPK, rTK⟩ := id hR
  have hm := ((frst_ok n (by omega)).2.2 hn1).2
  have hfl := fac_le hn1 hn7
  have hm0 : 0 < kmany n := by omega
  have hb1 := (kt_ok n (by omega) i1 h1).2.2
  have hb2 := (kt_ok n (by omega) i2 h2).2.2
  have hb3 := (kt_ok n (by omega) i3 h3).2.2
  refine Sp_of RX11 rfl (by decide +kernel) rfl (Nat.le_of_ble_eq_true rfl) ?_
  refine v_lconst (z := 0) (pc' := 1) rfl dX11_byCharacters_0 rfl ?_
  refine v_lstore (ls' := [(4, _), (0, _), (1, _), (2, _), (3, _)]) (pc' := 3) rfl dX11_byCharacters_1 rfl rfl ?_
  refine v_iconst (pc' := 4) rfl dX11_byCharacters_3 ?_
  refine v_istore (ls' := [(6, _), (4, _), (0, _), (1, _), (2, _), (3, _)]) (pc' := 6) rfl dX11_byCharacters_4 rfl rfl ?_
  refine v_ls [2, 3, 4, 5, 1, 0] rfl ?_
  refine v_loop3 6 (fun (sum : Int) (i : Int) (wl : Wd) => ∃ k : Nat, i = k ∧ k ≤ kmany n ∧ sum = bcS n i1 i2 i3 k ∧ Scr w wl) (fun (sum : Int) (i : Int) (wl : Wd) => (15 - i).toNat) (fun (sum : Int) (i : Int) (wl : Wd) => [(0, aR 63), (1, aI (a)), (2, aI (b)), (3, aI (c)), (4, aL (sum)), (6, aI (i))]) (fun (sum : Int) (i : Int) (wl : Wd) => []) (fun (sum : Int) (i : Int) (wl : Wd) => wl) (fun sum i wl hI0 ih0 => ?_) (0) (0) w (⟨0, rfl, by omega, rfl, Scr.rf _⟩)
  obtain ⟨k, hi, hk, hsum, hsc⟩ := hI0
  have g3 := (hsc 63 3 (by decide)).trans r3
  have g4 := (hsc 63 4 (by decide)).trans r4
  refine v_iload 5 (pc' := 8) rfl dX11_byCharacters_6 rfl ?_
  refine v_aload_n 0 (pc' := 9) rfl dX11_byCharacters_8 rfl rfl ?_
  refine v_get (z := ((kmany n : Nat) : Int)) (pc' := 12) rfl dX11_byCharacters_9 fk_RX11_168 ly_63 rfl (g4) ?_
  refine v_icmp_ge (pc' := 15) (tgt := 99) rfl dX11_byCharacters_12 (by decide) (by omega) (by omega) (fun c0 => ?_) (fun c0 => ?_)
  ·
    obtain rfl : k = kmany n := by omega
    have hP := bcP_le hn1 hn7 h1 h2 h3
    have hQ := tdiv_le (b := (facN n : Int)) hP.1 hP.2
    refine v_aload_n 0 (pc' := 100) rfl dX11_byCharacters_99 rfl rfl ?_
    refine v_getR (pc' := 103) rfl dX11_byCharacters_100 fk_RX11_19 ly_63 rfl ?_
    refine v_iload_n 1 (pc' := 104) rfl dX11_byCharacters_103 rfl rfl ?_
    refine v_iald (z := ((membersN (kT n i1) n : Nat) : Int)) (pc' := 105) rfl dX11_byCharacters_104 ly_67 (by omega) (by omega) rfl (by rw [show a.toNat = i1 by omega, hsc 67 i1 rfl, (rTK i1 h1).2.1, hsz n i1 hn1 hn7 h1]) ?_
    refine v_i2l (pc' := 106) rfl dX11_byCharacters_105 (by omega) ?_
    refine v_aload_n 0 (pc' := 107) rfl dX11_byCharacters_106 rfl rfl ?_
    refine v_getR (pc' := 110) rfl dX11_byCharacters_107 fk_RX11_19 ly_63 rfl ?_
    refine v_iload_n 2 (pc' := 111) rfl dX11_byCharacters_110 rfl rfl ?_
    refine v_iald (z := ((membersN (kT n i2) n : Nat) : Int)) (pc' := 112) rfl dX11_byCharacters_111 ly_67 (by omega) (by omega) rfl (by rw [show b.toNat = i2 by omega, hsc 67 i2 rfl, (rTK i2 h2).2.1, hsz n i2 hn1 hn7 h2]) ?_
    refine v_i2l (pc' := 113) rfl dX11_byCharacters_112 (by omega) ?_
    refine v_lmul (pc' := 114) rfl dX11_byCharacters_113 ?_
    refine v_aload_n 0 (pc' := 115) rfl dX11_byCharacters_114 rfl rfl ?_
    refine v_getR (pc' := 118) rfl dX11_byCharacters_115 fk_RX11_19 ly_63 rfl ?_
    refine v_iload_n 3 (pc' := 119) rfl dX11_byCharacters_118 rfl rfl ?_
    refine v_iald (z := ((membersN (kT n i3) n : Nat) : Int)) (pc' := 120) rfl dX11_byCharacters_119 ly_67 (by omega) (by omega) rfl (by rw [show c.toNat = i3 by omega, hsc 67 i3 rfl, (rTK i3 h3).2.1, hsz n i3 hn1 hn7 h3]) ?_
    refine v_i2l (pc' := 121) rfl dX11_byCharacters_120 (by omega) ?_
    refine v_lmul (pc' := 122) rfl dX11_byCharacters_121 ?_
    refine v_lload 4 (pc' := 124) rfl dX11_byCharacters_122 rfl ?_
    refine v_lmul (pc' := 125) rfl dX11_byCharacters_124 ?_
    refine v_aload_n 0 (pc' := 126) rfl dX11_byCharacters_125 rfl rfl ?_
    refine v_get (z := ((facN n : Nat) : Int)) (pc' := 129) rfl dX11_byCharacters_126 fk_RX11_165 ly_63 rfl (g3) ?_
    refine v_i2l (pc' := 130) rfl dX11_byCharacters_129 (by omega) ?_
    refine v_ldiv (z := ((bcS n i1 i2 i3 (kmany n) * (membersN (kT n i1) n : Int) * (membersN (kT n i2) n : Int) * (membersN (kT n i3) n : Int)).tdiv (facN n))) (pc' := 131) rfl dX11_byCharacters_130 (lz_ne (by omega) (by omega) (by omega)) (by rw [bc_prod, hsum]; exact lz_div (by omega) (by omega) (by omega) (by omega) (by omega)) ?_
    refine v_aload_n 0 (pc' := 132) rfl dX11_byCharacters_131 rfl rfl ?_
    refine v_get (z := ((facN n : Nat) : Int)) (pc' := 135) rfl dX11_byCharacters_132 fk_RX11_165 ly_63 rfl (g3) ?_
    refine v_i2l (pc' := 136) rfl dX11_byCharacters_135 (by omega) ?_
    refine v_ldiv (z := bcI n i1 i2 i3) (pc' := 137) rfl dX11_byCharacters_136 (lz_ne (by omega) (by omega) (by omega)) (lz_div (by omega) (by omega) (by omega) (by omega) (by omega)) ?_
    refine v_lret dX11_byCharacters_137 ?_
    exact ⟨hsc, rfl⟩
  ·
    have hkl : k < kmany n := by omega
    have hv := val_ok n (by omega) k (by omega)
    have hq0 : 0 ≤ (facN n : Int) / valN (kT n k) (kT n 0) := Int.ediv_nonneg (by omega) (by omega)
    have hq1 : (facN n : Int) / valN (kT n k) (kT n 0) ≤ facN n := Int.ediv_le_self _ (by omega)
    have hv0 := hv.2 0 hm0
    have hv1 := hv.2 i1 h1
    have hv2 := hv.2 i2 h2
    have hv3 := hv.2 i3 h3
    refine v_aload_n 0 (pc' := 16) rfl dX11_byCharacters_15 rfl rfl ?_
    refine v_getR (pc' := 19) rfl dX11_byCharacters_16 fk_RX11_16 ly_63 rfl ?_
    refine v_iload 5 (pc' := 21) rfl dX11_byCharacters_19 rfl ?_
    refine v_iald (z := ((kT n k : Nat) : Int)) (pc' := 22) rfl dX11_byCharacters_21 ly_66 (by omega) (by omega) rfl (by rw [show i.toNat = k by omega, hsc 66 k rfl]; exact (rTK k hkl).1) ?_
    refine v_nm (fun p' hp' => ?_)
    refine v_istore (ls' := [(7, _), (0, _), (1, _), (2, _), (3, _), (4, _), (6, _)]) (pc' := 24) rfl dX11_byCharacters_22 rfl rfl ?_
    refine v_aload_n 1 (pc' := 25) rfl dX11_byCharacters_24 rfl rfl ?_
    refine v_iload 0 (pc' := 27) rfl dX11_byCharacters_25 rfl ?_
    refine v_aload_n 1 (pc' := 28) rfl dX11_byCharacters_27 rfl rfl ?_
    refine v_getR (pc' := 31) rfl dX11_byCharacters_28 fk_RX11_16 ly_63 rfl ?_
    refine v_iload_n 2 (pc' := 32) rfl dX11_byCharacters_31 rfl rfl ?_
    refine v_iald (z := ((kT n i1 : Nat) : Int)) (pc' := 33) rfl dX11_byCharacters_32 ly_66 (by omega) (by omega) rfl (by rw [show a.toNat = i1 by omega, hsc 66 i1 rfl]; exact (rTK i1 h1).1) ?_
    refine v_cVi (pc' := 36) rfl dX11_byCharacters_33 lk_RX11_352 ly_63 rfl (c_valueAt l G (p := kT n k) (t := kT n i1) hp' (kT_le hn7 hkl).1 (by have := kT_le hn7 hkl; omega) rfl (kT_le hn7 h1).1 (by have := kT_le hn7 h1; omega) (valM_ok n (by omega) k hkl i1 h1) (dg_at hn7 h1) wl) rfl rfl rfl (fun valueAt1 w1 hq1 => ?_)
    obtain ⟨zv1, hsv1⟩ := hq1
    have g3 : w1 63 3 = ((facN n : Nat) : Int) := (hsv1 63 3 (by decide)).trans g3
    have g4 : w1 63 4 = ((kmany n : Nat) : Int) := (hsv1 63 4 (by decide)).trans g4
    refine v_i2l (pc' := 37) rfl dX11_byCharacters_36 (by omega) ?_
    refine v_aload_n 1 (pc' := 38) rfl dX11_byCharacters_37 rfl rfl ?_
    refine v_iload 0 (pc' := 40) rfl dX11_byCharacters_38 rfl ?_
    refine v_aload_n 1 (pc' := 41) rfl dX11_byCharacters_40 rfl rfl ?_
    refine v_getR (pc' := 44) rfl dX11_byCharacters_41 fk_RX11_16 ly_63 rfl ?_
    refine v_iload_n 3 (pc' := 45) rfl dX11_byCharacters_44 rfl rfl ?_
    refine v_iald (z := ((kT n i2 : Nat) : Int)) (pc' := 46) rfl dX11_byCharacters_45 ly_66 (by omega) (by omega) rfl (by rw [show b.toNat = i2 by omega, hsv1 66 i2 rfl, hsc 66 i2 rfl]; exact (rTK i2 h2).1) ?_
    refine v_cVi (pc' := 49) rfl dX11_byCharacters_46 lk_RX11_352 ly_63 rfl (c_valueAt l G (p := kT n k) (t := kT n i2) hp' (kT_le hn7 hkl).1 (by have := kT_le hn7 hkl; omega) rfl (kT_le hn7 h2).1 (by have := kT_le hn7 h2; omega) (valM_ok n (by omega) k hkl i2 h2) (dg_at hn7 h2) w1) rfl rfl rfl (fun valueAt2 w2 hq2 => ?_)
    obtain ⟨zv2, hsv2⟩ := hq2
    have g3 : w2 63 3 = ((facN n : Nat) : Int) := (hsv2 63 3 (by decide)).trans g3
    have g4 : w2 63 4 = ((kmany n : Nat) : Int) := (hsv2 63 4 (by decide)).trans g4
    refine v_i2l (pc' := 50) rfl dX11_byCharacters_49 (by omega) ?_
    refine v_lmul (pc' := 51) rfl dX11_byCharacters_50 ?_
    refine v_aload_n 1 (pc' := 52) rfl dX11_byCharacters_51 rfl rfl ?_
    refine v_iload 0 (pc' := 54) rfl dX11_byCharacters_52 rfl ?_
    refine v_aload_n 1 (pc' := 55) rfl dX11_byCharacters_54 rfl rfl ?_
    refine v_getR (pc' := 58) rfl dX11_byCharacters_55 fk_RX11_16 ly_63 rfl ?_
    refine v_iload_n 4 (pc' := 59) rfl dX11_byCharacters_58 rfl rfl ?_
    refine v_iald (z := ((kT n i3 : Nat) : Int)) (pc' := 60) rfl dX11_byCharacters_59 ly_66 (by omega) (by omega) rfl (by rw [show c.toNat = i3 by omega, hsv2 66 i3 rfl, hsv1 66 i3 rfl, hsc 66 i3 rfl]; exact (rTK i3 h3).1) ?_
    refine v_cVi (pc' := 63) rfl dX11_byCharacters_60 lk_RX11_352 ly_63 rfl (c_valueAt l G (p := kT n k) (t := kT n i3) hp' (kT_le hn7 hkl).1 (by have := kT_le hn7 hkl; omega) rfl (kT_le hn7 h3).1 (by have := kT_le hn7 h3; omega) (valM_ok n (by omega) k hkl i3 h3) (dg_at hn7 h3) w2) rfl rfl rfl (fun valueAt3 w3 hq3 => ?_)
    obtain ⟨zv3, hsv3⟩ := hq3
    have g3 : w3 63 3 = ((facN n : Nat) : Int) := (hsv3 63 3 (by decide)).trans g3
    have g4 : w3 63 4 = ((kmany n : Nat) : Int) := (hsv3 63 4 (by decide)).trans g4
    refine v_i2l (pc' := 64) rfl dX11_byCharacters_63 (by omega) ?_
    refine v_lmul (pc' := 65) rfl dX11_byCharacters_64 ?_
    refine v_nmL (fun width' hwidth' => ?_)
    refine v_lstore (ls' := [(8, _), (7, _), (0, _), (1, _), (2, _), (3, _), (4, _), (6, _)]) (pc' := 67) rfl dX11_byCharacters_65 rfl rfl ?_
    refine v_lload 6 (pc' := 69) rfl dX11_byCharacters_67 rfl ?_
    refine v_lload 0 (pc' := 71) rfl dX11_byCharacters_69 rfl ?_
    refine v_aload_n 2 (pc' := 72) rfl dX11_byCharacters_71 rfl rfl ?_
    refine v_get (z := ((facN n : Nat) : Int)) (pc' := 75) rfl dX11_byCharacters_72 fk_RX11_165 ly_63 rfl (g3) ?_
    refine v_aload_n 2 (pc' := 76) rfl dX11_byCharacters_75 rfl rfl ?_
    refine v_iload 1 (pc' := 78) rfl dX11_byCharacters_76 rfl ?_
    refine v_aload_n 2 (pc' := 79) rfl dX11_byCharacters_78 rfl rfl ?_
    refine v_getR (pc' := 82) rfl dX11_byCharacters_79 fk_RX11_16 ly_63 rfl ?_
    refine v_iconst (pc' := 83) rfl dX11_byCharacters_82 ?_
    refine v_iald (z := ((kT n 0 : Nat) : Int)) (pc' := 84) rfl dX11_byCharacters_83 ly_66 (by omega) (by omega) rfl (by rw [show (0 : Int).toNat = 0 from rfl, hsv3 66 0 rfl, hsv2 66 0 rfl, hsv1 66 0 rfl, hsc 66 0 rfl]; exact (rTK 0 hm0).1) ?_
    refine v_cVi (pc' := 87) rfl dX11_byCharacters_84 lk_RX11_352 ly_63 rfl (c_valueAt l G (p := kT n k) (t := kT n 0) hp' (kT_le hn7 hkl).1 (by have := kT_le hn7 hkl; omega) rfl (kT_le hn7 hm0).1 (by have := kT_le hn7 hm0; omega) (valM_ok n (by omega) k hkl 0 hm0) (dg_at hn7 hm0) w3) rfl rfl rfl (fun valueAt4 w4 hq4 => ?_)
    obtain ⟨zv4, hsv4⟩ := hq4
    have g3 : w4 63 3 = ((facN n : Nat) : Int) := (hsv4 63 3 (by decide)).trans g3
    have g4 : w4 63 4 = ((kmany n : Nat) : Int) := (hsv4 63 4 (by decide)).trans g4
    refine v_idiv (z := ((facN n : Int) / valN (kT n k) (kT n 0))) (pc' := 88) rfl dX11_byCharacters_87 (iz_ne (by omega) (by omega)) (by rw [zv4]; exact iz_divN (by omega) (by omega) (by omega) (by omega)) ?_
    refine v_i2l (pc' := 89) rfl dX11_byCharacters_88 (by omega) ?_
    refine v_lmul (pc' := 90) rfl dX11_byCharacters_89 ?_
    refine v_ladd (pc' := 91) rfl dX11_byCharacters_90 ?_
    refine v_nmL (fun sum' hsum' => ?_)
    refine v_lstore (ls' := [(4, _), (8, _), (7, _), (0, _), (1, _), (2, _), (3, _), (6, _)]) (pc' := 93) rfl dX11_byCharacters_91 rfl rfl ?_
    refine v_iinc (ls' := [(6, _), (4, _), (8, _), (7, _), (0, _), (1, _), (2, _), (3, _)]) 7 (pc' := 96) rfl dX11_byCharacters_93 rfl rfl rfl ?_
    refine v_nl (fun i' hi' => ?_)
    refine v_goto (tgt := 6) dX11_byCharacters_96 (by decide) ?_
    refine v_ls [4, 5, 6, 7, 1, 0] rfl ?_
    exact ih0 (sum') (i') w4 (⟨k + 1, by omega, by omega, by rw [hsum']; simp only [bcS]; rw [← bc_term, hsum, hwidth', zv1, zv2, zv3], (((hsc.tr hsv1).tr hsv2).tr hsv3).tr hsv4⟩) (by omega)

def LyI (w wl : Wd) (n j : Nat) : Prop := (wl 63 3 = (j : Nat) ∧ wl 63 4 = ((klL n j).length : Nat)) ∧ (∀ i, i < (klL n j).length → wl 66 i = ((klL n j).getD i 0 : Nat)) ∧ (∀ i, i < j → wl 64 i = (cdk (pn n i) n : Nat)) ∧ (∀ q, q ≠ 3 → q ≠ 4 → wl 63 q = w 63 q) ∧ Fr [63, 64, 66, 69, 72, 73] w wl
def PnD (w : Wd) (n j : Nat) : Prop := ∀ x, 1 ≤ x → x ≤ n → w 73 x = (pn n j x : Nat)
theorem hx_vals {f g : Nat → Nat} (hf : B7 f) (hg : B7 g) (e : hx f = hx g) {x : Nat} (h1 : 1 ≤ x) (h2 : x ≤ 7) : f x = g x := by
  rw [← hx_at hf h1 h2, ← hx_at hg h1 h2, e]
theorem last_iff {n j : Nat} (hn1 : 1 ≤ n) (hn7 : n ≤ 7) (hj : j < facN n) : nxA (pn n j) (n - 1) = 0 ↔ j + 1 = facN n := by
  constructor
  · intro h
    rcases Nat.lt_or_ge (j + 1) (facN n) with q | q
    · have e := pn_next hn1 hn7 q
      unfold nextF at e
      rw [if_pos h] at e
      have := pn_lt hn1 hn7 q (show j < j + 1 by omega)
      omega
    · omega
  · intro h
    by_cases q : n = 1
    · subst q; rfl
    · exact pn_last (by omega) hn7 h
theorem next_vals {n j : Nat} (hn1 : 1 ≤ n) (hn7 : n ≤ 7) (hj : j + 1 < facN n) {x : Nat} (h1 : 1 ≤ x) (h2 : x ≤ n) : nextF (pn n j) n x = pn n (j + 1) x :=
  hx_vals (nextF_7 ((pn_at hn1 hn7 (show j < facN n by omega)).1.b7 hn7) hn7).B ((pn_at hn1 hn7 hj).1.B hn7) (pn_next hn1 hn7 hj) h1 (by omega)
theorem LyI.ins {w wl w' : Wd} {n j q : Nat} (h : LyI w wl n j) (hq : q ≤ (klL n j).length) (hi : insT (klL n j) (kindN (pn n j) n) = (klL n j).take q ++ kindN (pn n j) n :: (klL n j).drop q)
    (h3 : w' 63 3 = ((j + 1 : Nat) : Int)) (h4 : w' 63 4 = (((klL n j).length + 1 : Nat) : Int)) (hA : ∀ x, x < q → w' 66 x = ((klL n j).getD x 0 : Nat)) (hB : w' 66 q = (kindN (pn n j) n : Nat)) (hC : ∀ x, q < x → x ≤ (klL n j).length → w' 66 x = ((klL n j).getD (x - 1) 0 : Nat))
    (hP : ∀ i, i < j + 1 → w' 64 i = (cdk (pn n i) n : Nat)) (hU : ∀ u, u ≠ 3 → u ≠ 4 → w' 63 u = w 63 u) (hF : Fr [63, 64, 66, 69, 72, 73] w w') : LyI w w' n (j + 1) := by
  have e : klL n (j + 1) = (klL n j).take q ++ kindN (pn n j) n :: (klL n j).drop q := hi
  have el : (klL n (j + 1)).length = (klL n j).length + 1 := by rw [e]; simp; omega
  refine ⟨⟨h3, by rw [el]; exact h4⟩, fun i hi2 => ?_, hP, hU, hF⟩
  rw [el] at hi2
  rw [e, ins_get hq i (by omega)]
  by_cases a : i < q
  · rw [if_pos a]; exact hA i a
  · rw [if_neg a]
    by_cases b : i = q
    · rw [if_pos b, b]; exact hB
    · rw [if_neg b]; exact hC i (by omega) (by omega)
theorem LyI.hit {w wl w' : Wd} {n j q : Nat} (h : LyI w wl n j) (hq : q < (klL n j).length) (ht : (klL n j).getD q 0 = kindN (pn n j) n) (h3 : w' 63 3 = ((j + 1 : Nat) : Int)) (h4 : w' 63 4 = ((klL n j).length : Nat)) (hA : ∀ x, w' 66 x = wl 66 x)
    (hP : ∀ i, i < j + 1 → w' 64 i = (cdk (pn n i) n : Nat)) (hU : ∀ u, u ≠ 3 → u ≠ 4 → w' 63 u = w 63 u) (hF : Fr [63, 64, 66, 69, 72, 73] w w') : LyI w w' n (j + 1) := by
  have e : klL n (j + 1) = klL n j := insT_hit _ q (klL_dsc n j) hq ht
  refine ⟨⟨h3, by rw [e]; exact h4⟩, fun i hi => ?_, hP, hU, hF⟩
  rw [e] at hi ⊢
  rw [hA]; exact h.2.1 i hi
def SzI (wl wk : Wd) (n m : Nat) : Prop := (∀ x, x < m → ∃ k, k < kmany n ∧ kT n k = kindN (pn n x) n ∧ wk 65 x = (k : Nat)) ∧ (∀ k, k < kmany n → wk 67 k = (cntI (fun i => kindN (pn n i) n == kT n k) m : Nat)) ∧ (∀ k, k < kmany n → 0 < cntI (fun i => kindN (pn n i) n == kT n k) m → wk 68 k = (cdk (leastF (kT n k) n) n : Nat)) ∧ Fr [65, 67, 68, 69, 72] wl wk
set_option maxHeartbeats 4000000 in
set_option maxRecDepth 100000 in
theorem c_laysAll (l : Launch) (G : Gx) {n : Nat} (hn1 : 1 ≤ n) (hn7 : n ≤ 7) (w : Wd) (r0 : w 63 0 = n) : Sp l G 3 mX11_laysAll [aR 63] w (fun _ w' => RTab w' n ∧ (∀ q, q ≠ 3 → q ≠ 4 → w' 63 q = w 63 q) ∧ Fr [63, 64, 65, 66, 67, 68, 69, 72, 73] w w') := by
  have hfc := fac_le hn1 hn7
  have hk15 := kmany_le n hn7
  refine Sp_of RX11 rfl (by decide +kernel) rfl (Nat.le_of_ble_eq_true rfl) ?_
  refine v_iconst (pc' := 1) rfl dX11_laysAll_0 ?_
  refine v_istore_n (ls' := [(1, _), (0, _)]) (pc' := 2) rfl dX11_laysAll_1 rfl rfl rfl ?_
  refine v_ls [1, 0] rfl ?_
  refine v_loop2 2 (fun (x : Int) (wa : Wd) => ∃ m : Nat, x = ((m + 1 : Nat) : Int) ∧ m ≤ n ∧ (∀ z, 1 ≤ z → z ≤ m → wa 73 z = (z : Nat)) ∧ Fr [73] w wa) (fun (x : Int) (wa : Wd) => (8 - x).toNat) (fun (x : Int) (wa : Wd) => [(0, aR 63), (1, aI (x))]) (fun (x : Int) (wa : Wd) => []) (fun (x : Int) (wa : Wd) => wa) (fun x wa hI0 ih0 => ?_) (1) w (⟨0, rfl, by omega, fun z a b => by omega, Fr.rf _ _⟩)
  obtain ⟨m, hx, hm, hA, hfl⟩ := hI0
  have g0 := (hfl 63 0 rfl).trans r0
  refine v_iload_n 1 (pc' := 3) rfl dX11_laysAll_2 rfl rfl ?_
  refine v_aload_n 0 (pc' := 4) rfl dX11_laysAll_3 rfl rfl ?_
  refine v_get (z := (n : Int)) (pc' := 7) rfl dX11_laysAll_4 fk_RX11_125 ly_63 rfl (g0) ?_
  refine v_icmp_gt (pc' := 10) (tgt := 23) rfl dX11_laysAll_7 (by decide) (by omega) (by omega) (fun c0 => ?_) (fun c0 => ?_)
  ·
    refine v_aload_n 0 (pc' := 24) rfl dX11_laysAll_23 rfl rfl ?_
    refine v_iconst (pc' := 25) rfl dX11_laysAll_24 ?_
    refine v_put (pc' := 28) rfl dX11_laysAll_25 fi_RX11_165 ly_63 rfl ?_
    refine v_nmw (fun w2 hw2 => ?_)
    have g0 : w2 63 0 = (n : Int) := by rw [hw2, up_ne _ _ (by omega)]; exact g0
    refine v_aload_n 0 (pc' := 29) rfl dX11_laysAll_28 rfl rfl ?_
    refine v_iconst (pc' := 30) rfl dX11_laysAll_29 ?_
    refine v_put (pc' := 33) rfl dX11_laysAll_30 fi_RX11_168 ly_63 rfl ?_
    refine v_nmw (fun w3 hw3 => ?_)
    have g0 : w3 63 0 = (n : Int) := by rw [hw3, up_ne _ _ (by omega)]; exact g0
    refine v_iconst (pc' := 34) rfl dX11_laysAll_33 ?_
    refine v_istore_n (ls' := [(1, _), (0, _)]) (pc' := 35) rfl dX11_laysAll_34 rfl rfl rfl ?_
    have hL0 : LyI w w3 n 0 := ⟨⟨by rw [hw3, up_ne _ _ (by omega), hw2, up_eq]; rfl, by rw [hw3, up_eq]; rfl⟩, fun i hi => absurd hi (Nat.not_lt_zero _), fun i hi => absurd hi (Nat.not_lt_zero _), fun q a b => by rw [hw3, up_ne _ _ (by omega), hw2, up_ne _ _ (by omega)]; exact hfl 63 q rfl, by rw [hw3, hw2]; exact ((hfl.mono rfl).up rfl).up rfl⟩
    have hP0 : PnD w3 n 0 := fun z a b => by rw [hw3, up_ne _ _ (by omega), hw2, up_ne _ _ (by omega), pn_first hn1 hn7]; exact hA z a (by omega)
    refine v_ls [1, 0] rfl ?_
    refine v_loop2 35 (fun (more : Int) (wl : Wd) => ∃ j : Nat, j ≤ facN n ∧ LyI w wl n j ∧ ((more = 1 ∧ j < facN n ∧ PnD wl n j) ∨ (more = 0 ∧ j = facN n))) (fun (more : Int) (wl : Wd) => (5041 - wl 63 3).toNat) (fun (more : Int) (wl : Wd) => [(0, aR 63), (1, aI (more))]) (fun (more : Int) (wl : Wd) => []) (fun (more : Int) (wl : Wd) => wl) (fun more wl hI1 ih1 => ?_) (1) w3 (⟨0, by omega, hL0, Or.inl ⟨rfl, by omega, hP0⟩⟩)
    clear hL0 hP0 hA hfl hx hm g0
    obtain ⟨j, hj, hLy, hmore⟩ := hI1
    have g0 := (hLy.2.2.2.1 0 (by decide) (by decide)).trans r0
    have gF := hLy.1.1
    have gK := hLy.1.2
    have hkl := klL_len hn1 hn7 hj
    refine v_iload_n 1 (pc' := 36) rfl dX11_laysAll_35 rfl rfl ?_
    refine v_if_eq (pc' := 39) (tgt := 191) rfl dX11_laysAll_36 (by decide) (by omega) (fun c1 => ?_) (fun c1 => ?_)
    ·
      have hjE : j = facN n := by omega
      have e3 : wl 63 3 = (facN n : Nat) := by rw [← hjE]; exact gF
      have hkall := klL_all hn1 hn7
      have e4 : wl 63 4 = (kmany n : Nat) := by
        rw [gK, hjE, hkall]
        unfold kTL; simp
      have e66 : ∀ x, x < kmany n → wl 66 x = (kT n x : Nat) := fun x hx => by
        have h1 := hLy.2.1 x (by rw [hjE, hkall, (kTL_get hx).1]; exact hx)
        rw [hjE, hkall, (kTL_get hx).2] at h1; exact h1
      refine v_iconst (pc' := 192) rfl dX11_laysAll_191 ?_
      refine v_istore_n (ls' := [(2, _), (0, _), (1, _)]) (pc' := 193) rfl dX11_laysAll_192 rfl rfl rfl ?_
      refine v_ls [1, 2, 0] rfl ?_
      refine v_loop2 193 (fun (u : Int) (wz : Wd) => ∃ m : Nat, u = m ∧ m ≤ kmany n ∧ (∀ x, x < m → wz 67 x = 0) ∧ Fr [67] wl wz) (fun (u : Int) (wz : Wd) => (16 - u).toNat) (fun (u : Int) (wz : Wd) => [(0, aR 63), (1, aI (more)), (2, aI (u))]) (fun (u : Int) (wz : Wd) => []) (fun (u : Int) (wz : Wd) => wz) (fun u wz hI4 ih4 => ?_) (0) wl (⟨0, rfl, by omega, fun x h => by omega, Fr.rf _ _⟩)
      obtain ⟨m, hu, hm, hA, hfz⟩ := hI4
      have z4 := (hfz 63 4 rfl).trans e4
      have z3 := (hfz 63 3 rfl).trans e3
      have z0 := (hfz 63 0 rfl).trans g0
      refine v_iload_n 2 (pc' := 194) rfl dX11_laysAll_193 rfl rfl ?_
      refine v_aload_n 0 (pc' := 195) rfl dX11_laysAll_194 rfl rfl ?_
      refine v_get (z := ((kmany n : Nat) : Int)) (pc' := 198) rfl dX11_laysAll_195 fk_RX11_168 ly_63 rfl (z4) ?_
      refine v_icmp_ge (pc' := 201) (tgt := 214) rfl dX11_laysAll_198 (by decide) (by omega) (by omega) (fun c7 => ?_) (fun c7 => ?_)
      ·
        have hme : m = kmany n := by omega
        refine v_iconst (pc' := 215) rfl dX11_laysAll_214 ?_
        refine v_istore_n (ls' := [(2, _), (0, _), (1, _)]) (pc' := 216) rfl dX11_laysAll_215 rfl rfl rfl ?_
        refine v_ls [1, 2, 0] rfl ?_
        refine v_loop2 216 (fun (i : Int) (wk : Wd) => ∃ m : Nat, i = m ∧ m ≤ facN n ∧ SzI wl wk n m) (fun (i : Int) (wk : Wd) => (5040 - i).toNat) (fun (i : Int) (wk : Wd) => [(0, aR 63), (1, aI (more)), (2, aI (i))]) (fun (i : Int) (wk : Wd) => []) (fun (i : Int) (wk : Wd) => wk) (fun i wk hI5 ih5 => ?_) (0) wz (⟨0, rfl, by omega, fun x h => by omega, fun k hk => hA k (by omega), fun k hk h => absurd h (Nat.lt_irrefl _), hfz.mono rfl⟩)
        clear hA hfz hu hm
        obtain ⟨m, hi, hm, hS1, hS2, hS3, hSf⟩ := hI5
        have k4 := (hSf 63 4 rfl).trans e4
        have k3 := (hSf 63 3 rfl).trans e3
        have k0 := (hSf 63 0 rfl).trans g0
        refine v_iload_n 2 (pc' := 217) rfl dX11_laysAll_216 rfl rfl ?_
        refine v_aload_n 0 (pc' := 218) rfl dX11_laysAll_217 rfl rfl ?_
        refine v_get (z := ((facN n : Nat) : Int)) (pc' := 221) rfl dX11_laysAll_218 fk_RX11_165 ly_63 rfl (k3) ?_
        refine v_icmp_ge (pc' := 224) (tgt := 287) rfl dX11_laysAll_221 (by decide) (by omega) (by omega) (fun c8 => ?_) (fun c8 => ?_)
        ·
          have hme : m = facN n := by omega
          refine v_vret dX11_laysAll_287 ?_
          have e : m = facN n := hme
          rw [e] at hS1 hS2 hS3
          refine ⟨⟨k3, k4, fun i hi => ⟨by rw [hSf 64 i rfl]; exact hLy.2.2.1 i (by omega), hS1 i hi⟩, fun k hk => ⟨by rw [hSf 66 k rfl]; exact e66 k hk, hS2 k hk, hS3 k hk ?_⟩⟩, fun q a b => by rw [hSf 63 q rfl]; exact hLy.2.2.2.1 q a b, (hLy.2.2.2.2.mono rfl).trs (hSf.mono rfl)⟩
          have hp := lp_pm hn7 hk
          have hr := pn_rank hn1 hn7 hp
          exact cntI_pos (i := rankN (leastF (kT n k) n) n) (by rw [beq_iff_eq, hr.2]; exact (lp_ok n (by omega) k hk).2.2) _ hr.1
        ·
          have hpm := pn_at hn1 hn7 (show m < facN n by omega)
          obtain ⟨mI, hmI, hkm⟩ := kf_type hn1 hn7 hpm.1
          have hml := kT_le hn7 hmI
          refine v_aload_n 0 (pc' := 225) rfl dX11_laysAll_224 rfl rfl ?_
          refine v_aload_n 0 (pc' := 226) rfl dX11_laysAll_225 rfl rfl ?_
          refine v_aload_n 0 (pc' := 227) rfl dX11_laysAll_226 rfl rfl ?_
          refine v_getR (pc' := 230) rfl dX11_laysAll_227 fk_RX11_7 ly_63 rfl ?_
          refine v_iload_n 2 (pc' := 231) rfl dX11_laysAll_230 rfl rfl ?_
          refine v_iald (z := ((cdk (pn n m) n : Nat) : Int)) (pc' := 232) rfl dX11_laysAll_231 ly_64 (by omega) (by omega) rfl (by rw [show i.toNat = m by omega, hSf 64 m rfl]; exact hLy.2.2.1 m (by omega)) ?_
          refine v_cVi (pc' := 235) rfl dX11_laysAll_232 lk_RX11_171 ly_63 rfl (c_typeOf l G (f := pn n m) rfl hpm.1 hn1 hn7 wk k0) rfl rfl rfl (fun typeOf2 w13 hq13 => ?_)
          obtain ⟨ft13, zt13⟩ := hq13
          have t66 : ∀ x, x < kmany n → w13 66 x = (kT n x : Nat) := fun x hx => by rw [ft13 66 x rfl, hSf 66 x rfl]; exact e66 x hx
          have k4 : w13 63 4 = ((kmany n : Nat) : Int) := (ft13 63 4 (by decide)).trans k4
          have k3 : w13 63 3 = ((facN n : Nat) : Int) := (ft13 63 3 (by decide)).trans k3
          have k0 : w13 63 0 = (n : Int) := (ft13 63 0 (by decide)).trans k0
          refine v_cVR (pc' := 238) rfl dX11_laysAll_235 lk_RX11_178 ly_63 rfl (c_kindOf l G (n := n) (by omega) hn1 hn7 w13 k4 t66) rfl rfl rfl (fun kindOf1 hkindOf1 => ?_)
          obtain ⟨kN, hkN, hkT, hkz⟩ : ∃ k, k < kmany n ∧ kT n k = kindN (pn n m) n ∧ kindOf1 = (k : Nat) := by
            rcases hkindOf1 with ⟨-, h⟩ | ⟨x, h1, h2, h3, -⟩
            · exact absurd (show (kT n mI : Int) = typeOf2 by omega) (h mI hmI)
            · exact ⟨x, h2, by omega, h1⟩
          refine v_istore_n (ls' := [(3, _), (0, _), (1, _), (2, _)]) (pc' := 239) rfl dX11_laysAll_238 rfl rfl rfl ?_
          refine v_aload_n 1 (pc' := 240) rfl dX11_laysAll_239 rfl rfl ?_
          refine v_getR (pc' := 243) rfl dX11_laysAll_240 fk_RX11_13 ly_63 rfl ?_
          refine v_iload_n 3 (pc' := 244) rfl dX11_laysAll_243 rfl rfl ?_
          refine v_iload_n 0 (pc' := 245) rfl dX11_laysAll_244 rfl rfl ?_
          refine v_iast (pc' := 246) rfl dX11_laysAll_245 ly_65 (by omega) (by omega) rfl ?_
          refine v_nmw (fun w15 hw15 => ?_)
          have k4 : w15 63 4 = ((kmany n : Nat) : Int) := by rw [hw15, up_ne _ _ (by omega)]; exact k4
          have k3 : w15 63 3 = ((facN n : Nat) : Int) := by rw [hw15, up_ne _ _ (by omega)]; exact k3
          have k0 : w15 63 0 = (n : Int) := by rw [hw15, up_ne _ _ (by omega)]; exact k0
          have J267 : ∀ (wy : Wd) (hJ : (∀ o, o ≠ 68 → ∀ x, wy o x = w15 o x) ∧ (∀ x, x ≠ kN → wy 68 x = w15 68 x) ∧ wy 68 kN = (cdk (leastF (kT n kN) n) n : Nat)), V (mX l G 3 6 none (fun _ w' => RTab w' n ∧ (∀ q, q ≠ 3 → q ≠ 4 → w' 63 q = w 63 q) ∧ Fr [63, 64, 65, 66, 67, 68, 69, 72, 73] w w')) RX11 cX11_laysAll 267 [(0, aR 63), (1, aI (more)), (2, aI (i)), (3, aI (kindOf1))] [] wy := by
            intro wy hJ
            refine v_aload_n 0 (pc' := 268) rfl dX11_laysAll_267 rfl rfl ?_
            refine v_getR (pc' := 271) rfl dX11_laysAll_268 fk_RX11_19 ly_63 rfl ?_
            refine v_iload_n 3 (pc' := 272) rfl dX11_laysAll_271 rfl rfl ?_
            refine v_aload_n 0 (pc' := 273) rfl dX11_laysAll_272 rfl rfl ?_
            refine v_getR (pc' := 276) rfl dX11_laysAll_273 fk_RX11_19 ly_63 rfl ?_
            refine v_iload_n 3 (pc' := 277) rfl dX11_laysAll_276 rfl rfl ?_
            refine v_iald (z := ((cntI (fun i => kindN (pn n i) n == kT n kN) m : Nat) : Int)) (pc' := 278) rfl dX11_laysAll_277 ly_67 (by omega) (by omega) rfl (by rw [show kindOf1.toNat = kN by omega, hJ.1 67 (by decide), hw15, up_ne _ _ (by omega), ft13 67 kN rfl]; exact hS2 kN hkN) ?_
            refine v_iconst (pc' := 279) rfl dX11_laysAll_278 ?_
            refine v_iadd (pc' := 280) rfl dX11_laysAll_279 ?_
            refine v_iast (pc' := 281) rfl dX11_laysAll_280 ly_67 (by omega) (by omega) rfl ?_
            refine v_nmw (fun w17 hw17 => ?_)
            refine v_iinc (ls' := [(2, _), (0, _), (1, _), (3, _)]) 2 (pc' := 284) rfl dX11_laysAll_281 rfl rfl rfl ?_
            refine v_nl (fun i' hi' => ?_)
            refine v_goto (tgt := 216) dX11_laysAll_284 (by decide) ?_
            refine v_ls [1, 2, 0] rfl ?_
            have hfy : Fr [65, 67, 68, 69, 72] wl w17 := by
              have a : Fr [65, 67, 68, 69, 72] wl w15 := by rw [hw15]; exact (hSf.trs (ft13.mono rfl)).up rfl
              rw [hw17]
              exact (a.trs (fun o x hc => hJ.1 o (fun e => by rw [e] at hc; simp at hc) x)).up rfl
            have hw65 : ∀ x, w17 65 x = w15 65 x := fun x => by rw [hw17, up_ne _ _ (by omega)]; exact hJ.1 65 (by decide) x
            have hc67 : ∀ x, wy 67 x = wk 67 x := fun x => by rw [hJ.1 67 (by decide), hw15, up_ne _ _ (by omega)]; exact ft13 67 x rfl
            exact ih5 (i') w17 (⟨m + 1, by omega, by omega, fun x hx => by
                rw [hw65, hw15, up_at, show i.toNat = m by omega]
                by_cases e : x = m
                · rw [if_pos ⟨rfl, e⟩, e]; exact ⟨kN, hkN, hkT, hkz⟩
                · rw [if_neg (fun r => e r.2), ft13 65 x rfl]; exact hS1 x (by omega), fun k hk => by
                rw [cntI_s, hw17, up_at, show kindOf1.toNat = kN by omega]
                by_cases e : k = kN
                · rw [if_pos ⟨rfl, e⟩, e, if_pos (by rw [beq_iff_eq]; exact hkT.symm)]; omega
                · rw [if_neg (fun r => e r.2), hc67, hS2 k hk, if_neg (by rw [beq_iff_eq]; exact fun r => e (kT_inj n (by omega) k hk kN hkN (by rw [← r]; exact hkT.symm)))]; rfl, fun k hk h => by
                rw [hw17, up_ne _ _ (by omega)]
                by_cases e : k = kN
                · rw [e]; exact hJ.2.2
                · rw [hJ.2.1 k e, hw15, up_ne _ _ (by omega), ft13 68 k rfl]
                  refine hS3 k hk ?_
                  rw [cntI_s, if_neg (by rw [beq_iff_eq]; exact fun r => e (kT_inj n (by omega) k hk kN hkN (by rw [← r]; exact hkT.symm)))] at h
                  exact h, hfy⟩) (by omega)
          refine v_aload_n 1 (pc' := 247) rfl dX11_laysAll_246 rfl rfl ?_
          refine v_getR (pc' := 250) rfl dX11_laysAll_247 fk_RX11_19 ly_63 rfl ?_
          refine v_iload_n 0 (pc' := 251) rfl dX11_laysAll_250 rfl rfl ?_
          refine v_iald (z := ((cntI (fun i => kindN (pn n i) n == kT n kN) m : Nat) : Int)) (pc' := 252) rfl dX11_laysAll_251 ly_67 (by omega) (by omega) rfl (by rw [show kindOf1.toNat = kN by omega, hw15, up_ne _ _ (by omega), ft13 67 kN rfl]; exact hS2 kN hkN) ?_
          refine v_if_ne (pc' := 255) (tgt := 267) rfl dX11_laysAll_252 (by decide) (by have := cntI_le (fun i => kindN (pn n i) n == kT n kN) m; omega) (fun c9 => ?_) (fun c9 => ?_)
          ·
            have hJy : (∀ o, o ≠ 68 → ∀ x, w15 o x = w15 o x) ∧ (∀ x, x ≠ kN → w15 68 x = w15 68 x) ∧ w15 68 kN = (cdk (leastF (kT n kN) n) n : Nat) := ⟨fun _ _ _ => rfl, fun _ _ => rfl, by rw [hw15, up_ne _ _ (by omega), ft13 68 kN rfl]; exact hS3 kN hkN (by omega)⟩
            refine v_ls [1, 2, 3, 0] rfl ?_
            exact J267 w15 (hJy)
          ·
            have hfirst := first_least hn1 hn7 hkN (show m < facN n by omega) hkT (by omega)
            refine v_aload_n 1 (pc' := 256) rfl dX11_laysAll_255 rfl rfl ?_
            refine v_getR (pc' := 259) rfl dX11_laysAll_256 fk_RX11_22 ly_63 rfl ?_
            refine v_iload_n 0 (pc' := 260) rfl dX11_laysAll_259 rfl rfl ?_
            refine v_aload_n 1 (pc' := 261) rfl dX11_laysAll_260 rfl rfl ?_
            refine v_getR (pc' := 264) rfl dX11_laysAll_261 fk_RX11_7 ly_63 rfl ?_
            refine v_iload_n 3 (pc' := 265) rfl dX11_laysAll_264 rfl rfl ?_
            refine v_iald (z := ((cdk (pn n m) n : Nat) : Int)) (pc' := 266) rfl dX11_laysAll_265 ly_64 (by omega) (by omega) rfl (by rw [show i.toNat = m by omega, hw15, up_ne _ _ (by omega), ft13 64 m rfl, hSf 64 m rfl]; exact hLy.2.2.1 m (by omega)) ?_
            refine v_iast (pc' := 267) rfl dX11_laysAll_266 ly_68 (by omega) (by omega) rfl ?_
            refine v_nmw (fun w16 hw16 => ?_)
            have k4 : w16 63 4 = ((kmany n : Nat) : Int) := by rw [hw16, up_ne _ _ (by omega)]; exact k4
            have k3 : w16 63 3 = ((facN n : Nat) : Int) := by rw [hw16, up_ne _ _ (by omega)]; exact k3
            have k0 : w16 63 0 = (n : Int) := by rw [hw16, up_ne _ _ (by omega)]; exact k0
            refine v_ls [1, 2, 3, 0] rfl ?_
            exact J267 w16 (⟨fun o ho x => by rw [hw16, up_ne _ _ (by omega)], fun x hx => by rw [hw16, up_ne _ _ (by omega)], by rw [hw16, show kindOf1.toNat = kN by omega, up_eq, hfirst]⟩)
      ·
        refine v_aload_n 0 (pc' := 202) rfl dX11_laysAll_201 rfl rfl ?_
        refine v_getR (pc' := 205) rfl dX11_laysAll_202 fk_RX11_19 ly_63 rfl ?_
        refine v_iload_n 2 (pc' := 206) rfl dX11_laysAll_205 rfl rfl ?_
        refine v_iconst (pc' := 207) rfl dX11_laysAll_206 ?_
        refine v_iast (pc' := 208) rfl dX11_laysAll_207 ly_67 (by omega) (by omega) rfl ?_
        refine v_nmw (fun w12 hw12 => ?_)
        have z4 : w12 63 4 = ((kmany n : Nat) : Int) := by rw [hw12, up_ne _ _ (by omega)]; exact z4
        have z3 : w12 63 3 = ((facN n : Nat) : Int) := by rw [hw12, up_ne _ _ (by omega)]; exact z3
        have z0 : w12 63 0 = (n : Int) := by rw [hw12, up_ne _ _ (by omega)]; exact z0
        refine v_iinc (ls' := [(2, _), (0, _), (1, _)]) 2 (pc' := 211) rfl dX11_laysAll_208 rfl rfl rfl ?_
        refine v_nl (fun u' hu' => ?_)
        refine v_goto (tgt := 193) dX11_laysAll_211 (by decide) ?_
        refine v_ls [1, 2, 0] rfl ?_
        exact ih4 (u') w12 (⟨m + 1, by omega, by omega, fun x hx => by
            rw [hw12, up_at, show u.toNat = m by omega]
            split
            · rfl
            · exact hA x (by omega), by rw [hw12]; exact hfz.up rfl⟩) (by omega)
    ·
      obtain ⟨-, hjF, hPj⟩ := hmore.resolve_right (by omega)
      have hpj := pn_at hn1 hn7 hjF
      refine v_aload_n 0 (pc' := 40) rfl dX11_laysAll_39 rfl rfl ?_
      refine v_aload_n 0 (pc' := 41) rfl dX11_laysAll_40 rfl rfl ?_
      refine v_getR (pc' := 44) rfl dX11_laysAll_41 fk_RX11_37 ly_63 rfl ?_
      refine v_cVP (pc' := 47) rfl dX11_laysAll_44 lk_RX11_137 ly_63 rfl (c_told_73 l G (g := pn n j) hn7 wl g0 hPj) rfl rfl rfl ?_
      refine v_nm (fun told1 htold1 => ?_)
      refine v_istore_n (ls' := [(2, _), (0, _), (1, _)]) (pc' := 48) rfl dX11_laysAll_47 rfl rfl rfl ?_
      refine v_aload_n 1 (pc' := 49) rfl dX11_laysAll_48 rfl rfl ?_
      refine v_getR (pc' := 52) rfl dX11_laysAll_49 fk_RX11_7 ly_63 rfl ?_
      refine v_aload_n 1 (pc' := 53) rfl dX11_laysAll_52 rfl rfl ?_
      refine v_get (z := (j : Int)) (pc' := 56) rfl dX11_laysAll_53 fk_RX11_165 ly_63 rfl (gF) ?_
      refine v_iload_n 0 (pc' := 57) rfl dX11_laysAll_56 rfl rfl ?_
      refine v_iast (pc' := 58) rfl dX11_laysAll_57 ly_64 (by omega) (by omega) rfl ?_
      refine v_nmw (fun w5 hw5 => ?_)
      have g0 : w5 63 0 = (n : Int) := by rw [hw5, up_ne _ _ (by omega)]; exact g0
      have gF : w5 63 3 = (j : Int) := by rw [hw5, up_ne _ _ (by omega)]; exact gF
      have gK : w5 63 4 = (((klL n j).length : Nat) : Int) := by rw [hw5, up_ne _ _ (by omega)]; exact gK
      refine v_aload_n 1 (pc' := 59) rfl dX11_laysAll_58 rfl rfl ?_
      refine v_aload_n 1 (pc' := 60) rfl dX11_laysAll_59 rfl rfl ?_
      refine v_get (z := (j : Int)) (pc' := 63) rfl dX11_laysAll_60 fk_RX11_165 ly_63 rfl (gF) ?_
      refine v_iconst (pc' := 64) rfl dX11_laysAll_63 ?_
      refine v_iadd (pc' := 65) rfl dX11_laysAll_64 ?_
      refine v_put (pc' := 68) rfl dX11_laysAll_65 fi_RX11_165 ly_63 rfl ?_
      refine v_nmw (fun w6 hw6 => ?_)
      have g0 : w6 63 0 = (n : Int) := by rw [hw6, up_ne _ _ (by omega)]; exact g0
      have gK : w6 63 4 = (((klL n j).length : Nat) : Int) := by rw [hw6, up_ne _ _ (by omega)]; exact gK
      refine v_aload_n 1 (pc' := 69) rfl dX11_laysAll_68 rfl rfl ?_
      refine v_iload_n 0 (pc' := 70) rfl dX11_laysAll_69 rfl rfl ?_
      refine v_cVi (pc' := 73) rfl dX11_laysAll_70 lk_RX11_171 ly_63 rfl (c_typeOf l G htold1 hpj.1 hn1 hn7 w6 g0) rfl rfl rfl (fun typeOf1 w7 hq7 => ?_)
      obtain ⟨ft7, zt7⟩ := hq7
      have h66 : ∀ x, x < (klL n j).length → w7 66 x = ((klL n j).getD x 0 : Nat) := fun x hx => by rw [ft7 66 x rfl, hw6, up_ne _ _ (by omega), hw5, up_ne _ _ (by omega)]; exact hLy.2.1 x hx
      have h64 : ∀ x, x < j + 1 → w7 64 x = (cdk (pn n x) n : Nat) := fun x hx => by
        rw [ft7 64 x rfl, hw6, up_ne _ _ (by omega), hw5, up_at, show ((j : Nat) : Int).toNat = j by omega]
        by_cases e : x = j
        · rw [if_pos ⟨rfl, e⟩, e]; exact htold1
        · rw [if_neg (fun r => e r.2)]; exact hLy.2.2.1 x (by omega)
      have h63 : ∀ q, q ≠ 3 → q ≠ 4 → w7 63 q = w 63 q := fun q a b => by rw [ft7 63 q rfl, hw6, up_ne _ _ (by omega), hw5, up_ne _ _ (by omega)]; exact hLy.2.2.2.1 q a b
      have h633 : w7 63 3 = ((j + 1 : Nat) : Int) := by rw [ft7 63 3 rfl, hw6, up_eq]; rfl
      have hF7 : Fr [63, 64, 66, 69, 72, 73] w w7 := by
        have a : Fr [63, 64, 66, 69, 72, 73] w w6 := by rw [hw6, hw5]; exact ((hLy.2.2.2.2).up rfl).up rfl
        exact a.trs (ft7.mono rfl)
      have hP7 : PnD w7 n j := fun z a b => by rw [ft7 73 z rfl, hw6, up_ne _ _ (by omega), hw5, up_ne _ _ (by omega)]; exact hPj z a b
      obtain ⟨tI, htI, hkI⟩ := kf_type hn1 hn7 hpj.1
      have htl := kT_le hn7 htI
      have hdl : ∀ x, x < (klL n j).length → (klL n j).getD x 0 ≤ 1111111 := fun x hx => by
        obtain ⟨y, hy, e⟩ := (klL_mem j).mp (getD_mem (d := 0) hx)
        obtain ⟨yI, hyI, e2⟩ := kf_type hn1 hn7 (pn_at hn1 hn7 (show y < facN n by omega)).1
        have := kT_le hn7 hyI
        omega
      have g0 : w7 63 0 = (n : Int) := (ft7 63 0 (by decide)).trans g0
      have gK : w7 63 4 = (((klL n j).length : Nat) : Int) := (ft7 63 4 (by decide)).trans gK
      refine v_istore_n (ls' := [(3, _), (2, _), (0, _), (1, _)]) (pc' := 74) rfl dX11_laysAll_73 rfl rfl rfl ?_
      refine v_iconst (pc' := 75) rfl dX11_laysAll_74 ?_
      refine v_istore (ls' := [(4, _), (3, _), (2, _), (0, _), (1, _)]) (pc' := 77) rfl dX11_laysAll_75 rfl rfl ?_
      refine v_ls [3, 4, 2, 1, 0] rfl ?_
      refine v_loop1 77 (fun (k : Int) => ∃ q : Nat, k = q ∧ q ≤ (klL n j).length ∧ ∀ i, i < q → (kindN (pn n j) n) < (klL n j).getD i 0) (fun (k : Int) => (16 - k).toNat) (fun (k : Int) => [(0, aR 63), (1, aI (more)), (2, aI (told1)), (3, aI (typeOf1)), (4, aI (k))]) (fun (k : Int) => []) (fun (k : Int) => w7) (fun k hI2 ih2 => ?_) (0) (⟨0, rfl, by omega, fun i hi => by omega⟩)
      obtain ⟨q, hk, hq, hgt⟩ := hI2
      have J106 : ∀ (kq : Int) (hJ : ∃ q : Nat, kq = q ∧ q ≤ (klL n j).length ∧ (∀ i, i < q → (kindN (pn n j) n) < (klL n j).getD i 0) ∧ (q < (klL n j).length → (klL n j).getD q 0 ≤ (kindN (pn n j) n))), V (mX l G 3 6 none (fun _ w' => RTab w' n ∧ (∀ q, q ≠ 3 → q ≠ 4 → w' 63 q = w 63 q) ∧ Fr [63, 64, 65, 66, 67, 68, 69, 72, 73] w w')) RX11 cX11_laysAll 106 [(0, aR 63), (1, aI (more)), (2, aI (told1)), (3, aI (typeOf1)), (4, aI (kq))] [] w7 := by
        intro kq hJ
        obtain ⟨qN, hkq, hqN, hgtq, hleq⟩ := hJ
        have J179 : ∀ (wj : Wd) (hJ : LyI w wj n (j + 1) ∧ PnD wj n j), V (mX l G 3 6 none (fun _ w' => RTab w' n ∧ (∀ q, q ≠ 3 → q ≠ 4 → w' 63 q = w 63 q) ∧ Fr [63, 64, 65, 66, 67, 68, 69, 72, 73] w w')) RX11 cX11_laysAll 179 [(0, aR 63)] [] wj := by
          intro wj hJ
          have j0 := (hJ.1.2.2.2.1 0 (by decide) (by decide)).trans r0
          refine v_aload_n 0 (pc' := 180) rfl dX11_laysAll_179 rfl rfl ?_
          refine v_aload_n 0 (pc' := 181) rfl dX11_laysAll_180 rfl rfl ?_
          refine v_getR (pc' := 184) rfl dX11_laysAll_181 fk_RX11_37 ly_63 rfl ?_
          refine v_cVi (pc' := 187) rfl dX11_laysAll_184 lk_RX11_174 ly_63 rfl (c_goesOn l G hpj.1 hn1 hn7 wj j0 hJ.2) rfl rfl rfl (fun goesOn1 w11 hq11 => ?_)
          refine v_istore_n (ls' := [(1, _), (0, _)]) (pc' := 188) rfl dX11_laysAll_187 rfl rfl rfl ?_
          refine v_goto (tgt := 35) dX11_laysAll_188 (by decide) ?_
          refine v_ls [1, 0] rfl ?_
          have hj1 := hJ.1.1.1
          have hnxt : ∃ j2 : Nat, j2 ≤ facN n ∧ LyI w w11 n j2 ∧ ((goesOn1 = 1 ∧ j2 < facN n ∧ PnD w11 n j2) ∨ (goesOn1 = 0 ∧ j2 = facN n)) ∧ w11 63 3 = ((j + 1 : Nat) : Int) := by
            rcases hq11 with ⟨a, b, c⟩ | ⟨a, b, c, d⟩
            · rw [c]; exact ⟨j + 1, by omega, hJ.1, Or.inr ⟨b, (last_iff hn1 hn7 hjF).mp a⟩, hj1⟩
            · have hlt : j + 1 < facN n := by
                rcases Nat.lt_or_ge (j + 1) (facN n) with q | q
                · exact q
                · exact absurd ((last_iff hn1 hn7 hjF).mpr (by omega)) a
              refine ⟨j + 1, by omega, ⟨⟨(d 63 3 rfl).trans hJ.1.1.1, (d 63 4 rfl).trans hJ.1.1.2⟩, fun i hi => (d 66 i rfl).trans (hJ.1.2.1 i hi), fun i hi => (d 64 i rfl).trans (hJ.1.2.2.1 i hi), fun q a b => (d 63 q rfl).trans (hJ.1.2.2.2.1 q a b), hJ.1.2.2.2.2.trs (d.mono rfl)⟩, Or.inl ⟨b, hlt, fun x h1 h2 => by rw [c x h1 h2, next_vals hn1 hn7 hlt h1 h2]⟩, (d 63 3 rfl).trans hj1⟩
          obtain ⟨j2, n1, n2, n3, n4⟩ := hnxt
          exact ih1 (goesOn1) w11 (⟨j2, n1, n2, n3⟩) (by omega)
        have J126 : ∀  (hJ : qN < (klL n j).length → (klL n j).getD qN 0 < (kindN (pn n j) n)), V (mX l G 3 6 none (fun _ w' => RTab w' n ∧ (∀ q, q ≠ 3 → q ≠ 4 → w' 63 q = w 63 q) ∧ Fr [63, 64, 65, 66, 67, 68, 69, 72, 73] w w')) RX11 cX11_laysAll 126 [(0, aR 63), (1, aI (more)), (2, aI (told1)), (3, aI (typeOf1)), (4, aI (kq))] [] w7 := by
          intro  hJ
          have hins := insT_at (klL n j) qN hqN hgtq hJ
          have hlen1 : (klL n j).length + 1 ≤ kmany n := by
            have e : (klL n (j + 1)).length = (klL n j).length + 1 := by
              show (insT (klL n j) (kindN (pn n j) n)).length = _
              rw [hins]; simp; omega
            have := klL_len hn1 hn7 (show j + 1 ≤ facN n by omega)
            omega
          refine v_aload_n 0 (pc' := 127) rfl dX11_laysAll_126 rfl rfl ?_
          refine v_get (z := (((klL n j).length : Nat) : Int)) (pc' := 130) rfl dX11_laysAll_127 fk_RX11_168 ly_63 rfl (gK) ?_
          refine v_nm (fun i5' hi5' => ?_)
          refine v_istore (ls' := [(5, _), (0, _), (1, _), (2, _), (3, _), (4, _)]) (pc' := 132) rfl dX11_laysAll_130 rfl rfl ?_
          refine v_ls [1, 2, 3, 4, 5, 0] rfl ?_
          refine v_loop2 132 (fun (i5 : Int) (ws : Wd) => ∃ m : Nat, i5 = m ∧ qN ≤ m ∧ m ≤ (klL n j).length ∧ (∀ x, x ≤ m → x < (klL n j).length → ws 66 x = ((klL n j).getD x 0 : Nat)) ∧ (∀ x, m < x → x ≤ (klL n j).length → ws 66 x = ((klL n j).getD (x - 1) 0 : Nat)) ∧ Fr [66] w7 ws) (fun (i5 : Int) (ws : Wd) => i5.toNat) (fun (i5 : Int) (ws : Wd) => [(0, aR 63), (1, aI (more)), (2, aI (told1)), (3, aI (typeOf1)), (4, aI (kq)), (5, aI (i5))]) (fun (i5 : Int) (ws : Wd) => []) (fun (i5 : Int) (ws : Wd) => ws) (fun i5 ws hI3 ih3 => ?_) (i5') w7 (⟨(klL n j).length, hi5', by omega, by omega, fun x _ h => h66 x h, fun x a b => by omega, Fr.rf _ _⟩)
          obtain ⟨m, hi5, hqm, hml, hA, hB, hfs⟩ := hI3
          have s4 := (hfs 63 4 rfl).trans gK
          refine v_iload 5 (pc' := 134) rfl dX11_laysAll_132 rfl ?_
          refine v_iload 4 (pc' := 136) rfl dX11_laysAll_134 rfl ?_
          refine v_icmp_le (pc' := 139) (tgt := 161) rfl dX11_laysAll_136 (by decide) (by omega) (by omega) (fun c6 => ?_) (fun c6 => ?_)
          ·
            refine v_aload_n 0 (pc' := 162) rfl dX11_laysAll_161 rfl rfl ?_
            refine v_getR (pc' := 165) rfl dX11_laysAll_162 fk_RX11_16 ly_63 rfl ?_
            refine v_iload 4 (pc' := 167) rfl dX11_laysAll_165 rfl ?_
            refine v_iload_n 3 (pc' := 168) rfl dX11_laysAll_167 rfl rfl ?_
            refine v_iast (pc' := 169) rfl dX11_laysAll_168 ly_66 (by omega) (by omega) rfl ?_
            refine v_nmw (fun w9 hw9 => ?_)
            have s4 : w9 63 4 = (((klL n j).length : Nat) : Int) := by rw [hw9, up_ne _ _ (by omega)]; exact s4
            refine v_aload_n 0 (pc' := 170) rfl dX11_laysAll_169 rfl rfl ?_
            refine v_aload_n 0 (pc' := 171) rfl dX11_laysAll_170 rfl rfl ?_
            refine v_get (z := (((klL n j).length : Nat) : Int)) (pc' := 174) rfl dX11_laysAll_171 fk_RX11_168 ly_63 rfl (s4) ?_
            refine v_iconst (pc' := 175) rfl dX11_laysAll_174 ?_
            refine v_iadd (pc' := 176) rfl dX11_laysAll_175 ?_
            refine v_put (pc' := 179) rfl dX11_laysAll_176 fi_RX11_168 ly_63 rfl ?_
            refine v_nmw (fun w10 hw10 => ?_)
            refine v_ls [0] rfl ?_
            exact J179 w10 (⟨hLy.ins (q := qN) hqN hins (by rw [hw10, up_ne _ _ (by omega), hw9, up_ne _ _ (by omega), hfs 63 3 rfl]; exact h633) (by rw [hw10, up_eq]; omega) (fun x hx => by rw [hw10, up_ne _ _ (by omega), hw9, up_ne _ _ (by omega)]; exact hA x (by omega) (by omega)) (by rw [hw10, up_ne _ _ (by omega), hw9, show kq.toNat = qN by omega, up_eq]; exact zt7) (fun x a b => by rw [hw10, up_ne _ _ (by omega), hw9, up_ne _ _ (by omega)]; exact hB x (by omega) b) (fun i hi => by rw [hw10, up_ne _ _ (by omega), hw9, up_ne _ _ (by omega), hfs 64 i rfl]; exact h64 i hi) (fun u a b => by rw [hw10, up_ne _ _ (by omega), hw9, up_ne _ _ (by omega), hfs 63 u rfl]; exact h63 u a b) (by rw [hw10, hw9]; exact ((hF7.trs (hfs.mono rfl)).up rfl).up rfl), fun z a b => by rw [hw10, up_ne _ _ (by omega), hw9, up_ne _ _ (by omega), hfs 73 z rfl]; exact hP7 z a b⟩)
          ·
            refine v_aload_n 0 (pc' := 140) rfl dX11_laysAll_139 rfl rfl ?_
            refine v_getR (pc' := 143) rfl dX11_laysAll_140 fk_RX11_16 ly_63 rfl ?_
            refine v_iload 5 (pc' := 145) rfl dX11_laysAll_143 rfl ?_
            refine v_aload_n 0 (pc' := 146) rfl dX11_laysAll_145 rfl rfl ?_
            refine v_getR (pc' := 149) rfl dX11_laysAll_146 fk_RX11_16 ly_63 rfl ?_
            refine v_iload 5 (pc' := 151) rfl dX11_laysAll_149 rfl ?_
            refine v_iconst (pc' := 152) rfl dX11_laysAll_151 ?_
            refine v_isub (pc' := 153) rfl dX11_laysAll_152 ?_
            refine v_iald (z := (((klL n j).getD (m - 1) 0 : Nat) : Int)) (pc' := 154) rfl dX11_laysAll_153 ly_66 (by omega) (by omega) rfl (by rw [show (i5 - 1).toNat = m - 1 by omega]; exact hA (m - 1) (by omega) (by omega)) ?_
            refine v_iast (pc' := 155) rfl dX11_laysAll_154 ly_66 (by omega) (by omega) rfl ?_
            refine v_nmw (fun w8 hw8 => ?_)
            have s4 : w8 63 4 = (((klL n j).length : Nat) : Int) := by rw [hw8, up_ne _ _ (by omega)]; exact s4
            refine v_iinc (ls' := [(5, _), (0, _), (1, _), (2, _), (3, _), (4, _)]) 5 (pc' := 158) rfl dX11_laysAll_155 rfl rfl rfl ?_
            refine v_nl (fun i5' hi5' => ?_)
            refine v_goto (tgt := 132) dX11_laysAll_158 (by decide) ?_
            refine v_ls [1, 2, 3, 4, 5, 0] rfl ?_
            exact ih3 (i5') w8 (⟨m - 1, by omega, by omega, by omega, fun x a b => by
                rw [hw8, up_ne _ _ (by omega)]; exact hA x (by omega) b, fun x a b => by
                rw [hw8, up_at, show i5.toNat = m by omega]
                by_cases e : x = m
                · rw [if_pos ⟨rfl, e⟩, e]
                · rw [if_neg (fun r => e r.2)]; exact hB x (by omega) b, by rw [hw8]; exact hfs.up rfl⟩) (by omega)
        refine v_iload 4 (pc' := 108) rfl dX11_laysAll_106 rfl ?_
        refine v_aload_n 0 (pc' := 109) rfl dX11_laysAll_108 rfl rfl ?_
        refine v_get (z := (((klL n j).length : Nat) : Int)) (pc' := 112) rfl dX11_laysAll_109 fk_RX11_168 ly_63 rfl (gK) ?_
        refine v_icmp_eq (pc' := 115) (tgt := 126) rfl dX11_laysAll_112 (by decide) (by omega) (by omega) (fun c4 => ?_) (fun c4 => ?_)
        ·
          have hlt : qN < (klL n j).length → (klL n j).getD qN 0 < (kindN (pn n j) n) := fun h => by omega
          exact J126  (hlt)
        ·
          have hdq := hdl qN (by omega)
          refine v_aload_n 0 (pc' := 116) rfl dX11_laysAll_115 rfl rfl ?_
          refine v_getR (pc' := 119) rfl dX11_laysAll_116 fk_RX11_16 ly_63 rfl ?_
          refine v_iload 4 (pc' := 121) rfl dX11_laysAll_119 rfl ?_
          refine v_iald (z := (((klL n j).getD qN 0 : Nat) : Int)) (pc' := 122) rfl dX11_laysAll_121 ly_66 (by omega) (by omega) rfl (by rw [show kq.toNat = qN by omega]; exact h66 qN (by omega)) ?_
          refine v_iload_n 3 (pc' := 123) rfl dX11_laysAll_122 rfl rfl ?_
          refine v_icmp_eq (pc' := 126) (tgt := 179) rfl dX11_laysAll_123 (by decide) (by omega) (by omega) (fun c5 => ?_) (fun c5 => ?_)
          ·
            have hJn : LyI w w7 n (j + 1) ∧ PnD w7 n j := ⟨hLy.hit (q := qN) (by omega) (by omega) h633 gK (fun x => by rw [ft7 66 x rfl, hw6, up_ne _ _ (by omega), hw5, up_ne _ _ (by omega)]) h64 h63 hF7, hP7⟩
            refine v_ls [0] rfl ?_
            exact J179 w7 (hJn)
          ·
            have hlt : qN < (klL n j).length → (klL n j).getD qN 0 < (kindN (pn n j) n) := fun h => by have := hleq h; omega
            exact J126  (hlt)
      refine v_iload 4 (pc' := 79) rfl dX11_laysAll_77 rfl ?_
      refine v_aload_n 0 (pc' := 80) rfl dX11_laysAll_79 rfl rfl ?_
      refine v_get (z := (((klL n j).length : Nat) : Int)) (pc' := 83) rfl dX11_laysAll_80 fk_RX11_168 ly_63 rfl (gK) ?_
      refine v_icmp_ge (pc' := 86) (tgt := 106) rfl dX11_laysAll_83 (by decide) (by omega) (by omega) (fun c2 => ?_) (fun c2 => ?_)
      ·
        have hle : q < (klL n j).length → (klL n j).getD q 0 ≤ (kindN (pn n j) n) := fun h => by omega
        exact J106 (k) (⟨q, hk, hq, hgt, hle⟩)
      ·
        have hdq := hdl q (by omega)
        refine v_aload_n 0 (pc' := 87) rfl dX11_laysAll_86 rfl rfl ?_
        refine v_getR (pc' := 90) rfl dX11_laysAll_87 fk_RX11_16 ly_63 rfl ?_
        refine v_iload 4 (pc' := 92) rfl dX11_laysAll_90 rfl ?_
        refine v_iald (z := (((klL n j).getD q 0 : Nat) : Int)) (pc' := 93) rfl dX11_laysAll_92 ly_66 (by omega) (by omega) rfl (by rw [show k.toNat = q by omega]; exact h66 q (by omega)) ?_
        refine v_iload_n 3 (pc' := 94) rfl dX11_laysAll_93 rfl rfl ?_
        refine v_icmp_le (pc' := 97) (tgt := 106) rfl dX11_laysAll_94 (by decide) (by omega) (by omega) (fun c3 => ?_) (fun c3 => ?_)
        ·
          have hle : q < (klL n j).length → (klL n j).getD q 0 ≤ (kindN (pn n j) n) := fun h => by omega
          exact J106 (k) (⟨q, hk, hq, hgt, hle⟩)
        ·
          refine v_iload 4 (pc' := 99) rfl dX11_laysAll_97 rfl ?_
          refine v_iconst (pc' := 100) rfl dX11_laysAll_99 ?_
          refine v_iadd (pc' := 101) rfl dX11_laysAll_100 ?_
          refine v_nm (fun k' hk' => ?_)
          refine v_istore (ls' := [(4, _), (0, _), (1, _), (2, _), (3, _)]) (pc' := 103) rfl dX11_laysAll_101 rfl rfl ?_
          refine v_goto (tgt := 77) dX11_laysAll_103 (by decide) ?_
          refine v_ls [1, 2, 3, 4, 0] rfl ?_
          exact ih2 (k') (⟨q + 1, by omega, by omega, fun i hi => by
              by_cases e : i = q
              · rw [e]; omega
              · exact hgt i (by omega)⟩) (by omega)
  ·
    refine v_aload_n 0 (pc' := 11) rfl dX11_laysAll_10 rfl rfl ?_
    refine v_getR (pc' := 14) rfl dX11_laysAll_11 fk_RX11_37 ly_63 rfl ?_
    refine v_iload_n 1 (pc' := 15) rfl dX11_laysAll_14 rfl rfl ?_
    refine v_iload_n 1 (pc' := 16) rfl dX11_laysAll_15 rfl rfl ?_
    refine v_iast (pc' := 17) rfl dX11_laysAll_16 ly_73 (by omega) (by omega) rfl ?_
    refine v_nmw (fun w1 hw1 => ?_)
    have g0 : w1 63 0 = (n : Int) := by rw [hw1, up_ne _ _ (by omega)]; exact g0
    refine v_iinc (ls' := [(1, _), (0, _)]) 1 (pc' := 20) rfl dX11_laysAll_17 rfl rfl rfl ?_
    refine v_nl (fun x' hx' => ?_)
    refine v_goto (tgt := 2) dX11_laysAll_20 (by decide) ?_
    refine v_ls [1, 0] rfl ?_
    exact ih0 (x') w1 (⟨m + 1, by omega, by omega, fun z a b => by
        rw [hw1, up_at, show x.toNat = m + 1 by omega]
        by_cases q : z = m + 1
        · rw [if_pos ⟨rfl, q⟩]; omega
        · rw [if_neg (fun e => q e.2)]; exact hA z a (by omega), by rw [hw1]; exact hfl.up rfl⟩) (by omega)

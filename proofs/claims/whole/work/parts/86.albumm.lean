/-! ===== the reference: the album ===== -/
def GCON : Prop := ∀ (n : Nat) (s a : Nat → Nat), 1 ≤ n → n ≤ 7 → Pm n s → Pm n a → genusI (canS n s) (canA n s a) (full n) = genusI s a (full n)
def AlM (w : Wd) (AL : List PE) : Prop := w 63 52 = (AL.length : Nat) ∧ ∀ i, i < AL.length → w 94 i = ((AL.getD i pe0).1 : Nat) ∧ w 95 i = (cdk (AL.getD i pe0).2.1 (AL.getD i pe0).1 : Nat) ∧ w 96 i = (cdk (AL.getD i pe0).2.2 (AL.getD i pe0).1 : Nat) ∧ w 97 i = genusI (AL.getD i pe0).2.1 (AL.getD i pe0).2.2 (full (AL.getD i pe0).1)
theorem AlM.fr {w w' : Wd} {AL : List PE} (h : AlM w AL) (h1 : w' 63 52 = w 63 52) (h2 : ∀ o, 94 ≤ o → o ≤ 97 → ∀ j, w' o j = w o j) : AlM w' AL := ⟨by rw [h1]; exact h.1, fun i hi => by rw [h2 94 (by omega) (by omega), h2 95 (by omega) (by omega), h2 96 (by omega) (by omega), h2 97 (by omega) (by omega)]; exact h.2 i hi⟩
theorem AlM.scr {w w' : Wd} {AL : List PE} (h : AlM w AL) (hs : Scr w w') : AlM w' AL := h.fr (hs 63 52 (by decide)) (fun o h1 h2 j => hs o j (by unfold keepB; rw [if_neg (by omega)]; simp; omega))
def Hld (w w' : Wd) : Prop := w' 63 16 = w 63 16 ∧ w' 63 53 = w 63 53 ∧ (∀ j, w' 74 j = w 74 j) ∧ (∀ j, w' 98 j = w 98 j) ∧ ∀ o, o < 63 → ∀ j, w' o j = w o j
theorem Scr.hld {w w' : Wd} (h : Scr w w') : Hld w w' := ⟨h 63 16 (by decide), h 63 53 (by decide), fun j => h 74 j rfl, fun j => h 98 j rfl, fun o ho j => h o j (by unfold keepB; rw [if_neg (by omega)]; simp; omega)⟩
theorem AlM.push {w w' : Wd} {AL : List PE} {n m : Nat} {S A : Nat → Nat} {g : Int} (h : AlM w AL) (hm : m = AL.length) (hg : g = genusI S A (full n)) (e0 : w' 63 52 = (m : Int) + 1)
    (e94 : ∀ i, w' 94 i = if i = m then (n : Int) else w 94 i) (e95 : ∀ i, w' 95 i = if i = m then ((cdk S n : Nat) : Int) else w 95 i) (e96 : ∀ i, w' 96 i = if i = m then ((cdk A n : Nat) : Int) else w 96 i) (e97 : ∀ i, w' 97 i = if i = m then g else w 97 i) : AlM w' (AL ++ [(n, S, A)]) := by
  refine ⟨by rw [e0, List.length_append]; simp; omega, fun i hi => ?_⟩
  rw [List.length_append] at hi
  have hi' : i < AL.length + 1 := hi
  rw [e94, e95, e96, e97, List.getD_eq_getElem?_getD]
  by_cases q : i = m
  · rw [if_pos q, if_pos q, if_pos q, if_pos q, List.getElem?_append_right (by omega), show i - AL.length = 0 by omega]
    exact ⟨rfl, rfl, rfl, hg⟩
  · rw [if_neg q, if_neg q, if_neg q, if_neg q, List.getElem?_append_left (by omega), ← List.getD_eq_getElem?_getD]
    exact h.2 i (by omega)
theorem up_if {w : Wd} {o : Nat} {m : Int} {k : Nat} {v : Int} (hm : m.toNat = k) (i : Nat) : up w o m.toNat v o i = if i = k then v else w o i := by
  rw [up_at, hm]
  by_cases q : i = k
  · rw [if_pos ⟨rfl, q⟩, if_pos q]
  · rw [if_neg (fun e => q e.2), if_neg q]
def PasM (w : Wd) (n : Nat) (s a : Nat → Nat) (AL : List PE) (z : Int) (w' : Wd) : Prop :=
  RMW w' n s a ∧ RTab w' n ∧ Hld w w' ∧ ((joinB s a n = false ∧ z = -2 ∧ AlM w' AL) ∨ (joinB s a n = true ∧
    ((∃ i, i < AL.length ∧ AL.getD i pe0 = (n, canS n s, canA n s a) ∧ z = (i : Nat) ∧ AlM w' AL) ∨
     ((∀ j, j < AL.length → AL.getD j pe0 ≠ (n, canS n s, canA n s a)) ∧ ((AL.length = 12 ∧ z = -3 ∧ AlM w' AL) ∨ (AL.length < 12 ∧ z = (AL.length : Nat) ∧ AlM w' (AL ++ [(n, canS n s, canA n s a)])))))))
def TakM (w : Wd) (n : Nat) (AL : List PE) (i z : Int) (w' : Wd) : Prop := (¬ (0 ≤ i ∧ i < (AL.length : Int)) ∧ w' = w ∧ z = -1) ∨
  ((0 ≤ i ∧ i < (AL.length : Int)) ∧ Tld w w' ∧ RMW w' (AL.getD i.toNat pe0).1 (AL.getD i.toNat pe0).2.1 (AL.getD i.toNat pe0).2.2 ∧ RTab w' (AL.getD i.toNat pe0).1 ∧ z = n)
set_option maxHeartbeats 4000000 in
set_option maxRecDepth 100000 in
theorem c_pieceM (l : Launch) (G : Gx) {i what : Int} (hi : rg i) (hwt : rg what) {AL : List PE} (hV : AlV AL) (w : Wd) (hA : AlM w AL) : SpP l G 1 mX11_piece [aR 63, aI (i), aI (what)] w ((if 0 ≤ i ∧ i < (AL.length : Int) then pieI (AL.getD i.toNat pe0) what else -1)) := by
  have a0 := hA.1
  have hl := hV.1
  refine Sp_of RX11 rfl (by decide +kernel) rfl (Nat.le_of_ble_eq_true rfl) ?_
  refine v_iload_n 1 (pc' := 1) rfl dX11_piece_0 rfl rfl ?_
  refine v_iconst (pc' := 2) rfl dX11_piece_1 ?_
  refine v_aload_n 0 (pc' := 3) rfl dX11_piece_2 rfl rfl ?_
  refine v_get (z := ((AL.length : Nat) : Int)) (pc' := 6) rfl dX11_piece_3 fk_RX11_404 ly_63 rfl (a0) ?_
  refine v_iconst (pc' := 7) rfl dX11_piece_6 ?_
  refine v_isub (pc' := 8) rfl dX11_piece_7 ?_
  refine v_cSP (pc' := 11) rfl dX11_piece_8 lk_RX11_121 rfl (c_in l G hi (by decide) (by omega) w) rfl rfl rfl ?_
  refine v_nm (fun in1 hin1 => ?_)
  refine v_if_eq (pc' := 14) (tgt := 23) rfl dX11_piece_11 (by decide) (in_r hin1) (fun c0 => ?_) (fun c0 => ?_)
  ·
    have hz : ¬ (0 ≤ i ∧ i < (AL.length : Int)) := fun q => in_0 hin1 (by omega) ⟨q.1, by omega⟩
    refine v_iconst (pc' := 24) rfl dX11_piece_23 ?_
    refine v_iret dX11_piece_24 (by decide) (rfl) ?_
    first
    | exact ⟨by rw [if_neg hz], rfl⟩
    | exact ⟨by rw [if_pos hz]; unfold pieI; rw [if_pos (by omega)], rfl⟩
    | exact ⟨by rw [if_pos hz]; unfold pieI; rw [if_neg (by omega), if_pos (by omega)], rfl⟩
    | exact ⟨by rw [if_pos hz]; unfold pieI; rw [if_neg (by omega), if_neg (by omega), if_pos (by omega)], rfl⟩
    | exact ⟨by rw [if_pos hz]; unfold pieI; rw [if_neg (by omega), if_neg (by omega), if_neg (by omega), if_pos (by omega)], rfl⟩
    | exact ⟨by rw [if_pos hz]; unfold pieI; rw [if_neg (by omega), if_neg (by omega), if_neg (by omega), if_neg (by omega)], rfl⟩
  ·
    have q1 := in_1 hin1 (by omega)
    refine v_iload_n 2 (pc' := 15) rfl dX11_piece_14 rfl rfl ?_
    refine v_iconst (pc' := 16) rfl dX11_piece_15 ?_
    refine v_iconst (pc' := 17) rfl dX11_piece_16 ?_
    refine v_cSP (pc' := 20) rfl dX11_piece_17 lk_RX11_121 rfl (c_in l G hwt (by decide) (by decide) w) rfl rfl rfl ?_
    refine v_nm (fun in2 hin2 => ?_)
    refine v_if_ne (pc' := 23) (tgt := 25) rfl dX11_piece_20 (by decide) (in_r hin2) (fun c1 => ?_) (fun c1 => ?_)
    ·
      have q2 := in_1 hin2 (by omega)
      have hz : 0 ≤ i ∧ i < (AL.length : Int) := ⟨by omega, by omega⟩
      refine v_iload_n 2 (pc' := 26) rfl dX11_piece_25 rfl rfl ?_
      refine v_if_ne (pc' := 29) (tgt := 38) rfl dX11_piece_26 (by decide) (by omega) (fun c2 => ?_) (fun c2 => ?_)
      ·
        refine v_iload_n 2 (pc' := 39) rfl dX11_piece_38 rfl rfl ?_
        refine v_iconst (pc' := 40) rfl dX11_piece_39 ?_
        refine v_icmp_ne (pc' := 43) (tgt := 52) rfl dX11_piece_40 (by decide) (by omega) (by omega) (fun c3 => ?_) (fun c3 => ?_)
        ·
          refine v_iload_n 2 (pc' := 53) rfl dX11_piece_52 rfl rfl ?_
          refine v_iconst (pc' := 54) rfl dX11_piece_53 ?_
          refine v_icmp_ne (pc' := 57) (tgt := 66) rfl dX11_piece_54 (by decide) (by omega) (by omega) (fun c4 => ?_) (fun c4 => ?_)
          ·
            refine v_aload_n 0 (pc' := 67) rfl dX11_piece_66 rfl rfl ?_
            refine v_getR (pc' := 70) rfl dX11_piece_67 fk_RX11_111 ly_63 rfl ?_
            refine v_iload_n 1 (pc' := 71) rfl dX11_piece_70 rfl rfl ?_
            refine v_iald (z := (genusI (AL.getD i.toNat pe0).2.1 (AL.getD i.toNat pe0).2.2 (full (AL.getD i.toNat pe0).1))) (pc' := 72) rfl dX11_piece_71 ly_97 (by omega) (by omega) rfl ((hA.2 i.toNat (by omega)).2.2.2) ?_
            refine v_iret dX11_piece_72 (by decide) (rfl) ?_
            first
            | exact ⟨by rw [if_neg hz], rfl⟩
            | exact ⟨by rw [if_pos hz]; unfold pieI; rw [if_pos (by omega)], rfl⟩
            | exact ⟨by rw [if_pos hz]; unfold pieI; rw [if_neg (by omega), if_pos (by omega)], rfl⟩
            | exact ⟨by rw [if_pos hz]; unfold pieI; rw [if_neg (by omega), if_neg (by omega), if_pos (by omega)], rfl⟩
            | exact ⟨by rw [if_pos hz]; unfold pieI; rw [if_neg (by omega), if_neg (by omega), if_neg (by omega), if_pos (by omega)], rfl⟩
            | exact ⟨by rw [if_pos hz]; unfold pieI; rw [if_neg (by omega), if_neg (by omega), if_neg (by omega), if_neg (by omega)], rfl⟩
          ·
            refine v_aload_n 0 (pc' := 58) rfl dX11_piece_57 rfl rfl ?_
            refine v_getR (pc' := 61) rfl dX11_piece_58 fk_RX11_108 ly_63 rfl ?_
            refine v_iload_n 1 (pc' := 62) rfl dX11_piece_61 rfl rfl ?_
            refine v_iald (z := ((cdk (AL.getD i.toNat pe0).2.2 (AL.getD i.toNat pe0).1 : Nat) : Int)) (pc' := 63) rfl dX11_piece_62 ly_96 (by omega) (by omega) rfl ((hA.2 i.toNat (by omega)).2.2.1) ?_
            refine v_goto (tgt := 72) dX11_piece_63 (by decide) ?_
            refine v_iret dX11_piece_72 (by decide) (rfl) ?_
            first
            | exact ⟨by rw [if_neg hz], rfl⟩
            | exact ⟨by rw [if_pos hz]; unfold pieI; rw [if_pos (by omega)], rfl⟩
            | exact ⟨by rw [if_pos hz]; unfold pieI; rw [if_neg (by omega), if_pos (by omega)], rfl⟩
            | exact ⟨by rw [if_pos hz]; unfold pieI; rw [if_neg (by omega), if_neg (by omega), if_pos (by omega)], rfl⟩
            | exact ⟨by rw [if_pos hz]; unfold pieI; rw [if_neg (by omega), if_neg (by omega), if_neg (by omega), if_pos (by omega)], rfl⟩
            | exact ⟨by rw [if_pos hz]; unfold pieI; rw [if_neg (by omega), if_neg (by omega), if_neg (by omega), if_neg (by omega)], rfl⟩
        ·
          refine v_aload_n 0 (pc' := 44) rfl dX11_piece_43 rfl rfl ?_
          refine v_getR (pc' := 47) rfl dX11_piece_44 fk_RX11_105 ly_63 rfl ?_
          refine v_iload_n 1 (pc' := 48) rfl dX11_piece_47 rfl rfl ?_
          refine v_iald (z := ((cdk (AL.getD i.toNat pe0).2.1 (AL.getD i.toNat pe0).1 : Nat) : Int)) (pc' := 49) rfl dX11_piece_48 ly_95 (by omega) (by omega) rfl ((hA.2 i.toNat (by omega)).2.1) ?_
          refine v_goto (tgt := 72) dX11_piece_49 (by decide) ?_
          refine v_iret dX11_piece_72 (by decide) (rfl) ?_
          first
          | exact ⟨by rw [if_neg hz], rfl⟩
          | exact ⟨by rw [if_pos hz]; unfold pieI; rw [if_pos (by omega)], rfl⟩
          | exact ⟨by rw [if_pos hz]; unfold pieI; rw [if_neg (by omega), if_pos (by omega)], rfl⟩
          | exact ⟨by rw [if_pos hz]; unfold pieI; rw [if_neg (by omega), if_neg (by omega), if_pos (by omega)], rfl⟩
          | exact ⟨by rw [if_pos hz]; unfold pieI; rw [if_neg (by omega), if_neg (by omega), if_neg (by omega), if_pos (by omega)], rfl⟩
          | exact ⟨by rw [if_pos hz]; unfold pieI; rw [if_neg (by omega), if_neg (by omega), if_neg (by omega), if_neg (by omega)], rfl⟩
      ·
        refine v_aload_n 0 (pc' := 30) rfl dX11_piece_29 rfl rfl ?_
        refine v_getR (pc' := 33) rfl dX11_piece_30 fk_RX11_102 ly_63 rfl ?_
        refine v_iload_n 1 (pc' := 34) rfl dX11_piece_33 rfl rfl ?_
        refine v_iald (z := (((AL.getD i.toNat pe0).1 : Nat) : Int)) (pc' := 35) rfl dX11_piece_34 ly_94 (by omega) (by omega) rfl ((hA.2 i.toNat (by omega)).1) ?_
        refine v_goto (tgt := 72) dX11_piece_35 (by decide) ?_
        refine v_iret dX11_piece_72 (by decide) (rfl) ?_
        first
        | exact ⟨by rw [if_neg hz], rfl⟩
        | exact ⟨by rw [if_pos hz]; unfold pieI; rw [if_pos (by omega)], rfl⟩
        | exact ⟨by rw [if_pos hz]; unfold pieI; rw [if_neg (by omega), if_pos (by omega)], rfl⟩
        | exact ⟨by rw [if_pos hz]; unfold pieI; rw [if_neg (by omega), if_neg (by omega), if_pos (by omega)], rfl⟩
        | exact ⟨by rw [if_pos hz]; unfold pieI; rw [if_neg (by omega), if_neg (by omega), if_neg (by omega), if_pos (by omega)], rfl⟩
        | exact ⟨by rw [if_pos hz]; unfold pieI; rw [if_neg (by omega), if_neg (by omega), if_neg (by omega), if_neg (by omega)], rfl⟩
    ·
      have hz : 0 ≤ i ∧ i < (AL.length : Int) := ⟨by omega, by omega⟩
      have hw4 := in_0 hin2 (by omega)
      refine v_iconst (pc' := 24) rfl dX11_piece_23 ?_
      refine v_iret dX11_piece_24 (by decide) (rfl) ?_
      first
      | exact ⟨by rw [if_neg hz], rfl⟩
      | exact ⟨by rw [if_pos hz]; unfold pieI; rw [if_pos (by omega)], rfl⟩
      | exact ⟨by rw [if_pos hz]; unfold pieI; rw [if_neg (by omega), if_pos (by omega)], rfl⟩
      | exact ⟨by rw [if_pos hz]; unfold pieI; rw [if_neg (by omega), if_neg (by omega), if_pos (by omega)], rfl⟩
      | exact ⟨by rw [if_pos hz]; unfold pieI; rw [if_neg (by omega), if_neg (by omega), if_neg (by omega), if_pos (by omega)], rfl⟩
      | exact ⟨by rw [if_pos hz]; unfold pieI; rw [if_neg (by omega), if_neg (by omega), if_neg (by omega), if_neg (by omega)], rfl⟩
set_option maxHeartbeats 4000000 in
set_option maxRecDepth 100000 in
theorem c_takeM (l : Launch) (G : Gx) {i : Int} (hi : rg i) {AL : List PE} (hAV : AlV AL) {n : Nat} {s a : Nat → Nat} (hV : MapV n s a) (w : Wd) (hM : RMW w n s a) (hR : RTab w n) (hA : AlM w AL) : Sp l G 5 mX11_take [aR 63, aI (i)] w (fun z w' => TakM w n AL i z w') := by
  obtain ⟨⟨hn1, hn7⟩, hs, ha⟩ := id hV
  obtain ⟨r0, r1, r2⟩ := id hM
  have a0 := hA.1
  have hl := hAV.1
  refine Sp_of RX11 rfl (by decide +kernel) rfl (Nat.le_of_ble_eq_true rfl) ?_
  refine v_iload_n 1 (pc' := 1) rfl dX11_take_0 rfl rfl ?_
  refine v_iconst (pc' := 2) rfl dX11_take_1 ?_
  refine v_aload_n 0 (pc' := 3) rfl dX11_take_2 rfl rfl ?_
  refine v_get (z := ((AL.length : Nat) : Int)) (pc' := 6) rfl dX11_take_3 fk_RX11_404 ly_63 rfl (a0) ?_
  refine v_iconst (pc' := 7) rfl dX11_take_6 ?_
  refine v_isub (pc' := 8) rfl dX11_take_7 ?_
  refine v_cSP (pc' := 11) rfl dX11_take_8 lk_RX11_121 rfl (c_in l G hi (by decide) (by omega) w) rfl rfl rfl ?_
  refine v_nm (fun in1 hin1 => ?_)
  refine v_if_ne (pc' := 14) (tgt := 16) rfl dX11_take_11 (by decide) (in_r hin1) (fun c0 => ?_) (fun c0 => ?_)
  ·
    have q1 := in_1 hin1 (by omega)
    have hq := hAV.2 _ (getD_mem (d := pe0) (show i.toNat < AL.length by omega))
    refine v_aload_n 0 (pc' := 17) rfl dX11_take_16 rfl rfl ?_
    refine v_get (z := (n : Int)) (pc' := 20) rfl dX11_take_17 fk_RX11_125 ly_63 rfl (r0) ?_
    refine v_nm (fun old' hold' => ?_)
    refine v_istore_n (ls' := [(2, _), (0, _), (1, _)]) (pc' := 21) rfl dX11_take_20 rfl rfl rfl ?_
    refine v_aload_n 1 (pc' := 22) rfl dX11_take_21 rfl rfl ?_
    refine v_aload_n 1 (pc' := 23) rfl dX11_take_22 rfl rfl ?_
    refine v_getR (pc' := 26) rfl dX11_take_23 fk_RX11_102 ly_63 rfl ?_
    refine v_iload_n 2 (pc' := 27) rfl dX11_take_26 rfl rfl ?_
    refine v_iald (z := (((AL.getD i.toNat pe0).1 : Nat) : Int)) (pc' := 28) rfl dX11_take_27 ly_94 (by omega) (by omega) rfl ((hA.2 i.toNat (by omega)).1) ?_
    refine v_cVv (pc' := 31) rfl dX11_take_28 lk_RX11_184 ly_63 rfl (c_becomes l G (m := (AL.getD i.toNat pe0).1) (n0 := n) rfl hq.1.1 hq.1.2 (by omega) w r0 (fun e => (show n = (AL.getD i.toNat pe0).1 by omega) ▸ hR)) rfl rfl rfl (fun becomes1 w2 hq2 => ?_)
    obtain ⟨b0, bT, bk, bf⟩ := hq2
    refine v_aload_n 1 (pc' := 32) rfl dX11_take_31 rfl rfl ?_
    refine v_aload_n 1 (pc' := 33) rfl dX11_take_32 rfl rfl ?_
    refine v_getR (pc' := 36) rfl dX11_take_33 fk_RX11_105 ly_63 rfl ?_
    refine v_iload_n 2 (pc' := 37) rfl dX11_take_36 rfl rfl ?_
    refine v_iald (z := ((cdk (AL.getD i.toNat pe0).2.1 (AL.getD i.toNat pe0).1 : Nat) : Int)) (pc' := 38) rfl dX11_take_37 ly_95 (by omega) (by omega) rfl (by rw [bf 95 _ rfl]; exact (hA.2 i.toNat (by omega)).2.1) ?_
    refine v_put (pc' := 41) rfl dX11_take_38 fi_RX11_149 ly_63 rfl ?_
    refine v_nmw (fun w3 hw3 => ?_)
    refine v_aload_n 1 (pc' := 42) rfl dX11_take_41 rfl rfl ?_
    refine v_aload_n 1 (pc' := 43) rfl dX11_take_42 rfl rfl ?_
    refine v_getR (pc' := 46) rfl dX11_take_43 fk_RX11_108 ly_63 rfl ?_
    refine v_iload_n 2 (pc' := 47) rfl dX11_take_46 rfl rfl ?_
    refine v_iald (z := ((cdk (AL.getD i.toNat pe0).2.2 (AL.getD i.toNat pe0).1 : Nat) : Int)) (pc' := 48) rfl dX11_take_47 ly_96 (by omega) (by omega) rfl (by rw [hw3, up_ne _ _ (by omega), bf 96 _ rfl]; exact (hA.2 i.toNat (by omega)).2.2.1) ?_
    refine v_put (pc' := 51) rfl dX11_take_48 fi_RX11_152 ly_63 rfl ?_
    refine v_nmw (fun w4 hw4 => ?_)
    refine v_iload_n 0 (pc' := 52) rfl dX11_take_51 rfl rfl ?_
    refine v_iret dX11_take_52 (by decide) (rfl) ?_
    first
    | exact Or.inl ⟨hz, rfl, rfl⟩
    | exact Or.inr ⟨⟨by omega, by omega⟩, by rw [hw4, hw3]; exact ((Tld.of bf (by decide) ⟨bk 16 (by decide) (by decide) (by decide), bk 52 (by decide) (by decide) (by decide), bk 53 (by decide) (by decide) (by decide)⟩).up (by decide)).up (by decide), ⟨by rw [hw4, up_ne _ _ (by omega), hw3, up_ne _ _ (by omega)]; exact b0, by rw [hw4, up_ne _ _ (by omega), hw3, up_eq], by rw [hw4, up_eq]⟩, bT.fr (by rw [hw4, hw3]; rfl) (by rw [hw4, hw3]; rfl) (fun o u1 u2 j => by rw [hw4, up_ne _ _ (by omega), hw3, up_ne _ _ (by omega)]), hold'⟩
  ·
    have hz : ¬ (0 ≤ i ∧ i < (AL.length : Int)) := fun q => in_0 hin1 (by omega) ⟨q.1, by omega⟩
    refine v_iconst (pc' := 15) rfl dX11_take_14 ?_
    refine v_iret dX11_take_15 (by decide) (rfl) ?_
    first
    | exact Or.inl ⟨hz, rfl, rfl⟩
    | exact Or.inr ⟨⟨by omega, by omega⟩, by rw [hw4, hw3]; exact ((Tld.of bf (by decide) ⟨bk 16 (by decide) (by decide) (by decide), bk 52 (by decide) (by decide) (by decide), bk 53 (by decide) (by decide) (by decide)⟩).up (by decide)).up (by decide), ⟨by rw [hw4, up_ne _ _ (by omega), hw3, up_ne _ _ (by omega)]; exact b0, by rw [hw4, up_ne _ _ (by omega), hw3, up_eq], by rw [hw4, up_eq]⟩, bT.fr (by rw [hw4, hw3]; rfl) (by rw [hw4, hw3]; rfl) (fun o u1 u2 j => by rw [hw4, up_ne _ _ (by omega), hw3, up_ne _ _ (by omega)]), hold'⟩
set_option maxHeartbeats 4000000 in
set_option maxRecDepth 100000 in
theorem c_pasteM (l : Launch) (G : Gx) (hgc : GCON) {AL : List PE} (hAV : AlV AL) {n : Nat} {s a : Nat → Nat} (hV : MapV n s a) (w : Wd) (hM : RMW w n s a) (hR : RTab w n) (hA : AlM w AL) : Sp l G 4 mX11_paste [aR 63] w (fun z w' => PasM w n s a AL z w') := by
  obtain ⟨⟨hn1, hn7⟩, hs, ha⟩ := id hV
  obtain ⟨r0, r1, r2⟩ := id hM
  have a0 := hA.1
  have hl := hAV.1
  have hcS := canS_pm hn1 hn7 hs
  have hcA := (canA_pm hn1 hn7 hs ha).1
  have hl1 := cd_le hcS hn7 (Nat.le_refl n)
  have hl2 := cd_le hcA hn7 (Nat.le_refl n)
  refine Sp_of RX11 rfl (by decide +kernel) rfl (Nat.le_of_ble_eq_true rfl) ?_
  refine v_aload_n 0 (pc' := 1) rfl dX11_paste_0 rfl rfl ?_
  refine v_cVi (pc' := 4) rfl dX11_paste_1 lk_RX11_311 ly_63 rfl (c_isOne l G hV w hM) rfl rfl rfl (fun isOne1 w1 hq1 => ?_)
  obtain ⟨f1, z1⟩ := hq1
  have hs1 := Scr.of f1 (by decide)
  have r0 : w1 63 0 = (n : Int) := (hs1 63 0 (by decide)).trans r0
  have r1 : w1 63 1 = ((cdk s n : Nat) : Int) := (hs1 63 1 (by decide)).trans r1
  have r2 : w1 63 2 = ((cdk a n : Nat) : Int) := (hs1 63 2 (by decide)).trans r2
  have a0 : w1 63 52 = ((AL.length : Nat) : Int) := (hs1 63 52 (by decide)).trans a0
  refine v_if_ne (pc' := 7) (tgt := 10) rfl dX11_paste_4 (by decide) (jn_r z1) (fun c0 => ?_) (fun c0 => ?_)
  ·
    have hjy := jn_1 z1 (by omega)
    refine v_aload_n 0 (pc' := 11) rfl dX11_paste_10 rfl rfl ?_
    refine v_aload_n 0 (pc' := 12) rfl dX11_paste_11 rfl rfl ?_
    refine v_get (z := ((cdk s n : Nat) : Int)) (pc' := 15) rfl dX11_paste_12 fk_RX11_149 ly_63 rfl (r1) ?_
    refine v_aload_n 0 (pc' := 16) rfl dX11_paste_15 rfl rfl ?_
    refine v_get (z := ((cdk a n : Nat) : Int)) (pc' := 19) rfl dX11_paste_16 fk_RX11_152 ly_63 rfl (r2) ?_
    refine v_cVv (pc' := 22) rfl dX11_paste_19 lk_RX11_258 ly_63 rfl (c_laysCanonK l G rfl rfl hs ha hn1 hn7 w1 r0 (hR.s hs1)) rfl rfl rfl (fun laysCanon1 w2 hq2 => ?_)
    obtain ⟨cs2, ca2, hm2⟩ := hq2
    have hs2 := hs1.tr hm2.scr
    have hA2 := hA.scr hs2
    have r0 : w2 63 0 = (n : Int) := (hm2.scr 63 0 (by decide)).trans r0
    have r1 : w2 63 1 = ((cdk s n : Nat) : Int) := (hm2.scr 63 1 (by decide)).trans r1
    have r2 : w2 63 2 = ((cdk a n : Nat) : Int) := (hm2.scr 63 2 (by decide)).trans r2
    have a0 : w2 63 52 = ((AL.length : Nat) : Int) := (hm2.scr 63 52 (by decide)).trans a0
    refine v_iconst (pc' := 23) rfl dX11_paste_22 ?_
    refine v_istore_n (ls' := [(1, _), (0, _)]) (pc' := 24) rfl dX11_paste_23 rfl rfl rfl ?_
    refine v_ls [1, 0] rfl ?_
    refine v_loop1 24 (fun (i : Int) => ∃ k : Nat, i = k ∧ k ≤ AL.length ∧ ∀ j, j < k → AL.getD j pe0 ≠ (n, (canS n s), (canA n s a))) (fun (i : Int) => (12 - i).toNat) (fun (i : Int) => [(0, aR 63), (1, aI (i))]) (fun (i : Int) => []) (fun (i : Int) => w2) (fun i hI0 ih0 => ?_) (0) (⟨0, rfl, Nat.zero_le _, fun j hj => absurd hj (Nat.not_lt_zero _)⟩)
    obtain ⟨k, hi, hk, hno⟩ := hI0
    refine v_iload_n 1 (pc' := 25) rfl dX11_paste_24 rfl rfl ?_
    refine v_aload_n 0 (pc' := 26) rfl dX11_paste_25 rfl rfl ?_
    refine v_get (z := ((AL.length : Nat) : Int)) (pc' := 29) rfl dX11_paste_26 fk_RX11_404 ly_63 rfl (a0) ?_
    refine v_icmp_ge (pc' := 32) (tgt := 79) rfl dX11_paste_29 (by decide) (by omega) (by omega) (fun c1 => ?_) (fun c1 => ?_)
    ·
      have hke : k = AL.length := by omega
      rw [hke] at hno
      refine v_aload_n 0 (pc' := 80) rfl dX11_paste_79 rfl rfl ?_
      refine v_get (z := ((AL.length : Nat) : Int)) (pc' := 83) rfl dX11_paste_80 fk_RX11_404 ly_63 rfl (a0) ?_
      refine v_bipush (pc' := 85) rfl dX11_paste_83 rfl ?_
      refine v_icmp_ne (pc' := 88) (tgt := 91) rfl dX11_paste_85 (by decide) (by omega) (by omega) (fun c5 => ?_) (fun c5 => ?_)
      ·
        refine v_aload_n 0 (pc' := 92) rfl dX11_paste_91 rfl rfl ?_
        refine v_getR (pc' := 95) rfl dX11_paste_92 fk_RX11_102 ly_63 rfl ?_
        refine v_aload_n 0 (pc' := 96) rfl dX11_paste_95 rfl rfl ?_
        refine v_get (z := ((AL.length : Nat) : Int)) (pc' := 99) rfl dX11_paste_96 fk_RX11_404 ly_63 rfl (a0) ?_
        refine v_aload_n 0 (pc' := 100) rfl dX11_paste_99 rfl rfl ?_
        refine v_get (z := (n : Int)) (pc' := 103) rfl dX11_paste_100 fk_RX11_125 ly_63 rfl (r0) ?_
        refine v_iast (pc' := 104) rfl dX11_paste_103 ly_94 (by omega) (by omega) rfl ?_
        refine v_nmw (fun w3 hw3 => ?_)
        have r0 : w3 63 0 = (n : Int) := by rw [hw3, up_ne _ _ (by omega)]; exact r0
        have r1 : w3 63 1 = ((cdk s n : Nat) : Int) := by rw [hw3, up_ne _ _ (by omega)]; exact r1
        have r2 : w3 63 2 = ((cdk a n : Nat) : Int) := by rw [hw3, up_ne _ _ (by omega)]; exact r2
        have a0 : w3 63 52 = ((AL.length : Nat) : Int) := by rw [hw3, up_ne _ _ (by omega)]; exact a0
        have cs2 : w3 63 24 = ((cdk (canS n s) n : Nat) : Int) := by rw [hw3, up_ne _ _ (by omega)]; exact cs2
        have ca2 : w3 63 25 = ((cdk (canA n s a) n : Nat) : Int) := by rw [hw3, up_ne _ _ (by omega)]; exact ca2
        refine v_aload_n 0 (pc' := 105) rfl dX11_paste_104 rfl rfl ?_
        refine v_getR (pc' := 108) rfl dX11_paste_105 fk_RX11_105 ly_63 rfl ?_
        refine v_aload_n 0 (pc' := 109) rfl dX11_paste_108 rfl rfl ?_
        refine v_get (z := ((AL.length : Nat) : Int)) (pc' := 112) rfl dX11_paste_109 fk_RX11_404 ly_63 rfl (a0) ?_
        refine v_aload_n 0 (pc' := 113) rfl dX11_paste_112 rfl rfl ?_
        refine v_get (z := ((cdk (canS n s) n : Nat) : Int)) (pc' := 116) rfl dX11_paste_113 fk_RX11_249 ly_63 rfl (cs2) ?_
        refine v_iast (pc' := 117) rfl dX11_paste_116 ly_95 (by omega) (by omega) rfl ?_
        refine v_nmw (fun w4 hw4 => ?_)
        have r0 : w4 63 0 = (n : Int) := by rw [hw4, up_ne _ _ (by omega)]; exact r0
        have r1 : w4 63 1 = ((cdk s n : Nat) : Int) := by rw [hw4, up_ne _ _ (by omega)]; exact r1
        have r2 : w4 63 2 = ((cdk a n : Nat) : Int) := by rw [hw4, up_ne _ _ (by omega)]; exact r2
        have a0 : w4 63 52 = ((AL.length : Nat) : Int) := by rw [hw4, up_ne _ _ (by omega)]; exact a0
        have cs2 : w4 63 24 = ((cdk (canS n s) n : Nat) : Int) := by rw [hw4, up_ne _ _ (by omega)]; exact cs2
        have ca2 : w4 63 25 = ((cdk (canA n s a) n : Nat) : Int) := by rw [hw4, up_ne _ _ (by omega)]; exact ca2
        refine v_aload_n 0 (pc' := 118) rfl dX11_paste_117 rfl rfl ?_
        refine v_getR (pc' := 121) rfl dX11_paste_118 fk_RX11_108 ly_63 rfl ?_
        refine v_aload_n 0 (pc' := 122) rfl dX11_paste_121 rfl rfl ?_
        refine v_get (z := ((AL.length : Nat) : Int)) (pc' := 125) rfl dX11_paste_122 fk_RX11_404 ly_63 rfl (a0) ?_
        refine v_aload_n 0 (pc' := 126) rfl dX11_paste_125 rfl rfl ?_
        refine v_get (z := ((cdk (canA n s a) n : Nat) : Int)) (pc' := 129) rfl dX11_paste_126 fk_RX11_255 ly_63 rfl (ca2) ?_
        refine v_iast (pc' := 130) rfl dX11_paste_129 ly_96 (by omega) (by omega) rfl ?_
        refine v_nmw (fun w5 hw5 => ?_)
        have r0 : w5 63 0 = (n : Int) := by rw [hw5, up_ne _ _ (by omega)]; exact r0
        have r1 : w5 63 1 = ((cdk s n : Nat) : Int) := by rw [hw5, up_ne _ _ (by omega)]; exact r1
        have r2 : w5 63 2 = ((cdk a n : Nat) : Int) := by rw [hw5, up_ne _ _ (by omega)]; exact r2
        have a0 : w5 63 52 = ((AL.length : Nat) : Int) := by rw [hw5, up_ne _ _ (by omega)]; exact a0
        have cs2 : w5 63 24 = ((cdk (canS n s) n : Nat) : Int) := by rw [hw5, up_ne _ _ (by omega)]; exact cs2
        have ca2 : w5 63 25 = ((cdk (canA n s a) n : Nat) : Int) := by rw [hw5, up_ne _ _ (by omega)]; exact ca2
        refine v_aload_n 0 (pc' := 131) rfl dX11_paste_130 rfl rfl ?_
        refine v_getR (pc' := 134) rfl dX11_paste_131 fk_RX11_111 ly_63 rfl ?_
        refine v_aload_n 0 (pc' := 135) rfl dX11_paste_134 rfl rfl ?_
        refine v_get (z := ((AL.length : Nat) : Int)) (pc' := 138) rfl dX11_paste_135 fk_RX11_404 ly_63 rfl (a0) ?_
        refine v_aload_n 0 (pc' := 139) rfl dX11_paste_138 rfl rfl ?_
        refine v_aload_n 0 (pc' := 140) rfl dX11_paste_139 rfl rfl ?_
        refine v_get (z := ((cdk s n : Nat) : Int)) (pc' := 143) rfl dX11_paste_140 fk_RX11_149 ly_63 rfl (r1) ?_
        refine v_aload_n 0 (pc' := 144) rfl dX11_paste_143 rfl rfl ?_
        refine v_get (z := ((cdk a n : Nat) : Int)) (pc' := 147) rfl dX11_paste_144 fk_RX11_152 ly_63 rfl (r2) ?_
        refine v_cVi (pc' := 150) rfl dX11_paste_147 lk_RX11_389 ly_63 rfl (c_genusOf l G rfl rfl hs ha hn1 hn7 w5 r0) rfl rfl rfl (fun genusOf1 w6 hq6 => ?_)
        obtain ⟨f6, z6⟩ := hq6
        have r0 : w6 63 0 = (n : Int) := (f6 63 0 (by decide)).trans r0
        have r1 : w6 63 1 = ((cdk s n : Nat) : Int) := (f6 63 1 (by decide)).trans r1
        have r2 : w6 63 2 = ((cdk a n : Nat) : Int) := (f6 63 2 (by decide)).trans r2
        have a0 : w6 63 52 = ((AL.length : Nat) : Int) := (f6 63 52 (by decide)).trans a0
        have cs2 : w6 63 24 = ((cdk (canS n s) n : Nat) : Int) := (f6 63 24 (by decide)).trans cs2
        have ca2 : w6 63 25 = ((cdk (canA n s a) n : Nat) : Int) := (f6 63 25 (by decide)).trans ca2
        refine v_iast (pc' := 151) rfl dX11_paste_150 ly_97 (by omega) (by omega) rfl ?_
        refine v_nmw (fun w7 hw7 => ?_)
        have r0 : w7 63 0 = (n : Int) := by rw [hw7, up_ne _ _ (by omega)]; exact r0
        have r1 : w7 63 1 = ((cdk s n : Nat) : Int) := by rw [hw7, up_ne _ _ (by omega)]; exact r1
        have r2 : w7 63 2 = ((cdk a n : Nat) : Int) := by rw [hw7, up_ne _ _ (by omega)]; exact r2
        have a0 : w7 63 52 = ((AL.length : Nat) : Int) := by rw [hw7, up_ne _ _ (by omega)]; exact a0
        have cs2 : w7 63 24 = ((cdk (canS n s) n : Nat) : Int) := by rw [hw7, up_ne _ _ (by omega)]; exact cs2
        have ca2 : w7 63 25 = ((cdk (canA n s a) n : Nat) : Int) := by rw [hw7, up_ne _ _ (by omega)]; exact ca2
        refine v_aload_n 0 (pc' := 152) rfl dX11_paste_151 rfl rfl ?_
        refine v_aload_n 0 (pc' := 153) rfl dX11_paste_152 rfl rfl ?_
        refine v_get (z := ((AL.length : Nat) : Int)) (pc' := 156) rfl dX11_paste_153 fk_RX11_404 ly_63 rfl (a0) ?_
        refine v_iconst (pc' := 157) rfl dX11_paste_156 ?_
        refine v_iadd (pc' := 158) rfl dX11_paste_157 ?_
        have hP : ∀ o j, (o = 63 → j ≠ 52) → o ≠ 69 ∧ o ≠ 70 → o < 94 ∨ 97 < o → True ∨ o = o → ∀ v, (up w7 63 52 v) o j = w2 o j := fun o j a b c _ v => by
          rw [up_ne _ _ (fun e => a e.1 e.2), hw7, up_ne _ _ (by omega), f6 o j (by have : o ≠ 69 := b.1; have : o ≠ 70 := b.2; simp; omega), hw5, up_ne _ _ (by omega), hw4, up_ne _ _ (by omega), hw3, up_ne _ _ (by omega)]
        refine v_put (pc' := 161) rfl dX11_paste_158 fi_RX11_404 ly_63 rfl ?_
        refine v_nmw (fun w8 hw8 => ?_)
        have r0 : w8 63 0 = (n : Int) := by rw [hw8, up_ne _ _ (by omega)]; exact r0
        have r1 : w8 63 1 = ((cdk s n : Nat) : Int) := by rw [hw8, up_ne _ _ (by omega)]; exact r1
        have r2 : w8 63 2 = ((cdk a n : Nat) : Int) := by rw [hw8, up_ne _ _ (by omega)]; exact r2
        have cs2 : w8 63 24 = ((cdk (canS n s) n : Nat) : Int) := by rw [hw8, up_ne _ _ (by omega)]; exact cs2
        have ca2 : w8 63 25 = ((cdk (canA n s a) n : Nat) : Int) := by rw [hw8, up_ne _ _ (by omega)]; exact ca2
        refine v_aload_n 0 (pc' := 162) rfl dX11_paste_161 rfl rfl ?_
        refine v_get (pc' := 165) rfl dX11_paste_162 fk_RX11_404 ly_63 rfl rfl ?_
        refine v_iconst (pc' := 166) rfl dX11_paste_165 ?_
        refine v_isub (pc' := 167) rfl dX11_paste_166 ?_
        refine v_iret dX11_paste_167 (by decide) (rfl) ?_
        exact ⟨⟨r0, by rw [hw8, up_ne _ _ (by omega), hw7, up_ne _ _ (by omega), f6 63 1 rfl, hw5, up_ne _ _ (by omega), hw4, up_ne _ _ (by omega), hw3, up_ne _ _ (by omega)]; exact (hM.s hs2).2.1, by rw [hw8, up_ne _ _ (by omega), hw7, up_ne _ _ (by omega), f6 63 2 rfl, hw5, up_ne _ _ (by omega), hw4, up_ne _ _ (by omega), hw3, up_ne _ _ (by omega)]; exact (hM.s hs2).2.2⟩,
          (hR.s hs2).fr (by rw [hw8]; exact hP 63 3 (by omega) (by omega) (by omega) (Or.inl trivial) _) (by rw [hw8]; exact hP 63 4 (by omega) (by omega) (by omega) (Or.inl trivial) _) (fun o u1 u2 j => by rw [hw8]; exact hP o j (by omega) (by omega) (by omega) (Or.inl trivial) _),
          ⟨(show w8 63 16 = w2 63 16 by rw [hw8]; exact hP 63 16 (by omega) (by omega) (by omega) (Or.inl trivial) _).trans hs2.hld.1, (show w8 63 53 = w2 63 53 by rw [hw8]; exact hP 63 53 (by omega) (by omega) (by omega) (Or.inl trivial) _).trans hs2.hld.2.1, fun j => (show w8 74 j = w2 74 j by rw [hw8]; exact hP 74 j (by omega) (by omega) (by omega) (Or.inl trivial) _).trans (hs2.hld.2.2.1 j), fun j => (show w8 98 j = w2 98 j by rw [hw8]; exact hP 98 j (by omega) (by omega) (by omega) (Or.inl trivial) _).trans (hs2.hld.2.2.2.1 j), fun o ho j => (show w8 o j = w2 o j by rw [hw8]; exact hP o j (by omega) (by omega) (by omega) (Or.inl trivial) _).trans (hs2.hld.2.2.2.2 o ho j)⟩,
          Or.inr ⟨hjy, Or.inr ⟨hno, Or.inr ⟨by omega, by rw [hw8, up_eq]; omega, hA2.push (m := AL.length) rfl (hgc n s a hn1 hn7 hs ha).symm (by rw [hw8, up_eq]) (fun i => by rw [hw8, up_ne _ _ (by omega), hw7, up_ne _ _ (by omega), f6 94 i rfl, hw5, up_ne _ _ (by omega), hw4, up_ne _ _ (by omega), hw3]; exact up_if (k := AL.length) rfl i) (fun i => by rw [hw8, up_ne _ _ (by omega), hw7, up_ne _ _ (by omega), f6 95 i rfl, hw5, up_ne _ _ (by omega), hw4, hw3, up_if (k := AL.length) rfl i, up_ne _ _ (by omega)]) (fun i => by rw [hw8, up_ne _ _ (by omega), hw7, up_ne _ _ (by omega), f6 96 i rfl, hw5, hw4, hw3, up_if (k := AL.length) rfl i, up_ne _ _ (by omega), up_ne _ _ (by omega)]) (fun i => by rw [hw8, up_ne _ _ (by omega), hw7, up_if (k := AL.length) rfl i, f6 97 i rfl, hw5, up_ne _ _ (by omega), hw4, up_ne _ _ (by omega), hw3, up_ne _ _ (by omega), z6])⟩⟩⟩⟩
      ·
        refine v_bipush (pc' := 90) rfl dX11_paste_88 rfl ?_
        refine v_iret dX11_paste_90 (by decide) (rfl) ?_
        exact ⟨hM.s hs2, hR.s hs2, hs2.hld, Or.inr ⟨hjy, Or.inr ⟨hno, Or.inl ⟨by omega, rfl, hA2⟩⟩⟩⟩
    ·
      have hkl : k < AL.length := by omega
      have hq := hAV.at hkl
      have hqn := hq.1
      have hq3 := cd_le hq.2.1 hq.1.2 (Nat.le_refl _)
      have hq4 := cd_le hq.2.2 hq.1.2 (Nat.le_refl _)
      refine v_aload_n 0 (pc' := 33) rfl dX11_paste_32 rfl rfl ?_
      refine v_getR (pc' := 36) rfl dX11_paste_33 fk_RX11_102 ly_63 rfl ?_
      refine v_iload_n 1 (pc' := 37) rfl dX11_paste_36 rfl rfl ?_
      refine v_iald (z := (((AL.getD k pe0).1 : Nat) : Int)) (pc' := 38) rfl dX11_paste_37 ly_94 (by omega) (by omega) rfl (by rw [show i.toNat = k by omega]; exact (hA2.2 k hkl).1) ?_
      refine v_aload_n 0 (pc' := 39) rfl dX11_paste_38 rfl rfl ?_
      refine v_get (z := (n : Int)) (pc' := 42) rfl dX11_paste_39 fk_RX11_125 ly_63 rfl (r0) ?_
      refine v_icmp_ne (pc' := 45) (tgt := 73) rfl dX11_paste_42 (by decide) (by omega) (by omega) (fun c2 => ?_) (fun c2 => ?_)
      ·
        have hnk : AL.getD k pe0 ≠ (n, (canS n s), (canA n s a)) := fun q => c2 (by rw [q])
        refine v_iinc (ls' := [(1, _), (0, _)]) 1 (pc' := 76) rfl dX11_paste_73 rfl rfl rfl ?_
        refine v_nl (fun i' hi' => ?_)
        refine v_goto (tgt := 24) dX11_paste_76 (by decide) ?_
        refine v_ls [1, 0] rfl ?_
        exact ih0 (i') (⟨k + 1, by omega, by omega, fun j hj => by
            by_cases q : j = k
            · rw [q]; exact hnk
            · exact hno j (by omega)⟩) (by omega)
      ·
        have hen : (AL.getD k pe0).1 = n := by omega
        refine v_aload_n 0 (pc' := 46) rfl dX11_paste_45 rfl rfl ?_
        refine v_getR (pc' := 49) rfl dX11_paste_46 fk_RX11_105 ly_63 rfl ?_
        refine v_iload_n 1 (pc' := 50) rfl dX11_paste_49 rfl rfl ?_
        refine v_iald (z := ((cdk (AL.getD k pe0).2.1 (AL.getD k pe0).1 : Nat) : Int)) (pc' := 51) rfl dX11_paste_50 ly_95 (by omega) (by omega) rfl (by rw [show i.toNat = k by omega]; exact (hA2.2 k hkl).2.1) ?_
        refine v_aload_n 0 (pc' := 52) rfl dX11_paste_51 rfl rfl ?_
        refine v_get (z := ((cdk (canS n s) n : Nat) : Int)) (pc' := 55) rfl dX11_paste_52 fk_RX11_249 ly_63 rfl (cs2) ?_
        refine v_icmp_ne (pc' := 58) (tgt := 73) rfl dX11_paste_55 (by decide) (by omega) (by omega) (fun c3 => ?_) (fun c3 => ?_)
        ·
          have hnk : AL.getD k pe0 ≠ (n, (canS n s), (canA n s a)) := fun q => c3 (by rw [q])
          refine v_iinc (ls' := [(1, _), (0, _)]) 1 (pc' := 76) rfl dX11_paste_73 rfl rfl rfl ?_
          refine v_nl (fun i' hi' => ?_)
          refine v_goto (tgt := 24) dX11_paste_76 (by decide) ?_
          refine v_ls [1, 0] rfl ?_
          exact ih0 (i') (⟨k + 1, by omega, by omega, fun j hj => by
              by_cases q : j = k
              · rw [q]; exact hnk
              · exact hno j (by omega)⟩) (by omega)
        ·
          have heS : (AL.getD k pe0).2.1 = (canS n s) := (cd_inj (by have h := hq.2.1; rw [hen] at h; exact h) hcS hn7).mp (by rw [hen] at c3; omega)
          refine v_aload_n 0 (pc' := 59) rfl dX11_paste_58 rfl rfl ?_
          refine v_getR (pc' := 62) rfl dX11_paste_59 fk_RX11_108 ly_63 rfl ?_
          refine v_iload_n 1 (pc' := 63) rfl dX11_paste_62 rfl rfl ?_
          refine v_iald (z := ((cdk (AL.getD k pe0).2.2 (AL.getD k pe0).1 : Nat) : Int)) (pc' := 64) rfl dX11_paste_63 ly_96 (by omega) (by omega) rfl (by rw [show i.toNat = k by omega]; exact (hA2.2 k hkl).2.2.1) ?_
          refine v_aload_n 0 (pc' := 65) rfl dX11_paste_64 rfl rfl ?_
          refine v_get (z := ((cdk (canA n s a) n : Nat) : Int)) (pc' := 68) rfl dX11_paste_65 fk_RX11_255 ly_63 rfl (ca2) ?_
          refine v_icmp_ne (pc' := 71) (tgt := 73) rfl dX11_paste_68 (by decide) (by omega) (by omega) (fun c4 => ?_) (fun c4 => ?_)
          ·
            have hnk : AL.getD k pe0 ≠ (n, (canS n s), (canA n s a)) := fun q => c4 (by rw [q])
            refine v_iinc (ls' := [(1, _), (0, _)]) 1 (pc' := 76) rfl dX11_paste_73 rfl rfl rfl ?_
            refine v_nl (fun i' hi' => ?_)
            refine v_goto (tgt := 24) dX11_paste_76 (by decide) ?_
            refine v_ls [1, 0] rfl ?_
            exact ih0 (i') (⟨k + 1, by omega, by omega, fun j hj => by
                by_cases q : j = k
                · rw [q]; exact hnk
                · exact hno j (by omega)⟩) (by omega)
          ·
            have heA : (AL.getD k pe0).2.2 = (canA n s a) := (cd_inj (by have h := hq.2.2; rw [hen] at h; exact h) hcA hn7).mp (by rw [hen] at c4; omega)
            have hek : AL.getD k pe0 = (n, (canS n s), (canA n s a)) := Prod.ext hen (Prod.ext heS heA)
            refine v_iload_n 1 (pc' := 72) rfl dX11_paste_71 rfl rfl ?_
            refine v_iret dX11_paste_72 (by decide) (rfl) ?_
            exact ⟨hM.s hs2, hR.s hs2, hs2.hld, Or.inr ⟨hjy, Or.inl ⟨k, hkl, hek, hi, hA2⟩⟩⟩
  ·
    have hjn := jn_0 z1 (by omega)
    refine v_bipush (pc' := 9) rfl dX11_paste_7 rfl ?_
    refine v_iret dX11_paste_9 (by decide) (rfl) ?_
    exact ⟨hM.s hs1, hR.s hs1, hs1.hld, Or.inl ⟨hjn, rfl, hA.scr hs1⟩⟩

/-! ===== the reference: undo, set ===== -/
def UndM (w : Wd) (K m : Nat) (z : Int) (w' : Wd) : Prop := z = (K : Int) ∧ w' 63 53 = (K : Int) ∧ w' 63 0 = (m : Nat) ∧ RTab w' m ∧ w' 63 1 = w 98 (52 * K + 1) ∧ w' 63 2 = w 98 (52 * K + 2) ∧ w' 63 52 = w 98 (52 * K + 3) ∧ UQ w w' K 12 ∧ w' 63 16 = w 63 16 ∧ (∀ j, w' 74 j = w 74 j) ∧ (∀ j, w' 98 j = w 98 j) ∧ ∀ o, o < 63 → ∀ j, w' o j = w o j
set_option maxHeartbeats 4000000 in
set_option maxRecDepth 100000 in
theorem c_undoM (l : Launch) (G : Gx) {K m n : Nat} (hK8 : K < 8) (hm1 : 1 ≤ m) (hm7 : m ≤ 7) (hn7 : n ≤ 7) (w : Wd) (hS : w 63 53 = ((K + 1 : Nat) : Int)) (h00 : w 63 0 = (n : Nat)) (hR : RTab w n) (hB : w 98 (52 * K) = (m : Nat)) : Sp l G 5 mX11_undo [aR 63] w (fun z w' => UndM w K m z w') := by
  have s0 := hS
  refine Sp_of RX11 rfl (by decide +kernel) rfl (Nat.le_of_ble_eq_true rfl) ?_
  refine v_aload_n 0 (pc' := 1) rfl dX11_undo_0 rfl rfl ?_
  refine v_get (z := ((K + 1 : Nat) : Int)) (pc' := 4) rfl dX11_undo_1 fk_RX11_407 ly_63 rfl (s0) ?_
  refine v_if_ne (pc' := 7) (tgt := 9) rfl dX11_undo_4 (by decide) (by omega) (fun c0 => ?_) (fun c0 => absurd c0 (by omega))
  refine v_aload_n 0 (pc' := 10) rfl dX11_undo_9 rfl rfl ?_
  refine v_aload_n 0 (pc' := 11) rfl dX11_undo_10 rfl rfl ?_
  refine v_get (z := ((K + 1 : Nat) : Int)) (pc' := 14) rfl dX11_undo_11 fk_RX11_407 ly_63 rfl (s0) ?_
  refine v_iconst (pc' := 15) rfl dX11_undo_14 ?_
  refine v_isub (pc' := 16) rfl dX11_undo_15 ?_
  refine v_put (pc' := 19) rfl dX11_undo_16 fi_RX11_407 ly_63 rfl ?_
  refine v_nmw (fun w1 hw1 => ?_)
  have hst1 : w1 63 53 = (K : Int) := by rw [hw1, up_eq]; omega
  refine v_bipush (pc' := 21) rfl dX11_undo_19 rfl ?_
  refine v_aload_n 0 (pc' := 22) rfl dX11_undo_21 rfl rfl ?_
  refine v_get (pc' := 25) rfl dX11_undo_22 fk_RX11_407 ly_63 rfl rfl ?_
  refine v_imul (pc' := 26) rfl dX11_undo_25 ?_
  refine v_nm (fun base' hbase' => ?_)
  refine v_istore_n (ls' := [(1, _), (0, _)]) (pc' := 27) rfl dX11_undo_26 rfl rfl rfl ?_
  refine v_aload_n 1 (pc' := 28) rfl dX11_undo_27 rfl rfl ?_
  refine v_aload_n 1 (pc' := 29) rfl dX11_undo_28 rfl rfl ?_
  refine v_getR (pc' := 32) rfl dX11_undo_29 fk_RX11_114 ly_63 rfl ?_
  refine v_iload_n 0 (pc' := 33) rfl dX11_undo_32 rfl rfl ?_
  refine v_iald (z := (m : Int)) (pc' := 34) rfl dX11_undo_33 ly_98 (by omega) (by omega) rfl (by rw [show base'.toNat = 52 * K by omega, hw1, up_ne _ _ (by omega)]; exact hB) ?_
  refine v_cVv (pc' := 37) rfl dX11_undo_34 lk_RX11_184 ly_63 rfl (c_becomes l G (m := m) (n0 := n) rfl hm1 hm7 (by omega) w1 (by rw [hw1, up_ne _ _ (by omega)]; exact h00) (fun e => by have e2 : n = m := (by omega); rw [← e2]; exact hR.fr (by rw [hw1]; rfl) (by rw [hw1]; rfl) (fun o u1 u2 j => by rw [hw1, up_ne _ _ (by omega)]))) rfl rfl rfl (fun becomes1 w2 hq2 => ?_)
  obtain ⟨b0, bT, bk, bf⟩ := hq2
  have s1 : w2 63 53 = (K : Int) := by rw [bk 53 (by decide) (by decide) (by decide), hw1, up_eq]; omega
  have e98 : ∀ j, w2 98 j = w 98 j := fun j => by rw [bf 98 j rfl, hw1, up_ne _ _ (by omega)]
  refine v_aload_n 1 (pc' := 38) rfl dX11_undo_37 rfl rfl ?_
  refine v_aload_n 1 (pc' := 39) rfl dX11_undo_38 rfl rfl ?_
  refine v_getR (pc' := 42) rfl dX11_undo_39 fk_RX11_114 ly_63 rfl ?_
  refine v_iload_n 0 (pc' := 43) rfl dX11_undo_42 rfl rfl ?_
  refine v_iconst (pc' := 44) rfl dX11_undo_43 ?_
  refine v_iadd (pc' := 45) rfl dX11_undo_44 ?_
  refine v_iald (z := (w 98 (52 * K + 1))) (pc' := 46) rfl dX11_undo_45 ly_98 (by omega) (by omega) rfl (by rw [show (base' + 1).toNat = 52 * K + 1 by omega]; exact e98 _) ?_
  refine v_put (pc' := 49) rfl dX11_undo_46 fi_RX11_149 ly_63 rfl ?_
  refine v_nmw (fun w3 hw3 => ?_)
  refine v_aload_n 1 (pc' := 50) rfl dX11_undo_49 rfl rfl ?_
  refine v_aload_n 1 (pc' := 51) rfl dX11_undo_50 rfl rfl ?_
  refine v_getR (pc' := 54) rfl dX11_undo_51 fk_RX11_114 ly_63 rfl ?_
  refine v_iload_n 0 (pc' := 55) rfl dX11_undo_54 rfl rfl ?_
  refine v_iconst (pc' := 56) rfl dX11_undo_55 ?_
  refine v_iadd (pc' := 57) rfl dX11_undo_56 ?_
  refine v_iald (z := (w 98 (52 * K + 2))) (pc' := 58) rfl dX11_undo_57 ly_98 (by omega) (by omega) rfl (by rw [show (base' + 2).toNat = 52 * K + 2 by omega, hw3, up_ne _ _ (by omega)]; exact e98 _) ?_
  refine v_put (pc' := 61) rfl dX11_undo_58 fi_RX11_152 ly_63 rfl ?_
  refine v_nmw (fun w4 hw4 => ?_)
  refine v_aload_n 1 (pc' := 62) rfl dX11_undo_61 rfl rfl ?_
  refine v_aload_n 1 (pc' := 63) rfl dX11_undo_62 rfl rfl ?_
  refine v_getR (pc' := 66) rfl dX11_undo_63 fk_RX11_114 ly_63 rfl ?_
  refine v_iload_n 0 (pc' := 67) rfl dX11_undo_66 rfl rfl ?_
  refine v_iconst (pc' := 68) rfl dX11_undo_67 ?_
  refine v_iadd (pc' := 69) rfl dX11_undo_68 ?_
  refine v_iald (z := (w 98 (52 * K + 3))) (pc' := 70) rfl dX11_undo_69 ly_98 (by omega) (by omega) rfl (by rw [show (base' + 3).toNat = 52 * K + 3 by omega, hw4, up_ne _ _ (by omega), hw3, up_ne _ _ (by omega)]; exact e98 _) ?_
  refine v_put (pc' := 73) rfl dX11_undo_70 fi_RX11_404 ly_63 rfl ?_
  refine v_nmw (fun w5 hw5 => ?_)
  refine v_iconst (pc' := 74) rfl dX11_undo_73 ?_
  refine v_istore_n (ls' := [(2, _), (1, _), (0, _)]) (pc' := 75) rfl dX11_undo_74 rfl rfl rfl ?_
  refine v_ls [2, 1, 0] rfl ?_
  refine v_loop2 75 (fun (i : Int) (wl : Wd) => ∃ q : Nat, i = q ∧ q ≤ 12 ∧ UQ w wl K q ∧ Fr [94, 95, 96, 97] w5 wl) (fun (i : Int) (wl : Wd) => (12 - i).toNat) (fun (i : Int) (wl : Wd) => [(0, aR 63), (1, aI (base')), (2, aI (i))]) (fun (i : Int) (wl : Wd) => []) (fun (i : Int) (wl : Wd) => wl) (fun i wl hI0 ih0 => ?_) (0) w5 (⟨0, rfl, by omega, fun x hx => absurd hx (Nat.not_lt_zero _), Fr.rf _ _⟩)
  obtain ⟨q, hi, hq, hQ, hF⟩ := hI0
  have s5 : wl 63 53 = (K : Int) := by rw [hF 63 53 rfl, hw5, up_ne _ _ (by omega), hw4, up_ne _ _ (by omega), hw3, up_ne _ _ (by omega)]; exact s1
  have f98 : ∀ j, wl 98 j = w 98 j := fun j => by rw [hF 98 j rfl, hw5, up_ne _ _ (by omega), hw4, up_ne _ _ (by omega), hw3, up_ne _ _ (by omega)]; exact e98 j
  refine v_iload_n 2 (pc' := 76) rfl dX11_undo_75 rfl rfl ?_
  refine v_bipush (pc' := 78) rfl dX11_undo_76 rfl ?_
  refine v_icmp_ge (pc' := 81) (tgt := 161) rfl dX11_undo_78 (by decide) (by omega) (by omega) (fun c1 => ?_) (fun c1 => ?_)
  ·
    have hqe : q = 12 := by omega
    refine v_aload_n 0 (pc' := 162) rfl dX11_undo_161 rfl rfl ?_
    refine v_get (z := (K : Int)) (pc' := 165) rfl dX11_undo_162 fk_RX11_407 ly_63 rfl (s5) ?_
    refine v_iret dX11_undo_165 (by decide) (rfl) ?_
    exact ⟨rfl, s5, by rw [hF 63 0 rfl, hw5, up_ne _ _ (by omega), hw4, up_ne _ _ (by omega), hw3, up_ne _ _ (by omega)]; exact b0, (bT.fr (by rw [hw5, hw4, hw3]; rfl) (by rw [hw5, hw4, hw3]; rfl) (fun o u1 u2 j => by rw [hw5, up_ne _ _ (by omega), hw4, up_ne _ _ (by omega), hw3, up_ne _ _ (by omega)])).fr (hF 63 3 rfl) (hF 63 4 rfl) (fun o u1 u2 j => hF o j (by simp; omega)), by rw [hF 63 1 rfl, hw5, up_ne _ _ (by omega), hw4, up_ne _ _ (by omega), hw3, up_eq], by rw [hF 63 2 rfl, hw5, up_ne _ _ (by omega), hw4, up_eq], by rw [hF 63 52 rfl, hw5, up_eq], by rw [hqe] at hQ; exact hQ, by rw [hF 63 16 rfl, hw5, up_ne _ _ (by omega), hw4, up_ne _ _ (by omega), hw3, up_ne _ _ (by omega), bk 16 (by decide) (by decide) (by decide), hw1, up_ne _ _ (by omega)], fun j => by rw [hF 74 j rfl, hw5, up_ne _ _ (by omega), hw4, up_ne _ _ (by omega), hw3, up_ne _ _ (by omega), bf 74 j rfl, hw1, up_ne _ _ (by omega)], f98, fun o ho j => by rw [hF o j (by simp; omega), hw5, up_ne _ _ (by omega), hw4, up_ne _ _ (by omega), hw3, up_ne _ _ (by omega), bf o j (by simp; omega), hw1, up_ne _ _ (by omega)]⟩
  ·
    refine v_aload_n 0 (pc' := 82) rfl dX11_undo_81 rfl rfl ?_
    refine v_getR (pc' := 85) rfl dX11_undo_82 fk_RX11_102 ly_63 rfl ?_
    refine v_iload_n 2 (pc' := 86) rfl dX11_undo_85 rfl rfl ?_
    refine v_aload_n 0 (pc' := 87) rfl dX11_undo_86 rfl rfl ?_
    refine v_getR (pc' := 90) rfl dX11_undo_87 fk_RX11_114 ly_63 rfl ?_
    refine v_iload_n 1 (pc' := 91) rfl dX11_undo_90 rfl rfl ?_
    refine v_iconst (pc' := 92) rfl dX11_undo_91 ?_
    refine v_iadd (pc' := 93) rfl dX11_undo_92 ?_
    refine v_iconst (pc' := 94) rfl dX11_undo_93 ?_
    refine v_iload_n 2 (pc' := 95) rfl dX11_undo_94 rfl rfl ?_
    refine v_imul (pc' := 96) rfl dX11_undo_95 ?_
    refine v_iadd (pc' := 97) rfl dX11_undo_96 ?_
    refine v_iald (z := (w 98 (52 * K + 4 + 4 * q))) (pc' := 98) rfl dX11_undo_97 ly_98 (by omega) (by omega) rfl (by rw [show (base' + 4 + 4 * i).toNat = 52 * K + 4 + 4 * q by omega]; exact f98 _) ?_
    refine v_iast (pc' := 99) rfl dX11_undo_98 ly_94 (by omega) (by omega) rfl ?_
    refine v_nmw (fun w6 hw6 => ?_)
    have s5 : w6 63 53 = (K : Int) := by rw [hw6, up_ne _ _ (by omega)]; exact s5
    refine v_aload_n 0 (pc' := 100) rfl dX11_undo_99 rfl rfl ?_
    refine v_getR (pc' := 103) rfl dX11_undo_100 fk_RX11_105 ly_63 rfl ?_
    refine v_iload_n 2 (pc' := 104) rfl dX11_undo_103 rfl rfl ?_
    refine v_aload_n 0 (pc' := 105) rfl dX11_undo_104 rfl rfl ?_
    refine v_getR (pc' := 108) rfl dX11_undo_105 fk_RX11_114 ly_63 rfl ?_
    refine v_iload_n 1 (pc' := 109) rfl dX11_undo_108 rfl rfl ?_
    refine v_iconst (pc' := 110) rfl dX11_undo_109 ?_
    refine v_iadd (pc' := 111) rfl dX11_undo_110 ?_
    refine v_iconst (pc' := 112) rfl dX11_undo_111 ?_
    refine v_iload_n 2 (pc' := 113) rfl dX11_undo_112 rfl rfl ?_
    refine v_imul (pc' := 114) rfl dX11_undo_113 ?_
    refine v_iadd (pc' := 115) rfl dX11_undo_114 ?_
    refine v_iald (z := (w 98 (52 * K + 5 + 4 * q))) (pc' := 116) rfl dX11_undo_115 ly_98 (by omega) (by omega) rfl (by rw [show (base' + 5 + 4 * i).toNat = 52 * K + 5 + 4 * q by omega, hw6, up_ne _ _ (by omega)]; exact f98 _) ?_
    refine v_iast (pc' := 117) rfl dX11_undo_116 ly_95 (by omega) (by omega) rfl ?_
    refine v_nmw (fun w7 hw7 => ?_)
    have s5 : w7 63 53 = (K : Int) := by rw [hw7, up_ne _ _ (by omega)]; exact s5
    refine v_aload_n 0 (pc' := 118) rfl dX11_undo_117 rfl rfl ?_
    refine v_getR (pc' := 121) rfl dX11_undo_118 fk_RX11_108 ly_63 rfl ?_
    refine v_iload_n 2 (pc' := 122) rfl dX11_undo_121 rfl rfl ?_
    refine v_aload_n 0 (pc' := 123) rfl dX11_undo_122 rfl rfl ?_
    refine v_getR (pc' := 126) rfl dX11_undo_123 fk_RX11_114 ly_63 rfl ?_
    refine v_iload_n 1 (pc' := 127) rfl dX11_undo_126 rfl rfl ?_
    refine v_bipush (pc' := 129) rfl dX11_undo_127 rfl ?_
    refine v_iadd (pc' := 130) rfl dX11_undo_129 ?_
    refine v_iconst (pc' := 131) rfl dX11_undo_130 ?_
    refine v_iload_n 2 (pc' := 132) rfl dX11_undo_131 rfl rfl ?_
    refine v_imul (pc' := 133) rfl dX11_undo_132 ?_
    refine v_iadd (pc' := 134) rfl dX11_undo_133 ?_
    refine v_iald (z := (w 98 (52 * K + 6 + 4 * q))) (pc' := 135) rfl dX11_undo_134 ly_98 (by omega) (by omega) rfl (by rw [show (base' + 6 + 4 * i).toNat = 52 * K + 6 + 4 * q by omega, hw7, up_ne _ _ (by omega), hw6, up_ne _ _ (by omega)]; exact f98 _) ?_
    refine v_iast (pc' := 136) rfl dX11_undo_135 ly_96 (by omega) (by omega) rfl ?_
    refine v_nmw (fun w8 hw8 => ?_)
    have s5 : w8 63 53 = (K : Int) := by rw [hw8, up_ne _ _ (by omega)]; exact s5
    refine v_aload_n 0 (pc' := 137) rfl dX11_undo_136 rfl rfl ?_
    refine v_getR (pc' := 140) rfl dX11_undo_137 fk_RX11_111 ly_63 rfl ?_
    refine v_iload_n 2 (pc' := 141) rfl dX11_undo_140 rfl rfl ?_
    refine v_aload_n 0 (pc' := 142) rfl dX11_undo_141 rfl rfl ?_
    refine v_getR (pc' := 145) rfl dX11_undo_142 fk_RX11_114 ly_63 rfl ?_
    refine v_iload_n 1 (pc' := 146) rfl dX11_undo_145 rfl rfl ?_
    refine v_bipush (pc' := 148) rfl dX11_undo_146 rfl ?_
    refine v_iadd (pc' := 149) rfl dX11_undo_148 ?_
    refine v_iconst (pc' := 150) rfl dX11_undo_149 ?_
    refine v_iload_n 2 (pc' := 151) rfl dX11_undo_150 rfl rfl ?_
    refine v_imul (pc' := 152) rfl dX11_undo_151 ?_
    refine v_iadd (pc' := 153) rfl dX11_undo_152 ?_
    refine v_iald (z := (w 98 (52 * K + 7 + 4 * q))) (pc' := 154) rfl dX11_undo_153 ly_98 (by omega) (by omega) rfl (by rw [show (base' + 7 + 4 * i).toNat = 52 * K + 7 + 4 * q by omega, hw8, up_ne _ _ (by omega), hw7, up_ne _ _ (by omega), hw6, up_ne _ _ (by omega)]; exact f98 _) ?_
    refine v_iast (pc' := 155) rfl dX11_undo_154 ly_97 (by omega) (by omega) rfl ?_
    refine v_nmw (fun w9 hw9 => ?_)
    have s5 : w9 63 53 = (K : Int) := by rw [hw9, up_ne _ _ (by omega)]; exact s5
    refine v_iinc (ls' := [(2, _), (0, _), (1, _)]) 2 (pc' := 158) rfl dX11_undo_155 rfl rfl rfl ?_
    refine v_nl (fun i' hi' => ?_)
    refine v_goto (tgt := 75) dX11_undo_158 (by decide) ?_
    refine v_ls [1, 2, 0] rfl ?_
    exact ih0 (i') w9 (⟨q + 1, by omega, by omega, fun x hx => by
        rw [hw9, up_ne _ _ (by omega), up_ne _ _ (by omega), up_ne _ _ (by omega), up_at, hw8, up_ne _ _ (by omega), up_ne _ _ (by omega), up_at, up_ne _ _ (by omega), hw7, up_ne _ _ (by omega), up_at, up_ne _ _ (by omega), up_ne _ _ (by omega), hw6, up_at, up_ne _ _ (by omega), up_ne _ _ (by omega), up_ne _ _ (by omega), show i.toNat = q by omega]
        by_cases e : x = q
        · rw [if_pos ⟨rfl, e⟩, if_pos ⟨rfl, e⟩, if_pos ⟨rfl, e⟩, if_pos ⟨rfl, e⟩, e]; exact ⟨rfl, rfl, rfl, rfl⟩
        · rw [if_neg (fun r => e r.2), if_neg (fun r => e r.2), if_neg (fun r => e r.2), if_neg (fun r => e r.2)]; exact hQ x (by omega), by rw [hw9, hw8, hw7, hw6]; exact (((hF.up rfl).up rfl).up rfl).up rfl⟩) (by omega)
set_option maxHeartbeats 4000000 in
set_option maxRecDepth 100000 in
theorem c_undoM0 (l : Launch) (G : Gx) (w : Wd) (hS : w 63 53 = 0) : Sp l G 0 mX11_undo [aR 63] w (fun z w' => z = -1 ∧ w' = w) := by
  refine Sp_of RX11 rfl (by decide +kernel) rfl (Nat.le_of_ble_eq_true rfl) ?_
  refine v_aload_n 0 (pc' := 1) rfl dX11_undo_0 rfl rfl ?_
  refine v_get (z := 0) (pc' := 4) rfl dX11_undo_1 fk_RX11_407 ly_63 rfl (hS) ?_
  refine v_if_ne (pc' := 7) (tgt := 9) rfl dX11_undo_4 (by decide) (by decide) (fun c0 => absurd c0 (by decide)) (fun c0 => ?_)
  refine v_iconst (pc' := 8) rfl dX11_undo_7 ?_
  refine v_iret dX11_undo_8 (by decide) (rfl) ?_
  exact ⟨rfl, rfl⟩
def SetM (w : Wd) (n : Nat) (s a : Nat → Nat) (wh p z : Int) (w' : Wd) : Prop :=
  ((¬ (wh = 0 ∨ wh = 1) ∨ ∀ f, Pm n f → (cdk f n : Int) ≠ p) ∧ w' = w ∧ z = -1) ∨
  ((wh = 0 ∨ wh = 1) ∧ ∃ f, Pm n f ∧ (cdk f n : Int) = p ∧ (∃ w1, Fr [69, 70] w w1 ∧ w' = up w1 63 (if wh = 0 then 1 else 2) (cdk f n : Nat)) ∧ z = (cdk (trF s a wh) n : Nat))
set_option maxHeartbeats 4000000 in
set_option maxRecDepth 100000 in
theorem c_setM (l : Launch) (G : Gx) {wh p : Int} (hwh : rg wh) (hp : rg p) {n : Nat} {s a : Nat → Nat} (hV : MapV n s a) (w : Wd) (hM : RMW w n s a) : Sp l G 4 mX11_set [aR 63, aI (wh), aI (p)] w (fun z w' => SetM w n s a wh p z w') := by
  obtain ⟨⟨hn1, hn7⟩, hs, ha⟩ := id hV
  obtain ⟨r0, r1, r2⟩ := id hM
  refine Sp_of RX11 rfl (by decide +kernel) rfl (Nat.le_of_ble_eq_true rfl) ?_
  refine v_iload_n 1 (pc' := 1) rfl dX11_set_0 rfl rfl ?_
  refine v_iconst (pc' := 2) rfl dX11_set_1 ?_
  refine v_iconst (pc' := 3) rfl dX11_set_2 ?_
  refine v_cSP (pc' := 6) rfl dX11_set_3 lk_RX11_121 rfl (c_in l G hwh (by decide) (by decide) w) rfl rfl rfl ?_
  refine v_nm (fun in1 hin1 => ?_)
  refine v_if_eq (pc' := 9) (tgt := 17) rfl dX11_set_6 (by decide) (in_r hin1) (fun c0 => ?_) (fun c0 => ?_)
  ·
    have hz : ¬ (wh = 0 ∨ wh = 1) := fun q => in_0 hin1 (by omega) (by omega)
    refine v_iconst (pc' := 18) rfl dX11_set_17 ?_
    refine v_iret dX11_set_18 (by decide) (rfl) ?_
    first | exact Or.inl ⟨Or.inl hz, rfl, rfl⟩ | exact Or.inl ⟨Or.inr h0, rfl, rfl⟩ | exact Or.inr ⟨by omega, f, hf, hfp, ⟨w3, f3, by rw [h4, ← hfp]⟩, z3⟩
  ·
    have q1 := in_1 hin1 (by omega)
    refine v_aload_n 0 (pc' := 10) rfl dX11_set_9 rfl rfl ?_
    refine v_iload_n 2 (pc' := 11) rfl dX11_set_10 rfl rfl ?_
    refine v_cVR (pc' := 14) rfl dX11_set_11 lk_RX11_197 ly_63 rfl (c_isCode l G hp hn1 hn7 w r0) rfl rfl rfl (fun isCode1 hisCode1 => ?_)
    refine v_if_ne (pc' := 17) (tgt := 19) rfl dX11_set_14 (by decide) (IsP_r hisCode1) (fun c1 => ?_) (fun c1 => ?_)
    ·
      obtain ⟨f, hf, hfp⟩ := IsP_1 hisCode1 (by omega)
      refine v_aload_n 0 (pc' := 20) rfl dX11_set_19 rfl rfl ?_
      refine v_iload_n 1 (pc' := 21) rfl dX11_set_20 rfl rfl ?_
      refine v_cVi (pc' := 24) rfl dX11_set_21 lk_RX11_200 ly_63 rfl (c_codeOf l G hwh hV w hM) rfl rfl rfl (fun codeOf1 w3 hq3 => ?_)
      obtain ⟨f3, z3⟩ := hq3
      have r0 : w3 63 0 = (n : Int) := (f3 63 0 (by decide)).trans r0
      have r1 : w3 63 1 = ((cdk s n : Nat) : Int) := (f3 63 1 (by decide)).trans r1
      have r2 : w3 63 2 = ((cdk a n : Nat) : Int) := (f3 63 2 (by decide)).trans r2
      refine v_istore_n (ls' := [(3, _), (0, _), (1, _), (2, _)]) (pc' := 25) rfl dX11_set_24 rfl rfl rfl ?_
      refine v_aload_n 1 (pc' := 26) rfl dX11_set_25 rfl rfl ?_
      refine v_iload_n 2 (pc' := 27) rfl dX11_set_26 rfl rfl ?_
      refine v_iload_n 3 (pc' := 28) rfl dX11_set_27 rfl rfl ?_
      refine v_cVv (pc' := 31) rfl dX11_set_28 lk_RX11_203 ly_63 rfl (c_puts l G hwh w3) rfl rfl rfl (fun puts1 w4 hq4 => ?_)
      have h4 := hq4
      refine v_iload_n 0 (pc' := 32) rfl dX11_set_31 rfl rfl ?_
      refine v_iret dX11_set_32 (by decide) (rfl) ?_
      first | exact Or.inl ⟨Or.inl hz, rfl, rfl⟩ | exact Or.inl ⟨Or.inr h0, rfl, rfl⟩ | exact Or.inr ⟨by omega, f, hf, hfp, ⟨w3, f3, by rw [h4, ← hfp]⟩, z3⟩
    ·
      have h0 := IsP_0 hisCode1 (by omega)
      refine v_iconst (pc' := 18) rfl dX11_set_17 ?_
      refine v_iret dX11_set_18 (by decide) (rfl) ?_
      first | exact Or.inl ⟨Or.inl hz, rfl, rfl⟩ | exact Or.inl ⟨Or.inr h0, rfl, rfl⟩ | exact Or.inr ⟨by omega, f, hf, hfp, ⟨w3, f3, by rw [h4, ← hfp]⟩, z3⟩

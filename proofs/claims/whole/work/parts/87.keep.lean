/-! ===== the reference: keep, undo, set ===== -/
theorem up4 {w : Wd} {o a b c d j : Nat} {va vb vc vd : Int} : (up (up (up (up w o a va) o b vb) o c vc) o d vd) o j = if j = d then vd else if j = c then vc else if j = b then vb else if j = a then va else w o j := by
  rw [up_at, up_at, up_at, up_at]; simp only [true_and]
def K4 (w w' : Wd) (k : Nat) : Prop := (∀ j, j < 52 * k → w' 98 j = w 98 j) ∧ w' 98 (52 * k) = w 63 0 ∧ w' 98 (52 * k + 1) = w 63 1 ∧ w' 98 (52 * k + 2) = w 63 2 ∧ w' 98 (52 * k + 3) = w 63 52
def KQ (w w' : Wd) (k q : Nat) : Prop := ∀ x, x < q → w' 98 (52 * k + 4 + 4 * x) = w 94 x ∧ w' 98 (52 * k + 5 + 4 * x) = w 95 x ∧ w' 98 (52 * k + 6 + 4 * x) = w 96 x ∧ w' 98 (52 * k + 7 + 4 * x) = w 97 x
def UQ (w w' : Wd) (k q : Nat) : Prop := ∀ x, x < q → w' 94 x = w 98 (52 * k + 4 + 4 * x) ∧ w' 95 x = w 98 (52 * k + 5 + 4 * x) ∧ w' 96 x = w 98 (52 * k + 6 + 4 * x) ∧ w' 97 x = w 98 (52 * k + 7 + 4 * x)
def KepM (w : Wd) (k : Nat) (z : Int) (w' : Wd) : Prop := (k = 8 ∧ z = -1 ∧ w' = w) ∨ (k < 8 ∧ z = (k : Int) + 1 ∧ w' 63 53 = (k : Int) + 1 ∧ (∀ q, q ≠ 53 → w' 63 q = w 63 q) ∧ K4 w w' k ∧ KQ w w' k 12 ∧ Fr [63, 98] w w')
set_option maxHeartbeats 4000000 in
set_option maxRecDepth 100000 in
theorem c_keepM (l : Launch) (G : Gx) {k : Nat} (hk8 : k ≤ 8) (w : Wd) (hS : w 63 53 = (k : Nat)) : Sp l G 0 mX11_keep [aR 63] w (fun z w' => KepM w k z w') := by
  have s0 := hS
  refine Sp_of RX11 rfl (by decide +kernel) rfl (Nat.le_of_ble_eq_true rfl) ?_
  refine v_aload_n 0 (pc' := 1) rfl dX11_keep_0 rfl rfl ?_
  refine v_get (z := ((k : Nat) : Int)) (pc' := 4) rfl dX11_keep_1 fk_RX11_407 ly_63 rfl (s0) ?_
  refine v_bipush (pc' := 6) rfl dX11_keep_4 rfl ?_
  refine v_icmp_ne (pc' := 9) (tgt := 11) rfl dX11_keep_6 (by decide) (by omega) (by omega) (fun c0 => ?_) (fun c0 => ?_)
  ·
    refine v_bipush (pc' := 13) rfl dX11_keep_11 rfl ?_
    refine v_aload_n 0 (pc' := 14) rfl dX11_keep_13 rfl rfl ?_
    refine v_get (z := ((k : Nat) : Int)) (pc' := 17) rfl dX11_keep_14 fk_RX11_407 ly_63 rfl (s0) ?_
    refine v_imul (pc' := 18) rfl dX11_keep_17 ?_
    refine v_nm (fun base' hbase' => ?_)
    refine v_istore_n (ls' := [(1, _), (0, _)]) (pc' := 19) rfl dX11_keep_18 rfl rfl rfl ?_
    refine v_aload_n 1 (pc' := 20) rfl dX11_keep_19 rfl rfl ?_
    refine v_getR (pc' := 23) rfl dX11_keep_20 fk_RX11_114 ly_63 rfl ?_
    refine v_iload_n 0 (pc' := 24) rfl dX11_keep_23 rfl rfl ?_
    refine v_aload_n 1 (pc' := 25) rfl dX11_keep_24 rfl rfl ?_
    refine v_get (pc' := 28) rfl dX11_keep_25 fk_RX11_125 ly_63 rfl rfl ?_
    refine v_iast (pc' := 29) rfl dX11_keep_28 ly_98 (by omega) (by omega) rfl ?_
    refine v_nmw (fun w1 hw1 => ?_)
    have s0 : w1 63 53 = ((k : Nat) : Int) := by rw [hw1, up_ne _ _ (by omega)]; exact s0
    refine v_aload_n 1 (pc' := 30) rfl dX11_keep_29 rfl rfl ?_
    refine v_getR (pc' := 33) rfl dX11_keep_30 fk_RX11_114 ly_63 rfl ?_
    refine v_iload_n 0 (pc' := 34) rfl dX11_keep_33 rfl rfl ?_
    refine v_iconst (pc' := 35) rfl dX11_keep_34 ?_
    refine v_iadd (pc' := 36) rfl dX11_keep_35 ?_
    refine v_aload_n 1 (pc' := 37) rfl dX11_keep_36 rfl rfl ?_
    refine v_get (pc' := 40) rfl dX11_keep_37 fk_RX11_149 ly_63 rfl rfl ?_
    refine v_iast (pc' := 41) rfl dX11_keep_40 ly_98 (by omega) (by omega) rfl ?_
    refine v_nmw (fun w2 hw2 => ?_)
    have s0 : w2 63 53 = ((k : Nat) : Int) := by rw [hw2, up_ne _ _ (by omega)]; exact s0
    refine v_aload_n 1 (pc' := 42) rfl dX11_keep_41 rfl rfl ?_
    refine v_getR (pc' := 45) rfl dX11_keep_42 fk_RX11_114 ly_63 rfl ?_
    refine v_iload_n 0 (pc' := 46) rfl dX11_keep_45 rfl rfl ?_
    refine v_iconst (pc' := 47) rfl dX11_keep_46 ?_
    refine v_iadd (pc' := 48) rfl dX11_keep_47 ?_
    refine v_aload_n 1 (pc' := 49) rfl dX11_keep_48 rfl rfl ?_
    refine v_get (pc' := 52) rfl dX11_keep_49 fk_RX11_152 ly_63 rfl rfl ?_
    refine v_iast (pc' := 53) rfl dX11_keep_52 ly_98 (by omega) (by omega) rfl ?_
    refine v_nmw (fun w3 hw3 => ?_)
    have s0 : w3 63 53 = ((k : Nat) : Int) := by rw [hw3, up_ne _ _ (by omega)]; exact s0
    refine v_aload_n 1 (pc' := 54) rfl dX11_keep_53 rfl rfl ?_
    refine v_getR (pc' := 57) rfl dX11_keep_54 fk_RX11_114 ly_63 rfl ?_
    refine v_iload_n 0 (pc' := 58) rfl dX11_keep_57 rfl rfl ?_
    refine v_iconst (pc' := 59) rfl dX11_keep_58 ?_
    refine v_iadd (pc' := 60) rfl dX11_keep_59 ?_
    refine v_aload_n 1 (pc' := 61) rfl dX11_keep_60 rfl rfl ?_
    refine v_get (pc' := 64) rfl dX11_keep_61 fk_RX11_404 ly_63 rfl rfl ?_
    refine v_iast (pc' := 65) rfl dX11_keep_64 ly_98 (by omega) (by omega) rfl ?_
    refine v_nmw (fun w4 hw4 => ?_)
    have s0 : w4 63 53 = ((k : Nat) : Int) := by rw [hw4, up_ne _ _ (by omega)]; exact s0
    have hR4 : ∀ j, w4 98 j = if j = (base' + 3).toNat then w 63 52 else if j = (base' + 2).toNat then w 63 2 else if j = (base' + 1).toNat then w 63 1 else if j = base'.toNat then w 63 0 else w 98 j := fun j => by
      rw [hw4, hw3, hw2, hw1, up4]; rw [up_ne _ _ (by omega), up_ne _ _ (by omega), up_ne _ _ (by omega), up_ne _ _ (by omega), up_ne _ _ (by omega), up_ne _ _ (by omega)]
    have hK4 : K4 w w4 k := ⟨fun j hj => by rw [hR4, if_neg (by omega), if_neg (by omega), if_neg (by omega), if_neg (by omega)], by rw [hR4, if_neg (by omega), if_neg (by omega), if_neg (by omega), if_pos (by omega)], by rw [hR4, if_neg (by omega), if_neg (by omega), if_pos (by omega)], by rw [hR4, if_neg (by omega), if_pos (by omega)], by rw [hR4, if_pos (by omega)]⟩
    have hF4 : Fr [98] w w4 := by rw [hw4, hw3, hw2, hw1]; exact ((((Fr.rf _ _).up rfl).up rfl).up rfl).up rfl
    refine v_iconst (pc' := 66) rfl dX11_keep_65 ?_
    refine v_istore_n (ls' := [(2, _), (1, _), (0, _)]) (pc' := 67) rfl dX11_keep_66 rfl rfl rfl ?_
    refine v_ls [2, 1, 0] rfl ?_
    refine v_loop2 67 (fun (i : Int) (wl : Wd) => ∃ q : Nat, i = q ∧ q ≤ 12 ∧ K4 w wl k ∧ KQ w wl k q ∧ Fr [98] w wl) (fun (i : Int) (wl : Wd) => (12 - i).toNat) (fun (i : Int) (wl : Wd) => [(0, aR 63), (1, aI (base')), (2, aI (i))]) (fun (i : Int) (wl : Wd) => []) (fun (i : Int) (wl : Wd) => wl) (fun i wl hI0 ih0 => ?_) (0) w4 (⟨0, rfl, by omega, hK4, fun x hx => absurd hx (Nat.not_lt_zero _), hF4⟩)
    obtain ⟨q, hi, hq, hK, hQ, hF⟩ := hI0
    have s0 := (hF 63 53 rfl).trans hS
    refine v_iload_n 2 (pc' := 68) rfl dX11_keep_67 rfl rfl ?_
    refine v_bipush (pc' := 70) rfl dX11_keep_68 rfl ?_
    refine v_icmp_ge (pc' := 73) (tgt := 153) rfl dX11_keep_70 (by decide) (by omega) (by omega) (fun c1 => ?_) (fun c1 => ?_)
    ·
      have hqe : q = 12 := by omega
      refine v_aload_n 0 (pc' := 154) rfl dX11_keep_153 rfl rfl ?_
      refine v_aload_n 0 (pc' := 155) rfl dX11_keep_154 rfl rfl ?_
      refine v_get (z := ((k : Nat) : Int)) (pc' := 158) rfl dX11_keep_155 fk_RX11_407 ly_63 rfl (s0) ?_
      refine v_iconst (pc' := 159) rfl dX11_keep_158 ?_
      refine v_iadd (pc' := 160) rfl dX11_keep_159 ?_
      refine v_put (pc' := 163) rfl dX11_keep_160 fi_RX11_407 ly_63 rfl ?_
      refine v_nmw (fun w9 hw9 => ?_)
      refine v_aload_n 0 (pc' := 164) rfl dX11_keep_163 rfl rfl ?_
      refine v_get (pc' := 167) rfl dX11_keep_164 fk_RX11_407 ly_63 rfl rfl ?_
      refine v_iret dX11_keep_167 (by decide) (rfl) ?_
      exact Or.inr ⟨by omega, by rw [hw9, up_eq], by rw [hw9, up_eq], fun q hq => by rw [hw9, up_ne _ _ (by omega)]; exact hF 63 q rfl, ⟨fun j hj => by rw [hw9, up_ne _ _ (by omega)]; exact hK.1 j hj, by rw [hw9, up_ne _ _ (by omega)]; exact hK.2.1, by rw [hw9, up_ne _ _ (by omega)]; exact hK.2.2.1, by rw [hw9, up_ne _ _ (by omega)]; exact hK.2.2.2.1, by rw [hw9, up_ne _ _ (by omega)]; exact hK.2.2.2.2⟩, fun x hx => by rw [hw9, up_ne _ _ (by omega), up_ne _ _ (by omega), up_ne _ _ (by omega), up_ne _ _ (by omega)]; exact hQ x (by omega), by rw [hw9]; exact (hF.mono rfl).up rfl⟩
    ·
      refine v_aload_n 0 (pc' := 74) rfl dX11_keep_73 rfl rfl ?_
      refine v_getR (pc' := 77) rfl dX11_keep_74 fk_RX11_114 ly_63 rfl ?_
      refine v_iload_n 1 (pc' := 78) rfl dX11_keep_77 rfl rfl ?_
      refine v_iconst (pc' := 79) rfl dX11_keep_78 ?_
      refine v_iadd (pc' := 80) rfl dX11_keep_79 ?_
      refine v_iconst (pc' := 81) rfl dX11_keep_80 ?_
      refine v_iload_n 2 (pc' := 82) rfl dX11_keep_81 rfl rfl ?_
      refine v_imul (pc' := 83) rfl dX11_keep_82 ?_
      refine v_iadd (pc' := 84) rfl dX11_keep_83 ?_
      refine v_aload_n 0 (pc' := 85) rfl dX11_keep_84 rfl rfl ?_
      refine v_getR (pc' := 88) rfl dX11_keep_85 fk_RX11_102 ly_63 rfl ?_
      refine v_iload_n 2 (pc' := 89) rfl dX11_keep_88 rfl rfl ?_
      refine v_iald (pc' := 90) rfl dX11_keep_89 ly_94 (by omega) (by omega) rfl (rfl) ?_
      refine v_iast (pc' := 91) rfl dX11_keep_90 ly_98 (by omega) (by omega) rfl ?_
      refine v_nmw (fun w5 hw5 => ?_)
      have s0 : w5 63 53 = ((k : Nat) : Int) := by rw [hw5, up_ne _ _ (by omega)]; exact s0
      refine v_aload_n 0 (pc' := 92) rfl dX11_keep_91 rfl rfl ?_
      refine v_getR (pc' := 95) rfl dX11_keep_92 fk_RX11_114 ly_63 rfl ?_
      refine v_iload_n 1 (pc' := 96) rfl dX11_keep_95 rfl rfl ?_
      refine v_iconst (pc' := 97) rfl dX11_keep_96 ?_
      refine v_iadd (pc' := 98) rfl dX11_keep_97 ?_
      refine v_iconst (pc' := 99) rfl dX11_keep_98 ?_
      refine v_iload_n 2 (pc' := 100) rfl dX11_keep_99 rfl rfl ?_
      refine v_imul (pc' := 101) rfl dX11_keep_100 ?_
      refine v_iadd (pc' := 102) rfl dX11_keep_101 ?_
      refine v_aload_n 0 (pc' := 103) rfl dX11_keep_102 rfl rfl ?_
      refine v_getR (pc' := 106) rfl dX11_keep_103 fk_RX11_105 ly_63 rfl ?_
      refine v_iload_n 2 (pc' := 107) rfl dX11_keep_106 rfl rfl ?_
      refine v_iald (pc' := 108) rfl dX11_keep_107 ly_95 (by omega) (by omega) rfl (rfl) ?_
      refine v_iast (pc' := 109) rfl dX11_keep_108 ly_98 (by omega) (by omega) rfl ?_
      refine v_nmw (fun w6 hw6 => ?_)
      have s0 : w6 63 53 = ((k : Nat) : Int) := by rw [hw6, up_ne _ _ (by omega)]; exact s0
      refine v_aload_n 0 (pc' := 110) rfl dX11_keep_109 rfl rfl ?_
      refine v_getR (pc' := 113) rfl dX11_keep_110 fk_RX11_114 ly_63 rfl ?_
      refine v_iload_n 1 (pc' := 114) rfl dX11_keep_113 rfl rfl ?_
      refine v_bipush (pc' := 116) rfl dX11_keep_114 rfl ?_
      refine v_iadd (pc' := 117) rfl dX11_keep_116 ?_
      refine v_iconst (pc' := 118) rfl dX11_keep_117 ?_
      refine v_iload_n 2 (pc' := 119) rfl dX11_keep_118 rfl rfl ?_
      refine v_imul (pc' := 120) rfl dX11_keep_119 ?_
      refine v_iadd (pc' := 121) rfl dX11_keep_120 ?_
      refine v_aload_n 0 (pc' := 122) rfl dX11_keep_121 rfl rfl ?_
      refine v_getR (pc' := 125) rfl dX11_keep_122 fk_RX11_108 ly_63 rfl ?_
      refine v_iload_n 2 (pc' := 126) rfl dX11_keep_125 rfl rfl ?_
      refine v_iald (pc' := 127) rfl dX11_keep_126 ly_96 (by omega) (by omega) rfl (rfl) ?_
      refine v_iast (pc' := 128) rfl dX11_keep_127 ly_98 (by omega) (by omega) rfl ?_
      refine v_nmw (fun w7 hw7 => ?_)
      have s0 : w7 63 53 = ((k : Nat) : Int) := by rw [hw7, up_ne _ _ (by omega)]; exact s0
      refine v_aload_n 0 (pc' := 129) rfl dX11_keep_128 rfl rfl ?_
      refine v_getR (pc' := 132) rfl dX11_keep_129 fk_RX11_114 ly_63 rfl ?_
      refine v_iload_n 1 (pc' := 133) rfl dX11_keep_132 rfl rfl ?_
      refine v_bipush (pc' := 135) rfl dX11_keep_133 rfl ?_
      refine v_iadd (pc' := 136) rfl dX11_keep_135 ?_
      refine v_iconst (pc' := 137) rfl dX11_keep_136 ?_
      refine v_iload_n 2 (pc' := 138) rfl dX11_keep_137 rfl rfl ?_
      refine v_imul (pc' := 139) rfl dX11_keep_138 ?_
      refine v_iadd (pc' := 140) rfl dX11_keep_139 ?_
      refine v_aload_n 0 (pc' := 141) rfl dX11_keep_140 rfl rfl ?_
      refine v_getR (pc' := 144) rfl dX11_keep_141 fk_RX11_111 ly_63 rfl ?_
      refine v_iload_n 2 (pc' := 145) rfl dX11_keep_144 rfl rfl ?_
      refine v_iald (pc' := 146) rfl dX11_keep_145 ly_97 (by omega) (by omega) rfl (rfl) ?_
      refine v_iast (pc' := 147) rfl dX11_keep_146 ly_98 (by omega) (by omega) rfl ?_
      refine v_nmw (fun w8 hw8 => ?_)
      have s0 : w8 63 53 = ((k : Nat) : Int) := by rw [hw8, up_ne _ _ (by omega)]; exact s0
      have hR : ∀ j, w8 98 j = if j = (base' + 7 + 4 * i).toNat then w 97 q else if j = (base' + 6 + 4 * i).toNat then w 96 q else if j = (base' + 5 + 4 * i).toNat then w 95 q else if j = (base' + 4 + 4 * i).toNat then w 94 q else wl 98 j := fun j => by
        rw [hw8, hw7, hw6, hw5, up4, show i.toNat = q by omega]; rw [up_ne _ _ (by omega), up_ne _ _ (by omega), up_ne _ _ (by omega), up_ne _ _ (by omega), up_ne _ _ (by omega), up_ne _ _ (by omega), hF 94 q rfl, hF 95 q rfl, hF 96 q rfl, hF 97 q rfl]
      refine v_iinc (ls' := [(2, _), (0, _), (1, _)]) 2 (pc' := 150) rfl dX11_keep_147 rfl rfl rfl ?_
      refine v_nl (fun i' hi' => ?_)
      refine v_goto (tgt := 67) dX11_keep_150 (by decide) ?_
      refine v_ls [1, 2, 0] rfl ?_
      exact ih0 (i') w8 (⟨q + 1, by omega, by omega, ⟨fun j hj => by rw [hR]; rw [if_neg (by omega), if_neg (by omega), if_neg (by omega), if_neg (by omega)]; exact hK.1 j hj, by rw [hR, if_neg (by omega), if_neg (by omega), if_neg (by omega), if_neg (by omega)]; exact hK.2.1, by rw [hR, if_neg (by omega), if_neg (by omega), if_neg (by omega), if_neg (by omega)]; exact hK.2.2.1, by rw [hR, if_neg (by omega), if_neg (by omega), if_neg (by omega), if_neg (by omega)]; exact hK.2.2.2.1, by rw [hR, if_neg (by omega), if_neg (by omega), if_neg (by omega), if_neg (by omega)]; exact hK.2.2.2.2⟩, fun x hx => by
          rw [hR, hR, hR, hR]
          by_cases e : x = q
          · rw [e]
            rw [if_neg (by omega), if_neg (by omega), if_neg (by omega), if_pos (by omega), if_neg (by omega), if_neg (by omega), if_pos (by omega), if_neg (by omega), if_pos (by omega), if_pos (by omega)]
            exact ⟨rfl, rfl, rfl, rfl⟩
          · rw [if_neg (by omega), if_neg (by omega), if_neg (by omega), if_neg (by omega), if_neg (by omega), if_neg (by omega), if_neg (by omega), if_neg (by omega), if_neg (by omega), if_neg (by omega), if_neg (by omega), if_neg (by omega), if_neg (by omega), if_neg (by omega), if_neg (by omega), if_neg (by omega)]
            exact hQ x (by omega), by rw [hw8, hw7, hw6, hw5]; exact (((hF.up rfl).up rfl).up rfl).up rfl⟩) (by omega)
  ·
    refine v_iconst (pc' := 10) rfl dX11_keep_9 ?_
    refine v_iret dX11_keep_10 (by decide) (rfl) ?_
    exact Or.inl ⟨by omega, rfl, rfl⟩

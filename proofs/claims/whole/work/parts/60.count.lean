/-! ===== DrawnMaps: count, paste, keep, undo ===== -/
noncomputable def cntV (n : Nat) (s a : Nat → Nat) (al : Nat) (b st what : Int) : Int :=
  if what = 0 then (n : Int) else if what = 1 then (partsN s a n : Int) else if what = 2 then (if joinB s a n then genusI s a (full n) else -2) else if what = 3 then (setC n s a : Int)
  else if what = 4 then (chnN n s a : Int) else if what = 5 then (if joinB s a n then ((sysL n s a).length : Int) else 0) else if what = 6 then (if joinB s a n then (if (sysL n s a).length = 0 then 1 else 0) else 0)
  else if what = 7 then (symM n s a 4 : Int) else if what = 9 then (al : Int) else if what = 10 then b else if what = 11 then st else -1
def CntP (n : Nat) (s a : Nat → Nat) (al : Nat) (b st what z : Int) : Prop := (what ≠ 8 ∧ z = cntV n s a al b st what) ∨ (what = 8 ∧ joinB s a n = false ∧ z = -2) ∨ (what = 8 ∧ joinB s a n = true ∧ SibP n s a z)
set_option maxHeartbeats 4000000 in
set_option maxRecDepth 100000 in
theorem c_count (l : Launch) (G : Gx) {what b st : Int} {al : Nat} (hwt : rg what) (h64 : OP64) {n : Nat} {s a : Nat → Nat} (hV : MapV n s a) (w : Wd) (hM : MapW w n s a) (hI : CInv w) (hB : w 0 1 = b) (hS : w 0 5 = st) (hA : w 2 3 = (al : Nat)) : Sp l G 12 mX10_count [aR 0, aI (what)] w (fun z w' => Fr [7, 8, 9, 10, 11, 12, 13, 17, 18, 19, 20, 21, 24, 25, 26] w w' ∧ CInv w' ∧ CntP n s a al b st what z) := by
  obtain ⟨⟨hn1, hn7⟩, hs, ha⟩ := id hV
  obtain ⟨m0, m1, m2⟩ := id hM
  refine Sp_of RX10 rfl (by decide +kernel) rfl (Nat.le_of_ble_eq_true rfl) ?_
  refine v_iload_n 1 (pc' := 1) rfl dX10_count_0 rfl rfl ?_
  rcases (show what = 0 ∨ what = 1 ∨ what = 2 ∨ what = 3 ∨ what = 4 ∨ what = 5 ∨ what = 6 ∨ what = 7 ∨ what = 8 ∨ what = 9 ∨ what = 10 ∨ what = 11 ∨ (what < 0 ∨ 11 < what) by omega) with sw0 | sw0 | sw0 | sw0 | sw0 | sw0 | sw0 | sw0 | sw0 | sw0 | sw0 | sw0 | sw0
  ·
    refine v_tin (tgt := 64) 0 dX10_count_1 sw0 (by decide) (by decide) (by decide) rfl (by decide) ?_
    have hz : cntV n s a al b st what = (n : Int) := by unfold cntV; rw [if_pos sw0]
    refine v_aload_n 0 (pc' := 65) rfl dX10_count_64 rfl rfl ?_
    refine v_getR (pc' := 68) rfl dX10_count_65 fk_RX10_16 ly_0 rfl ?_
    refine v_get (z := (n : Int)) (pc' := 71) rfl dX10_count_68 fk_RX10_81 ly_2 rfl (m0) ?_
    refine v_iret dX10_count_71 (by decide) (rfl) ?_
    exact ⟨Fr.rf _ _, hI, Or.inl ⟨by omega, hz.symm⟩⟩
  ·
    refine v_tin (tgt := 72) 1 dX10_count_1 sw0 (by decide) (by decide) (by decide) rfl (by decide) ?_
    have hz : cntV n s a al b st what = (partsN s a n : Int) := by unfold cntV; rw [if_neg (by omega), if_pos sw0]
    refine v_aload_n 0 (pc' := 73) rfl dX10_count_72 rfl rfl ?_
    refine v_getR (pc' := 76) rfl dX10_count_73 fk_RX10_16 ly_0 rfl ?_
    refine v_get (z := ((hx s : Nat) : Int)) (pc' := 79) rfl dX10_count_76 fk_RX10_87 ly_2 rfl (m1) ?_
    refine v_aload_n 0 (pc' := 80) rfl dX10_count_79 rfl rfl ?_
    refine v_getR (pc' := 83) rfl dX10_count_80 fk_RX10_16 ly_0 rfl ?_
    refine v_get (z := ((hx a : Nat) : Int)) (pc' := 86) rfl dX10_count_83 fk_RX10_90 ly_2 rfl (m2) ?_
    refine v_aload_n 0 (pc' := 87) rfl dX10_count_86 rfl rfl ?_
    refine v_getR (pc' := 90) rfl dX10_count_87 fk_RX10_16 ly_0 rfl ?_
    refine v_get (z := (n : Int)) (pc' := 93) rfl dX10_count_90 fk_RX10_81 ly_2 rfl (m0) ?_
    refine v_cSP (pc' := 96) rfl dX10_count_93 lk_RX10_191 rfl (c_parts l G rfl rfl (hs.b7 hn7) (ha.b7 hn7) rfl hn7 w) rfl rfl rfl ?_
    refine v_nm (fun parts1 hparts1 => ?_)
    refine v_iret dX10_count_96 (by decide) (rfl) ?_
    exact ⟨Fr.rf _ _, hI, Or.inl ⟨by omega, hparts1.trans hz.symm⟩⟩
  ·
    refine v_tin (tgt := 97) 2 dX10_count_1 sw0 (by decide) (by decide) (by decide) rfl (by decide) ?_
    have hz : cntV n s a al b st what = (if joinB s a n then genusI s a (full n) else -2) := by unfold cntV; rw [if_neg (by omega), if_neg (by omega), if_pos sw0]
    refine v_aload_n 0 (pc' := 98) rfl dX10_count_97 rfl rfl ?_
    refine v_cVP (pc' := 101) rfl dX10_count_98 lk_RX10_194 ly_0 rfl (c_connected l G hV w hM) rfl rfl rfl ?_
    refine v_nm (fun connected1 hconnected1 => ?_)
    refine v_if_eq (pc' := 104) (tgt := 134) rfl dX10_count_101 (by decide) (jn_r hconnected1) (fun c0 => ?_) (fun c0 => ?_)
    ·
      have hj := jn_0 hconnected1 (by omega)
      refine v_bipush (pc' := 136) rfl dX10_count_134 rfl ?_
      refine v_iret dX10_count_136 (by decide) (rfl) ?_
      first | exact ⟨Fr.rf _ _, hI, Or.inl ⟨by omega, by rw [hz, hj]; exact hgenus1⟩⟩ | exact ⟨Fr.rf _ _, hI, Or.inl ⟨by omega, by rw [hz, hj]; rfl⟩⟩
    ·
      have hj := jn_1 hconnected1 (by omega)
      refine v_aload_n 0 (pc' := 105) rfl dX10_count_104 rfl rfl ?_
      refine v_getR (pc' := 108) rfl dX10_count_105 fk_RX10_16 ly_0 rfl ?_
      refine v_get (z := ((hx s : Nat) : Int)) (pc' := 111) rfl dX10_count_108 fk_RX10_87 ly_2 rfl (m1) ?_
      refine v_aload_n 0 (pc' := 112) rfl dX10_count_111 rfl rfl ?_
      refine v_getR (pc' := 115) rfl dX10_count_112 fk_RX10_16 ly_0 rfl ?_
      refine v_get (z := ((hx a : Nat) : Int)) (pc' := 118) rfl dX10_count_115 fk_RX10_90 ly_2 rfl (m2) ?_
      refine v_aload_n 0 (pc' := 119) rfl dX10_count_118 rfl rfl ?_
      refine v_getR (pc' := 122) rfl dX10_count_119 fk_RX10_16 ly_0 rfl ?_
      refine v_get (z := (n : Int)) (pc' := 125) rfl dX10_count_122 fk_RX10_81 ly_2 rfl (m0) ?_
      refine v_cSP (pc' := 128) rfl dX10_count_125 lk_RX10_162 rfl (c_darts l G rfl hn7 w) rfl rfl rfl ?_
      refine v_nm (fun darts1 hdarts1 => ?_)
      refine v_cSP (pc' := 131) rfl dX10_count_128 lk_RX10_197 rfl (c_genus l G rfl rfl (hs.mono hn7) (ha.mono hn7) hdarts1 (full_lt hn7) w) rfl rfl rfl ?_
      refine v_nm (fun genus1 hgenus1 => ?_)
      refine v_goto (tgt := 136) dX10_count_131 (by decide) ?_
      refine v_iret dX10_count_136 (by decide) (rfl) ?_
      first | exact ⟨Fr.rf _ _, hI, Or.inl ⟨by omega, by rw [hz, hj]; exact hgenus1⟩⟩ | exact ⟨Fr.rf _ _, hI, Or.inl ⟨by omega, by rw [hz, hj]; rfl⟩⟩
  ·
    refine v_tin (tgt := 137) 3 dX10_count_1 sw0 (by decide) (by decide) (by decide) rfl (by decide) ?_
    have hz : cntV n s a al b st what = (setC n s a : Int) := by unfold cntV; rw [if_neg (by omega), if_neg (by omega), if_neg (by omega), if_pos sw0]
    refine v_aload_n 0 (pc' := 138) rfl dX10_count_137 rfl rfl ?_
    refine v_getR (pc' := 141) rfl dX10_count_138 fk_RX10_27 ly_0 rfl ?_
    refine v_aload_n 0 (pc' := 142) rfl dX10_count_141 rfl rfl ?_
    refine v_getR (pc' := 145) rfl dX10_count_142 fk_RX10_16 ly_0 rfl ?_
    refine v_get (z := (n : Int)) (pc' := 148) rfl dX10_count_145 fk_RX10_81 ly_2 rfl (m0) ?_
    refine v_aload_n 0 (pc' := 149) rfl dX10_count_148 rfl rfl ?_
    refine v_getR (pc' := 152) rfl dX10_count_149 fk_RX10_16 ly_0 rfl ?_
    refine v_get (z := ((hx s : Nat) : Int)) (pc' := 155) rfl dX10_count_152 fk_RX10_87 ly_2 rfl (m1) ?_
    refine v_aload_n 0 (pc' := 156) rfl dX10_count_155 rfl rfl ?_
    refine v_getR (pc' := 159) rfl dX10_count_156 fk_RX10_16 ly_0 rfl ?_
    refine v_get (z := ((hx a : Nat) : Int)) (pc' := 162) rfl dX10_count_159 fk_RX10_90 ly_2 rfl (m2) ?_
    refine v_cVv (pc' := 165) rfl dX10_count_162 lk_RX10_146 ly_7 rfl (c_settle l G (n := n) rfl hn1 hn7 hs ha rfl rfl w) rfl rfl rfl (fun settle1 w5 hq5 => ?_)
    obtain ⟨f1, s7, s8, s9⟩ := hq5
    refine v_aload_n 0 (pc' := 166) rfl dX10_count_165 rfl rfl ?_
    refine v_getR (pc' := 169) rfl dX10_count_166 fk_RX10_27 ly_0 rfl ?_
    refine v_get (z := ((setC n s a : Nat) : Int)) (pc' := 172) rfl dX10_count_169 fk_RX10_200 ly_7 rfl (s9) ?_
    refine v_iret dX10_count_172 (by decide) (rfl) ?_
    exact ⟨f1.mono rfl, hI.frs f1 rfl, Or.inl ⟨by omega, hz.symm⟩⟩
  ·
    refine v_tin (tgt := 173) 4 dX10_count_1 sw0 (by decide) (by decide) (by decide) rfl (by decide) ?_
    have hz : cntV n s a al b st what = (chnN n s a : Int) := by unfold cntV; rw [if_neg (by omega), if_neg (by omega), if_neg (by omega), if_neg (by omega), if_pos sw0]
    refine v_aload_n 0 (pc' := 174) rfl dX10_count_173 rfl rfl ?_
    refine v_getR (pc' := 177) rfl dX10_count_174 fk_RX10_34 ly_0 rfl ?_
    refine v_aload_n 0 (pc' := 178) rfl dX10_count_177 rfl rfl ?_
    refine v_getR (pc' := 181) rfl dX10_count_178 fk_RX10_16 ly_0 rfl ?_
    refine v_get (z := (n : Int)) (pc' := 184) rfl dX10_count_181 fk_RX10_81 ly_2 rfl (m0) ?_
    refine v_aload_n 0 (pc' := 185) rfl dX10_count_184 rfl rfl ?_
    refine v_getR (pc' := 188) rfl dX10_count_185 fk_RX10_16 ly_0 rfl ?_
    refine v_get (z := ((hx s : Nat) : Int)) (pc' := 191) rfl dX10_count_188 fk_RX10_87 ly_2 rfl (m1) ?_
    refine v_aload_n 0 (pc' := 192) rfl dX10_count_191 rfl rfl ?_
    refine v_getR (pc' := 195) rfl dX10_count_192 fk_RX10_16 ly_0 rfl ?_
    refine v_get (z := ((hx a : Nat) : Int)) (pc' := 198) rfl dX10_count_195 fk_RX10_90 ly_2 rfl (m2) ?_
    refine v_cVi (pc' := 201) rfl dX10_count_198 lk_RX10_203 ly_11 rfl (c_order2 l G (n := n) rfl hn1 hn7 rfl rfl hs ha w) rfl rfl rfl (fun order1 w6 hq6 => ?_)
    refine v_iret dX10_count_201 (by decide) (rfl) ?_
    exact ⟨hq6.2.mono rfl, hI.frs hq6.2 rfl, Or.inl ⟨by omega, hq6.1.trans hz.symm⟩⟩
  ·
    refine v_tin (tgt := 202) 5 dX10_count_1 sw0 (by decide) (by decide) (by decide) rfl (by decide) ?_
    have hz : cntV n s a al b st what = (if joinB s a n then ((sysL n s a).length : Int) else 0) := by unfold cntV; rw [if_neg (by omega), if_neg (by omega), if_neg (by omega), if_neg (by omega), if_neg (by omega), if_pos sw0]
    refine v_aload_n 0 (pc' := 203) rfl dX10_count_202 rfl rfl ?_
    refine v_cVP (pc' := 206) rfl dX10_count_203 lk_RX10_194 ly_0 rfl (c_connected l G hV w hM) rfl rfl rfl ?_
    refine v_nm (fun connected2 hconnected2 => ?_)
    refine v_if_eq (pc' := 209) (tgt := 240) rfl dX10_count_206 (by decide) (jn_r hconnected2) (fun c1 => ?_) (fun c1 => ?_)
    ·
      have hj := jn_0 hconnected2 (by omega)
      refine v_iconst (pc' := 241) rfl dX10_count_240 ?_
      refine v_iret dX10_count_241 (by decide) (rfl) ?_
      first | exact ⟨f1.mono rfl, hI.frs f1 rfl, Or.inl ⟨by omega, by rw [hz, hj]; exact y8⟩⟩ | exact ⟨Fr.rf _ _, hI, Or.inl ⟨by omega, by rw [hz, hj]; rfl⟩⟩
    ·
      have hj := jn_1 hconnected2 (by omega)
      refine v_aload_n 0 (pc' := 210) rfl dX10_count_209 rfl rfl ?_
      refine v_getR (pc' := 213) rfl dX10_count_210 fk_RX10_48 ly_0 rfl ?_
      refine v_aload_n 0 (pc' := 214) rfl dX10_count_213 rfl rfl ?_
      refine v_getR (pc' := 217) rfl dX10_count_214 fk_RX10_16 ly_0 rfl ?_
      refine v_get (z := (n : Int)) (pc' := 220) rfl dX10_count_217 fk_RX10_81 ly_2 rfl (m0) ?_
      refine v_aload_n 0 (pc' := 221) rfl dX10_count_220 rfl rfl ?_
      refine v_getR (pc' := 224) rfl dX10_count_221 fk_RX10_16 ly_0 rfl ?_
      refine v_get (z := ((hx s : Nat) : Int)) (pc' := 227) rfl dX10_count_224 fk_RX10_87 ly_2 rfl (m1) ?_
      refine v_aload_n 0 (pc' := 228) rfl dX10_count_227 rfl rfl ?_
      refine v_getR (pc' := 231) rfl dX10_count_228 fk_RX10_16 ly_0 rfl ?_
      refine v_get (z := ((hx a : Nat) : Int)) (pc' := 234) rfl dX10_count_231 fk_RX10_90 ly_2 rfl (m2) ?_
      refine v_cVi (pc' := 237) rfl dX10_count_234 lk_RX10_205 ly_17 rfl (c_systems l G (n := n) rfl hn1 hn7 rfl rfl (hs.b7 hn7) (ha.b7 hn7) w) rfl rfl rfl (fun systems1 w8 hq8 => ?_)
      obtain ⟨y8, f1⟩ := hq8
      have hsl := sysL_len n s a
      have hp2 := two_pow7 hn1 hn7
      refine v_goto (tgt := 241) dX10_count_237 (by decide) ?_
      refine v_iret dX10_count_241 (by decide) (rfl) ?_
      first | exact ⟨f1.mono rfl, hI.frs f1 rfl, Or.inl ⟨by omega, by rw [hz, hj]; exact y8⟩⟩ | exact ⟨Fr.rf _ _, hI, Or.inl ⟨by omega, by rw [hz, hj]; rfl⟩⟩
  ·
    refine v_tin (tgt := 242) 6 dX10_count_1 sw0 (by decide) (by decide) (by decide) rfl (by decide) ?_
    have hz : cntV n s a al b st what = (if joinB s a n then (if (sysL n s a).length = 0 then 1 else 0) else 0) := by unfold cntV; rw [if_neg (by omega), if_neg (by omega), if_neg (by omega), if_neg (by omega), if_neg (by omega), if_neg (by omega), if_pos sw0]
    refine v_aload_n 0 (pc' := 243) rfl dX10_count_242 rfl rfl ?_
    refine v_cVP (pc' := 246) rfl dX10_count_243 lk_RX10_194 ly_0 rfl (c_connected l G hV w hM) rfl rfl rfl ?_
    refine v_nm (fun connected3 hconnected3 => ?_)
    refine v_if_eq (pc' := 249) (tgt := 284) rfl dX10_count_246 (by decide) (jn_r hconnected3) (fun c2 => ?_) (fun c2 => ?_)
    ·
      have hj := jn_0 hconnected3 (by omega)
      refine v_iconst (pc' := 285) rfl dX10_count_284 ?_
      refine v_iret dX10_count_285 (by decide) (rfl) ?_
      first | exact ⟨f1.mono rfl, hI.frs f1 rfl, Or.inl ⟨by omega, by rw [hz, hj, if_pos rfl, if_pos (by omega)]⟩⟩ | exact ⟨f1.mono rfl, hI.frs f1 rfl, Or.inl ⟨by omega, by rw [hz, hj, if_pos rfl, if_neg (by omega)]⟩⟩ | exact ⟨Fr.rf _ _, hI, Or.inl ⟨by omega, by rw [hz, hj]; rfl⟩⟩
    ·
      have hj := jn_1 hconnected3 (by omega)
      refine v_aload_n 0 (pc' := 250) rfl dX10_count_249 rfl rfl ?_
      refine v_getR (pc' := 253) rfl dX10_count_250 fk_RX10_48 ly_0 rfl ?_
      refine v_aload_n 0 (pc' := 254) rfl dX10_count_253 rfl rfl ?_
      refine v_getR (pc' := 257) rfl dX10_count_254 fk_RX10_16 ly_0 rfl ?_
      refine v_get (z := (n : Int)) (pc' := 260) rfl dX10_count_257 fk_RX10_81 ly_2 rfl (m0) ?_
      refine v_aload_n 0 (pc' := 261) rfl dX10_count_260 rfl rfl ?_
      refine v_getR (pc' := 264) rfl dX10_count_261 fk_RX10_16 ly_0 rfl ?_
      refine v_get (z := ((hx s : Nat) : Int)) (pc' := 267) rfl dX10_count_264 fk_RX10_87 ly_2 rfl (m1) ?_
      refine v_aload_n 0 (pc' := 268) rfl dX10_count_267 rfl rfl ?_
      refine v_getR (pc' := 271) rfl dX10_count_268 fk_RX10_16 ly_0 rfl ?_
      refine v_get (z := ((hx a : Nat) : Int)) (pc' := 274) rfl dX10_count_271 fk_RX10_90 ly_2 rfl (m2) ?_
      refine v_cVi (pc' := 277) rfl dX10_count_274 lk_RX10_205 ly_17 rfl (c_systems l G (n := n) rfl hn1 hn7 rfl rfl (hs.b7 hn7) (ha.b7 hn7) w) rfl rfl rfl (fun systems2 w10 hq10 => ?_)
      obtain ⟨y10, f1⟩ := hq10
      have hsl := sysL_len n s a
      have hp2 := two_pow7 hn1 hn7
      refine v_if_ne (pc' := 280) (tgt := 284) rfl dX10_count_277 (by decide) (by omega) (fun c3 => ?_) (fun c3 => ?_)
      ·
        refine v_iconst (pc' := 285) rfl dX10_count_284 ?_
        refine v_iret dX10_count_285 (by decide) (rfl) ?_
        first | exact ⟨f1.mono rfl, hI.frs f1 rfl, Or.inl ⟨by omega, by rw [hz, hj, if_pos rfl, if_pos (by omega)]⟩⟩ | exact ⟨f1.mono rfl, hI.frs f1 rfl, Or.inl ⟨by omega, by rw [hz, hj, if_pos rfl, if_neg (by omega)]⟩⟩ | exact ⟨Fr.rf _ _, hI, Or.inl ⟨by omega, by rw [hz, hj]; rfl⟩⟩
      ·
        refine v_iconst (pc' := 281) rfl dX10_count_280 ?_
        refine v_goto (tgt := 285) dX10_count_281 (by decide) ?_
        refine v_iret dX10_count_285 (by decide) (rfl) ?_
        first | exact ⟨f1.mono rfl, hI.frs f1 rfl, Or.inl ⟨by omega, by rw [hz, hj, if_pos rfl, if_pos (by omega)]⟩⟩ | exact ⟨f1.mono rfl, hI.frs f1 rfl, Or.inl ⟨by omega, by rw [hz, hj, if_pos rfl, if_neg (by omega)]⟩⟩ | exact ⟨Fr.rf _ _, hI, Or.inl ⟨by omega, by rw [hz, hj]; rfl⟩⟩
  ·
    refine v_tin (tgt := 286) 7 dX10_count_1 sw0 (by decide) (by decide) (by decide) rfl (by decide) ?_
    have hz : cntV n s a al b st what = (symM n s a 4 : Int) := by unfold cntV; rw [if_neg (by omega), if_neg (by omega), if_neg (by omega), if_neg (by omega), if_neg (by omega), if_neg (by omega), if_neg (by omega), if_pos sw0]
    refine v_aload_n 0 (pc' := 287) rfl dX10_count_286 rfl rfl ?_
    refine v_getR (pc' := 290) rfl dX10_count_287 fk_RX10_27 ly_0 rfl ?_
    refine v_aload_n 0 (pc' := 291) rfl dX10_count_290 rfl rfl ?_
    refine v_getR (pc' := 294) rfl dX10_count_291 fk_RX10_16 ly_0 rfl ?_
    refine v_get (z := (n : Int)) (pc' := 297) rfl dX10_count_294 fk_RX10_81 ly_2 rfl (m0) ?_
    refine v_aload_n 0 (pc' := 298) rfl dX10_count_297 rfl rfl ?_
    refine v_getR (pc' := 301) rfl dX10_count_298 fk_RX10_16 ly_0 rfl ?_
    refine v_get (z := ((hx s : Nat) : Int)) (pc' := 304) rfl dX10_count_301 fk_RX10_87 ly_2 rfl (m1) ?_
    refine v_aload_n 0 (pc' := 305) rfl dX10_count_304 rfl rfl ?_
    refine v_getR (pc' := 308) rfl dX10_count_305 fk_RX10_16 ly_0 rfl ?_
    refine v_get (z := ((hx a : Nat) : Int)) (pc' := 311) rfl dX10_count_308 fk_RX10_90 ly_2 rfl (m2) ?_
    refine v_cVi (pc' := 314) rfl dX10_count_311 lk_RX10_208 ly_7 rfl (c_symmetries l G (n := n) rfl hn1 hn7 hs ha rfl rfl w) rfl rfl rfl (fun symmetries1 w11 hq11 => ?_)
    refine v_iret dX10_count_314 (by decide) (rfl) ?_
    exact ⟨hq11.1.mono rfl, hI.frs hq11.1 rfl, Or.inl ⟨by omega, hq11.2.trans hz.symm⟩⟩
  ·
    refine v_tin (tgt := 315) 8 dX10_count_1 sw0 (by decide) (by decide) (by decide) rfl (by decide) ?_
    refine v_aload_n 0 (pc' := 316) rfl dX10_count_315 rfl rfl ?_
    refine v_cVP (pc' := 319) rfl dX10_count_316 lk_RX10_194 ly_0 rfl (c_connected l G hV w hM) rfl rfl rfl ?_
    refine v_nm (fun connected4 hconnected4 => ?_)
    refine v_if_eq (pc' := 322) (tgt := 329) rfl dX10_count_319 (by decide) (jn_r hconnected4) (fun c4 => ?_) (fun c4 => ?_)
    ·
      have hj := jn_0 hconnected4 (by omega)
      refine v_bipush (pc' := 331) rfl dX10_count_329 rfl ?_
      refine v_iret dX10_count_331 (by decide) (rfl) ?_
      first | exact ⟨hq13.1.mono rfl, hq13.2.1, Or.inr (Or.inr ⟨by omega, hj, hq13.2.2⟩)⟩ | exact ⟨Fr.rf _ _, hI, Or.inr (Or.inl ⟨by omega, hj, rfl⟩)⟩
    ·
      have hj := jn_1 hconnected4 (by omega)
      refine v_aload_n 0 (pc' := 323) rfl dX10_count_322 rfl rfl ?_
      refine v_cVi (pc' := 326) rfl dX10_count_323 lk_RX10_211 ly_0 rfl (c_siblings l G h64 hV w hM hI) rfl rfl rfl (fun siblings1 w13 hq13 => ?_)
      refine v_goto (tgt := 331) dX10_count_326 (by decide) ?_
      refine v_iret dX10_count_331 (by decide) (rfl) ?_
      first | exact ⟨hq13.1.mono rfl, hq13.2.1, Or.inr (Or.inr ⟨by omega, hj, hq13.2.2⟩)⟩ | exact ⟨Fr.rf _ _, hI, Or.inr (Or.inl ⟨by omega, hj, rfl⟩)⟩
  ·
    refine v_tin (tgt := 332) 9 dX10_count_1 sw0 (by decide) (by decide) (by decide) rfl (by decide) ?_
    have hz : cntV n s a al b st what = (al : Int) := by unfold cntV; rw [if_neg (by omega), if_neg (by omega), if_neg (by omega), if_neg (by omega), if_neg (by omega), if_neg (by omega), if_neg (by omega), if_neg (by omega), if_pos sw0]
    refine v_aload_n 0 (pc' := 333) rfl dX10_count_332 rfl rfl ?_
    refine v_getR (pc' := 336) rfl dX10_count_333 fk_RX10_16 ly_0 rfl ?_
    refine v_get (z := (al : Int)) (pc' := 339) rfl dX10_count_336 fk_RX10_214 ly_2 rfl (hA) ?_
    refine v_iret dX10_count_339 (by decide) (rfl) ?_
    exact ⟨Fr.rf _ _, hI, Or.inl ⟨by omega, hz.symm⟩⟩
  ·
    refine v_tin (tgt := 340) 10 dX10_count_1 sw0 (by decide) (by decide) (by decide) rfl (by decide) ?_
    have hz : cntV n s a al b st what = b := by unfold cntV; rw [if_neg (by omega), if_neg (by omega), if_neg (by omega), if_neg (by omega), if_neg (by omega), if_neg (by omega), if_neg (by omega), if_neg (by omega), if_neg (by omega), if_pos sw0]
    refine v_aload_n 0 (pc' := 341) rfl dX10_count_340 rfl rfl ?_
    refine v_get (z := b) (pc' := 344) rfl dX10_count_341 fk_RX10_73 ly_0 rfl (hB) ?_
    refine v_iret dX10_count_344 (by decide) (rfl) ?_
    exact ⟨Fr.rf _ _, hI, Or.inl ⟨by omega, hz.symm⟩⟩
  ·
    refine v_tin (tgt := 345) 11 dX10_count_1 sw0 (by decide) (by decide) (by decide) rfl (by decide) ?_
    have hz : cntV n s a al b st what = st := by unfold cntV; rw [if_neg (by omega), if_neg (by omega), if_neg (by omega), if_neg (by omega), if_neg (by omega), if_neg (by omega), if_neg (by omega), if_neg (by omega), if_neg (by omega), if_neg (by omega), if_pos sw0]
    refine v_aload_n 0 (pc' := 346) rfl dX10_count_345 rfl rfl ?_
    refine v_get (z := st) (pc' := 349) rfl dX10_count_346 fk_RX10_217 ly_0 rfl (hS) ?_
    refine v_iret dX10_count_349 (by decide) (rfl) ?_
    exact ⟨Fr.rf _ _, hI, Or.inl ⟨by omega, hz.symm⟩⟩
  ·
    refine v_tout (tgt := 350) dX10_count_1 (by omega) sw0 (by decide) ?_
    have hz : cntV n s a al b st what = -1 := by unfold cntV; rw [if_neg (by omega), if_neg (by omega), if_neg (by omega), if_neg (by omega), if_neg (by omega), if_neg (by omega), if_neg (by omega), if_neg (by omega), if_neg (by omega), if_neg (by omega), if_neg (by omega)]
    refine v_iconst (pc' := 351) rfl dX10_count_350 ?_
    refine v_iret dX10_count_351 (by decide) (rfl) ?_
    exact ⟨Fr.rf _ _, hI, Or.inl ⟨by omega, hz.symm⟩⟩
def PasP (w : Wd) (n : Nat) (s a : Nat → Nat) (AL : List PE) (z : Int) (w' : Wd) : Prop :=
  (joinB s a n = false ∧ z = -2 ∧ w' = w) ∨ (joinB s a n = true ∧ Fr [2, 3, 4, 5, 7, 8, 9, 10] w w' ∧ MapW w' n s a ∧
    ((∃ i, i < AL.length ∧ AL.getD i pe0 = (n, canS n s, canA n s a) ∧ z = (i : Nat) ∧ AlW w' 2 AL) ∨
     ((∀ j, j < AL.length → AL.getD j pe0 ≠ (n, canS n s, canA n s a)) ∧ ((AL.length = 12 ∧ z = -3 ∧ AlW w' 2 AL) ∨ (AL.length < 12 ∧ z = (AL.length : Nat) ∧ AlW w' 2 (AL ++ [(n, canS n s, canA n s a)]))))))
theorem PMt_iff {w : Wd} {n : Nat} {S A : Nat → Nat} {AL : List PE} (hn : n ≤ 7) (hS : Pm n S) (hA : Pm n A) (hAV : AlV AL) (hAW : AlW w 2 AL) {i : Nat} (hi : i < AL.length) : PMt w (n : Int) (hx S : Nat) (hx A : Nat) i ↔ AL.getD i pe0 = (n, S, A) := by
  have v := hAV.at hi
  obtain ⟨e1, e2, e3⟩ := hAW.2 i hi
  unfold PMt
  rw [show w 3 i = _ from e1, show w 4 i = _ from e2, show w 5 i = _ from e3]
  constructor
  · rintro ⟨a, b, c⟩
    have h2 := (hx_inj v.2.1 hS v.1.2 hn).mp (by omega)
    have h3 := (hx_inj v.2.2 hA v.1.2 hn).mp (by omega)
    exact Prod.ext (by show (AL.getD i pe0).1 = n; omega) (Prod.ext h2 h3)
  · intro h
    rw [h]; exact ⟨rfl, rfl, rfl⟩
theorem AlW.fr {w w' : Wd} {AL : List PE} (h : AlW w 2 AL) {cs : List Nat} (hf : Fr cs w w') (hc : [2, 3, 4, 5].all (fun o => !cs.contains o) = true) : AlW w' 2 AL := by
  have k : ∀ o, o ∈ [2, 3, 4, 5] → ∀ j, w' o j = w o j := fun o ho j => hf o j (by have := List.all_eq_true.mp hc o ho; simpa using this)
  refine ⟨by rw [k 2 (by decide)]; exact h.1, fun i hi => ?_⟩
  rw [k 3 (by decide), k 4 (by decide), k 5 (by decide)]; exact h.2 i hi
theorem AlW.push {w w' : Wd} {n : Nat} {S A : Nat → Nat} {AL : List PE} (h : AlW w 2 AL) (e : w' = up (up (up (up w 3 AL.length (n : Int)) 4 AL.length (hx S : Nat)) 5 AL.length (hx A : Nat)) 2 3 ((AL.length : Int) + 1)) : AlW w' 2 (AL ++ [(n, S, A)]) := by
  subst e
  refine ⟨by rw [up_eq]; simp, fun i hi => ?_⟩
  rw [List.length_append] at hi
  simp only [List.length_singleton] at hi
  rw [List.getD_eq_getElem?_getD]
  by_cases q : i = AL.length
  · subst q; simp [up_at]
  · rw [List.getElem?_append_left (by omega), ← List.getD_eq_getElem?_getD]
    have := h.2 i (by omega)
    simpa [up_at, q] using this
set_option maxHeartbeats 4000000 in
set_option maxRecDepth 100000 in
theorem c_paste (l : Launch) (G : Gx) {AL : List PE} (hAV : AlV AL) {n : Nat} {s a : Nat → Nat} (hV : MapV n s a) (w : Wd) (hM : MapW w n s a) (hA : AlW w 2 AL) : Sp l G 11 mX10_paste [aR 0] w (fun z w' => PasP w n s a AL z w') := by
  obtain ⟨⟨hn1, hn7⟩, hs, ha⟩ := id hV
  obtain ⟨m0, m1, m2⟩ := id hM
  have hS := canS_pm hn1 hn7 hs
  obtain ⟨hC, hcA0⟩ := canA_pm hn1 hn7 hs ha
  have hcA : ((setA n s a : Nat) : Int) = ((hx (canA n s a) : Nat) : Int) := by rw [hcA0]
  have hxs := hx_pos hS hn7
  have hxa := hx_pos hC hn7
  have hal := hAV.1
  refine Sp_of RX10 rfl (by decide +kernel) rfl (Nat.le_of_ble_eq_true rfl) ?_
  refine v_aload_n 0 (pc' := 1) rfl dX10_paste_0 rfl rfl ?_
  refine v_cVP (pc' := 4) rfl dX10_paste_1 lk_RX10_194 ly_0 rfl (c_connected l G hV w hM) rfl rfl rfl ?_
  refine v_nm (fun connected1 hconnected1 => ?_)
  refine v_if_ne (pc' := 7) (tgt := 10) rfl dX10_paste_4 (by decide) (jn_r hconnected1) (fun c0 => ?_) (fun c0 => ?_)
  ·
    have hj := jn_1 hconnected1 (by omega)
    refine v_aload_n 0 (pc' := 11) rfl dX10_paste_10 rfl rfl ?_
    refine v_getR (pc' := 14) rfl dX10_paste_11 fk_RX10_27 ly_0 rfl ?_
    refine v_aload_n 0 (pc' := 15) rfl dX10_paste_14 rfl rfl ?_
    refine v_getR (pc' := 18) rfl dX10_paste_15 fk_RX10_16 ly_0 rfl ?_
    refine v_get (z := (n : Int)) (pc' := 21) rfl dX10_paste_18 fk_RX10_81 ly_2 rfl (m0) ?_
    refine v_aload_n 0 (pc' := 22) rfl dX10_paste_21 rfl rfl ?_
    refine v_getR (pc' := 25) rfl dX10_paste_22 fk_RX10_16 ly_0 rfl ?_
    refine v_get (z := ((hx s : Nat) : Int)) (pc' := 28) rfl dX10_paste_25 fk_RX10_87 ly_2 rfl (m1) ?_
    refine v_aload_n 0 (pc' := 29) rfl dX10_paste_28 rfl rfl ?_
    refine v_getR (pc' := 32) rfl dX10_paste_29 fk_RX10_16 ly_0 rfl ?_
    refine v_get (z := ((hx a : Nat) : Int)) (pc' := 35) rfl dX10_paste_32 fk_RX10_90 ly_2 rfl (m2) ?_
    refine v_cVv (pc' := 38) rfl dX10_paste_35 lk_RX10_146 ly_7 rfl (c_settle l G (n := n) rfl hn1 hn7 hs ha rfl rfl w) rfl rfl rfl (fun settle1 w2 hq2 => ?_)
    obtain ⟨f1, s7, s8, s9⟩ := hq2
    have s8a := s8.trans hcA
    have hA2 := hA.fr f1 rfl
    have hM2 : MapW w2 n s a := ⟨(f1 2 0 rfl).trans m0, (f1 2 1 rfl).trans m1, (f1 2 2 rfl).trans m2⟩
    have al2 := hA2.1
    have m0 : w2 2 0 = (n : Int) := (f1 2 0 (by decide)).trans m0
    have m1 : w2 2 1 = ((hx s : Nat) : Int) := (f1 2 1 (by decide)).trans m1
    have m2 : w2 2 2 = ((hx a : Nat) : Int) := (f1 2 2 (by decide)).trans m2
    refine v_aload_n 0 (pc' := 39) rfl dX10_paste_38 rfl rfl ?_
    refine v_getR (pc' := 42) rfl dX10_paste_39 fk_RX10_16 ly_0 rfl ?_
    refine v_aload_n 0 (pc' := 43) rfl dX10_paste_42 rfl rfl ?_
    refine v_getR (pc' := 46) rfl dX10_paste_43 fk_RX10_16 ly_0 rfl ?_
    refine v_get (z := (n : Int)) (pc' := 49) rfl dX10_paste_46 fk_RX10_81 ly_2 rfl (m0) ?_
    refine v_aload_n 0 (pc' := 50) rfl dX10_paste_49 rfl rfl ?_
    refine v_getR (pc' := 53) rfl dX10_paste_50 fk_RX10_27 ly_0 rfl ?_
    refine v_get (z := ((hx (canS n s) : Nat) : Int)) (pc' := 56) rfl dX10_paste_53 fk_RX10_150 ly_7 rfl (s7) ?_
    refine v_aload_n 0 (pc' := 57) rfl dX10_paste_56 rfl rfl ?_
    refine v_getR (pc' := 60) rfl dX10_paste_57 fk_RX10_27 ly_0 rfl ?_
    refine v_get (z := ((hx (canA n s a) : Nat) : Int)) (pc' := 63) rfl dX10_paste_60 fk_RX10_153 ly_7 rfl (s8a) ?_
    refine v_cVR (pc' := 66) rfl dX10_paste_63 lk_RX10_370 ly_2 rfl (c_placeOf l G (P := AL.length) (by omega) (by omega) (by omega) hal w2 al2 (fun i hi => by have v := hAV.at hi; have u1 := hx_pos v.2.1 v.1.2; have u2 := hx_pos v.2.2 v.1.2; have t := hA2.2 i hi; have t1 : w2 3 i = _ := t.1; have t2 : w2 4 i = _ := t.2.1; have t3 : w2 5 i = _ := t.2.2; have := v.1; rw [t1, t2, t3]; exact ⟨⟨by omega, by omega⟩, ⟨by omega, by omega⟩, ⟨by omega, by omega⟩⟩)) rfl rfl rfl (fun placeOf1 hplaceOf1 => ?_)
    have hpr : -1 ≤ placeOf1 ∧ placeOf1 ≤ 12 := by rcases hplaceOf1 with ⟨h, -⟩ | ⟨i, h, h2, -⟩ <;> omega
    refine v_istore_n (ls' := [(1, _), (0, _)]) (pc' := 67) rfl dX10_paste_66 rfl rfl rfl ?_
    refine v_iload_n 0 (pc' := 68) rfl dX10_paste_67 rfl rfl ?_
    refine v_iconst (pc' := 69) rfl dX10_paste_68 ?_
    refine v_icmp_eq (pc' := 72) (tgt := 74) rfl dX10_paste_69 (by decide) (by omega) (by omega) (fun c1 => ?_) (fun c1 => ?_)
    ·
      refine v_aload_n 1 (pc' := 75) rfl dX10_paste_74 rfl rfl ?_
      refine v_getR (pc' := 78) rfl dX10_paste_75 fk_RX10_16 ly_0 rfl ?_
      refine v_aload_n 1 (pc' := 79) rfl dX10_paste_78 rfl rfl ?_
      refine v_getR (pc' := 82) rfl dX10_paste_79 fk_RX10_16 ly_0 rfl ?_
      refine v_get (z := (n : Int)) (pc' := 85) rfl dX10_paste_82 fk_RX10_81 ly_2 rfl (m0) ?_
      refine v_aload_n 1 (pc' := 86) rfl dX10_paste_85 rfl rfl ?_
      refine v_getR (pc' := 89) rfl dX10_paste_86 fk_RX10_27 ly_0 rfl ?_
      refine v_get (z := ((hx (canS n s) : Nat) : Int)) (pc' := 92) rfl dX10_paste_89 fk_RX10_150 ly_7 rfl (s7) ?_
      refine v_aload_n 1 (pc' := 93) rfl dX10_paste_92 rfl rfl ?_
      refine v_getR (pc' := 96) rfl dX10_paste_93 fk_RX10_27 ly_0 rfl ?_
      refine v_get (z := ((hx (canA n s a) : Nat) : Int)) (pc' := 99) rfl dX10_paste_96 fk_RX10_153 ly_7 rfl (s8a) ?_
      refine v_cVi (pc' := 102) rfl dX10_paste_99 lk_RX10_373 ly_2 rfl (c_add9 l G (P := AL.length) hal w2 al2) rfl rfl rfl (fun add1 w4 hq4 => ?_)
      refine v_iret dX10_paste_102 (by decide) (rfl) ?_
      rcases hplaceOf1 with ⟨h, hno⟩ | ⟨i, h, -⟩
      · have hno2 : ∀ j, j < AL.length → AL.getD j pe0 ≠ (n, canS n s, canA n s a) := fun j hj2 e => hno j hj2 ((PMt_iff hn7 hS hC hAV hA2 hj2).mpr e)
        rcases hq4 with ⟨p, q, r⟩ | ⟨p, q, r⟩
        · rw [r]; exact Or.inr ⟨hj, f1.mono rfl, hM2, Or.inr ⟨hno2, Or.inl ⟨p, q, hA2⟩⟩⟩
        · refine Or.inr ⟨hj, by rw [r]; exact ((((f1.mono rfl).up rfl).up rfl).up rfl).up rfl, ⟨by rw [r]; exact hM2.1, by rw [r]; exact hM2.2.1, by rw [r]; exact hM2.2.2⟩, Or.inr ⟨hno2, Or.inr ⟨p, q, hA2.push r⟩⟩⟩
      · omega
    ·
      refine v_iload_n 0 (pc' := 73) rfl dX10_paste_72 rfl rfl ?_
      refine v_iret dX10_paste_73 (by decide) (rfl) ?_
      rcases hplaceOf1 with ⟨h, -⟩ | ⟨i, h, h2, h3, -⟩
      · exact absurd h (by omega)
      · exact Or.inr ⟨hj, f1.mono rfl, hM2, Or.inl ⟨i, h2, (PMt_iff hn7 hS hC hAV hA2 h2).mp h3, h, hA2⟩⟩
  ·
    have hj := jn_0 hconnected1 (by omega)
    refine v_bipush (pc' := 9) rfl dX10_paste_7 rfl ?_
    refine v_iret dX10_paste_9 (by decide) (rfl) ?_
    exact Or.inl ⟨hj, rfl, rfl⟩
set_option maxHeartbeats 4000000 in
set_option maxRecDepth 100000 in
theorem c_keep_0 (l : Launch) (G : Gx)  (w : Wd) (hS : w 0 5 = 0) : Sp l G 1 mX10_keep [aR 0] w (fun z w' => z = 1 ∧ ∃ w1, Cpy w w1 31 2 ∧ w' = up w1 0 5 1) := by
  refine Sp_of RX10 rfl (by decide +kernel) rfl (Nat.le_of_ble_eq_true rfl) ?_
  refine v_aload_n 0 (pc' := 1) rfl dX10_keep_0 rfl rfl ?_
  refine v_get (z := 0) (pc' := 4) rfl dX10_keep_1 fk_RX10_217 ly_0 rfl (hS) ?_
  refine v_if_lt (pc' := 7) (tgt := 28) rfl dX10_keep_4 (by decide) (by omega) (fun c0 => absurd c0 (by omega)) (fun c0 => ?_)
  refine v_aload_n 0 (pc' := 8) rfl dX10_keep_7 rfl rfl ?_
  refine v_get (z := 0) (pc' := 11) rfl dX10_keep_8 fk_RX10_217 ly_0 rfl (hS) ?_
  refine v_bipush (pc' := 13) rfl dX10_keep_11 rfl ?_
  refine v_icmp_ge (pc' := 16) (tgt := 28) rfl dX10_keep_13 (by decide) (by omega) (by omega) (fun c1 => absurd c1 (by omega)) (fun c1 => ?_)
  refine v_aload_n 0 (pc' := 17) rfl dX10_keep_16 rfl rfl ?_
  refine v_getR (pc' := 20) rfl dX10_keep_17 fk_RX10_20 ly_0 rfl ?_
  refine v_aload_n 0 (pc' := 21) rfl dX10_keep_20 rfl rfl ?_
  refine v_get (z := 0) (pc' := 24) rfl dX10_keep_21 fk_RX10_217 ly_0 rfl (hS) ?_
  refine v_aald (r := 31) (pc' := 25) rfl dX10_keep_24 ly_6 (by omega) (rfl) rfl ?_
  refine v_ifnonnull (tgt := 30) dX10_keep_25 (by decide) ?_
  refine v_aload_n 0 (pc' := 31) rfl dX10_keep_30 rfl rfl ?_
  refine v_getR (pc' := 34) rfl dX10_keep_31 fk_RX10_20 ly_0 rfl ?_
  refine v_aload_n 0 (pc' := 35) rfl dX10_keep_34 rfl rfl ?_
  refine v_get (z := 0) (pc' := 38) rfl dX10_keep_35 fk_RX10_217 ly_0 rfl (hS) ?_
  refine v_aald (r := 31) (pc' := 39) rfl dX10_keep_38 ly_6 (by omega) (rfl) rfl ?_
  refine v_aload_n 0 (pc' := 40) rfl dX10_keep_39 rfl rfl ?_
  refine v_getR (pc' := 43) rfl dX10_keep_40 fk_RX10_16 ly_0 rfl ?_
  refine v_cVv (pc' := 46) rfl dX10_keep_43 lk_RX10_384 ly_31 rfl (c_become_31_2 l G w) rfl rfl rfl (fun become1 w1 hq1 => ?_)
  have hS1 : w1 0 5 = 0 := (hq1.2.2 0 5 rfl).trans hS
  refine v_aload_n 0 (pc' := 47) rfl dX10_keep_46 rfl rfl ?_
  refine v_dupR (pc' := 48) rfl dX10_keep_47 ?_
  refine v_get (z := 0) (pc' := 51) rfl dX10_keep_48 fk_RX10_217 ly_0 rfl (hS1) ?_
  refine v_iconst (pc' := 52) rfl dX10_keep_51 ?_
  refine v_iadd (pc' := 53) rfl dX10_keep_52 ?_
  refine v_put (pc' := 56) rfl dX10_keep_53 fi_RX10_217 ly_0 rfl ?_
  refine v_nmw (fun w2 hw2 => ?_)
  have F0_5 : w2 0 5 = (0 + 1) := by rw [hw2, up_eq]
  refine v_aload_n 0 (pc' := 57) rfl dX10_keep_56 rfl rfl ?_
  refine v_get (z := (0 + 1)) (pc' := 60) rfl dX10_keep_57 fk_RX10_217 ly_0 rfl (F0_5) ?_
  refine v_iret dX10_keep_60 (by decide) (rfl) ?_
  exact ⟨rfl, w1, hq1, hw2⟩
set_option maxHeartbeats 4000000 in
set_option maxRecDepth 100000 in
theorem c_undo_0 (l : Launch) (G : Gx)  (w : Wd) (hS : w 0 5 = 1) : Sp l G 1 mX10_undo [aR 0] w (fun z w' => z = 0 ∧ ∃ w1, w1 = up w 0 5 0 ∧ Cpy w1 w' 2 31) := by
  refine Sp_of RX10 rfl (by decide +kernel) rfl (Nat.le_of_ble_eq_true rfl) ?_
  refine v_aload_n 0 (pc' := 1) rfl dX10_undo_0 rfl rfl ?_
  refine v_get (z := 1) (pc' := 4) rfl dX10_undo_1 fk_RX10_217 ly_0 rfl (hS) ?_
  refine v_iconst (pc' := 5) rfl dX10_undo_4 ?_
  refine v_icmp_lt (pc' := 8) (tgt := 31) rfl dX10_undo_5 (by decide) (by omega) (by omega) (fun c0 => absurd c0 (by omega)) (fun c0 => ?_)
  refine v_aload_n 0 (pc' := 9) rfl dX10_undo_8 rfl rfl ?_
  refine v_get (z := 1) (pc' := 12) rfl dX10_undo_9 fk_RX10_217 ly_0 rfl (hS) ?_
  refine v_bipush (pc' := 14) rfl dX10_undo_12 rfl ?_
  refine v_icmp_gt (pc' := 17) (tgt := 31) rfl dX10_undo_14 (by decide) (by omega) (by omega) (fun c1 => absurd c1 (by omega)) (fun c1 => ?_)
  refine v_aload_n 0 (pc' := 18) rfl dX10_undo_17 rfl rfl ?_
  refine v_getR (pc' := 21) rfl dX10_undo_18 fk_RX10_20 ly_0 rfl ?_
  refine v_aload_n 0 (pc' := 22) rfl dX10_undo_21 rfl rfl ?_
  refine v_get (z := 1) (pc' := 25) rfl dX10_undo_22 fk_RX10_217 ly_0 rfl (hS) ?_
  refine v_iconst (pc' := 26) rfl dX10_undo_25 ?_
  refine v_isub (pc' := 27) rfl dX10_undo_26 ?_
  refine v_aald (r := 31) (pc' := 28) rfl dX10_undo_27 ly_6 (by omega) (rfl) rfl ?_
  refine v_ifnonnull (tgt := 33) dX10_undo_28 (by decide) ?_
  refine v_aload_n 0 (pc' := 34) rfl dX10_undo_33 rfl rfl ?_
  refine v_dupR (pc' := 35) rfl dX10_undo_34 ?_
  refine v_get (z := 1) (pc' := 38) rfl dX10_undo_35 fk_RX10_217 ly_0 rfl (hS) ?_
  refine v_iconst (pc' := 39) rfl dX10_undo_38 ?_
  refine v_isub (pc' := 40) rfl dX10_undo_39 ?_
  refine v_put (pc' := 43) rfl dX10_undo_40 fi_RX10_217 ly_0 rfl ?_
  refine v_nmw (fun w1 hw1 => ?_)
  have F0_5 : w1 0 5 = (1 - 1) := by rw [hw1, up_eq]
  refine v_aload_n 0 (pc' := 44) rfl dX10_undo_43 rfl rfl ?_
  refine v_getR (pc' := 47) rfl dX10_undo_44 fk_RX10_16 ly_0 rfl ?_
  refine v_aload_n 0 (pc' := 48) rfl dX10_undo_47 rfl rfl ?_
  refine v_getR (pc' := 51) rfl dX10_undo_48 fk_RX10_20 ly_0 rfl ?_
  refine v_aload_n 0 (pc' := 52) rfl dX10_undo_51 rfl rfl ?_
  refine v_get (z := (1 - 1)) (pc' := 55) rfl dX10_undo_52 fk_RX10_217 ly_0 rfl (F0_5) ?_
  refine v_aald (r := 31) (pc' := 56) rfl dX10_undo_55 ly_6 (by omega) (rfl) rfl ?_
  refine v_cVv (pc' := 59) rfl dX10_undo_56 lk_RX10_384 ly_2 rfl (c_become_2_31 l G w1) rfl rfl rfl (fun become1 w2 hq2 => ?_)
  have hS1 : w2 0 5 = 0 := (hq2.2.2 0 5 rfl).trans F0_5
  refine v_aload_n 0 (pc' := 60) rfl dX10_undo_59 rfl rfl ?_
  refine v_get (z := 0) (pc' := 63) rfl dX10_undo_60 fk_RX10_217 ly_0 rfl (hS1) ?_
  refine v_iret dX10_undo_63 (by decide) (rfl) ?_
  exact ⟨rfl, w1, hw1, hq2⟩
set_option maxHeartbeats 4000000 in
set_option maxRecDepth 100000 in
theorem c_keep_1 (l : Launch) (G : Gx)  (w : Wd) (hS : w 0 5 = 1) : Sp l G 1 mX10_keep [aR 0] w (fun z w' => z = 2 ∧ ∃ w1, Cpy w w1 35 2 ∧ w' = up w1 0 5 2) := by
  refine Sp_of RX10 rfl (by decide +kernel) rfl (Nat.le_of_ble_eq_true rfl) ?_
  refine v_aload_n 0 (pc' := 1) rfl dX10_keep_0 rfl rfl ?_
  refine v_get (z := 1) (pc' := 4) rfl dX10_keep_1 fk_RX10_217 ly_0 rfl (hS) ?_
  refine v_if_lt (pc' := 7) (tgt := 28) rfl dX10_keep_4 (by decide) (by omega) (fun c0 => absurd c0 (by omega)) (fun c0 => ?_)
  refine v_aload_n 0 (pc' := 8) rfl dX10_keep_7 rfl rfl ?_
  refine v_get (z := 1) (pc' := 11) rfl dX10_keep_8 fk_RX10_217 ly_0 rfl (hS) ?_
  refine v_bipush (pc' := 13) rfl dX10_keep_11 rfl ?_
  refine v_icmp_ge (pc' := 16) (tgt := 28) rfl dX10_keep_13 (by decide) (by omega) (by omega) (fun c1 => absurd c1 (by omega)) (fun c1 => ?_)
  refine v_aload_n 0 (pc' := 17) rfl dX10_keep_16 rfl rfl ?_
  refine v_getR (pc' := 20) rfl dX10_keep_17 fk_RX10_20 ly_0 rfl ?_
  refine v_aload_n 0 (pc' := 21) rfl dX10_keep_20 rfl rfl ?_
  refine v_get (z := 1) (pc' := 24) rfl dX10_keep_21 fk_RX10_217 ly_0 rfl (hS) ?_
  refine v_aald (r := 35) (pc' := 25) rfl dX10_keep_24 ly_6 (by omega) (rfl) rfl ?_
  refine v_ifnonnull (tgt := 30) dX10_keep_25 (by decide) ?_
  refine v_aload_n 0 (pc' := 31) rfl dX10_keep_30 rfl rfl ?_
  refine v_getR (pc' := 34) rfl dX10_keep_31 fk_RX10_20 ly_0 rfl ?_
  refine v_aload_n 0 (pc' := 35) rfl dX10_keep_34 rfl rfl ?_
  refine v_get (z := 1) (pc' := 38) rfl dX10_keep_35 fk_RX10_217 ly_0 rfl (hS) ?_
  refine v_aald (r := 35) (pc' := 39) rfl dX10_keep_38 ly_6 (by omega) (rfl) rfl ?_
  refine v_aload_n 0 (pc' := 40) rfl dX10_keep_39 rfl rfl ?_
  refine v_getR (pc' := 43) rfl dX10_keep_40 fk_RX10_16 ly_0 rfl ?_
  refine v_cVv (pc' := 46) rfl dX10_keep_43 lk_RX10_384 ly_35 rfl (c_become_35_2 l G w) rfl rfl rfl (fun become1 w1 hq1 => ?_)
  have hS1 : w1 0 5 = 1 := (hq1.2.2 0 5 rfl).trans hS
  refine v_aload_n 0 (pc' := 47) rfl dX10_keep_46 rfl rfl ?_
  refine v_dupR (pc' := 48) rfl dX10_keep_47 ?_
  refine v_get (z := 1) (pc' := 51) rfl dX10_keep_48 fk_RX10_217 ly_0 rfl (hS1) ?_
  refine v_iconst (pc' := 52) rfl dX10_keep_51 ?_
  refine v_iadd (pc' := 53) rfl dX10_keep_52 ?_
  refine v_put (pc' := 56) rfl dX10_keep_53 fi_RX10_217 ly_0 rfl ?_
  refine v_nmw (fun w2 hw2 => ?_)
  have F0_5 : w2 0 5 = (1 + 1) := by rw [hw2, up_eq]
  refine v_aload_n 0 (pc' := 57) rfl dX10_keep_56 rfl rfl ?_
  refine v_get (z := (1 + 1)) (pc' := 60) rfl dX10_keep_57 fk_RX10_217 ly_0 rfl (F0_5) ?_
  refine v_iret dX10_keep_60 (by decide) (rfl) ?_
  exact ⟨rfl, w1, hq1, hw2⟩
set_option maxHeartbeats 4000000 in
set_option maxRecDepth 100000 in
theorem c_undo_1 (l : Launch) (G : Gx)  (w : Wd) (hS : w 0 5 = 2) : Sp l G 1 mX10_undo [aR 0] w (fun z w' => z = 1 ∧ ∃ w1, w1 = up w 0 5 1 ∧ Cpy w1 w' 2 35) := by
  refine Sp_of RX10 rfl (by decide +kernel) rfl (Nat.le_of_ble_eq_true rfl) ?_
  refine v_aload_n 0 (pc' := 1) rfl dX10_undo_0 rfl rfl ?_
  refine v_get (z := 2) (pc' := 4) rfl dX10_undo_1 fk_RX10_217 ly_0 rfl (hS) ?_
  refine v_iconst (pc' := 5) rfl dX10_undo_4 ?_
  refine v_icmp_lt (pc' := 8) (tgt := 31) rfl dX10_undo_5 (by decide) (by omega) (by omega) (fun c0 => absurd c0 (by omega)) (fun c0 => ?_)
  refine v_aload_n 0 (pc' := 9) rfl dX10_undo_8 rfl rfl ?_
  refine v_get (z := 2) (pc' := 12) rfl dX10_undo_9 fk_RX10_217 ly_0 rfl (hS) ?_
  refine v_bipush (pc' := 14) rfl dX10_undo_12 rfl ?_
  refine v_icmp_gt (pc' := 17) (tgt := 31) rfl dX10_undo_14 (by decide) (by omega) (by omega) (fun c1 => absurd c1 (by omega)) (fun c1 => ?_)
  refine v_aload_n 0 (pc' := 18) rfl dX10_undo_17 rfl rfl ?_
  refine v_getR (pc' := 21) rfl dX10_undo_18 fk_RX10_20 ly_0 rfl ?_
  refine v_aload_n 0 (pc' := 22) rfl dX10_undo_21 rfl rfl ?_
  refine v_get (z := 2) (pc' := 25) rfl dX10_undo_22 fk_RX10_217 ly_0 rfl (hS) ?_
  refine v_iconst (pc' := 26) rfl dX10_undo_25 ?_
  refine v_isub (pc' := 27) rfl dX10_undo_26 ?_
  refine v_aald (r := 35) (pc' := 28) rfl dX10_undo_27 ly_6 (by omega) (rfl) rfl ?_
  refine v_ifnonnull (tgt := 33) dX10_undo_28 (by decide) ?_
  refine v_aload_n 0 (pc' := 34) rfl dX10_undo_33 rfl rfl ?_
  refine v_dupR (pc' := 35) rfl dX10_undo_34 ?_
  refine v_get (z := 2) (pc' := 38) rfl dX10_undo_35 fk_RX10_217 ly_0 rfl (hS) ?_
  refine v_iconst (pc' := 39) rfl dX10_undo_38 ?_
  refine v_isub (pc' := 40) rfl dX10_undo_39 ?_
  refine v_put (pc' := 43) rfl dX10_undo_40 fi_RX10_217 ly_0 rfl ?_
  refine v_nmw (fun w1 hw1 => ?_)
  have F0_5 : w1 0 5 = (2 - 1) := by rw [hw1, up_eq]
  refine v_aload_n 0 (pc' := 44) rfl dX10_undo_43 rfl rfl ?_
  refine v_getR (pc' := 47) rfl dX10_undo_44 fk_RX10_16 ly_0 rfl ?_
  refine v_aload_n 0 (pc' := 48) rfl dX10_undo_47 rfl rfl ?_
  refine v_getR (pc' := 51) rfl dX10_undo_48 fk_RX10_20 ly_0 rfl ?_
  refine v_aload_n 0 (pc' := 52) rfl dX10_undo_51 rfl rfl ?_
  refine v_get (z := (2 - 1)) (pc' := 55) rfl dX10_undo_52 fk_RX10_217 ly_0 rfl (F0_5) ?_
  refine v_aald (r := 35) (pc' := 56) rfl dX10_undo_55 ly_6 (by omega) (rfl) rfl ?_
  refine v_cVv (pc' := 59) rfl dX10_undo_56 lk_RX10_384 ly_2 rfl (c_become_2_35 l G w1) rfl rfl rfl (fun become1 w2 hq2 => ?_)
  have hS1 : w2 0 5 = 1 := (hq2.2.2 0 5 rfl).trans F0_5
  refine v_aload_n 0 (pc' := 60) rfl dX10_undo_59 rfl rfl ?_
  refine v_get (z := 1) (pc' := 63) rfl dX10_undo_60 fk_RX10_217 ly_0 rfl (hS1) ?_
  refine v_iret dX10_undo_63 (by decide) (rfl) ?_
  exact ⟨rfl, w1, hw1, hq2⟩
set_option maxHeartbeats 4000000 in
set_option maxRecDepth 100000 in
theorem c_keep_2 (l : Launch) (G : Gx)  (w : Wd) (hS : w 0 5 = 2) : Sp l G 1 mX10_keep [aR 0] w (fun z w' => z = 3 ∧ ∃ w1, Cpy w w1 39 2 ∧ w' = up w1 0 5 3) := by
  refine Sp_of RX10 rfl (by decide +kernel) rfl (Nat.le_of_ble_eq_true rfl) ?_
  refine v_aload_n 0 (pc' := 1) rfl dX10_keep_0 rfl rfl ?_
  refine v_get (z := 2) (pc' := 4) rfl dX10_keep_1 fk_RX10_217 ly_0 rfl (hS) ?_
  refine v_if_lt (pc' := 7) (tgt := 28) rfl dX10_keep_4 (by decide) (by omega) (fun c0 => absurd c0 (by omega)) (fun c0 => ?_)
  refine v_aload_n 0 (pc' := 8) rfl dX10_keep_7 rfl rfl ?_
  refine v_get (z := 2) (pc' := 11) rfl dX10_keep_8 fk_RX10_217 ly_0 rfl (hS) ?_
  refine v_bipush (pc' := 13) rfl dX10_keep_11 rfl ?_
  refine v_icmp_ge (pc' := 16) (tgt := 28) rfl dX10_keep_13 (by decide) (by omega) (by omega) (fun c1 => absurd c1 (by omega)) (fun c1 => ?_)
  refine v_aload_n 0 (pc' := 17) rfl dX10_keep_16 rfl rfl ?_
  refine v_getR (pc' := 20) rfl dX10_keep_17 fk_RX10_20 ly_0 rfl ?_
  refine v_aload_n 0 (pc' := 21) rfl dX10_keep_20 rfl rfl ?_
  refine v_get (z := 2) (pc' := 24) rfl dX10_keep_21 fk_RX10_217 ly_0 rfl (hS) ?_
  refine v_aald (r := 39) (pc' := 25) rfl dX10_keep_24 ly_6 (by omega) (rfl) rfl ?_
  refine v_ifnonnull (tgt := 30) dX10_keep_25 (by decide) ?_
  refine v_aload_n 0 (pc' := 31) rfl dX10_keep_30 rfl rfl ?_
  refine v_getR (pc' := 34) rfl dX10_keep_31 fk_RX10_20 ly_0 rfl ?_
  refine v_aload_n 0 (pc' := 35) rfl dX10_keep_34 rfl rfl ?_
  refine v_get (z := 2) (pc' := 38) rfl dX10_keep_35 fk_RX10_217 ly_0 rfl (hS) ?_
  refine v_aald (r := 39) (pc' := 39) rfl dX10_keep_38 ly_6 (by omega) (rfl) rfl ?_
  refine v_aload_n 0 (pc' := 40) rfl dX10_keep_39 rfl rfl ?_
  refine v_getR (pc' := 43) rfl dX10_keep_40 fk_RX10_16 ly_0 rfl ?_
  refine v_cVv (pc' := 46) rfl dX10_keep_43 lk_RX10_384 ly_39 rfl (c_become_39_2 l G w) rfl rfl rfl (fun become1 w1 hq1 => ?_)
  have hS1 : w1 0 5 = 2 := (hq1.2.2 0 5 rfl).trans hS
  refine v_aload_n 0 (pc' := 47) rfl dX10_keep_46 rfl rfl ?_
  refine v_dupR (pc' := 48) rfl dX10_keep_47 ?_
  refine v_get (z := 2) (pc' := 51) rfl dX10_keep_48 fk_RX10_217 ly_0 rfl (hS1) ?_
  refine v_iconst (pc' := 52) rfl dX10_keep_51 ?_
  refine v_iadd (pc' := 53) rfl dX10_keep_52 ?_
  refine v_put (pc' := 56) rfl dX10_keep_53 fi_RX10_217 ly_0 rfl ?_
  refine v_nmw (fun w2 hw2 => ?_)
  have F0_5 : w2 0 5 = (2 + 1) := by rw [hw2, up_eq]
  refine v_aload_n 0 (pc' := 57) rfl dX10_keep_56 rfl rfl ?_
  refine v_get (z := (2 + 1)) (pc' := 60) rfl dX10_keep_57 fk_RX10_217 ly_0 rfl (F0_5) ?_
  refine v_iret dX10_keep_60 (by decide) (rfl) ?_
  exact ⟨rfl, w1, hq1, hw2⟩
set_option maxHeartbeats 4000000 in
set_option maxRecDepth 100000 in
theorem c_undo_2 (l : Launch) (G : Gx)  (w : Wd) (hS : w 0 5 = 3) : Sp l G 1 mX10_undo [aR 0] w (fun z w' => z = 2 ∧ ∃ w1, w1 = up w 0 5 2 ∧ Cpy w1 w' 2 39) := by
  refine Sp_of RX10 rfl (by decide +kernel) rfl (Nat.le_of_ble_eq_true rfl) ?_
  refine v_aload_n 0 (pc' := 1) rfl dX10_undo_0 rfl rfl ?_
  refine v_get (z := 3) (pc' := 4) rfl dX10_undo_1 fk_RX10_217 ly_0 rfl (hS) ?_
  refine v_iconst (pc' := 5) rfl dX10_undo_4 ?_
  refine v_icmp_lt (pc' := 8) (tgt := 31) rfl dX10_undo_5 (by decide) (by omega) (by omega) (fun c0 => absurd c0 (by omega)) (fun c0 => ?_)
  refine v_aload_n 0 (pc' := 9) rfl dX10_undo_8 rfl rfl ?_
  refine v_get (z := 3) (pc' := 12) rfl dX10_undo_9 fk_RX10_217 ly_0 rfl (hS) ?_
  refine v_bipush (pc' := 14) rfl dX10_undo_12 rfl ?_
  refine v_icmp_gt (pc' := 17) (tgt := 31) rfl dX10_undo_14 (by decide) (by omega) (by omega) (fun c1 => absurd c1 (by omega)) (fun c1 => ?_)
  refine v_aload_n 0 (pc' := 18) rfl dX10_undo_17 rfl rfl ?_
  refine v_getR (pc' := 21) rfl dX10_undo_18 fk_RX10_20 ly_0 rfl ?_
  refine v_aload_n 0 (pc' := 22) rfl dX10_undo_21 rfl rfl ?_
  refine v_get (z := 3) (pc' := 25) rfl dX10_undo_22 fk_RX10_217 ly_0 rfl (hS) ?_
  refine v_iconst (pc' := 26) rfl dX10_undo_25 ?_
  refine v_isub (pc' := 27) rfl dX10_undo_26 ?_
  refine v_aald (r := 39) (pc' := 28) rfl dX10_undo_27 ly_6 (by omega) (rfl) rfl ?_
  refine v_ifnonnull (tgt := 33) dX10_undo_28 (by decide) ?_
  refine v_aload_n 0 (pc' := 34) rfl dX10_undo_33 rfl rfl ?_
  refine v_dupR (pc' := 35) rfl dX10_undo_34 ?_
  refine v_get (z := 3) (pc' := 38) rfl dX10_undo_35 fk_RX10_217 ly_0 rfl (hS) ?_
  refine v_iconst (pc' := 39) rfl dX10_undo_38 ?_
  refine v_isub (pc' := 40) rfl dX10_undo_39 ?_
  refine v_put (pc' := 43) rfl dX10_undo_40 fi_RX10_217 ly_0 rfl ?_
  refine v_nmw (fun w1 hw1 => ?_)
  have F0_5 : w1 0 5 = (3 - 1) := by rw [hw1, up_eq]
  refine v_aload_n 0 (pc' := 44) rfl dX10_undo_43 rfl rfl ?_
  refine v_getR (pc' := 47) rfl dX10_undo_44 fk_RX10_16 ly_0 rfl ?_
  refine v_aload_n 0 (pc' := 48) rfl dX10_undo_47 rfl rfl ?_
  refine v_getR (pc' := 51) rfl dX10_undo_48 fk_RX10_20 ly_0 rfl ?_
  refine v_aload_n 0 (pc' := 52) rfl dX10_undo_51 rfl rfl ?_
  refine v_get (z := (3 - 1)) (pc' := 55) rfl dX10_undo_52 fk_RX10_217 ly_0 rfl (F0_5) ?_
  refine v_aald (r := 39) (pc' := 56) rfl dX10_undo_55 ly_6 (by omega) (rfl) rfl ?_
  refine v_cVv (pc' := 59) rfl dX10_undo_56 lk_RX10_384 ly_2 rfl (c_become_2_39 l G w1) rfl rfl rfl (fun become1 w2 hq2 => ?_)
  have hS1 : w2 0 5 = 2 := (hq2.2.2 0 5 rfl).trans F0_5
  refine v_aload_n 0 (pc' := 60) rfl dX10_undo_59 rfl rfl ?_
  refine v_get (z := 2) (pc' := 63) rfl dX10_undo_60 fk_RX10_217 ly_0 rfl (hS1) ?_
  refine v_iret dX10_undo_63 (by decide) (rfl) ?_
  exact ⟨rfl, w1, hw1, hq2⟩
set_option maxHeartbeats 4000000 in
set_option maxRecDepth 100000 in
theorem c_keep_3 (l : Launch) (G : Gx)  (w : Wd) (hS : w 0 5 = 3) : Sp l G 1 mX10_keep [aR 0] w (fun z w' => z = 4 ∧ ∃ w1, Cpy w w1 43 2 ∧ w' = up w1 0 5 4) := by
  refine Sp_of RX10 rfl (by decide +kernel) rfl (Nat.le_of_ble_eq_true rfl) ?_
  refine v_aload_n 0 (pc' := 1) rfl dX10_keep_0 rfl rfl ?_
  refine v_get (z := 3) (pc' := 4) rfl dX10_keep_1 fk_RX10_217 ly_0 rfl (hS) ?_
  refine v_if_lt (pc' := 7) (tgt := 28) rfl dX10_keep_4 (by decide) (by omega) (fun c0 => absurd c0 (by omega)) (fun c0 => ?_)
  refine v_aload_n 0 (pc' := 8) rfl dX10_keep_7 rfl rfl ?_
  refine v_get (z := 3) (pc' := 11) rfl dX10_keep_8 fk_RX10_217 ly_0 rfl (hS) ?_
  refine v_bipush (pc' := 13) rfl dX10_keep_11 rfl ?_
  refine v_icmp_ge (pc' := 16) (tgt := 28) rfl dX10_keep_13 (by decide) (by omega) (by omega) (fun c1 => absurd c1 (by omega)) (fun c1 => ?_)
  refine v_aload_n 0 (pc' := 17) rfl dX10_keep_16 rfl rfl ?_
  refine v_getR (pc' := 20) rfl dX10_keep_17 fk_RX10_20 ly_0 rfl ?_
  refine v_aload_n 0 (pc' := 21) rfl dX10_keep_20 rfl rfl ?_
  refine v_get (z := 3) (pc' := 24) rfl dX10_keep_21 fk_RX10_217 ly_0 rfl (hS) ?_
  refine v_aald (r := 43) (pc' := 25) rfl dX10_keep_24 ly_6 (by omega) (rfl) rfl ?_
  refine v_ifnonnull (tgt := 30) dX10_keep_25 (by decide) ?_
  refine v_aload_n 0 (pc' := 31) rfl dX10_keep_30 rfl rfl ?_
  refine v_getR (pc' := 34) rfl dX10_keep_31 fk_RX10_20 ly_0 rfl ?_
  refine v_aload_n 0 (pc' := 35) rfl dX10_keep_34 rfl rfl ?_
  refine v_get (z := 3) (pc' := 38) rfl dX10_keep_35 fk_RX10_217 ly_0 rfl (hS) ?_
  refine v_aald (r := 43) (pc' := 39) rfl dX10_keep_38 ly_6 (by omega) (rfl) rfl ?_
  refine v_aload_n 0 (pc' := 40) rfl dX10_keep_39 rfl rfl ?_
  refine v_getR (pc' := 43) rfl dX10_keep_40 fk_RX10_16 ly_0 rfl ?_
  refine v_cVv (pc' := 46) rfl dX10_keep_43 lk_RX10_384 ly_43 rfl (c_become_43_2 l G w) rfl rfl rfl (fun become1 w1 hq1 => ?_)
  have hS1 : w1 0 5 = 3 := (hq1.2.2 0 5 rfl).trans hS
  refine v_aload_n 0 (pc' := 47) rfl dX10_keep_46 rfl rfl ?_
  refine v_dupR (pc' := 48) rfl dX10_keep_47 ?_
  refine v_get (z := 3) (pc' := 51) rfl dX10_keep_48 fk_RX10_217 ly_0 rfl (hS1) ?_
  refine v_iconst (pc' := 52) rfl dX10_keep_51 ?_
  refine v_iadd (pc' := 53) rfl dX10_keep_52 ?_
  refine v_put (pc' := 56) rfl dX10_keep_53 fi_RX10_217 ly_0 rfl ?_
  refine v_nmw (fun w2 hw2 => ?_)
  have F0_5 : w2 0 5 = (3 + 1) := by rw [hw2, up_eq]
  refine v_aload_n 0 (pc' := 57) rfl dX10_keep_56 rfl rfl ?_
  refine v_get (z := (3 + 1)) (pc' := 60) rfl dX10_keep_57 fk_RX10_217 ly_0 rfl (F0_5) ?_
  refine v_iret dX10_keep_60 (by decide) (rfl) ?_
  exact ⟨rfl, w1, hq1, hw2⟩
set_option maxHeartbeats 4000000 in
set_option maxRecDepth 100000 in
theorem c_undo_3 (l : Launch) (G : Gx)  (w : Wd) (hS : w 0 5 = 4) : Sp l G 1 mX10_undo [aR 0] w (fun z w' => z = 3 ∧ ∃ w1, w1 = up w 0 5 3 ∧ Cpy w1 w' 2 43) := by
  refine Sp_of RX10 rfl (by decide +kernel) rfl (Nat.le_of_ble_eq_true rfl) ?_
  refine v_aload_n 0 (pc' := 1) rfl dX10_undo_0 rfl rfl ?_
  refine v_get (z := 4) (pc' := 4) rfl dX10_undo_1 fk_RX10_217 ly_0 rfl (hS) ?_
  refine v_iconst (pc' := 5) rfl dX10_undo_4 ?_
  refine v_icmp_lt (pc' := 8) (tgt := 31) rfl dX10_undo_5 (by decide) (by omega) (by omega) (fun c0 => absurd c0 (by omega)) (fun c0 => ?_)
  refine v_aload_n 0 (pc' := 9) rfl dX10_undo_8 rfl rfl ?_
  refine v_get (z := 4) (pc' := 12) rfl dX10_undo_9 fk_RX10_217 ly_0 rfl (hS) ?_
  refine v_bipush (pc' := 14) rfl dX10_undo_12 rfl ?_
  refine v_icmp_gt (pc' := 17) (tgt := 31) rfl dX10_undo_14 (by decide) (by omega) (by omega) (fun c1 => absurd c1 (by omega)) (fun c1 => ?_)
  refine v_aload_n 0 (pc' := 18) rfl dX10_undo_17 rfl rfl ?_
  refine v_getR (pc' := 21) rfl dX10_undo_18 fk_RX10_20 ly_0 rfl ?_
  refine v_aload_n 0 (pc' := 22) rfl dX10_undo_21 rfl rfl ?_
  refine v_get (z := 4) (pc' := 25) rfl dX10_undo_22 fk_RX10_217 ly_0 rfl (hS) ?_
  refine v_iconst (pc' := 26) rfl dX10_undo_25 ?_
  refine v_isub (pc' := 27) rfl dX10_undo_26 ?_
  refine v_aald (r := 43) (pc' := 28) rfl dX10_undo_27 ly_6 (by omega) (rfl) rfl ?_
  refine v_ifnonnull (tgt := 33) dX10_undo_28 (by decide) ?_
  refine v_aload_n 0 (pc' := 34) rfl dX10_undo_33 rfl rfl ?_
  refine v_dupR (pc' := 35) rfl dX10_undo_34 ?_
  refine v_get (z := 4) (pc' := 38) rfl dX10_undo_35 fk_RX10_217 ly_0 rfl (hS) ?_
  refine v_iconst (pc' := 39) rfl dX10_undo_38 ?_
  refine v_isub (pc' := 40) rfl dX10_undo_39 ?_
  refine v_put (pc' := 43) rfl dX10_undo_40 fi_RX10_217 ly_0 rfl ?_
  refine v_nmw (fun w1 hw1 => ?_)
  have F0_5 : w1 0 5 = (4 - 1) := by rw [hw1, up_eq]
  refine v_aload_n 0 (pc' := 44) rfl dX10_undo_43 rfl rfl ?_
  refine v_getR (pc' := 47) rfl dX10_undo_44 fk_RX10_16 ly_0 rfl ?_
  refine v_aload_n 0 (pc' := 48) rfl dX10_undo_47 rfl rfl ?_
  refine v_getR (pc' := 51) rfl dX10_undo_48 fk_RX10_20 ly_0 rfl ?_
  refine v_aload_n 0 (pc' := 52) rfl dX10_undo_51 rfl rfl ?_
  refine v_get (z := (4 - 1)) (pc' := 55) rfl dX10_undo_52 fk_RX10_217 ly_0 rfl (F0_5) ?_
  refine v_aald (r := 43) (pc' := 56) rfl dX10_undo_55 ly_6 (by omega) (rfl) rfl ?_
  refine v_cVv (pc' := 59) rfl dX10_undo_56 lk_RX10_384 ly_2 rfl (c_become_2_43 l G w1) rfl rfl rfl (fun become1 w2 hq2 => ?_)
  have hS1 : w2 0 5 = 3 := (hq2.2.2 0 5 rfl).trans F0_5
  refine v_aload_n 0 (pc' := 60) rfl dX10_undo_59 rfl rfl ?_
  refine v_get (z := 3) (pc' := 63) rfl dX10_undo_60 fk_RX10_217 ly_0 rfl (hS1) ?_
  refine v_iret dX10_undo_63 (by decide) (rfl) ?_
  exact ⟨rfl, w1, hw1, hq2⟩
set_option maxHeartbeats 4000000 in
set_option maxRecDepth 100000 in
theorem c_keep_4 (l : Launch) (G : Gx)  (w : Wd) (hS : w 0 5 = 4) : Sp l G 1 mX10_keep [aR 0] w (fun z w' => z = 5 ∧ ∃ w1, Cpy w w1 47 2 ∧ w' = up w1 0 5 5) := by
  refine Sp_of RX10 rfl (by decide +kernel) rfl (Nat.le_of_ble_eq_true rfl) ?_
  refine v_aload_n 0 (pc' := 1) rfl dX10_keep_0 rfl rfl ?_
  refine v_get (z := 4) (pc' := 4) rfl dX10_keep_1 fk_RX10_217 ly_0 rfl (hS) ?_
  refine v_if_lt (pc' := 7) (tgt := 28) rfl dX10_keep_4 (by decide) (by omega) (fun c0 => absurd c0 (by omega)) (fun c0 => ?_)
  refine v_aload_n 0 (pc' := 8) rfl dX10_keep_7 rfl rfl ?_
  refine v_get (z := 4) (pc' := 11) rfl dX10_keep_8 fk_RX10_217 ly_0 rfl (hS) ?_
  refine v_bipush (pc' := 13) rfl dX10_keep_11 rfl ?_
  refine v_icmp_ge (pc' := 16) (tgt := 28) rfl dX10_keep_13 (by decide) (by omega) (by omega) (fun c1 => absurd c1 (by omega)) (fun c1 => ?_)
  refine v_aload_n 0 (pc' := 17) rfl dX10_keep_16 rfl rfl ?_
  refine v_getR (pc' := 20) rfl dX10_keep_17 fk_RX10_20 ly_0 rfl ?_
  refine v_aload_n 0 (pc' := 21) rfl dX10_keep_20 rfl rfl ?_
  refine v_get (z := 4) (pc' := 24) rfl dX10_keep_21 fk_RX10_217 ly_0 rfl (hS) ?_
  refine v_aald (r := 47) (pc' := 25) rfl dX10_keep_24 ly_6 (by omega) (rfl) rfl ?_
  refine v_ifnonnull (tgt := 30) dX10_keep_25 (by decide) ?_
  refine v_aload_n 0 (pc' := 31) rfl dX10_keep_30 rfl rfl ?_
  refine v_getR (pc' := 34) rfl dX10_keep_31 fk_RX10_20 ly_0 rfl ?_
  refine v_aload_n 0 (pc' := 35) rfl dX10_keep_34 rfl rfl ?_
  refine v_get (z := 4) (pc' := 38) rfl dX10_keep_35 fk_RX10_217 ly_0 rfl (hS) ?_
  refine v_aald (r := 47) (pc' := 39) rfl dX10_keep_38 ly_6 (by omega) (rfl) rfl ?_
  refine v_aload_n 0 (pc' := 40) rfl dX10_keep_39 rfl rfl ?_
  refine v_getR (pc' := 43) rfl dX10_keep_40 fk_RX10_16 ly_0 rfl ?_
  refine v_cVv (pc' := 46) rfl dX10_keep_43 lk_RX10_384 ly_47 rfl (c_become_47_2 l G w) rfl rfl rfl (fun become1 w1 hq1 => ?_)
  have hS1 : w1 0 5 = 4 := (hq1.2.2 0 5 rfl).trans hS
  refine v_aload_n 0 (pc' := 47) rfl dX10_keep_46 rfl rfl ?_
  refine v_dupR (pc' := 48) rfl dX10_keep_47 ?_
  refine v_get (z := 4) (pc' := 51) rfl dX10_keep_48 fk_RX10_217 ly_0 rfl (hS1) ?_
  refine v_iconst (pc' := 52) rfl dX10_keep_51 ?_
  refine v_iadd (pc' := 53) rfl dX10_keep_52 ?_
  refine v_put (pc' := 56) rfl dX10_keep_53 fi_RX10_217 ly_0 rfl ?_
  refine v_nmw (fun w2 hw2 => ?_)
  have F0_5 : w2 0 5 = (4 + 1) := by rw [hw2, up_eq]
  refine v_aload_n 0 (pc' := 57) rfl dX10_keep_56 rfl rfl ?_
  refine v_get (z := (4 + 1)) (pc' := 60) rfl dX10_keep_57 fk_RX10_217 ly_0 rfl (F0_5) ?_
  refine v_iret dX10_keep_60 (by decide) (rfl) ?_
  exact ⟨rfl, w1, hq1, hw2⟩
set_option maxHeartbeats 4000000 in
set_option maxRecDepth 100000 in
theorem c_undo_4 (l : Launch) (G : Gx)  (w : Wd) (hS : w 0 5 = 5) : Sp l G 1 mX10_undo [aR 0] w (fun z w' => z = 4 ∧ ∃ w1, w1 = up w 0 5 4 ∧ Cpy w1 w' 2 47) := by
  refine Sp_of RX10 rfl (by decide +kernel) rfl (Nat.le_of_ble_eq_true rfl) ?_
  refine v_aload_n 0 (pc' := 1) rfl dX10_undo_0 rfl rfl ?_
  refine v_get (z := 5) (pc' := 4) rfl dX10_undo_1 fk_RX10_217 ly_0 rfl (hS) ?_
  refine v_iconst (pc' := 5) rfl dX10_undo_4 ?_
  refine v_icmp_lt (pc' := 8) (tgt := 31) rfl dX10_undo_5 (by decide) (by omega) (by omega) (fun c0 => absurd c0 (by omega)) (fun c0 => ?_)
  refine v_aload_n 0 (pc' := 9) rfl dX10_undo_8 rfl rfl ?_
  refine v_get (z := 5) (pc' := 12) rfl dX10_undo_9 fk_RX10_217 ly_0 rfl (hS) ?_
  refine v_bipush (pc' := 14) rfl dX10_undo_12 rfl ?_
  refine v_icmp_gt (pc' := 17) (tgt := 31) rfl dX10_undo_14 (by decide) (by omega) (by omega) (fun c1 => absurd c1 (by omega)) (fun c1 => ?_)
  refine v_aload_n 0 (pc' := 18) rfl dX10_undo_17 rfl rfl ?_
  refine v_getR (pc' := 21) rfl dX10_undo_18 fk_RX10_20 ly_0 rfl ?_
  refine v_aload_n 0 (pc' := 22) rfl dX10_undo_21 rfl rfl ?_
  refine v_get (z := 5) (pc' := 25) rfl dX10_undo_22 fk_RX10_217 ly_0 rfl (hS) ?_
  refine v_iconst (pc' := 26) rfl dX10_undo_25 ?_
  refine v_isub (pc' := 27) rfl dX10_undo_26 ?_
  refine v_aald (r := 47) (pc' := 28) rfl dX10_undo_27 ly_6 (by omega) (rfl) rfl ?_
  refine v_ifnonnull (tgt := 33) dX10_undo_28 (by decide) ?_
  refine v_aload_n 0 (pc' := 34) rfl dX10_undo_33 rfl rfl ?_
  refine v_dupR (pc' := 35) rfl dX10_undo_34 ?_
  refine v_get (z := 5) (pc' := 38) rfl dX10_undo_35 fk_RX10_217 ly_0 rfl (hS) ?_
  refine v_iconst (pc' := 39) rfl dX10_undo_38 ?_
  refine v_isub (pc' := 40) rfl dX10_undo_39 ?_
  refine v_put (pc' := 43) rfl dX10_undo_40 fi_RX10_217 ly_0 rfl ?_
  refine v_nmw (fun w1 hw1 => ?_)
  have F0_5 : w1 0 5 = (5 - 1) := by rw [hw1, up_eq]
  refine v_aload_n 0 (pc' := 44) rfl dX10_undo_43 rfl rfl ?_
  refine v_getR (pc' := 47) rfl dX10_undo_44 fk_RX10_16 ly_0 rfl ?_
  refine v_aload_n 0 (pc' := 48) rfl dX10_undo_47 rfl rfl ?_
  refine v_getR (pc' := 51) rfl dX10_undo_48 fk_RX10_20 ly_0 rfl ?_
  refine v_aload_n 0 (pc' := 52) rfl dX10_undo_51 rfl rfl ?_
  refine v_get (z := (5 - 1)) (pc' := 55) rfl dX10_undo_52 fk_RX10_217 ly_0 rfl (F0_5) ?_
  refine v_aald (r := 47) (pc' := 56) rfl dX10_undo_55 ly_6 (by omega) (rfl) rfl ?_
  refine v_cVv (pc' := 59) rfl dX10_undo_56 lk_RX10_384 ly_2 rfl (c_become_2_47 l G w1) rfl rfl rfl (fun become1 w2 hq2 => ?_)
  have hS1 : w2 0 5 = 4 := (hq2.2.2 0 5 rfl).trans F0_5
  refine v_aload_n 0 (pc' := 60) rfl dX10_undo_59 rfl rfl ?_
  refine v_get (z := 4) (pc' := 63) rfl dX10_undo_60 fk_RX10_217 ly_0 rfl (hS1) ?_
  refine v_iret dX10_undo_63 (by decide) (rfl) ?_
  exact ⟨rfl, w1, hw1, hq2⟩
set_option maxHeartbeats 4000000 in
set_option maxRecDepth 100000 in
theorem c_keep_5 (l : Launch) (G : Gx)  (w : Wd) (hS : w 0 5 = 5) : Sp l G 1 mX10_keep [aR 0] w (fun z w' => z = 6 ∧ ∃ w1, Cpy w w1 51 2 ∧ w' = up w1 0 5 6) := by
  refine Sp_of RX10 rfl (by decide +kernel) rfl (Nat.le_of_ble_eq_true rfl) ?_
  refine v_aload_n 0 (pc' := 1) rfl dX10_keep_0 rfl rfl ?_
  refine v_get (z := 5) (pc' := 4) rfl dX10_keep_1 fk_RX10_217 ly_0 rfl (hS) ?_
  refine v_if_lt (pc' := 7) (tgt := 28) rfl dX10_keep_4 (by decide) (by omega) (fun c0 => absurd c0 (by omega)) (fun c0 => ?_)
  refine v_aload_n 0 (pc' := 8) rfl dX10_keep_7 rfl rfl ?_
  refine v_get (z := 5) (pc' := 11) rfl dX10_keep_8 fk_RX10_217 ly_0 rfl (hS) ?_
  refine v_bipush (pc' := 13) rfl dX10_keep_11 rfl ?_
  refine v_icmp_ge (pc' := 16) (tgt := 28) rfl dX10_keep_13 (by decide) (by omega) (by omega) (fun c1 => absurd c1 (by omega)) (fun c1 => ?_)
  refine v_aload_n 0 (pc' := 17) rfl dX10_keep_16 rfl rfl ?_
  refine v_getR (pc' := 20) rfl dX10_keep_17 fk_RX10_20 ly_0 rfl ?_
  refine v_aload_n 0 (pc' := 21) rfl dX10_keep_20 rfl rfl ?_
  refine v_get (z := 5) (pc' := 24) rfl dX10_keep_21 fk_RX10_217 ly_0 rfl (hS) ?_
  refine v_aald (r := 51) (pc' := 25) rfl dX10_keep_24 ly_6 (by omega) (rfl) rfl ?_
  refine v_ifnonnull (tgt := 30) dX10_keep_25 (by decide) ?_
  refine v_aload_n 0 (pc' := 31) rfl dX10_keep_30 rfl rfl ?_
  refine v_getR (pc' := 34) rfl dX10_keep_31 fk_RX10_20 ly_0 rfl ?_
  refine v_aload_n 0 (pc' := 35) rfl dX10_keep_34 rfl rfl ?_
  refine v_get (z := 5) (pc' := 38) rfl dX10_keep_35 fk_RX10_217 ly_0 rfl (hS) ?_
  refine v_aald (r := 51) (pc' := 39) rfl dX10_keep_38 ly_6 (by omega) (rfl) rfl ?_
  refine v_aload_n 0 (pc' := 40) rfl dX10_keep_39 rfl rfl ?_
  refine v_getR (pc' := 43) rfl dX10_keep_40 fk_RX10_16 ly_0 rfl ?_
  refine v_cVv (pc' := 46) rfl dX10_keep_43 lk_RX10_384 ly_51 rfl (c_become_51_2 l G w) rfl rfl rfl (fun become1 w1 hq1 => ?_)
  have hS1 : w1 0 5 = 5 := (hq1.2.2 0 5 rfl).trans hS
  refine v_aload_n 0 (pc' := 47) rfl dX10_keep_46 rfl rfl ?_
  refine v_dupR (pc' := 48) rfl dX10_keep_47 ?_
  refine v_get (z := 5) (pc' := 51) rfl dX10_keep_48 fk_RX10_217 ly_0 rfl (hS1) ?_
  refine v_iconst (pc' := 52) rfl dX10_keep_51 ?_
  refine v_iadd (pc' := 53) rfl dX10_keep_52 ?_
  refine v_put (pc' := 56) rfl dX10_keep_53 fi_RX10_217 ly_0 rfl ?_
  refine v_nmw (fun w2 hw2 => ?_)
  have F0_5 : w2 0 5 = (5 + 1) := by rw [hw2, up_eq]
  refine v_aload_n 0 (pc' := 57) rfl dX10_keep_56 rfl rfl ?_
  refine v_get (z := (5 + 1)) (pc' := 60) rfl dX10_keep_57 fk_RX10_217 ly_0 rfl (F0_5) ?_
  refine v_iret dX10_keep_60 (by decide) (rfl) ?_
  exact ⟨rfl, w1, hq1, hw2⟩
set_option maxHeartbeats 4000000 in
set_option maxRecDepth 100000 in
theorem c_undo_5 (l : Launch) (G : Gx)  (w : Wd) (hS : w 0 5 = 6) : Sp l G 1 mX10_undo [aR 0] w (fun z w' => z = 5 ∧ ∃ w1, w1 = up w 0 5 5 ∧ Cpy w1 w' 2 51) := by
  refine Sp_of RX10 rfl (by decide +kernel) rfl (Nat.le_of_ble_eq_true rfl) ?_
  refine v_aload_n 0 (pc' := 1) rfl dX10_undo_0 rfl rfl ?_
  refine v_get (z := 6) (pc' := 4) rfl dX10_undo_1 fk_RX10_217 ly_0 rfl (hS) ?_
  refine v_iconst (pc' := 5) rfl dX10_undo_4 ?_
  refine v_icmp_lt (pc' := 8) (tgt := 31) rfl dX10_undo_5 (by decide) (by omega) (by omega) (fun c0 => absurd c0 (by omega)) (fun c0 => ?_)
  refine v_aload_n 0 (pc' := 9) rfl dX10_undo_8 rfl rfl ?_
  refine v_get (z := 6) (pc' := 12) rfl dX10_undo_9 fk_RX10_217 ly_0 rfl (hS) ?_
  refine v_bipush (pc' := 14) rfl dX10_undo_12 rfl ?_
  refine v_icmp_gt (pc' := 17) (tgt := 31) rfl dX10_undo_14 (by decide) (by omega) (by omega) (fun c1 => absurd c1 (by omega)) (fun c1 => ?_)
  refine v_aload_n 0 (pc' := 18) rfl dX10_undo_17 rfl rfl ?_
  refine v_getR (pc' := 21) rfl dX10_undo_18 fk_RX10_20 ly_0 rfl ?_
  refine v_aload_n 0 (pc' := 22) rfl dX10_undo_21 rfl rfl ?_
  refine v_get (z := 6) (pc' := 25) rfl dX10_undo_22 fk_RX10_217 ly_0 rfl (hS) ?_
  refine v_iconst (pc' := 26) rfl dX10_undo_25 ?_
  refine v_isub (pc' := 27) rfl dX10_undo_26 ?_
  refine v_aald (r := 51) (pc' := 28) rfl dX10_undo_27 ly_6 (by omega) (rfl) rfl ?_
  refine v_ifnonnull (tgt := 33) dX10_undo_28 (by decide) ?_
  refine v_aload_n 0 (pc' := 34) rfl dX10_undo_33 rfl rfl ?_
  refine v_dupR (pc' := 35) rfl dX10_undo_34 ?_
  refine v_get (z := 6) (pc' := 38) rfl dX10_undo_35 fk_RX10_217 ly_0 rfl (hS) ?_
  refine v_iconst (pc' := 39) rfl dX10_undo_38 ?_
  refine v_isub (pc' := 40) rfl dX10_undo_39 ?_
  refine v_put (pc' := 43) rfl dX10_undo_40 fi_RX10_217 ly_0 rfl ?_
  refine v_nmw (fun w1 hw1 => ?_)
  have F0_5 : w1 0 5 = (6 - 1) := by rw [hw1, up_eq]
  refine v_aload_n 0 (pc' := 44) rfl dX10_undo_43 rfl rfl ?_
  refine v_getR (pc' := 47) rfl dX10_undo_44 fk_RX10_16 ly_0 rfl ?_
  refine v_aload_n 0 (pc' := 48) rfl dX10_undo_47 rfl rfl ?_
  refine v_getR (pc' := 51) rfl dX10_undo_48 fk_RX10_20 ly_0 rfl ?_
  refine v_aload_n 0 (pc' := 52) rfl dX10_undo_51 rfl rfl ?_
  refine v_get (z := (6 - 1)) (pc' := 55) rfl dX10_undo_52 fk_RX10_217 ly_0 rfl (F0_5) ?_
  refine v_aald (r := 51) (pc' := 56) rfl dX10_undo_55 ly_6 (by omega) (rfl) rfl ?_
  refine v_cVv (pc' := 59) rfl dX10_undo_56 lk_RX10_384 ly_2 rfl (c_become_2_51 l G w1) rfl rfl rfl (fun become1 w2 hq2 => ?_)
  have hS1 : w2 0 5 = 5 := (hq2.2.2 0 5 rfl).trans F0_5
  refine v_aload_n 0 (pc' := 60) rfl dX10_undo_59 rfl rfl ?_
  refine v_get (z := 5) (pc' := 63) rfl dX10_undo_60 fk_RX10_217 ly_0 rfl (hS1) ?_
  refine v_iret dX10_undo_63 (by decide) (rfl) ?_
  exact ⟨rfl, w1, hw1, hq2⟩
set_option maxHeartbeats 4000000 in
set_option maxRecDepth 100000 in
theorem c_keep_6 (l : Launch) (G : Gx)  (w : Wd) (hS : w 0 5 = 6) : Sp l G 1 mX10_keep [aR 0] w (fun z w' => z = 7 ∧ ∃ w1, Cpy w w1 55 2 ∧ w' = up w1 0 5 7) := by
  refine Sp_of RX10 rfl (by decide +kernel) rfl (Nat.le_of_ble_eq_true rfl) ?_
  refine v_aload_n 0 (pc' := 1) rfl dX10_keep_0 rfl rfl ?_
  refine v_get (z := 6) (pc' := 4) rfl dX10_keep_1 fk_RX10_217 ly_0 rfl (hS) ?_
  refine v_if_lt (pc' := 7) (tgt := 28) rfl dX10_keep_4 (by decide) (by omega) (fun c0 => absurd c0 (by omega)) (fun c0 => ?_)
  refine v_aload_n 0 (pc' := 8) rfl dX10_keep_7 rfl rfl ?_
  refine v_get (z := 6) (pc' := 11) rfl dX10_keep_8 fk_RX10_217 ly_0 rfl (hS) ?_
  refine v_bipush (pc' := 13) rfl dX10_keep_11 rfl ?_
  refine v_icmp_ge (pc' := 16) (tgt := 28) rfl dX10_keep_13 (by decide) (by omega) (by omega) (fun c1 => absurd c1 (by omega)) (fun c1 => ?_)
  refine v_aload_n 0 (pc' := 17) rfl dX10_keep_16 rfl rfl ?_
  refine v_getR (pc' := 20) rfl dX10_keep_17 fk_RX10_20 ly_0 rfl ?_
  refine v_aload_n 0 (pc' := 21) rfl dX10_keep_20 rfl rfl ?_
  refine v_get (z := 6) (pc' := 24) rfl dX10_keep_21 fk_RX10_217 ly_0 rfl (hS) ?_
  refine v_aald (r := 55) (pc' := 25) rfl dX10_keep_24 ly_6 (by omega) (rfl) rfl ?_
  refine v_ifnonnull (tgt := 30) dX10_keep_25 (by decide) ?_
  refine v_aload_n 0 (pc' := 31) rfl dX10_keep_30 rfl rfl ?_
  refine v_getR (pc' := 34) rfl dX10_keep_31 fk_RX10_20 ly_0 rfl ?_
  refine v_aload_n 0 (pc' := 35) rfl dX10_keep_34 rfl rfl ?_
  refine v_get (z := 6) (pc' := 38) rfl dX10_keep_35 fk_RX10_217 ly_0 rfl (hS) ?_
  refine v_aald (r := 55) (pc' := 39) rfl dX10_keep_38 ly_6 (by omega) (rfl) rfl ?_
  refine v_aload_n 0 (pc' := 40) rfl dX10_keep_39 rfl rfl ?_
  refine v_getR (pc' := 43) rfl dX10_keep_40 fk_RX10_16 ly_0 rfl ?_
  refine v_cVv (pc' := 46) rfl dX10_keep_43 lk_RX10_384 ly_55 rfl (c_become_55_2 l G w) rfl rfl rfl (fun become1 w1 hq1 => ?_)
  have hS1 : w1 0 5 = 6 := (hq1.2.2 0 5 rfl).trans hS
  refine v_aload_n 0 (pc' := 47) rfl dX10_keep_46 rfl rfl ?_
  refine v_dupR (pc' := 48) rfl dX10_keep_47 ?_
  refine v_get (z := 6) (pc' := 51) rfl dX10_keep_48 fk_RX10_217 ly_0 rfl (hS1) ?_
  refine v_iconst (pc' := 52) rfl dX10_keep_51 ?_
  refine v_iadd (pc' := 53) rfl dX10_keep_52 ?_
  refine v_put (pc' := 56) rfl dX10_keep_53 fi_RX10_217 ly_0 rfl ?_
  refine v_nmw (fun w2 hw2 => ?_)
  have F0_5 : w2 0 5 = (6 + 1) := by rw [hw2, up_eq]
  refine v_aload_n 0 (pc' := 57) rfl dX10_keep_56 rfl rfl ?_
  refine v_get (z := (6 + 1)) (pc' := 60) rfl dX10_keep_57 fk_RX10_217 ly_0 rfl (F0_5) ?_
  refine v_iret dX10_keep_60 (by decide) (rfl) ?_
  exact ⟨rfl, w1, hq1, hw2⟩
set_option maxHeartbeats 4000000 in
set_option maxRecDepth 100000 in
theorem c_undo_6 (l : Launch) (G : Gx)  (w : Wd) (hS : w 0 5 = 7) : Sp l G 1 mX10_undo [aR 0] w (fun z w' => z = 6 ∧ ∃ w1, w1 = up w 0 5 6 ∧ Cpy w1 w' 2 55) := by
  refine Sp_of RX10 rfl (by decide +kernel) rfl (Nat.le_of_ble_eq_true rfl) ?_
  refine v_aload_n 0 (pc' := 1) rfl dX10_undo_0 rfl rfl ?_
  refine v_get (z := 7) (pc' := 4) rfl dX10_undo_1 fk_RX10_217 ly_0 rfl (hS) ?_
  refine v_iconst (pc' := 5) rfl dX10_undo_4 ?_
  refine v_icmp_lt (pc' := 8) (tgt := 31) rfl dX10_undo_5 (by decide) (by omega) (by omega) (fun c0 => absurd c0 (by omega)) (fun c0 => ?_)
  refine v_aload_n 0 (pc' := 9) rfl dX10_undo_8 rfl rfl ?_
  refine v_get (z := 7) (pc' := 12) rfl dX10_undo_9 fk_RX10_217 ly_0 rfl (hS) ?_
  refine v_bipush (pc' := 14) rfl dX10_undo_12 rfl ?_
  refine v_icmp_gt (pc' := 17) (tgt := 31) rfl dX10_undo_14 (by decide) (by omega) (by omega) (fun c1 => absurd c1 (by omega)) (fun c1 => ?_)
  refine v_aload_n 0 (pc' := 18) rfl dX10_undo_17 rfl rfl ?_
  refine v_getR (pc' := 21) rfl dX10_undo_18 fk_RX10_20 ly_0 rfl ?_
  refine v_aload_n 0 (pc' := 22) rfl dX10_undo_21 rfl rfl ?_
  refine v_get (z := 7) (pc' := 25) rfl dX10_undo_22 fk_RX10_217 ly_0 rfl (hS) ?_
  refine v_iconst (pc' := 26) rfl dX10_undo_25 ?_
  refine v_isub (pc' := 27) rfl dX10_undo_26 ?_
  refine v_aald (r := 55) (pc' := 28) rfl dX10_undo_27 ly_6 (by omega) (rfl) rfl ?_
  refine v_ifnonnull (tgt := 33) dX10_undo_28 (by decide) ?_
  refine v_aload_n 0 (pc' := 34) rfl dX10_undo_33 rfl rfl ?_
  refine v_dupR (pc' := 35) rfl dX10_undo_34 ?_
  refine v_get (z := 7) (pc' := 38) rfl dX10_undo_35 fk_RX10_217 ly_0 rfl (hS) ?_
  refine v_iconst (pc' := 39) rfl dX10_undo_38 ?_
  refine v_isub (pc' := 40) rfl dX10_undo_39 ?_
  refine v_put (pc' := 43) rfl dX10_undo_40 fi_RX10_217 ly_0 rfl ?_
  refine v_nmw (fun w1 hw1 => ?_)
  have F0_5 : w1 0 5 = (7 - 1) := by rw [hw1, up_eq]
  refine v_aload_n 0 (pc' := 44) rfl dX10_undo_43 rfl rfl ?_
  refine v_getR (pc' := 47) rfl dX10_undo_44 fk_RX10_16 ly_0 rfl ?_
  refine v_aload_n 0 (pc' := 48) rfl dX10_undo_47 rfl rfl ?_
  refine v_getR (pc' := 51) rfl dX10_undo_48 fk_RX10_20 ly_0 rfl ?_
  refine v_aload_n 0 (pc' := 52) rfl dX10_undo_51 rfl rfl ?_
  refine v_get (z := (7 - 1)) (pc' := 55) rfl dX10_undo_52 fk_RX10_217 ly_0 rfl (F0_5) ?_
  refine v_aald (r := 55) (pc' := 56) rfl dX10_undo_55 ly_6 (by omega) (rfl) rfl ?_
  refine v_cVv (pc' := 59) rfl dX10_undo_56 lk_RX10_384 ly_2 rfl (c_become_2_55 l G w1) rfl rfl rfl (fun become1 w2 hq2 => ?_)
  have hS1 : w2 0 5 = 6 := (hq2.2.2 0 5 rfl).trans F0_5
  refine v_aload_n 0 (pc' := 60) rfl dX10_undo_59 rfl rfl ?_
  refine v_get (z := 6) (pc' := 63) rfl dX10_undo_60 fk_RX10_217 ly_0 rfl (hS1) ?_
  refine v_iret dX10_undo_63 (by decide) (rfl) ?_
  exact ⟨rfl, w1, hw1, hq2⟩
set_option maxHeartbeats 4000000 in
set_option maxRecDepth 100000 in
theorem c_keep_7 (l : Launch) (G : Gx)  (w : Wd) (hS : w 0 5 = 7) : Sp l G 1 mX10_keep [aR 0] w (fun z w' => z = 8 ∧ ∃ w1, Cpy w w1 59 2 ∧ w' = up w1 0 5 8) := by
  refine Sp_of RX10 rfl (by decide +kernel) rfl (Nat.le_of_ble_eq_true rfl) ?_
  refine v_aload_n 0 (pc' := 1) rfl dX10_keep_0 rfl rfl ?_
  refine v_get (z := 7) (pc' := 4) rfl dX10_keep_1 fk_RX10_217 ly_0 rfl (hS) ?_
  refine v_if_lt (pc' := 7) (tgt := 28) rfl dX10_keep_4 (by decide) (by omega) (fun c0 => absurd c0 (by omega)) (fun c0 => ?_)
  refine v_aload_n 0 (pc' := 8) rfl dX10_keep_7 rfl rfl ?_
  refine v_get (z := 7) (pc' := 11) rfl dX10_keep_8 fk_RX10_217 ly_0 rfl (hS) ?_
  refine v_bipush (pc' := 13) rfl dX10_keep_11 rfl ?_
  refine v_icmp_ge (pc' := 16) (tgt := 28) rfl dX10_keep_13 (by decide) (by omega) (by omega) (fun c1 => absurd c1 (by omega)) (fun c1 => ?_)
  refine v_aload_n 0 (pc' := 17) rfl dX10_keep_16 rfl rfl ?_
  refine v_getR (pc' := 20) rfl dX10_keep_17 fk_RX10_20 ly_0 rfl ?_
  refine v_aload_n 0 (pc' := 21) rfl dX10_keep_20 rfl rfl ?_
  refine v_get (z := 7) (pc' := 24) rfl dX10_keep_21 fk_RX10_217 ly_0 rfl (hS) ?_
  refine v_aald (r := 59) (pc' := 25) rfl dX10_keep_24 ly_6 (by omega) (rfl) rfl ?_
  refine v_ifnonnull (tgt := 30) dX10_keep_25 (by decide) ?_
  refine v_aload_n 0 (pc' := 31) rfl dX10_keep_30 rfl rfl ?_
  refine v_getR (pc' := 34) rfl dX10_keep_31 fk_RX10_20 ly_0 rfl ?_
  refine v_aload_n 0 (pc' := 35) rfl dX10_keep_34 rfl rfl ?_
  refine v_get (z := 7) (pc' := 38) rfl dX10_keep_35 fk_RX10_217 ly_0 rfl (hS) ?_
  refine v_aald (r := 59) (pc' := 39) rfl dX10_keep_38 ly_6 (by omega) (rfl) rfl ?_
  refine v_aload_n 0 (pc' := 40) rfl dX10_keep_39 rfl rfl ?_
  refine v_getR (pc' := 43) rfl dX10_keep_40 fk_RX10_16 ly_0 rfl ?_
  refine v_cVv (pc' := 46) rfl dX10_keep_43 lk_RX10_384 ly_59 rfl (c_become_59_2 l G w) rfl rfl rfl (fun become1 w1 hq1 => ?_)
  have hS1 : w1 0 5 = 7 := (hq1.2.2 0 5 rfl).trans hS
  refine v_aload_n 0 (pc' := 47) rfl dX10_keep_46 rfl rfl ?_
  refine v_dupR (pc' := 48) rfl dX10_keep_47 ?_
  refine v_get (z := 7) (pc' := 51) rfl dX10_keep_48 fk_RX10_217 ly_0 rfl (hS1) ?_
  refine v_iconst (pc' := 52) rfl dX10_keep_51 ?_
  refine v_iadd (pc' := 53) rfl dX10_keep_52 ?_
  refine v_put (pc' := 56) rfl dX10_keep_53 fi_RX10_217 ly_0 rfl ?_
  refine v_nmw (fun w2 hw2 => ?_)
  have F0_5 : w2 0 5 = (7 + 1) := by rw [hw2, up_eq]
  refine v_aload_n 0 (pc' := 57) rfl dX10_keep_56 rfl rfl ?_
  refine v_get (z := (7 + 1)) (pc' := 60) rfl dX10_keep_57 fk_RX10_217 ly_0 rfl (F0_5) ?_
  refine v_iret dX10_keep_60 (by decide) (rfl) ?_
  exact ⟨rfl, w1, hq1, hw2⟩
set_option maxHeartbeats 4000000 in
set_option maxRecDepth 100000 in
theorem c_undo_7 (l : Launch) (G : Gx)  (w : Wd) (hS : w 0 5 = 8) : Sp l G 1 mX10_undo [aR 0] w (fun z w' => z = 7 ∧ ∃ w1, w1 = up w 0 5 7 ∧ Cpy w1 w' 2 59) := by
  refine Sp_of RX10 rfl (by decide +kernel) rfl (Nat.le_of_ble_eq_true rfl) ?_
  refine v_aload_n 0 (pc' := 1) rfl dX10_undo_0 rfl rfl ?_
  refine v_get (z := 8) (pc' := 4) rfl dX10_undo_1 fk_RX10_217 ly_0 rfl (hS) ?_
  refine v_iconst (pc' := 5) rfl dX10_undo_4 ?_
  refine v_icmp_lt (pc' := 8) (tgt := 31) rfl dX10_undo_5 (by decide) (by omega) (by omega) (fun c0 => absurd c0 (by omega)) (fun c0 => ?_)
  refine v_aload_n 0 (pc' := 9) rfl dX10_undo_8 rfl rfl ?_
  refine v_get (z := 8) (pc' := 12) rfl dX10_undo_9 fk_RX10_217 ly_0 rfl (hS) ?_
  refine v_bipush (pc' := 14) rfl dX10_undo_12 rfl ?_
  refine v_icmp_gt (pc' := 17) (tgt := 31) rfl dX10_undo_14 (by decide) (by omega) (by omega) (fun c1 => absurd c1 (by omega)) (fun c1 => ?_)
  refine v_aload_n 0 (pc' := 18) rfl dX10_undo_17 rfl rfl ?_
  refine v_getR (pc' := 21) rfl dX10_undo_18 fk_RX10_20 ly_0 rfl ?_
  refine v_aload_n 0 (pc' := 22) rfl dX10_undo_21 rfl rfl ?_
  refine v_get (z := 8) (pc' := 25) rfl dX10_undo_22 fk_RX10_217 ly_0 rfl (hS) ?_
  refine v_iconst (pc' := 26) rfl dX10_undo_25 ?_
  refine v_isub (pc' := 27) rfl dX10_undo_26 ?_
  refine v_aald (r := 59) (pc' := 28) rfl dX10_undo_27 ly_6 (by omega) (rfl) rfl ?_
  refine v_ifnonnull (tgt := 33) dX10_undo_28 (by decide) ?_
  refine v_aload_n 0 (pc' := 34) rfl dX10_undo_33 rfl rfl ?_
  refine v_dupR (pc' := 35) rfl dX10_undo_34 ?_
  refine v_get (z := 8) (pc' := 38) rfl dX10_undo_35 fk_RX10_217 ly_0 rfl (hS) ?_
  refine v_iconst (pc' := 39) rfl dX10_undo_38 ?_
  refine v_isub (pc' := 40) rfl dX10_undo_39 ?_
  refine v_put (pc' := 43) rfl dX10_undo_40 fi_RX10_217 ly_0 rfl ?_
  refine v_nmw (fun w1 hw1 => ?_)
  have F0_5 : w1 0 5 = (8 - 1) := by rw [hw1, up_eq]
  refine v_aload_n 0 (pc' := 44) rfl dX10_undo_43 rfl rfl ?_
  refine v_getR (pc' := 47) rfl dX10_undo_44 fk_RX10_16 ly_0 rfl ?_
  refine v_aload_n 0 (pc' := 48) rfl dX10_undo_47 rfl rfl ?_
  refine v_getR (pc' := 51) rfl dX10_undo_48 fk_RX10_20 ly_0 rfl ?_
  refine v_aload_n 0 (pc' := 52) rfl dX10_undo_51 rfl rfl ?_
  refine v_get (z := (8 - 1)) (pc' := 55) rfl dX10_undo_52 fk_RX10_217 ly_0 rfl (F0_5) ?_
  refine v_aald (r := 59) (pc' := 56) rfl dX10_undo_55 ly_6 (by omega) (rfl) rfl ?_
  refine v_cVv (pc' := 59) rfl dX10_undo_56 lk_RX10_384 ly_2 rfl (c_become_2_59 l G w1) rfl rfl rfl (fun become1 w2 hq2 => ?_)
  have hS1 : w2 0 5 = 7 := (hq2.2.2 0 5 rfl).trans F0_5
  refine v_aload_n 0 (pc' := 60) rfl dX10_undo_59 rfl rfl ?_
  refine v_get (z := 7) (pc' := 63) rfl dX10_undo_60 fk_RX10_217 ly_0 rfl (hS1) ?_
  refine v_iret dX10_undo_63 (by decide) (rfl) ?_
  exact ⟨rfl, w1, hw1, hq2⟩
set_option maxHeartbeats 4000000 in
set_option maxRecDepth 100000 in
theorem c_keep_8 (l : Launch) (G : Gx)  (w : Wd) (hS : w 0 5 = 8) : Sp l G 0 mX10_keep [aR 0] w (fun z w' => z = -1 ∧ w' = w) := by
  refine Sp_of RX10 rfl (by decide +kernel) rfl (Nat.le_of_ble_eq_true rfl) ?_
  refine v_aload_n 0 (pc' := 1) rfl dX10_keep_0 rfl rfl ?_
  refine v_get (z := 8) (pc' := 4) rfl dX10_keep_1 fk_RX10_217 ly_0 rfl (hS) ?_
  refine v_if_lt (pc' := 7) (tgt := 28) rfl dX10_keep_4 (by decide) (by omega) (fun c0 => absurd c0 (by omega)) (fun c0 => ?_)
  refine v_aload_n 0 (pc' := 8) rfl dX10_keep_7 rfl rfl ?_
  refine v_get (z := 8) (pc' := 11) rfl dX10_keep_8 fk_RX10_217 ly_0 rfl (hS) ?_
  refine v_bipush (pc' := 13) rfl dX10_keep_11 rfl ?_
  refine v_icmp_ge (pc' := 16) (tgt := 28) rfl dX10_keep_13 (by decide) (by omega) (by omega) (fun c1 => ?_) (fun c1 => absurd c1 (by omega))
  refine v_iconst (pc' := 29) rfl dX10_keep_28 ?_
  refine v_iret dX10_keep_29 (by decide) (rfl) ?_
  exact ⟨rfl, rfl⟩
set_option maxHeartbeats 4000000 in
set_option maxRecDepth 100000 in
theorem c_undo_8 (l : Launch) (G : Gx)  (w : Wd) (hS : w 0 5 = 0) : Sp l G 0 mX10_undo [aR 0] w (fun z w' => z = -1 ∧ w' = w) := by
  refine Sp_of RX10 rfl (by decide +kernel) rfl (Nat.le_of_ble_eq_true rfl) ?_
  refine v_aload_n 0 (pc' := 1) rfl dX10_undo_0 rfl rfl ?_
  refine v_get (z := 0) (pc' := 4) rfl dX10_undo_1 fk_RX10_217 ly_0 rfl (hS) ?_
  refine v_iconst (pc' := 5) rfl dX10_undo_4 ?_
  refine v_icmp_lt (pc' := 8) (tgt := 31) rfl dX10_undo_5 (by decide) (by omega) (by omega) (fun c0 => ?_) (fun c0 => absurd c0 (by omega))
  refine v_iconst (pc' := 32) rfl dX10_undo_31 ?_
  refine v_iret dX10_undo_32 (by decide) (rfl) ?_
  exact ⟨rfl, rfl⟩

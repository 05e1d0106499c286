theorem RD_0 {n : Nat} {p z : Int} (hn : n ≤ 7) (h : RD n p z) (hz : z = 0) : ∀ f, Pm n f → (cdk f n : Int) ≠ p := by
  rcases h with ⟨-, h⟩ | ⟨f, a, b, c⟩
  · exact h
  · have := hx_pos a hn; omega
theorem RD_1 {n : Nat} {p z : Int} (h : RD n p z) (hz : z ≠ 0) : ∃ f, Pm n f ∧ (cdk f n : Int) = p ∧ z = (hx f : Nat) := by
  rcases h with ⟨h, -⟩ | h
  · exact absurd h hz
  · exact h
theorem RD_r {n : Nat} {p z : Int} (hn : n ≤ 7) (h : RD n p z) : rg z := by
  rcases h with ⟨h, -⟩ | ⟨f, a, b, c⟩
  · omega
  · have := hx_pos a hn; omega
def rkI (n : Nat) (op : Int) (f g : Nat → Nat) : Int :=
  if op = 0 then (cdk (pcomp f g) n : Int) else if op = 1 then (cdk (pconj f g) n : Int)
  else if op = 2 then (cdk (pcomp (pcomp (pinv f) (pinv g)) (pcomp f g)) n : Int) else if op = 3 then (if commB f g 7 then 1 else 0) else -1
def RK (n : Nat) (op p q z : Int) : Prop := (z = -1 ∧ ¬ ∃ f g, Pm n f ∧ Pm n g ∧ (cdk f n : Int) = p ∧ (cdk g n : Int) = q) ∨
  ∃ f g, Pm n f ∧ Pm n g ∧ (cdk f n : Int) = p ∧ (cdk g n : Int) = q ∧ z = rkI n op f g
set_option maxHeartbeats 4000000 in
set_option maxRecDepth 100000 in
theorem c_reckon (l : Launch) (G : Gx) {op p q : Int} (ho : rg op) (hp : rg p) (hq : rg q) {n : Nat} {s a : Nat → Nat} (hV : MapV n s a) (w : Wd) (hM : MapW w n s a) : SpR l G 3 mX10_reckon [aR 0, aI (op), aI (p), aI (q)] w (RK n op p q) := by
  obtain ⟨⟨hn1, hn7⟩, hs, ha⟩ := id hV
  obtain ⟨m0, m1, m2⟩ := id hM
  refine Sp_of RX10 rfl (by decide +kernel) rfl (Nat.le_of_ble_eq_true rfl) ?_
  refine v_iload_n 2 (pc' := 1) rfl dX10_reckon_0 rfl rfl ?_
  refine v_aload_n 0 (pc' := 2) rfl dX10_reckon_1 rfl rfl ?_
  refine v_getR (pc' := 5) rfl dX10_reckon_2 fk_RX10_16 ly_0 rfl ?_
  refine v_get (z := (n : Int)) (pc' := 8) rfl dX10_reckon_5 fk_RX10_81 ly_2 rfl (m0) ?_
  refine v_cSR (pc' := 11) rfl dX10_reckon_8 lk_RX10_93 rfl (c_read l G hp rfl hn1 hn7 w ) rfl rfl rfl (fun read1 hread1 => ?_)
  refine v_istore (ls' := [(4, _), (0, _), (1, _), (2, _), (3, _)]) (pc' := 13) rfl dX10_reckon_11 rfl rfl ?_
  refine v_iload_n 4 (pc' := 14) rfl dX10_reckon_13 rfl rfl ?_
  refine v_aload_n 1 (pc' := 15) rfl dX10_reckon_14 rfl rfl ?_
  refine v_getR (pc' := 18) rfl dX10_reckon_15 fk_RX10_16 ly_0 rfl ?_
  refine v_get (z := (n : Int)) (pc' := 21) rfl dX10_reckon_18 fk_RX10_81 ly_2 rfl (m0) ?_
  refine v_cSR (pc' := 24) rfl dX10_reckon_21 lk_RX10_93 rfl (c_read l G hq rfl hn1 hn7 w ) rfl rfl rfl (fun read2 hread2 => ?_)
  refine v_istore (ls' := [(5, _), (4, _), (0, _), (1, _), (2, _), (3, _)]) (pc' := 26) rfl dX10_reckon_24 rfl rfl ?_
  refine v_iload 1 (pc' := 28) rfl dX10_reckon_26 rfl ?_
  refine v_if_eq (pc' := 31) (tgt := 36) rfl dX10_reckon_28 (by decide) (RD_r hn7 hread1) (fun c0 => ?_) (fun c0 => ?_)
  ·
    have h0 := RD_0 hn7 hread1 (by omega)
    have hz : RK n op p q (-1) := Or.inl ⟨rfl, fun ⟨f, g, a1, a2, a3, a4⟩ => h0 f a1 a3⟩
    refine v_iconst (pc' := 37) rfl dX10_reckon_36 ?_
    refine v_iret dX10_reckon_37 (by decide) (rfl) ?_
    first | exact ⟨hz, rfl⟩ | exact ⟨Or.inr ⟨f, g, hf, hg, hfp, hgp, by rw [hr]; exact hdigits1⟩, rfl⟩ | exact ⟨Or.inr ⟨f, g, hf, hg, hfp, hgp, by rw [hr]; exact hdigits2⟩, rfl⟩ | exact ⟨Or.inr ⟨f, g, hf, hg, hfp, hgp, by rw [hr]; exact hdigits3⟩, rfl⟩ | exact ⟨Or.inr ⟨f, g, hf, hg, hfp, hgp, by rw [hr, if_neg hb]⟩, rfl⟩ | exact ⟨Or.inr ⟨f, g, hf, hg, hfp, hgp, by rw [hr, if_pos hb]⟩, rfl⟩ | exact ⟨Or.inr ⟨f, g, hf, hg, hfp, hgp, by rw [hr]⟩, rfl⟩
  ·
    obtain ⟨f, hf, hfp, hfe⟩ := RD_1 hread1 (by omega)
    refine v_iload 0 (pc' := 33) rfl dX10_reckon_31 rfl ?_
    refine v_if_ne (pc' := 36) (tgt := 38) rfl dX10_reckon_33 (by decide) (RD_r hn7 hread2) (fun c1 => ?_) (fun c1 => ?_)
    ·
      obtain ⟨g, hg, hgp, hge⟩ := RD_1 hread2 (by omega)
      refine v_iload_n 3 (pc' := 39) rfl dX10_reckon_38 rfl rfl ?_
      rcases (show op = 0 ∨ op = 1 ∨ op = 2 ∨ op = 3 ∨ (op < 0 ∨ 3 < op) by omega) with sw0 | sw0 | sw0 | sw0 | sw0
      ·
        refine v_tin (tgt := 68) 0 dX10_reckon_39 sw0 (by decide) (by decide) (by decide) rfl (by decide) ?_
        have hr : rkI n op f g = (cdk (pcomp f g) n : Int) := by unfold rkI; rw [if_pos sw0]
        refine v_iload 1 (pc' := 70) rfl dX10_reckon_68 rfl ?_
        refine v_iload 0 (pc' := 72) rfl dX10_reckon_70 rfl ?_
        refine v_cSP (pc' := 75) rfl dX10_reckon_72 lk_RX10_343 rfl (c_then l G hfe hge (hf.b7 hn7) (hg.B hn7) w) rfl rfl rfl ?_
        refine v_nm (fun then1 hthen1 => ?_)
        refine v_aload_n 2 (pc' := 76) rfl dX10_reckon_75 rfl rfl ?_
        refine v_getR (pc' := 79) rfl dX10_reckon_76 fk_RX10_16 ly_0 rfl ?_
        refine v_get (z := (n : Int)) (pc' := 82) rfl dX10_reckon_79 fk_RX10_81 ly_2 rfl (m0) ?_
        refine v_cSP (pc' := 85) rfl dX10_reckon_82 lk_RX10_105 rfl (c_digits l G hthen1 ((hf.comp hg).B hn7) rfl hn7 w) rfl rfl rfl ?_
        refine v_nm (fun digits1 hdigits1 => ?_)
        refine v_iret dX10_reckon_85 (by decide) (rfl) ?_
        first | exact ⟨hz, rfl⟩ | exact ⟨Or.inr ⟨f, g, hf, hg, hfp, hgp, by rw [hr]; exact hdigits1⟩, rfl⟩ | exact ⟨Or.inr ⟨f, g, hf, hg, hfp, hgp, by rw [hr]; exact hdigits2⟩, rfl⟩ | exact ⟨Or.inr ⟨f, g, hf, hg, hfp, hgp, by rw [hr]; exact hdigits3⟩, rfl⟩ | exact ⟨Or.inr ⟨f, g, hf, hg, hfp, hgp, by rw [hr, if_neg hb]⟩, rfl⟩ | exact ⟨Or.inr ⟨f, g, hf, hg, hfp, hgp, by rw [hr, if_pos hb]⟩, rfl⟩ | exact ⟨Or.inr ⟨f, g, hf, hg, hfp, hgp, by rw [hr]⟩, rfl⟩
      ·
        refine v_tin (tgt := 86) 1 dX10_reckon_39 sw0 (by decide) (by decide) (by decide) rfl (by decide) ?_
        have hr : rkI n op f g = (cdk (pconj f g) n : Int) := by unfold rkI; rw [if_neg (by omega), if_pos sw0]
        refine v_iload 1 (pc' := 88) rfl dX10_reckon_86 rfl ?_
        refine v_iload 0 (pc' := 90) rfl dX10_reckon_88 rfl ?_
        refine v_cSP (pc' := 93) rfl dX10_reckon_90 lk_RX10_357 rfl (c_relabelled l G hfe hge (hf.mono hn7) (hg.mono hn7) w) rfl rfl rfl ?_
        refine v_nm (fun relabelled1 hrelabelled1 => ?_)
        refine v_aload_n 2 (pc' := 94) rfl dX10_reckon_93 rfl rfl ?_
        refine v_getR (pc' := 97) rfl dX10_reckon_94 fk_RX10_16 ly_0 rfl ?_
        refine v_get (z := (n : Int)) (pc' := 100) rfl dX10_reckon_97 fk_RX10_81 ly_2 rfl (m0) ?_
        refine v_cSP (pc' := 103) rfl dX10_reckon_100 lk_RX10_105 rfl (c_digits l G hrelabelled1 ((hf.conj hn7 hg).B hn7) rfl hn7 w) rfl rfl rfl ?_
        refine v_nm (fun digits2 hdigits2 => ?_)
        refine v_iret dX10_reckon_103 (by decide) (rfl) ?_
        first | exact ⟨hz, rfl⟩ | exact ⟨Or.inr ⟨f, g, hf, hg, hfp, hgp, by rw [hr]; exact hdigits1⟩, rfl⟩ | exact ⟨Or.inr ⟨f, g, hf, hg, hfp, hgp, by rw [hr]; exact hdigits2⟩, rfl⟩ | exact ⟨Or.inr ⟨f, g, hf, hg, hfp, hgp, by rw [hr]; exact hdigits3⟩, rfl⟩ | exact ⟨Or.inr ⟨f, g, hf, hg, hfp, hgp, by rw [hr, if_neg hb]⟩, rfl⟩ | exact ⟨Or.inr ⟨f, g, hf, hg, hfp, hgp, by rw [hr, if_pos hb]⟩, rfl⟩ | exact ⟨Or.inr ⟨f, g, hf, hg, hfp, hgp, by rw [hr]⟩, rfl⟩
      ·
        refine v_tin (tgt := 104) 2 dX10_reckon_39 sw0 (by decide) (by decide) (by decide) rfl (by decide) ?_
        have hr : rkI n op f g = (cdk (pcomp (pcomp (pinv f) (pinv g)) (pcomp f g)) n : Int) := by unfold rkI; rw [if_neg (by omega), if_neg (by omega), if_pos sw0]
        refine v_iload 1 (pc' := 106) rfl dX10_reckon_104 rfl ?_
        refine v_cSP (pc' := 109) rfl dX10_reckon_106 lk_RX10_346 rfl (c_back l G hfe (hf.mono hn7) w) rfl rfl rfl ?_
        refine v_nm (fun back1 hback1 => ?_)
        refine v_iload 0 (pc' := 111) rfl dX10_reckon_109 rfl ?_
        refine v_cSP (pc' := 114) rfl dX10_reckon_111 lk_RX10_346 rfl (c_back l G hge (hg.mono hn7) w) rfl rfl rfl ?_
        refine v_nm (fun back2 hback2 => ?_)
        refine v_cSP (pc' := 117) rfl dX10_reckon_114 lk_RX10_343 rfl (c_then l G hback1 hback2 ((hf.inv hn7).b7 hn7) ((hg.inv hn7).B hn7) w) rfl rfl rfl ?_
        refine v_nm (fun then2 hthen2 => ?_)
        refine v_istore (ls' := [(6, _), (5, _), (4, _), (0, _), (1, _), (2, _), (3, _)]) (pc' := 119) rfl dX10_reckon_117 rfl rfl ?_
        refine v_iload 0 (pc' := 121) rfl dX10_reckon_119 rfl ?_
        refine v_iload 2 (pc' := 123) rfl dX10_reckon_121 rfl ?_
        refine v_iload 1 (pc' := 125) rfl dX10_reckon_123 rfl ?_
        refine v_cSP (pc' := 128) rfl dX10_reckon_125 lk_RX10_343 rfl (c_then l G hfe hge (hf.b7 hn7) (hg.B hn7) w) rfl rfl rfl ?_
        refine v_nm (fun then3 hthen3 => ?_)
        refine v_cSP (pc' := 131) rfl dX10_reckon_128 lk_RX10_343 rfl (c_then l G hthen2 hthen3 (((hf.inv hn7).comp (hg.inv hn7)).b7 hn7) ((hf.comp hg).B hn7) w) rfl rfl rfl ?_
        refine v_nm (fun then4 hthen4 => ?_)
        refine v_aload_n 3 (pc' := 132) rfl dX10_reckon_131 rfl rfl ?_
        refine v_getR (pc' := 135) rfl dX10_reckon_132 fk_RX10_16 ly_0 rfl ?_
        refine v_get (z := (n : Int)) (pc' := 138) rfl dX10_reckon_135 fk_RX10_81 ly_2 rfl (m0) ?_
        refine v_cSP (pc' := 141) rfl dX10_reckon_138 lk_RX10_105 rfl (c_digits l G hthen4 ((((hf.inv hn7).comp (hg.inv hn7)).comp (hf.comp hg)).B hn7) rfl hn7 w) rfl rfl rfl ?_
        refine v_nm (fun digits3 hdigits3 => ?_)
        refine v_iret dX10_reckon_141 (by decide) (rfl) ?_
        first | exact ⟨hz, rfl⟩ | exact ⟨Or.inr ⟨f, g, hf, hg, hfp, hgp, by rw [hr]; exact hdigits1⟩, rfl⟩ | exact ⟨Or.inr ⟨f, g, hf, hg, hfp, hgp, by rw [hr]; exact hdigits2⟩, rfl⟩ | exact ⟨Or.inr ⟨f, g, hf, hg, hfp, hgp, by rw [hr]; exact hdigits3⟩, rfl⟩ | exact ⟨Or.inr ⟨f, g, hf, hg, hfp, hgp, by rw [hr, if_neg hb]⟩, rfl⟩ | exact ⟨Or.inr ⟨f, g, hf, hg, hfp, hgp, by rw [hr, if_pos hb]⟩, rfl⟩ | exact ⟨Or.inr ⟨f, g, hf, hg, hfp, hgp, by rw [hr]⟩, rfl⟩
      ·
        refine v_tin (tgt := 142) 3 dX10_reckon_39 sw0 (by decide) (by decide) (by decide) rfl (by decide) ?_
        have hr : rkI n op f g = (if commB f g 7 then 1 else 0) := by unfold rkI; rw [if_neg (by omega), if_neg (by omega), if_neg (by omega), if_pos sw0]
        refine v_iload 1 (pc' := 144) rfl dX10_reckon_142 rfl ?_
        refine v_iload 0 (pc' := 146) rfl dX10_reckon_144 rfl ?_
        refine v_cSP (pc' := 149) rfl dX10_reckon_146 lk_RX10_360 rfl (c_swap l G hfe hge (hf.b7 hn7) (hg.b7 hn7) w) rfl rfl rfl ?_
        refine v_nm (fun swap1 hswap1 => ?_)
        refine v_if_eq (pc' := 152) (tgt := 156) rfl dX10_reckon_149 (by decide) (by rw [hswap1]; split <;> decide) (fun c2 => ?_) (fun c2 => ?_)
        ·
          have hb : ¬ commB f g 7 = true := fun e => by rw [if_pos e] at hswap1; omega
          refine v_iconst (pc' := 157) rfl dX10_reckon_156 ?_
          refine v_iret dX10_reckon_157 (by decide) (rfl) ?_
          first | exact ⟨hz, rfl⟩ | exact ⟨Or.inr ⟨f, g, hf, hg, hfp, hgp, by rw [hr]; exact hdigits1⟩, rfl⟩ | exact ⟨Or.inr ⟨f, g, hf, hg, hfp, hgp, by rw [hr]; exact hdigits2⟩, rfl⟩ | exact ⟨Or.inr ⟨f, g, hf, hg, hfp, hgp, by rw [hr]; exact hdigits3⟩, rfl⟩ | exact ⟨Or.inr ⟨f, g, hf, hg, hfp, hgp, by rw [hr, if_neg hb]⟩, rfl⟩ | exact ⟨Or.inr ⟨f, g, hf, hg, hfp, hgp, by rw [hr, if_pos hb]⟩, rfl⟩ | exact ⟨Or.inr ⟨f, g, hf, hg, hfp, hgp, by rw [hr]⟩, rfl⟩
        ·
          have hb : commB f g 7 = true := Classical.byContradiction (fun e => by rw [if_neg e] at hswap1; omega)
          refine v_iconst (pc' := 153) rfl dX10_reckon_152 ?_
          refine v_goto (tgt := 157) dX10_reckon_153 (by decide) ?_
          refine v_iret dX10_reckon_157 (by decide) (rfl) ?_
          first | exact ⟨hz, rfl⟩ | exact ⟨Or.inr ⟨f, g, hf, hg, hfp, hgp, by rw [hr]; exact hdigits1⟩, rfl⟩ | exact ⟨Or.inr ⟨f, g, hf, hg, hfp, hgp, by rw [hr]; exact hdigits2⟩, rfl⟩ | exact ⟨Or.inr ⟨f, g, hf, hg, hfp, hgp, by rw [hr]; exact hdigits3⟩, rfl⟩ | exact ⟨Or.inr ⟨f, g, hf, hg, hfp, hgp, by rw [hr, if_neg hb]⟩, rfl⟩ | exact ⟨Or.inr ⟨f, g, hf, hg, hfp, hgp, by rw [hr, if_pos hb]⟩, rfl⟩ | exact ⟨Or.inr ⟨f, g, hf, hg, hfp, hgp, by rw [hr]⟩, rfl⟩
      ·
        refine v_tout (tgt := 158) dX10_reckon_39 (by omega) sw0 (by decide) ?_
        have hr : rkI n op f g = -1 := by unfold rkI; rw [if_neg (by omega), if_neg (by omega), if_neg (by omega), if_neg (by omega)]
        refine v_iconst (pc' := 159) rfl dX10_reckon_158 ?_
        refine v_iret dX10_reckon_159 (by decide) (rfl) ?_
        first | exact ⟨hz, rfl⟩ | exact ⟨Or.inr ⟨f, g, hf, hg, hfp, hgp, by rw [hr]; exact hdigits1⟩, rfl⟩ | exact ⟨Or.inr ⟨f, g, hf, hg, hfp, hgp, by rw [hr]; exact hdigits2⟩, rfl⟩ | exact ⟨Or.inr ⟨f, g, hf, hg, hfp, hgp, by rw [hr]; exact hdigits3⟩, rfl⟩ | exact ⟨Or.inr ⟨f, g, hf, hg, hfp, hgp, by rw [hr, if_neg hb]⟩, rfl⟩ | exact ⟨Or.inr ⟨f, g, hf, hg, hfp, hgp, by rw [hr, if_pos hb]⟩, rfl⟩ | exact ⟨Or.inr ⟨f, g, hf, hg, hfp, hgp, by rw [hr]⟩, rfl⟩
    ·
      have h0 := RD_0 hn7 hread2 (by omega)
      have hz : RK n op p q (-1) := Or.inl ⟨rfl, fun ⟨f, g, a1, a2, a3, a4⟩ => h0 g a2 a4⟩
      refine v_iconst (pc' := 37) rfl dX10_reckon_36 ?_
      refine v_iret dX10_reckon_37 (by decide) (rfl) ?_
      first | exact ⟨hz, rfl⟩ | exact ⟨Or.inr ⟨f, g, hf, hg, hfp, hgp, by rw [hr]; exact hdigits1⟩, rfl⟩ | exact ⟨Or.inr ⟨f, g, hf, hg, hfp, hgp, by rw [hr]; exact hdigits2⟩, rfl⟩ | exact ⟨Or.inr ⟨f, g, hf, hg, hfp, hgp, by rw [hr]; exact hdigits3⟩, rfl⟩ | exact ⟨Or.inr ⟨f, g, hf, hg, hfp, hgp, by rw [hr, if_neg hb]⟩, rfl⟩ | exact ⟨Or.inr ⟨f, g, hf, hg, hfp, hgp, by rw [hr, if_pos hb]⟩, rfl⟩ | exact ⟨Or.inr ⟨f, g, hf, hg, hfp, hgp, by rw [hr]⟩, rfl⟩

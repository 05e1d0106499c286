/-! ===== the reference: readsCycle ===== -/
theorem MR.see {n K q q' : Nat} {T : Nat → Int} {S : RS} (h : MR n T K q S) (hs : S.1 = 2 ∨ S.1 = 3) (h3 : S.1 = 3 → q < K → ¬ IsD (T q)) (h1 : q ≤ q') (h2 : q' ≤ K) (hsp : ∀ j, q ≤ j → j < q' → T j = 32) :
    ∃ S2 : RS, MR n T K q' S2 ∧ S2.2 = S.2 ∧ (S2.1 = 2 ∨ S2.1 = 3 ∨ S2.1 = 4) ∧ ((S2.1 = 3 ∨ S2.1 = 4) ↔ (S.1 = 3 ∨ S.1 = 4)) ∧ (S2.1 = 3 → q' < K → ¬ IsD (T q')) := by
  obtain ⟨st, hm, hc⟩ := h.sp (q' - q) (by omega) (fun j a b => hsp j a (by omega))
  rw [show q + (q' - q) = q' by omega] at hm
  refine ⟨(st, S.2), hm, rfl, ?_, ?_, ?_⟩
  · show st = 2 ∨ st = 3 ∨ st = 4
    rcases hc with ⟨-, e⟩ | ⟨-, e⟩
    · omega
    · rw [e]; split <;> omega
  · show (st = 3 ∨ st = 4) ↔ _
    rcases hc with ⟨-, e⟩ | ⟨-, e⟩
    · rw [e]
    · rw [e]; split <;> omega
  · show st = 3 → _
    intro e3 hk
    rcases hc with ⟨e0, e⟩ | ⟨-, e⟩
    · have : q' = q := by omega
      rw [this] at hk ⊢
      exact h3 (by omega) hk
    · rw [e] at e3
      split at e3 <;> omega
def CyF (n : Nat) (T : Nat → Int) (K : Nat) (w : Wd) : Prop := w 63 19 ≠ 0 ∧ TxE n T K (w 63 19)
def CyI (w : Wd) (n K p : Nat) (T : Nat → Int) (q : Nat) (S : RS) (wl : Wd) (told first last more : Int) : Prop :=
  MR n T K q S ∧ wl 63 17 = (q : Nat) ∧ told = ((2 * S.2.1 : Nat) : Int) ∧ first = (S.2.2.1 : Nat) ∧ (first ≠ 0 → last = (S.2.2.2.1 : Nat)) ∧ (0 ≤ last ∧ last ≤ 7) ∧ DRw wl n S ∧ KT w wl ∧ p < q ∧
  ((more = 1 ∧ wl 63 19 = 0 ∧ (S.1 = 2 ∨ S.1 = 3) ∧ (S.1 = 3 → q < K → ¬ IsD (T q))) ∨ (more = 0 ∧ (CyF n T K wl ∨ (wl 63 19 = 0 ∧ q < K ∧ T q = 41 ∧ (S.1 = 3 ∨ S.1 = 4)))))
def CyP (w : Wd) (n K p : Nat) (T : Nat → Int) (z : Int) (w' : Wd) : Prop := KT w w' ∧ (CyF n T K w' ∨ (w' 63 19 = 0 ∧ ∃ (q : Nat) (S : RS), MR n T K q S ∧ S.1 = 1 ∧ w' 63 17 = (q : Nat) ∧ z = ((2 * S.2.1 : Nat) : Int) ∧ DRw w' n S ∧ p < q))
theorem MR.oth {n K r : Nat} {T : Nat → Int} {S : RS} (h : MR n T K r S) (hT : ∀ j, j < 120 → 0 ≤ T j ∧ T j ≤ 255) (hK : K ≤ 60) (hs : S.1 = 2 ∨ S.1 = 3 ∨ S.1 = 4) {z : Int} (hz : (r = K ∧ z = -1) ∨ (r < K ∧ T r ≠ 32 ∧ z = T r)) (hnD : ¬ IsD z) (h41 : ¬ (z = 41 ∧ (S.1 = 3 ∨ S.1 = 4))) {F : Int} (hF : F = -1000 - (r : Int)) : TxE n T K F := by
  rcases hz with ⟨e, -⟩ | ⟨hr, h32, e⟩
  · subst e; exact h.finE hK (by omega) hF
  · have := hT r (by omega)
    unfold IsD at hnD
    exact h.badE hK hr (f := 1) (rdF_oth (by omega) (by omega) hs (fun q => h41 ⟨by omega, q.2⟩)) (by decide) (by decide) (by omega)
theorem sby_dig {t : Int} (h0 : 0 ≤ t) (h : t ≤ 255) : (48 ≤ sby t ∧ sby t ≤ 57) ↔ (48 ≤ t ∧ t ≤ 57) := by unfold sby; split <;> omega
theorem CyF.rg {n K : Nat} {T : Nat → Int} {w : Wd} (h : CyF n T K w) : rg (w 63 19) := by
  have := h.2.1; omega
theorem DRw.fr {w w' : Wd} {n : Nat} {S S' : RS} (h : DRw w n S) (h1 : ∀ j, w' 75 j = w 75 j) (h2 : drF S' = drF S) : DRw w' n S' := fun x a b => by rw [h1, h2]; exact h x a b
set_option maxHeartbeats 4000000 in
set_option maxRecDepth 100000 in
theorem c_readsCycle (l : Launch) (G : Gx) {t0 : Int} {p K n : Nat} {T : Nat → Int} {S : RS} (hT : ∀ j, j < 120 → 0 ≤ T j ∧ T j ≤ 255) (hK : K ≤ 60) (hn1 : 1 ≤ n) (hn7 : n ≤ 7) (hMR : MR n T K p S) (hp : p < K) (h40 : T p = 40) (hs : S.1 = 0 ∨ S.1 = 1) (ht : t0 = ((2 * S.2.1 : Nat) : Int)) (w : Wd) (h17 : w 63 17 = (p : Nat)) (h18 : w 63 18 = (K : Nat)) (h19 : w 63 19 = 0) (hTp : TpM w T) (h00 : w 63 0 = (n : Nat)) (hD : DRw w n S) : Sp l G 2 mX11_readsCycle [aR 63, aI (t0)] w (fun z w' => CyP w n K p T z w') := by
  have hMo := hMR.ok
  have f17 := h17
  have f18 := h18
  have f19 := h19
  refine Sp_of RX11 rfl (by decide +kernel) rfl (Nat.le_of_ble_eq_true rfl) ?_
  refine v_iload_n 1 (pc' := 1) rfl dX11_readsCycle_0 rfl rfl ?_
  refine v_istore_n (ls' := [(2, _), (0, _), (1, _)]) (pc' := 2) rfl dX11_readsCycle_1 rfl rfl rfl ?_
  refine v_iconst (pc' := 3) rfl dX11_readsCycle_2 ?_
  refine v_istore_n (ls' := [(3, _), (2, _), (0, _), (1, _)]) (pc' := 4) rfl dX11_readsCycle_3 rfl rfl rfl ?_
  refine v_iconst (pc' := 5) rfl dX11_readsCycle_4 ?_
  refine v_istore (ls' := [(4, _), (3, _), (2, _), (0, _), (1, _)]) (pc' := 7) rfl dX11_readsCycle_5 rfl rfl ?_
  refine v_aload_n 3 (pc' := 8) rfl dX11_readsCycle_7 rfl rfl ?_
  refine v_aload_n 3 (pc' := 9) rfl dX11_readsCycle_8 rfl rfl ?_
  refine v_get (z := ((p : Nat) : Int)) (pc' := 12) rfl dX11_readsCycle_9 fk_RX11_207 ly_63 rfl (f17) ?_
  refine v_iconst (pc' := 13) rfl dX11_readsCycle_12 ?_
  refine v_iadd (pc' := 14) rfl dX11_readsCycle_13 ?_
  refine v_put (pc' := 17) rfl dX11_readsCycle_14 fi_RX11_207 ly_63 rfl ?_
  refine v_nmw (fun w1 hw1 => ?_)
  have f19 : w1 63 19 = 0 := by rw [hw1, up_ne _ _ (by omega)]; exact f19
  have f18 : w1 63 18 = ((K : Nat) : Int) := by rw [hw1, up_ne _ _ (by omega)]; exact f18
  refine v_iconst (pc' := 18) rfl dX11_readsCycle_17 ?_
  refine v_istore (ls' := [(5, _), (4, _), (3, _), (2, _), (0, _), (1, _)]) (pc' := 20) rfl dX11_readsCycle_18 rfl rfl ?_
  have hin : CyI w n K p T (p + 1) (rdN S 40) w1 t0 0 0 1 := by
    have hm1 := hMR.step hp (by rw [h40]; unfold rdFault; rw [show (40 : Int).toNat = 40 from rfl, if_neg (by decide), if_pos rfl, if_pos hs])
    rw [h40] at hm1
    have hfi : S.2.2.1 = 0 := by
      by_cases q : S.2.2.1 = 0
      · exact q
      · have := hMo.2.2.2.2.1.mpr q; omega
    refine ⟨hm1, by rw [hw1, up_eq]; omega, ht, by show (0 : Int) = ((S.2.2.1 : Nat) : Int); omega, fun h => absurd rfl h, by decide, hD.fr (fun j => by rw [hw1, up_ne _ _ (by omega)]) (dr_open hs), by rw [hw1]; exact kt_up (KT.rf _) (Or.inl rfl), by omega, Or.inl ⟨rfl, by rw [hw1, up_ne _ _ (by omega)]; exact h19, Or.inl rfl, fun h => absurd (show (2 : Nat) = 3 from h) (by decide)⟩⟩
  refine v_ls [4, 5, 3, 2, 1, 0] rfl ?_
  refine v_loop5 20 (fun (told : Int) (first : Int) (last : Int) (more : Int) (wl : Wd) => ∃ (q : Nat) (Sx : RS), CyI w n K p T q Sx wl told first last more) (fun (told : Int) (first : Int) (last : Int) (more : Int) (wl : Wd) => (2 * (61 - wl 63 17) + more).toNat) (fun (told : Int) (first : Int) (last : Int) (more : Int) (wl : Wd) => [(0, aR 63), (1, aI (t0)), (2, aI (told)), (3, aI (first)), (4, aI (last)), (5, aI (more))]) (fun (told : Int) (first : Int) (last : Int) (more : Int) (wl : Wd) => []) (fun (told : Int) (first : Int) (last : Int) (more : Int) (wl : Wd) => wl) (fun told first last more wl hI0 ih0 => ?_) (t0) (0) (0) (1) w1 (⟨p + 1, rdN S 40, hin⟩)
  clear hin
  obtain ⟨q, Sx, hm, gq, htold, hfirst, hlast, hlr, hDx, hkt, hpq, hmore⟩ := hI0
  have hmr : more = 1 ∨ more = 0 := by rcases hmore with h | h <;> omega
  have hqK := hm.1
  have g18 := (hkt.1 18 (by decide) (by decide)).trans h18
  have hTl : TpM wl T := fun j hj => (hkt.2 74 j rfl).trans (hTp j hj)
  have hokx := hm.ok
  refine v_iload 5 (pc' := 22) rfl dX11_readsCycle_20 rfl ?_
  refine v_if_eq (pc' := 25) (tgt := 267) rfl dX11_readsCycle_22 (by decide) (by omega) (fun c0 => ?_) (fun c0 => ?_)
  ·
    have hfin : CyF n T K wl ∨ (wl 63 19 = 0 ∧ q < K ∧ T q = 41 ∧ (Sx.1 = 3 ∨ Sx.1 = 4)) := by
      rcases hmore with h | h
      · omega
      · exact h.2
    have hflr : rg (wl 63 19) := by
      rcases hfin with h | h
      · exact h.rg
      · rw [h.1]; decide
    refine v_aload_n 0 (pc' := 268) rfl dX11_readsCycle_267 rfl rfl ?_
    refine v_get (pc' := 271) rfl dX11_readsCycle_268 fk_RX11_213 ly_63 rfl rfl ?_
    refine v_if_ne (pc' := 274) (tgt := 284) rfl dX11_readsCycle_271 (by decide) (hflr) (fun c18 => ?_) (fun c18 => ?_)
    ·
      refine v_iload_n 2 (pc' := 285) rfl dX11_readsCycle_284 rfl rfl ?_
      refine v_iret dX11_readsCycle_285 (by decide) (rfl) ?_
      first
      | exact ⟨hkt, by
          rcases hfin with h | h
          · exact Or.inl h
          · exact absurd h.1 c18⟩
      | exact ⟨by rw [hw11]; exact kt_up hkt (Or.inl rfl), Or.inr ⟨by rw [hw11, up_ne _ _ (by omega)]; omega, q + 1, rdN Sx 41, hclose, rfl, by rw [hw11, up_eq]; omega, htold, hDx.fr (fun j => by rw [hw11, up_ne _ _ (by omega)]) (dr_close hs34), by omega⟩⟩
    ·
      obtain ⟨hqK2, h41, hs34⟩ : q < K ∧ T q = 41 ∧ (Sx.1 = 3 ∨ Sx.1 = 4) := by
        rcases hfin with h | h
        · exact absurd h.1 (by omega)
        · exact h.2
      have hclose := hm.step hqK2 (by rw [h41]; unfold rdFault; rw [show (41 : Int).toNat = 41 from rfl, if_neg (by decide), if_neg (by decide), if_pos rfl, if_pos hs34])
      rw [h41] at hclose
      refine v_aload_n 0 (pc' := 275) rfl dX11_readsCycle_274 rfl rfl ?_
      refine v_aload_n 0 (pc' := 276) rfl dX11_readsCycle_275 rfl rfl ?_
      refine v_get (pc' := 279) rfl dX11_readsCycle_276 fk_RX11_207 ly_63 rfl rfl ?_
      refine v_iconst (pc' := 280) rfl dX11_readsCycle_279 ?_
      refine v_iadd (pc' := 281) rfl dX11_readsCycle_280 ?_
      refine v_put (pc' := 284) rfl dX11_readsCycle_281 fi_RX11_207 ly_63 rfl ?_
      refine v_nmw (fun w11 hw11 => ?_)
      refine v_iload_n 2 (pc' := 285) rfl dX11_readsCycle_284 rfl rfl ?_
      refine v_iret dX11_readsCycle_285 (by decide) (rfl) ?_
      first
      | exact ⟨hkt, by
          rcases hfin with h | h
          · exact Or.inl h
          · exact absurd h.1 c18⟩
      | exact ⟨by rw [hw11]; exact kt_up hkt (Or.inl rfl), Or.inr ⟨by rw [hw11, up_ne _ _ (by omega)]; omega, q + 1, rdN Sx 41, hclose, rfl, by rw [hw11, up_eq]; omega, htold, hDx.fr (fun j => by rw [hw11, up_ne _ _ (by omega)]) (dr_close hs34), by omega⟩⟩
  ·
    obtain ⟨hm1, hf0, hst, h3⟩ : more = 1 ∧ wl 63 19 = 0 ∧ (Sx.1 = 2 ∨ Sx.1 = 3) ∧ (Sx.1 = 3 → q < K → ¬ IsD (T q)) := by
      rcases hmore with h | h
      · exact h
      · omega
    refine v_aload_n 0 (pc' := 26) rfl dX11_readsCycle_25 rfl rfl ?_
    refine v_cVi (pc' := 29) rfl dX11_readsCycle_26 lk_RX11_216 ly_63 rfl (c_see l G (p := q) (K := K) hT hK hqK wl gq g18 hTl) rfl rfl rfl (fun see1 w2 hq2 => ?_)
    obtain ⟨r, hqr, hrK0, hsp, g17, g19b, hk2b, g75, hz⟩ := hq2
    obtain ⟨S2, hM2, e2, hs2, hfs, h3b⟩ := hm.see hst h3 hqr hrK0 hsp
    have g19 : w2 63 19 = 0 := g19b.trans hf0
    have hk2 := hkt.tr hk2b
    have hsr : rg see1 := by
      rcases hz with z | z
      · omega
      · have := hT r (by omega); omega
    have hok2 := hM2.ok
    have eT : S2.2.1 = Sx.2.1 := by rw [e2]
    have eF : S2.2.2.1 = Sx.2.2.1 := by rw [e2]
    have eL : S2.2.2.2.1 = Sx.2.2.2.1 := by rw [e2]
    refine v_istore (ls' := [(6, _), (0, _), (1, _), (2, _), (3, _), (4, _), (5, _)]) (pc' := 31) rfl dX11_readsCycle_29 rfl rfl ?_
    have J50 : ∀ (dg : Int) (hJ : (dg = 1 ∧ IsD see1) ∨ (dg = 0 ∧ ¬ IsD see1)), V (mX l G 2 9 (some .int) (fun z w' => CyP w n K p T z w')) RX11 cX11_readsCycle 50 [(0, aR 63), (1, aI (t0)), (2, aI (told)), (3, aI (first)), (4, aI (last)), (5, aI (more)), (6, aI (see1))] [aI (dg)] w2 := by
      intro dg hJ
      have hdg := hJ
      have hdr : dg = 1 ∨ dg = 0 := by rcases hdg with h | h <;> omega
      refine v_istore (ls' := [(7, _), (0, _), (1, _), (2, _), (3, _), (4, _), (5, _), (6, _)]) (pc' := 52) rfl dX11_readsCycle_50 rfl rfl ?_
      have J124 : ∀ (wj : Wd) (hJ : wj 63 17 = (r : Nat) ∧ KT w wj ∧ (∀ j, wj 75 j = w2 75 j) ∧ (CyF n T K wj ∨ (wj 63 19 = 0 ∧ ((dg = 1 ∧ r < K ∧ see1 = T r ∧ 1 ≤ see1 - 48 ∧ see1 - 48 ≤ (n : Int) ∧ ¬ hasb S2.2.1 (see1 - 48).toNat) ∨ (dg = 0 ∧ r < K ∧ T r = 41 ∧ first ≠ 0))))), V (mX l G 2 9 (some .int) (fun z w' => CyP w n K p T z w')) RX11 cX11_readsCycle 124 [(0, aR 63), (1, aI (t0)), (2, aI (told)), (3, aI (first)), (4, aI (last)), (5, aI (more)), (6, aI (see1)), (7, aI (dg))] [] wj := by
        intro wj hJ
        obtain ⟨j17, hkj, j75, hj⟩ := hJ
        have j18 := (hkj.1 18 (by decide) (by decide)).trans h18
        obtain ⟨fv, hfv⟩ : ∃ v : Int, wj 63 19 = v := ⟨_, rfl⟩
        have hfr : rg fv := by
          rw [← hfv]
          rcases hj with h | h
          · exact h.rg
          · rw [h.1]; decide
        have J141 : ∀ (mv : Int) (hJ : (mv = 1 ∧ fv = 0 ∧ dg = 1) ∨ (mv = 0 ∧ ¬ (fv = 0 ∧ dg = 1))), V (mX l G 2 9 (some .int) (fun z w' => CyP w n K p T z w')) RX11 cX11_readsCycle 141 [(0, aR 63), (1, aI (t0)), (2, aI (told)), (3, aI (first)), (4, aI (last)), (5, aI (more)), (6, aI (see1)), (7, aI (dg))] [aI (mv)] wj := by
          intro mv hJ
          have hmv := hJ
          refine v_istore (ls' := [(5, _), (0, _), (1, _), (2, _), (3, _), (4, _), (6, _), (7, _)]) (pc' := 143) rfl dX11_readsCycle_141 rfl rfl ?_
          refine v_iload 0 (pc' := 145) rfl dX11_readsCycle_143 rfl ?_
          refine v_if_ne (pc' := 148) (tgt := 151) rfl dX11_readsCycle_145 (by decide) (by omega) (fun c12 => ?_) (fun c12 => ?_)
          ·
            have hfv0 : fv = 0 := by omega
            obtain ⟨hrK, hsee, hda, hdb, hnt⟩ : r < K ∧ see1 = T r ∧ 1 ≤ see1 - 48 ∧ see1 - 48 ≤ (n : Int) ∧ ¬ hasb S2.2.1 (see1 - 48).toNat := by
              rcases hj with h | h
              · exact absurd (hfv.trans hfv0) h.1
              · rcases h.2 with h | h
                · exact h.2
                · omega
            obtain ⟨dN, hdN⟩ : ∃ x : Nat, see1 = 48 + (x : Int) := ⟨(see1 - 48).toNat, by omega⟩
            rw [show (see1 - 48).toNat = dN by omega] at hnt
            have hTr : (T r).toNat = 48 + dN := by omega
            have h24 : S2.1 = 2 ∨ S2.1 = 4 := by
              by_cases e3 : S2.1 = 3
              · exact absurd (show IsD (T r) from ⟨by omega, by omega⟩) (h3b e3 hrK)
              · omega
            have hstep := hM2.step hrK (by rw [rdF_dig hTr (by omega), if_pos h24, if_neg (by omega), if_neg hnt])
            have hst3 : (rdN S2 (T r).toNat).1 = 3 := by rw [rdN_dig hTr (by omega)]
            refine v_aload_n 1 (pc' := 152) rfl dX11_readsCycle_151 rfl rfl ?_
            refine v_aload_n 1 (pc' := 153) rfl dX11_readsCycle_152 rfl rfl ?_
            refine v_get (z := ((r : Nat) : Int)) (pc' := 156) rfl dX11_readsCycle_153 fk_RX11_207 ly_63 rfl (j17) ?_
            refine v_iconst (pc' := 157) rfl dX11_readsCycle_156 ?_
            refine v_iadd (pc' := 158) rfl dX11_readsCycle_157 ?_
            refine v_put (pc' := 161) rfl dX11_readsCycle_158 fi_RX11_207 ly_63 rfl ?_
            refine v_nmw (fun w7 hw7 => ?_)
            have hfv : w7 63 19 = fv := by rw [hw7, up_ne _ _ (by omega)]; exact hfv
            have j18 : w7 63 18 = ((K : Nat) : Int) := by rw [hw7, up_ne _ _ (by omega)]; exact j18
            have J205 : ∀ (wk : Wd) (hJ : wk 63 17 = ((r + 1 : Nat) : Int) ∧ KT w wk ∧ (∀ j, wk 75 j = wj 75 j) ∧ ((wk 63 19 = 0 ∧ (r + 1 < K → ¬ IsD (T (r + 1)))) ∨ CyF n T K wk)), V (mX l G 2 9 (some .int) (fun z w' => CyP w n K p T z w')) RX11 cX11_readsCycle 205 [(0, aR 63), (1, aI (t0)), (2, aI (told)), (3, aI (first)), (4, aI (last)), (5, aI (mv)), (6, aI (see1)), (7, aI (dg))] [] wk := by
              intro wk hJ
              obtain ⟨k17, hkk, k75, hk⟩ := hJ
              obtain ⟨fv2, hfv2⟩ : ∃ v : Int, wk 63 19 = v := ⟨_, rfl⟩
              have hfr2 : rg fv2 := by
                rw [← hfv2]
                rcases hk with h | h
                · rw [h.1]; decide
                · exact h.rg
              have d0 : True := trivial
              refine v_iload 6 (pc' := 207) rfl dX11_readsCycle_205 rfl ?_
              refine v_bipush (pc' := 209) rfl dX11_readsCycle_207 rfl ?_
              refine v_isub (pc' := 210) rfl dX11_readsCycle_209 ?_
              refine v_nm (fun d' hd' => ?_)
              refine v_istore (ls' := [(8, _), (0, _), (1, _), (2, _), (3, _), (4, _), (5, _), (6, _), (7, _)]) (pc' := 212) rfl dX11_readsCycle_210 rfl rfl ?_
              refine v_iload_n 3 (pc' := 213) rfl dX11_readsCycle_212 rfl rfl ?_
              refine v_iconst (pc' := 214) rfl dX11_readsCycle_213 ?_
              refine v_iload 0 (pc' := 216) rfl dX11_readsCycle_214 rfl ?_
              refine v_ishl (z := ((2 ^ dN : Nat) : Int)) (pc' := 217) rfl dX11_readsCycle_216 (iz_one_shl (by omega) (by omega)) ?_
              refine v_ior (z := ((2 * (S2.2.1 ||| bt dN) : Nat) : Int)) (pc' := 218) rfl dX11_readsCycle_217 (by rw [htold, ← eT, iz_or, show 2 ^ dN = 2 ^ ((dN - 1) + 1) by rw [show dN - 1 + 1 = dN by omega], or_dbl S2.2.1 hok2.2.1 (dN - 1) (by omega), show dN - 1 + 1 = dN by omega]) ?_
              refine v_nm (fun told' htold' => ?_)
              refine v_istore_n (ls' := [(2, _), (8, _), (0, _), (1, _), (3, _), (4, _), (5, _), (6, _), (7, _)]) (pc' := 219) rfl dX11_readsCycle_218 rfl rfl rfl ?_
              have J238 : ∀ (first2 : Int) (wq : Wd) (hJ : first2 = ((if Sx.2.2.1 = 0 then dN else Sx.2.2.1 : Nat) : Int) ∧ wq 63 17 = ((r + 1 : Nat) : Int) ∧ KT w wq ∧ wq 63 19 = fv2 ∧ (∀ x, 1 ≤ x → x ≤ n → wq 75 x = if Sx.2.2.1 ≠ 0 ∧ x = Sx.2.2.2.1 then (dN : Int) else (drF S2 x : Nat))), V (mX l G 2 9 (some .int) (fun z w' => CyP w n K p T z w')) RX11 cX11_readsCycle 238 [(0, aR 63), (1, aI (t0)), (2, aI (told')), (3, aI (first2)), (4, aI (last)), (5, aI (mv)), (6, aI (see1)), (7, aI (dg)), (8, aI (d'))] [] wq := by
                intro first2 wq hJ
                obtain ⟨hf2, q17, hkq, q19, q75⟩ := hJ
                refine v_iload 8 (pc' := 240) rfl dX11_readsCycle_238 rfl ?_
                refine v_istore (ls' := [(4, _), (0, _), (1, _), (2, _), (3, _), (5, _), (6, _), (7, _), (8, _)]) (pc' := 242) rfl dX11_readsCycle_240 rfl rfl ?_
                refine v_aload_n 1 (pc' := 243) rfl dX11_readsCycle_242 rfl rfl ?_
                refine v_getR (pc' := 246) rfl dX11_readsCycle_243 fk_RX11_44 ly_63 rfl ?_
                refine v_iload 0 (pc' := 248) rfl dX11_readsCycle_246 rfl ?_
                refine v_iload_n 4 (pc' := 249) rfl dX11_readsCycle_248 rfl rfl ?_
                refine v_iast (pc' := 250) rfl dX11_readsCycle_249 ly_75 (by omega) (by omega) rfl ?_
                refine v_nmw (fun w10 hw10 => ?_)
                have q19 : w10 63 19 = fv2 := by rw [hw10, up_ne _ _ (by omega)]; exact q19
                have J262 : ∀ (m2 : Int) (hJ : (m2 = 1 ∧ fv2 = 0) ∨ (m2 = 0 ∧ fv2 ≠ 0)), V (mX l G 2 9 (some .int) (fun z w' => CyP w n K p T z w')) RX11 cX11_readsCycle 262 [(0, aR 63), (1, aI (t0)), (2, aI (told')), (3, aI (first2)), (4, aI (d')), (5, aI (mv)), (6, aI (see1)), (7, aI (dg)), (8, aI (d'))] [aI (m2)] w10 := by
                  intro m2 hJ
                  have hm2 := hJ
                  refine v_istore (ls' := [(5, _), (0, _), (1, _), (2, _), (3, _), (4, _), (6, _), (7, _), (8, _)]) (pc' := 264) rfl dX11_readsCycle_262 rfl rfl ?_
                  refine v_goto (tgt := 20) dX11_readsCycle_264 (by decide) ?_
                  refine v_ls [1, 2, 3, 4, 5, 0] rfl ?_
                  exact ih0 (told') (first2) (d') (m2) w10 (⟨r + 1, rdN S2 (T r).toNat, hstep, by rw [hw10, up_ne _ _ (by omega)]; exact q17, by rw [rdN_dig hTr (by omega)]; exact htold', by rw [rdN_dig hTr (by omega)]; show _ = ((if S2.2.2.1 = 0 then dN else S2.2.2.1 : Nat) : Int); rw [eF]; exact hf2, fun _ => by rw [rdN_dig hTr (by omega)]; show _ = ((dN : Nat) : Int); omega, by omega, fun x a b => by
                      rw [hw10, up_at, q75 x a b]
                      by_cases h0 : S2.2.2.1 = 0
                      · rw [dr_first hok2.2.1 hTr (by omega) (by omega) h0 (fun e => hok2.2.2.2.2.1.mp e h0) a (by omega)]
                        by_cases e : x = dN
                        · rw [if_pos ⟨rfl, by omega⟩, if_pos e, hf2, if_pos (by omega)]
                        · rw [if_neg (fun q => e (by omega)), if_neg e, if_neg (fun q => q.1 (by omega))]
                      · rw [dr_next hok2.2.1 hTr (by omega) (by omega) h0 (hok2.2.2.2.2.1.mpr h0) (hok2.2.2.2.2.2 (hok2.2.2.2.2.1.mpr h0)).1 hnt a (by omega)]
                        by_cases e : x = dN
                        · rw [if_pos ⟨rfl, by omega⟩, if_pos e, hf2, if_neg (by omega), eF]
                        · rw [if_neg (fun q => e (by omega)), if_neg e]
                          by_cases el : x = S2.2.2.2.1
                          · rw [if_pos el, if_pos ⟨by omega, by omega⟩]
                          · rw [if_neg el, if_neg (fun q => el (by omega))], by rw [hw10]; exact kt_75 hkq, by omega, by
                      rcases hm2 with h | h
                      · refine Or.inl ⟨h.1, by rw [q19]; exact h.2, Or.inr hst3, fun _ hl => ?_⟩
                        rcases hk with k | k
                        · exact k.2 hl
                        · exact absurd (hfv2.trans h.2) k.1
                      · refine Or.inr ⟨h.1, Or.inl ?_⟩
                        rcases hk with k | k
                        · exact absurd (hfv2.symm.trans k.1) h.2
                        · unfold CyF at k ⊢
                          rw [q19]; rw [hfv2] at k; exact k⟩) (by first | (rw [j17, gq]; omega) | (rw [hw10, up_ne _ _ (by omega), q17, gq]; omega))
                refine v_aload_n 1 (pc' := 251) rfl dX11_readsCycle_250 rfl rfl ?_
                refine v_get (z := fv2) (pc' := 254) rfl dX11_readsCycle_251 fk_RX11_213 ly_63 rfl (q19) ?_
                refine v_if_ne (pc' := 257) (tgt := 261) rfl dX11_readsCycle_254 (by decide) (hfr2) (fun c17 => ?_) (fun c17 => ?_)
                ·
                  refine v_iconst (pc' := 262) rfl dX11_readsCycle_261 ?_
                  refine v_ls [1, 2, 3, 4, 0, 5, 6, 7, 8] rfl ?_
                  exact J262 (0) (by first | exact Or.inl ⟨rfl, by omega⟩ | exact Or.inr ⟨rfl, by omega⟩)
                ·
                  refine v_iconst (pc' := 258) rfl dX11_readsCycle_257 ?_
                  refine v_goto (tgt := 262) dX11_readsCycle_258 (by decide) ?_
                  refine v_ls [1, 2, 3, 4, 0, 5, 6, 7, 8] rfl ?_
                  exact J262 (1) (by first | exact Or.inl ⟨rfl, by omega⟩ | exact Or.inr ⟨rfl, by omega⟩)
              refine v_iload_n 4 (pc' := 220) rfl dX11_readsCycle_219 rfl rfl ?_
              refine v_if_ne (pc' := 223) (tgt := 229) rfl dX11_readsCycle_220 (by decide) (by omega) (fun c16 => ?_) (fun c16 => ?_)
              ·
                refine v_aload_n 2 (pc' := 230) rfl dX11_readsCycle_229 rfl rfl ?_
                refine v_getR (pc' := 233) rfl dX11_readsCycle_230 fk_RX11_44 ly_63 rfl ?_
                refine v_iload 5 (pc' := 235) rfl dX11_readsCycle_233 rfl ?_
                refine v_iload 1 (pc' := 237) rfl dX11_readsCycle_235 rfl ?_
                refine v_iast (pc' := 238) rfl dX11_readsCycle_237 ly_75 (by omega) (by omega) rfl ?_
                refine v_nmw (fun w9 hw9 => ?_)
                have hfv2 : w9 63 19 = fv2 := by rw [hw9, up_ne _ _ (by omega)]; exact hfv2
                refine v_ls [2, 3, 0, 4, 5, 6, 7, 8, 1] rfl ?_
                exact J238 (first) w9 (⟨by rw [if_neg (by omega)]; omega, by rw [hw9, up_ne _ _ (by omega)]; exact k17, by rw [hw9]; exact kt_75 hkk, hfv2, fun x a b => by
                    have hl := hlast (by omega)
                    rw [hw9, up_at]
                    by_cases e : x = Sx.2.2.2.1
                    · rw [if_pos ⟨rfl, by omega⟩, if_pos ⟨by omega, e⟩]; omega
                    · rw [if_neg (fun q => e (by omega)), if_neg (fun q => e q.2), k75, j75, g75]; rw [hDx x a b]; rw [← dr_sp (S := Sx) (st := S2.1) hfs, ← e2]⟩)
              ·
                refine v_iload 1 (pc' := 225) rfl dX11_readsCycle_223 rfl ?_
                refine v_istore_n (ls' := [(3, _), (2, _), (8, _), (0, _), (1, _), (4, _), (5, _), (6, _), (7, _)]) (pc' := 226) rfl dX11_readsCycle_225 rfl rfl rfl ?_
                refine v_goto (tgt := 238) dX11_readsCycle_226 (by decide) ?_
                refine v_ls [3, 4, 1, 0, 5, 6, 7, 8, 2] rfl ?_
                exact J238 (d') wk (⟨by rw [if_pos (by omega)]; omega, k17, hkk, hfv2, fun x a b => by rw [if_neg (fun e => e.1 (by omega)), k75, j75, g75]; rw [hDx x a b]; rw [← dr_sp (S := Sx) (st := S2.1) hfs, ← e2]⟩)
            have h7p : w7 63 17 = ((r + 1 : Nat) : Int) := by rw [hw7, up_eq]; omega
            have h7f : w7 63 19 = 0 := hfv.trans hfv0
            have h7k : KT w w7 := by rw [hw7]; exact kt_up hkj (Or.inl rfl)
            have h775 : ∀ j, w7 75 j = wj 75 j := fun j => by rw [hw7, up_ne _ _ (by omega)]
            have p7 := h7p
            refine v_aload_n 1 (pc' := 162) rfl dX11_readsCycle_161 rfl rfl ?_
            refine v_get (pc' := 165) rfl dX11_readsCycle_162 fk_RX11_207 ly_63 rfl rfl ?_
            refine v_aload_n 1 (pc' := 166) rfl dX11_readsCycle_165 rfl rfl ?_
            refine v_get (z := ((K : Nat) : Int)) (pc' := 169) rfl dX11_readsCycle_166 fk_RX11_210 ly_63 rfl (j18) ?_
            refine v_icmp_ge (pc' := 172) (tgt := 205) rfl dX11_readsCycle_169 (by decide) (by omega) (by omega) (fun c13 => ?_) (fun c13 => ?_)
            ·
              refine v_ls [1, 2, 3, 4, 5, 0, 6, 7] rfl ?_
              exact J205 w7 (⟨h7p, h7k, h775, Or.inl ⟨h7f, fun hl hd => by first | omega | (have := (sby_dig (hT (r + 1) (by omega)).1 (hT (r + 1) (by omega)).2).mpr hd; omega)⟩⟩)
            ·
              have hnxt := sby_dig (hT (r + 1) (by omega)).1 (hT (r + 1) (by omega)).2
              have hsbr := sby_r (hT (r + 1) (by omega)).1 (hT (r + 1) (by omega)).2
              refine v_aload_n 1 (pc' := 173) rfl dX11_readsCycle_172 rfl rfl ?_
              refine v_getR (pc' := 176) rfl dX11_readsCycle_173 fk_RX11_40 ly_63 rfl ?_
              refine v_aload_n 1 (pc' := 177) rfl dX11_readsCycle_176 rfl rfl ?_
              refine v_get (pc' := 180) rfl dX11_readsCycle_177 fk_RX11_207 ly_63 rfl rfl ?_
              refine v_bald (z := (sby (T (r + 1)))) (pc' := 181) rfl dX11_readsCycle_180 ly_74 (by omega) (by omega) rfl (by rw [h7p, show (((r + 1 : Nat) : Int)).toNat = r + 1 from rfl, hw7, up_ne _ _ (by omega)]; exact (hkj.2 74 _ rfl).trans (hTp _ (by omega))) ?_
              refine v_bipush (pc' := 183) rfl dX11_readsCycle_181 rfl ?_
              refine v_icmp_lt (pc' := 186) (tgt := 205) rfl dX11_readsCycle_183 (by decide) (by omega) (by omega) (fun c14 => ?_) (fun c14 => ?_)
              ·
                refine v_ls [1, 2, 3, 4, 5, 0, 6, 7] rfl ?_
                exact J205 w7 (⟨h7p, h7k, h775, Or.inl ⟨h7f, fun hl hd => by first | omega | (have := (sby_dig (hT (r + 1) (by omega)).1 (hT (r + 1) (by omega)).2).mpr hd; omega)⟩⟩)
              ·
                refine v_aload_n 1 (pc' := 187) rfl dX11_readsCycle_186 rfl rfl ?_
                refine v_getR (pc' := 190) rfl dX11_readsCycle_187 fk_RX11_40 ly_63 rfl ?_
                refine v_aload_n 1 (pc' := 191) rfl dX11_readsCycle_190 rfl rfl ?_
                refine v_get (pc' := 194) rfl dX11_readsCycle_191 fk_RX11_207 ly_63 rfl rfl ?_
                refine v_bald (z := (sby (T (r + 1)))) (pc' := 195) rfl dX11_readsCycle_194 ly_74 (by omega) (by omega) rfl (by rw [h7p, show (((r + 1 : Nat) : Int)).toNat = r + 1 from rfl, hw7, up_ne _ _ (by omega)]; exact (hkj.2 74 _ rfl).trans (hTp _ (by omega))) ?_
                refine v_bipush (pc' := 197) rfl dX11_readsCycle_195 rfl ?_
                refine v_icmp_gt (pc' := 200) (tgt := 205) rfl dX11_readsCycle_197 (by decide) (by omega) (by omega) (fun c15 => ?_) (fun c15 => ?_)
                ·
                  refine v_ls [1, 2, 3, 4, 5, 0, 6, 7] rfl ?_
                  exact J205 w7 (⟨h7p, h7k, h775, Or.inl ⟨h7f, fun hl hd => by first | omega | (have := (sby_dig (hT (r + 1) (by omega)).1 (hT (r + 1) (by omega)).2).mpr hd; omega)⟩⟩)
                ·
                  refine v_aload_n 1 (pc' := 201) rfl dX11_readsCycle_200 rfl rfl ?_
                  refine v_iconst (pc' := 202) rfl dX11_readsCycle_201 ?_
                  refine v_cVv (pc' := 205) rfl dX11_readsCycle_202 lk_RX11_219 ly_63 rfl (c_wrong l G (kd := 1) (by decide) (show r + 1 ≤ 60 by omega) w7 h7p h7f) rfl rfl rfl (fun wrong4 w8 hq8 => ?_)
                  refine v_ls [1, 2, 3, 4, 5, 0, 6, 7] rfl ?_
                  exact J205 w8 (⟨by rw [hq8, up_ne _ _ (by omega)]; exact h7p, by rw [hq8]; exact kt_up h7k (Or.inr rfl), fun j => by rw [hq8, up_ne _ _ (by omega)]; exact h775 j, Or.inr ⟨by rw [hq8, up_eq]; omega, by rw [hq8, up_eq]; exact hstep.badE hK (by omega) (f := 1) (by rw [rdF_dig (d := (T (r + 1)).toNat - 48) (by have := (hnxt.mp ⟨by omega, by omega⟩).1; omega) (by have := (hnxt.mp ⟨by omega, by omega⟩).2; omega), if_neg (by rw [hst3]; decide)]) (by decide) (by decide) (by omega)⟩⟩)
          ·
            refine v_goto (tgt := 20) dX11_readsCycle_148 (by decide) ?_
            refine v_ls [1, 2, 3, 4, 5, 0] rfl ?_
            exact ih0 (told) (first) (last) (mv) wj (⟨r, S2, hM2, j17, by rw [eT]; exact htold, by rw [eF]; exact hfirst, fun h => by rw [eL]; exact hlast h, hlr, hDx.fr (fun j => by rw [j75, g75]) (by rw [← dr_sp (S := Sx) (st := S2.1) hfs, ← e2]), hkj, by omega, Or.inr ⟨by omega, by
                rcases hj with h | h
                · exact Or.inl h
                · rcases h.2 with k | k
                  · exact absurd h.1 (by omega)
                  · exact Or.inr ⟨h.1, k.2.1, k.2.2.1, hfs.mpr (hokx.2.2.2.2.1.mpr (by omega))⟩⟩⟩) (by first | (rw [j17, gq]; omega) | (rw [hw10, up_ne _ _ (by omega), q17, gq]; omega))
        refine v_aload_n 0 (pc' := 125) rfl dX11_readsCycle_124 rfl rfl ?_
        refine v_get (z := fv) (pc' := 128) rfl dX11_readsCycle_125 fk_RX11_213 ly_63 rfl (hfv) ?_
        refine v_if_ne (pc' := 131) (tgt := 140) rfl dX11_readsCycle_128 (by decide) (hfr) (fun c10 => ?_) (fun c10 => ?_)
        ·
          refine v_iconst (pc' := 141) rfl dX11_readsCycle_140 ?_
          exact J141 (0) (by first | exact Or.inl ⟨rfl, by omega, by omega⟩ | exact Or.inr ⟨rfl, by omega⟩)
        ·
          refine v_iload 7 (pc' := 133) rfl dX11_readsCycle_131 rfl ?_
          refine v_if_eq (pc' := 136) (tgt := 140) rfl dX11_readsCycle_133 (by decide) (by omega) (fun c11 => ?_) (fun c11 => ?_)
          ·
            refine v_iconst (pc' := 141) rfl dX11_readsCycle_140 ?_
            exact J141 (0) (by first | exact Or.inl ⟨rfl, by omega, by omega⟩ | exact Or.inr ⟨rfl, by omega⟩)
          ·
            refine v_iconst (pc' := 137) rfl dX11_readsCycle_136 ?_
            refine v_goto (tgt := 141) dX11_readsCycle_137 (by decide) ?_
            exact J141 (1) (by first | exact Or.inl ⟨rfl, by omega, by omega⟩ | exact Or.inr ⟨rfl, by omega⟩)
      have J101 : ∀  (hJ : (dg = 1 ∧ r < K ∧ see1 = T r ∧ 1 ≤ see1 - 48 ∧ see1 - 48 ≤ (n : Int)) ∨ (dg = 0 ∧ r < K ∧ T r = 41 ∧ first ≠ 0)), V (mX l G 2 9 (some .int) (fun z w' => CyP w n K p T z w')) RX11 cX11_readsCycle 101 [(0, aR 63), (1, aI (t0)), (2, aI (told)), (3, aI (first)), (4, aI (last)), (5, aI (more)), (6, aI (see1)), (7, aI (dg))] [] w2 := by
        intro  hJ
        have h101 := hJ
        refine v_iload 7 (pc' := 103) rfl dX11_readsCycle_101 rfl ?_
        refine v_if_eq (pc' := 106) (tgt := 124) rfl dX11_readsCycle_103 (by decide) (by omega) (fun c8 => ?_) (fun c8 => ?_)
        ·
          have h101c : dg = 0 ∧ r < K ∧ T r = 41 ∧ first ≠ 0 := by
            rcases h101 with h | h
            · omega
            · exact h
          exact J124 w2 (⟨g17, hk2, fun _ => rfl, Or.inr ⟨g19, by first | exact Or.inl ⟨by omega, hrK, hsee, by omega, by omega, by rw [show (see1 - 48).toNat = dN0 by omega]; exact hnt⟩ | exact Or.inr h101c⟩⟩)
        ·
          obtain ⟨hrK, hsee, hda, hdb⟩ : r < K ∧ see1 = T r ∧ 1 ≤ see1 - 48 ∧ see1 - 48 ≤ (n : Int) := by
            rcases h101 with h | h
            · exact h.2
            · omega
          obtain ⟨dN0, hdN0⟩ : ∃ x : Nat, see1 = 48 + (x : Int) := ⟨(see1 - 48).toNat, by omega⟩
          have h24 : S2.1 = 2 ∨ S2.1 = 4 := by
            by_cases e3 : S2.1 = 3
            · exact absurd (show IsD (T r) from ⟨by omega, by omega⟩) (h3b e3 hrK)
            · omega
          have hbh := bit_has (u := Sx.2.1) (x := dN0) hokx.2.1 (by omega) (by omega)
          rw [← eT] at hbh
          refine v_iload_n 2 (pc' := 107) rfl dX11_readsCycle_106 rfl rfl ?_
          refine v_iload 6 (pc' := 109) rfl dX11_readsCycle_107 rfl ?_
          refine v_bipush (pc' := 111) rfl dX11_readsCycle_109 rfl ?_
          refine v_isub (pc' := 112) rfl dX11_readsCycle_111 ?_
          refine v_ishr (z := ((2 * S2.2.1 / 2 ^ dN0 : Nat) : Int)) (pc' := 113) rfl dX11_readsCycle_112 (by rw [eT]; exact iz_shrE htold (by omega) (by omega) (by omega)) ?_
          refine v_iconst (pc' := 114) rfl dX11_readsCycle_113 ?_
          refine v_iand (z := ((2 * S2.2.1 / 2 ^ dN0 % 2 : Nat) : Int)) (pc' := 115) rfl dX11_readsCycle_114 (iz_and1 rfl) ?_
          refine v_iconst (pc' := 116) rfl dX11_readsCycle_115 ?_
          refine v_icmp_ne (pc' := 119) (tgt := 124) rfl dX11_readsCycle_116 (by decide) (by omega) (by decide) (fun c9 => ?_) (fun c9 => ?_)
          ·
            have hnt : ¬ hasb S2.2.1 dN0 := fun q => by have := hbh.mpr q; omega
            exact J124 w2 (⟨g17, hk2, fun _ => rfl, Or.inr ⟨g19, by first | exact Or.inl ⟨by omega, hrK, hsee, by omega, by omega, by rw [show (see1 - 48).toNat = dN0 by omega]; exact hnt⟩ | exact Or.inr h101c⟩⟩)
          ·
            have hbad : TxE n T K (-1000 * 3 - (r : Int)) := hM2.badE hK hrK (f := 3) (by rw [rdF_dig (d := dN0) (by omega) (by omega), if_pos h24, if_neg (by omega), if_pos (hbh.mp (by omega))]) (by decide) (by decide) (by omega)
            refine v_aload_n 0 (pc' := 120) rfl dX11_readsCycle_119 rfl rfl ?_
            refine v_iconst (pc' := 121) rfl dX11_readsCycle_120 ?_
            refine v_cVv (pc' := 124) rfl dX11_readsCycle_121 lk_RX11_219 ly_63 rfl (c_wrong l G (kd := 3) (by decide) (show r ≤ 60 by omega) w2 g17 g19) rfl rfl rfl (fun wrong3 w6 hq6 => ?_)
            exact J124 w6 (⟨by rw [hq6, up_ne _ _ (by omega)]; exact g17, by rw [hq6]; exact kt_up hk2 (Or.inr rfl), fun j => by rw [hq6, up_ne _ _ (by omega)], Or.inl ⟨by rw [hq6, up_eq]; omega, by rw [hq6, up_eq]; exact hbad⟩⟩)
      have J76 : ∀  (hJ : (dg = 1 ∧ r < K ∧ see1 = T r ∧ IsD see1) ∨ (dg = 0 ∧ r < K ∧ T r = 41 ∧ first ≠ 0)), V (mX l G 2 9 (some .int) (fun z w' => CyP w n K p T z w')) RX11 cX11_readsCycle 76 [(0, aR 63), (1, aI (t0)), (2, aI (told)), (3, aI (first)), (4, aI (last)), (5, aI (more)), (6, aI (see1)), (7, aI (dg))] [] w2 := by
        intro  hJ
        have h76 := hJ
        refine v_iload 7 (pc' := 78) rfl dX11_readsCycle_76 rfl ?_
        refine v_if_eq (pc' := 81) (tgt := 101) rfl dX11_readsCycle_78 (by decide) (by omega) (fun c6 => ?_) (fun c6 => ?_)
        ·
          have h76c : dg = 0 ∧ r < K ∧ T r = 41 ∧ first ≠ 0 := by
            rcases h76 with h | h
            · omega
            · exact h
          exact J101  (by first | exact Or.inl ⟨by omega, hrK, hsee, q1.1, q1.2⟩ | exact Or.inr h76c)
        ·
          obtain ⟨hrK, hsee, hDs⟩ : r < K ∧ see1 = T r ∧ IsD see1 := by
            rcases h76 with h | h
            · exact h.2
            · omega
          have hDs2 := hDs
          unfold IsD at hDs2
          obtain ⟨dN0, hdN0⟩ : ∃ x : Nat, see1 = 48 + (x : Int) := ⟨(see1 - 48).toNat, by omega⟩
          have h24 : S2.1 = 2 ∨ S2.1 = 4 := by
            by_cases e3 : S2.1 = 3
            · exact absurd (show IsD (T r) from ⟨by omega, by omega⟩) (h3b e3 hrK)
            · omega
          refine v_aload_n 0 (pc' := 82) rfl dX11_readsCycle_81 rfl rfl ?_
          refine v_iload 6 (pc' := 84) rfl dX11_readsCycle_82 rfl ?_
          refine v_bipush (pc' := 86) rfl dX11_readsCycle_84 rfl ?_
          refine v_isub (pc' := 87) rfl dX11_readsCycle_86 ?_
          refine v_cVP (pc' := 90) rfl dX11_readsCycle_87 lk_RX11_129 ly_63 rfl (c_isDart l G (by omega) hn7 w2 (show w2 63 0 = (n : Nat) from (hk2.1 0 (by decide) (by decide)).trans h00)) rfl rfl rfl ?_
          refine v_nm (fun isDart1 hisDart1 => ?_)
          refine v_if_ne (pc' := 93) (tgt := 101) rfl dX11_readsCycle_90 (by decide) (inB_r hisDart1) (fun c7 => ?_) (fun c7 => ?_)
          ·
            have q1 := inB_1 hisDart1 (by omega)
            exact J101  (by first | exact Or.inl ⟨by omega, hrK, hsee, q1.1, q1.2⟩ | exact Or.inr h76c)
          ·
            have q0 := inB_0 hisDart1 (by omega)
            have hbad : TxE n T K (-1000 * 2 - (r : Int)) := hM2.badE hK hrK (f := 2) (by rw [rdF_dig (d := dN0) (by omega) (by omega), if_pos h24, if_pos (by omega)]) (by decide) (by decide) (by omega)
            refine v_aload_n 0 (pc' := 94) rfl dX11_readsCycle_93 rfl rfl ?_
            refine v_iconst (pc' := 95) rfl dX11_readsCycle_94 ?_
            refine v_cVv (pc' := 98) rfl dX11_readsCycle_95 lk_RX11_219 ly_63 rfl (c_wrong l G (kd := 2) (by decide) (show r ≤ 60 by omega) w2 g17 g19) rfl rfl rfl (fun wrong2 w5 hq5 => ?_)
            refine v_goto (tgt := 124) dX11_readsCycle_98 (by decide) ?_
            exact J124 w5 (⟨by rw [hq5, up_ne _ _ (by omega)]; exact g17, by rw [hq5]; exact kt_up hk2 (Or.inr rfl), fun j => by rw [hq5, up_ne _ _ (by omega)], Or.inl ⟨by rw [hq5, up_eq]; omega, by rw [hq5, up_eq]; exact hbad⟩⟩)
      refine v_iload 0 (pc' := 54) rfl dX11_readsCycle_52 rfl ?_
      refine v_if_ne (pc' := 57) (tgt := 76) rfl dX11_readsCycle_54 (by decide) (by omega) (fun c3 => ?_) (fun c3 => ?_)
      ·
        have hdg1 : dg = 1 := by omega
        have hDs : IsD see1 := by
          rcases hdg with h | h
          · exact h.2
          · omega
        obtain ⟨hrK, hsee⟩ : r < K ∧ see1 = T r := by
          have hq := hDs
          unfold IsD at hq
          rcases hz with z | z
          · omega
          · exact ⟨z.1, z.2.2⟩
        refine v_ls [1, 2, 3, 4, 5, 6, 7, 0] rfl ?_
        exact J76  (by first | exact Or.inl ⟨hdg1, hrK, hsee, hDs⟩ | exact Or.inr ⟨hdg0, hrK, h41, by omega⟩)
      ·
        have hdg0 : dg = 0 := by omega
        have hnD : ¬ IsD see1 := by
          rcases hdg with h | h
          · omega
          · exact h.2
        refine v_iload 7 (pc' := 59) rfl dX11_readsCycle_57 rfl ?_
        refine v_bipush (pc' := 61) rfl dX11_readsCycle_59 rfl ?_
        refine v_icmp_ne (pc' := 64) (tgt := 68) rfl dX11_readsCycle_61 (by decide) (hsr) (by decide) (fun c4 => ?_) (fun c4 => ?_)
        ·
          have hbad : TxE n T K (-1000 * 1 - (r : Int)) := hM2.oth hT hK hs2 hz hnD (fun q => c4 q.1) (by omega)
          refine v_aload_n 1 (pc' := 69) rfl dX11_readsCycle_68 rfl rfl ?_
          refine v_iconst (pc' := 70) rfl dX11_readsCycle_69 ?_
          refine v_cVv (pc' := 73) rfl dX11_readsCycle_70 lk_RX11_219 ly_63 rfl (c_wrong l G (kd := 1) (by decide) (show r ≤ 60 by omega) w2 g17 g19) rfl rfl rfl (fun wrong1 w3 hq3 => ?_)
          refine v_goto (tgt := 124) dX11_readsCycle_73 (by decide) ?_
          refine v_ls [1, 2, 3, 4, 5, 6, 7, 0] rfl ?_
          exact J124 w3 (⟨by rw [hq3, up_ne _ _ (by omega)]; exact g17, by rw [hq3]; exact kt_up hk2 (Or.inr rfl), fun j => by rw [hq3, up_ne _ _ (by omega)], Or.inl ⟨by rw [hq3, up_eq]; omega, by rw [hq3, up_eq]; exact hbad⟩⟩)
        ·
          refine v_iload_n 4 (pc' := 65) rfl dX11_readsCycle_64 rfl rfl ?_
          refine v_if_ne (pc' := 68) (tgt := 76) rfl dX11_readsCycle_65 (by decide) (by omega) (fun c5 => ?_) (fun c5 => ?_)
          ·
            obtain ⟨hrK, h41⟩ : r < K ∧ T r = 41 := by
              rcases hz with z | z
              · omega
              · exact ⟨z.1, by omega⟩
            refine v_ls [1, 2, 3, 4, 5, 6, 7, 0] rfl ?_
            exact J76  (by first | exact Or.inl ⟨hdg1, hrK, hsee, hDs⟩ | exact Or.inr ⟨hdg0, hrK, h41, by omega⟩)
          ·
            have hbad : TxE n T K (-1000 * 1 - (r : Int)) := hM2.oth hT hK hs2 hz hnD (fun q => by have := hokx.2.2.2.2.1.mp (hfs.mp q.2); omega) (by omega)
            refine v_aload_n 1 (pc' := 69) rfl dX11_readsCycle_68 rfl rfl ?_
            refine v_iconst (pc' := 70) rfl dX11_readsCycle_69 ?_
            refine v_cVv (pc' := 73) rfl dX11_readsCycle_70 lk_RX11_219 ly_63 rfl (c_wrong l G (kd := 1) (by decide) (show r ≤ 60 by omega) w2 g17 g19) rfl rfl rfl (fun wrong1 w3 hq3 => ?_)
            refine v_goto (tgt := 124) dX11_readsCycle_73 (by decide) ?_
            refine v_ls [1, 2, 3, 4, 5, 6, 7, 0] rfl ?_
            exact J124 w3 (⟨by rw [hq3, up_ne _ _ (by omega)]; exact g17, by rw [hq3]; exact kt_up hk2 (Or.inr rfl), fun j => by rw [hq3, up_ne _ _ (by omega)], Or.inl ⟨by rw [hq3, up_eq]; omega, by rw [hq3, up_eq]; exact hbad⟩⟩)
    refine v_iload 0 (pc' := 33) rfl dX11_readsCycle_31 rfl ?_
    refine v_bipush (pc' := 35) rfl dX11_readsCycle_33 rfl ?_
    refine v_icmp_lt (pc' := 38) (tgt := 49) rfl dX11_readsCycle_35 (by decide) (hsr) (by decide) (fun c1 => ?_) (fun c1 => ?_)
    ·
      refine v_iconst (pc' := 50) rfl dX11_readsCycle_49 ?_
      refine v_ls [1, 2, 3, 4, 5, 6, 0] rfl ?_
      exact J50 (0) (by unfold IsD; first | exact Or.inl ⟨rfl, by omega⟩ | exact Or.inr ⟨rfl, by omega⟩)
    ·
      refine v_iload 0 (pc' := 40) rfl dX11_readsCycle_38 rfl ?_
      refine v_bipush (pc' := 42) rfl dX11_readsCycle_40 rfl ?_
      refine v_icmp_gt (pc' := 45) (tgt := 49) rfl dX11_readsCycle_42 (by decide) (hsr) (by decide) (fun c2 => ?_) (fun c2 => ?_)
      ·
        refine v_iconst (pc' := 50) rfl dX11_readsCycle_49 ?_
        refine v_ls [1, 2, 3, 4, 5, 6, 0] rfl ?_
        exact J50 (0) (by unfold IsD; first | exact Or.inl ⟨rfl, by omega⟩ | exact Or.inr ⟨rfl, by omega⟩)
      ·
        refine v_iconst (pc' := 46) rfl dX11_readsCycle_45 ?_
        refine v_goto (tgt := 50) dX11_readsCycle_46 (by decide) ?_
        refine v_ls [1, 2, 3, 4, 5, 6, 0] rfl ?_
        exact J50 (1) (by unfold IsD; first | exact Or.inl ⟨rfl, by omega⟩ | exact Or.inr ⟨rfl, by omega⟩)

theorem Sp.mono {l : Launch} {G : Gx} {d : Nat} {Y : MI} {as : List AV} {w : Wd} {Q Q' : Int → Wd → Prop} (h : Sp l G d Y as w Q) (hQ : ∀ z w', Q z w' → Q' z w') : Sp l G d Y as w Q' := by
  intro sz p e ha hc hk s m args below hf hS hP hK
  obtain ⟨n, o, h1, h2, h3, h4, h5⟩ := h sz p e ha hc hk s m args below hf hS hP hK
  refine ⟨n, o, h1, h2, h3, ?_, h5⟩
  revert h4
  unfold Qk
  generalize Y.2.2.2 = ret
  cases ret with
  | none => exact fun ⟨⟨u, e1, e2, e3⟩, e4⟩ => ⟨⟨u, e1, hQ _ _ e2, e3⟩, e4⟩
  | some ty => cases ty <;> exact fun ⟨⟨r, u, e1, ⟨z, e5, e2⟩, e3⟩, e4⟩ => ⟨⟨r, u, e1, ⟨z, e5, hQ _ _ e2⟩, e3⟩, e4⟩
def GInv (w : Wd) : Prop := w 14 3 = 0 ∨ ∃ n s a, (1 ≤ n ∧ n ≤ 7) ∧ Pm n s ∧ Pm n a ∧ GrpOK w n s a
theorem c_fill (l : Launch) (G : Gx) {n0 p q : Int} {n : Nat} {s a : Nat → Nat} (hn : n0 = n) (hn1 : 1 ≤ n) (hn7 : n ≤ 7) (hs : Pm n s) (ha : Pm n a) (hp : p = (hx s : Nat)) (hq : q = (hx a : Nat)) (w : Wd) (hG : GInv w) : Sp l G 3 mX4_fill [aR 14, aI n0, aI p, aI q] w (fun _ w' => Fr [14, 15, 16] w w' ∧ GrpOK w' n s a) := by
  by_cases hm : GrpOK w n s a
  · exact (c_fillHit l G hn hn1 hn7 hs ha hp hq w hm).mono (fun z w' e => by subst e; exact ⟨Fr.rf _ _, hm⟩)
  · refine c_fillMiss l G hn hn1 hn7 hs ha hp hq w ?_
    rcases hG with h0 | ⟨n', s', a', hn', hs', ha', hg⟩
    · exact ⟨by omega, fun e => by omega⟩
    · obtain ⟨⟨g3, g4, g5⟩, gw⟩ := id hg
      have b1 := hx_pos hs' hn'.2
      have b2 := hx_pos ha' hn'.2
      refine ⟨by omega, fun e => ⟨by omega, fun e2 => ⟨by omega, fun e3 => hm ?_⟩⟩⟩
      have e4 : n' = n := by omega
      subst e4
      have e5 : s' = s := (hx_inj hs' hs hn7 hn7).mp (by omega)
      have e6 : a' = a := (hx_inj ha' ha hn7 hn7).mp (by omega)
      subst e5; subst e6
      exact hg
def cntG (P : (Nat → Nat) → Bool) (L : List (Nat → Nat)) : Nat → Nat
  | 0 => 0
  | k + 1 => cntG P L k + if P (L.getD k pid) then 1 else 0
theorem cntG_le (P : (Nat → Nat) → Bool) (L : List (Nat → Nat)) : ∀ k, cntG P L k ≤ k
  | 0 => Nat.le_refl _
  | k + 1 => by have := cntG_le P L k; simp only [cntG]; split <;> omega
set_option maxHeartbeats 4000000 in
set_option maxRecDepth 100000 in
theorem c_ofKind (l : Launch) (G : Gx) {t : Int} (ht : rg t) {n : Nat} {s a : Nat → Nat} (hn1 : 1 ≤ n) (hn7 : n ≤ 7) (hs : Pm n s) (ha : Pm n a) (w : Wd) (hG : GrpOK w n s a) : SpP l G 3 mX4_ofKind [aR 14, aI (t)] w (((cntG (fun p => decide ((kindN p n : Int) = t)) (bfs n s a).1 (bfs n s a).1.length : Nat) : Int)) := by
  obtain ⟨⟨g3, g4, g5⟩, gw⟩ := hG
  have gm := gw.1
  have hBI : BI n (bfs n s a) := bfsI_BI hn1 hn7 hs ha 5040
  have hlen := hBI.len hn1 hn7
  have hf5 := fac_5040 hn1 hn7
  refine Sp_of RX4 rfl (by decide +kernel) rfl (Nat.le_of_ble_eq_true rfl) ?_
  refine v_iconst (pc' := 1) rfl dX4_ofKind_0 ?_
  refine v_istore_n (ls' := [(2, _), (0, _), (1, _)]) (pc' := 2) rfl dX4_ofKind_1 rfl rfl rfl ?_
  refine v_iconst (pc' := 3) rfl dX4_ofKind_2 ?_
  refine v_istore_n (ls' := [(3, _), (2, _), (0, _), (1, _)]) (pc' := 4) rfl dX4_ofKind_3 rfl rfl rfl ?_
  refine v_ls [2, 3, 1, 0] rfl ?_
  refine v_loop2 4 (fun (fnd : Int) (i : Int) => ∃ k : Nat, i = k ∧ k ≤ (bfs n s a).1.length ∧ fnd = (cntG (fun p => decide ((kindN p n : Int) = t)) (bfs n s a).1 k : Nat)) (fun (fnd : Int) (i : Int) => (5040 - i).toNat) (fun (fnd : Int) (i : Int) => [(0, aR 14), (1, aI (t)), (2, aI (fnd)), (3, aI (i))]) (fun (fnd : Int) (i : Int) => []) (fun (fnd : Int) (i : Int) => w) (fun fnd i hI0 ih0 => ?_) (0) (0) (⟨0, rfl, by omega, rfl⟩)
  obtain ⟨k, hi, hk, hfnd⟩ := hI0
  refine v_iload_n 3 (pc' := 5) rfl dX4_ofKind_4 rfl rfl ?_
  refine v_aload_n 0 (pc' := 6) rfl dX4_ofKind_5 rfl rfl ?_
  refine v_get (z := (((bfs n s a).1.length : Nat) : Int)) (pc' := 9) rfl dX4_ofKind_6 fk_RX4_28 ly_14 rfl (gm) ?_
  refine v_icmp_ge (pc' := 12) (tgt := 45) rfl dX4_ofKind_9 (by decide) (by omega) (by omega) (fun c0 => ?_) (fun c0 => ?_)
  ·
    have e : k = (bfs n s a).1.length := by omega
    refine v_iload_n 2 (pc' := 46) rfl dX4_ofKind_45 rfl rfl ?_
    refine v_iret dX4_ofKind_46 (by decide) (rfl) ?_
    exact ⟨by rw [hfnd, e], rfl⟩
  ·
    refine v_iload_n 3 (pc' := 13) rfl dX4_ofKind_12 rfl rfl ?_
    refine v_sipush (pc' := 16) rfl dX4_ofKind_13 rfl ?_
    refine v_icmp_ge (pc' := 19) (tgt := 45) rfl dX4_ofKind_16 (by decide) (by omega) (by omega) (fun c1 => absurd c1 (by omega)) (fun c1 => ?_)
    have hpp := hBI.1 _ (getD_mem (L := (bfs n s a).1) (i := k) (d := pid) (by omega))
    refine v_aload_n 0 (pc' := 20) rfl dX4_ofKind_19 rfl rfl ?_
    refine v_getR (pc' := 23) rfl dX4_ofKind_20 fk_RX4_9 ly_14 rfl ?_
    refine v_iload_n 3 (pc' := 24) rfl dX4_ofKind_23 rfl rfl ?_
    refine v_iald (z := ((hx ((bfs n s a).1.getD k pid) : Nat) : Int)) (pc' := 25) rfl dX4_ofKind_24 ly_15 (by omega) (by omega) rfl (by rw [show i.toNat = k by omega]; exact gw.2.1 k (by omega)) ?_
    refine v_aload_n 0 (pc' := 26) rfl dX4_ofKind_25 rfl rfl ?_
    refine v_get (z := (n : Int)) (pc' := 29) rfl dX4_ofKind_26 fk_RX4_18 ly_14 rfl (g3) ?_
    refine v_cSP (pc' := 32) rfl dX4_ofKind_29 lk_RX4_52 rfl (c_kind l G rfl (hpp.b7 hn7) rfl hn7 w) rfl rfl rfl ?_
    refine v_nm (fun kind1 hkind1 => ?_)
    refine v_iload_n 1 (pc' := 33) rfl dX4_ofKind_32 rfl rfl ?_
    refine v_icmp_ne (pc' := 36) (tgt := 39) rfl dX4_ofKind_33 (by decide) (by obtain ⟨it, h1, h2⟩ := kf_type hn1 hn7 hpp; have := kT_le hn7 h1; omega) (ht) (fun c2 => ?_) (fun c2 => ?_)
    ·
      have hno : ¬ decide ((kindN ((bfs n s a).1.getD k pid) n : Int) = t) = true := by rw [decide_eq_true_eq]; omega
      refine v_iinc (ls' := [(3, _), (0, _), (1, _), (2, _)]) 3 (pc' := 42) rfl dX4_ofKind_39 rfl rfl rfl ?_
      refine v_nl (fun i' hi' => ?_)
      refine v_goto (tgt := 4) dX4_ofKind_42 (by decide) ?_
      refine v_ls [1, 2, 3, 0] rfl ?_
      exact ih0 (fnd) (i') (⟨k + 1, by omega, by omega, by simp only [cntG]; rw [if_neg hno]; omega⟩) (by omega)
    ·
      have hyes : decide ((kindN ((bfs n s a).1.getD k pid) n : Int) = t) = true := by rw [decide_eq_true_eq]; omega
      refine v_iinc (ls' := [(2, _), (0, _), (1, _), (3, _)]) 2 (pc' := 39) rfl dX4_ofKind_36 rfl rfl rfl ?_
      refine v_nl (fun fnd' hfnd' => ?_)
      refine v_iinc (ls' := [(3, _), (2, _), (0, _), (1, _)]) 3 (pc' := 42) rfl dX4_ofKind_39 rfl rfl rfl ?_
      refine v_nl (fun i' hi' => ?_)
      refine v_goto (tgt := 4) dX4_ofKind_42 (by decide) ?_
      refine v_ls [2, 3, 1, 0] rfl ?_
      exact ih0 (fnd') (i') (⟨k + 1, by omega, by omega, by simp only [cntG]; rw [if_pos hyes]; omega⟩) (by omega)
set_option maxHeartbeats 4000000 in
set_option maxRecDepth 100000 in
theorem c_ofOrder (l : Launch) (G : Gx) {t : Int} (ht : rg t) {n : Nat} {s a : Nat → Nat} (hn1 : 1 ≤ n) (hn7 : n ≤ 7) (hs : Pm n s) (ha : Pm n a) (w : Wd) (hG : GrpOK w n s a) : SpP l G 3 mX4_ofOrder [aR 14, aI (t)] w (((cntG (fun p => decide ((orderN p n : Int) = t)) (bfs n s a).1 (bfs n s a).1.length : Nat) : Int)) := by
  obtain ⟨⟨g3, g4, g5⟩, gw⟩ := hG
  have gm := gw.1
  have hBI : BI n (bfs n s a) := bfsI_BI hn1 hn7 hs ha 5040
  have hlen := hBI.len hn1 hn7
  have hf5 := fac_5040 hn1 hn7
  refine Sp_of RX4 rfl (by decide +kernel) rfl (Nat.le_of_ble_eq_true rfl) ?_
  refine v_iconst (pc' := 1) rfl dX4_ofOrder_0 ?_
  refine v_istore_n (ls' := [(2, _), (0, _), (1, _)]) (pc' := 2) rfl dX4_ofOrder_1 rfl rfl rfl ?_
  refine v_iconst (pc' := 3) rfl dX4_ofOrder_2 ?_
  refine v_istore_n (ls' := [(3, _), (2, _), (0, _), (1, _)]) (pc' := 4) rfl dX4_ofOrder_3 rfl rfl rfl ?_
  refine v_ls [2, 3, 1, 0] rfl ?_
  refine v_loop2 4 (fun (fnd : Int) (i : Int) => ∃ k : Nat, i = k ∧ k ≤ (bfs n s a).1.length ∧ fnd = (cntG (fun p => decide ((orderN p n : Int) = t)) (bfs n s a).1 k : Nat)) (fun (fnd : Int) (i : Int) => (5040 - i).toNat) (fun (fnd : Int) (i : Int) => [(0, aR 14), (1, aI (t)), (2, aI (fnd)), (3, aI (i))]) (fun (fnd : Int) (i : Int) => []) (fun (fnd : Int) (i : Int) => w) (fun fnd i hI0 ih0 => ?_) (0) (0) (⟨0, rfl, by omega, rfl⟩)
  obtain ⟨k, hi, hk, hfnd⟩ := hI0
  refine v_iload_n 3 (pc' := 5) rfl dX4_ofOrder_4 rfl rfl ?_
  refine v_aload_n 0 (pc' := 6) rfl dX4_ofOrder_5 rfl rfl ?_
  refine v_get (z := (((bfs n s a).1.length : Nat) : Int)) (pc' := 9) rfl dX4_ofOrder_6 fk_RX4_28 ly_14 rfl (gm) ?_
  refine v_icmp_ge (pc' := 12) (tgt := 45) rfl dX4_ofOrder_9 (by decide) (by omega) (by omega) (fun c0 => ?_) (fun c0 => ?_)
  ·
    have e : k = (bfs n s a).1.length := by omega
    refine v_iload_n 2 (pc' := 46) rfl dX4_ofOrder_45 rfl rfl ?_
    refine v_iret dX4_ofOrder_46 (by decide) (rfl) ?_
    exact ⟨by rw [hfnd, e], rfl⟩
  ·
    refine v_iload_n 3 (pc' := 13) rfl dX4_ofOrder_12 rfl rfl ?_
    refine v_sipush (pc' := 16) rfl dX4_ofOrder_13 rfl ?_
    refine v_icmp_ge (pc' := 19) (tgt := 45) rfl dX4_ofOrder_16 (by decide) (by omega) (by omega) (fun c1 => absurd c1 (by omega)) (fun c1 => ?_)
    have hpp := hBI.1 _ (getD_mem (L := (bfs n s a).1) (i := k) (d := pid) (by omega))
    refine v_aload_n 0 (pc' := 20) rfl dX4_ofOrder_19 rfl rfl ?_
    refine v_getR (pc' := 23) rfl dX4_ofOrder_20 fk_RX4_9 ly_14 rfl ?_
    refine v_iload_n 3 (pc' := 24) rfl dX4_ofOrder_23 rfl rfl ?_
    refine v_iald (z := ((hx ((bfs n s a).1.getD k pid) : Nat) : Int)) (pc' := 25) rfl dX4_ofOrder_24 ly_15 (by omega) (by omega) rfl (by rw [show i.toNat = k by omega]; exact gw.2.1 k (by omega)) ?_
    refine v_aload_n 0 (pc' := 26) rfl dX4_ofOrder_25 rfl rfl ?_
    refine v_get (z := (n : Int)) (pc' := 29) rfl dX4_ofOrder_26 fk_RX4_18 ly_14 rfl (g3) ?_
    refine v_cSP (pc' := 32) rfl dX4_ofOrder_29 lk_RX4_55 rfl (c_order l G rfl (hpp.b7 hn7) rfl hn7 w) rfl rfl rfl ?_
    refine v_nm (fun order1 horder1 => ?_)
    refine v_iload_n 1 (pc' := 33) rfl dX4_ofOrder_32 rfl rfl ?_
    refine v_icmp_ne (pc' := 36) (tgt := 39) rfl dX4_ofOrder_33 (by decide) (by have := (kf_ord hn1 hn7 hpp).1; omega) (ht) (fun c2 => ?_) (fun c2 => ?_)
    ·
      have hno : ¬ decide ((orderN ((bfs n s a).1.getD k pid) n : Int) = t) = true := by rw [decide_eq_true_eq]; omega
      refine v_iinc (ls' := [(3, _), (0, _), (1, _), (2, _)]) 3 (pc' := 42) rfl dX4_ofOrder_39 rfl rfl rfl ?_
      refine v_nl (fun i' hi' => ?_)
      refine v_goto (tgt := 4) dX4_ofOrder_42 (by decide) ?_
      refine v_ls [1, 2, 3, 0] rfl ?_
      exact ih0 (fnd) (i') (⟨k + 1, by omega, by omega, by simp only [cntG]; rw [if_neg hno]; omega⟩) (by omega)
    ·
      have hyes : decide ((orderN ((bfs n s a).1.getD k pid) n : Int) = t) = true := by rw [decide_eq_true_eq]; omega
      refine v_iinc (ls' := [(2, _), (0, _), (1, _), (3, _)]) 2 (pc' := 39) rfl dX4_ofOrder_36 rfl rfl rfl ?_
      refine v_nl (fun fnd' hfnd' => ?_)
      refine v_iinc (ls' := [(3, _), (2, _), (0, _), (1, _)]) 3 (pc' := 42) rfl dX4_ofOrder_39 rfl rfl rfl ?_
      refine v_nl (fun i' hi' => ?_)
      refine v_goto (tgt := 4) dX4_ofOrder_42 (by decide) ?_
      refine v_ls [2, 3, 1, 0] rfl ?_
      exact ih0 (fnd') (i') (⟨k + 1, by omega, by omega, by simp only [cntG]; rw [if_pos hyes]; omega⟩) (by omega)
set_option maxHeartbeats 4000000 in
set_option maxRecDepth 100000 in
theorem c_centre (l : Launch) (G : Gx) {n : Nat} {s a : Nat → Nat} (hn1 : 1 ≤ n) (hn7 : n ≤ 7) (hs : Pm n s) (ha : Pm n a) (w : Wd) (hG : GrpOK w n s a) : SpP l G 2 mX4_centre [aR 14] w (((cntG (fun p => commB p s 7 && commB p a 7) (bfs n s a).1 (bfs n s a).1.length : Nat) : Int)) := by
  obtain ⟨⟨g3, g4, g5⟩, gw⟩ := hG
  have gm := gw.1
  have hBI : BI n (bfs n s a) := bfsI_BI hn1 hn7 hs ha 5040
  have hlen := hBI.len hn1 hn7
  have hf5 := fac_5040 hn1 hn7
  refine Sp_of RX4 rfl (by decide +kernel) rfl (Nat.le_of_ble_eq_true rfl) ?_
  refine v_iconst (pc' := 1) rfl dX4_centre_0 ?_
  refine v_istore_n (ls' := [(1, _), (0, _)]) (pc' := 2) rfl dX4_centre_1 rfl rfl rfl ?_
  refine v_iconst (pc' := 3) rfl dX4_centre_2 ?_
  refine v_istore_n (ls' := [(2, _), (1, _), (0, _)]) (pc' := 4) rfl dX4_centre_3 rfl rfl rfl ?_
  refine v_ls [2, 1, 0] rfl ?_
  refine v_loop2 4 (fun (fnd : Int) (i : Int) => ∃ k : Nat, i = k ∧ k ≤ (bfs n s a).1.length ∧ fnd = (cntG (fun p => commB p s 7 && commB p a 7) (bfs n s a).1 k : Nat)) (fun (fnd : Int) (i : Int) => (5040 - i).toNat) (fun (fnd : Int) (i : Int) => [(0, aR 14), (1, aI (fnd)), (2, aI (i))]) (fun (fnd : Int) (i : Int) => []) (fun (fnd : Int) (i : Int) => w) (fun fnd i hI0 ih0 => ?_) (0) (0) (⟨0, rfl, by omega, rfl⟩)
  obtain ⟨k, hi, hk, hfnd⟩ := hI0
  refine v_iload_n 2 (pc' := 5) rfl dX4_centre_4 rfl rfl ?_
  refine v_aload_n 0 (pc' := 6) rfl dX4_centre_5 rfl rfl ?_
  refine v_get (z := (((bfs n s a).1.length : Nat) : Int)) (pc' := 9) rfl dX4_centre_6 fk_RX4_28 ly_14 rfl (gm) ?_
  refine v_icmp_ge (pc' := 12) (tgt := 60) rfl dX4_centre_9 (by decide) (by omega) (by omega) (fun c0 => ?_) (fun c0 => ?_)
  ·
    have e : k = (bfs n s a).1.length := by omega
    refine v_iload_n 1 (pc' := 61) rfl dX4_centre_60 rfl rfl ?_
    refine v_iret dX4_centre_61 (by decide) (rfl) ?_
    exact ⟨by rw [hfnd, e], rfl⟩
  ·
    refine v_iload_n 2 (pc' := 13) rfl dX4_centre_12 rfl rfl ?_
    refine v_sipush (pc' := 16) rfl dX4_centre_13 rfl ?_
    refine v_icmp_ge (pc' := 19) (tgt := 60) rfl dX4_centre_16 (by decide) (by omega) (by omega) (fun c1 => absurd c1 (by omega)) (fun c1 => ?_)
    have hpp := hBI.1 _ (getD_mem (L := (bfs n s a).1) (i := k) (d := pid) (by omega))
    refine v_aload_n 0 (pc' := 20) rfl dX4_centre_19 rfl rfl ?_
    refine v_getR (pc' := 23) rfl dX4_centre_20 fk_RX4_9 ly_14 rfl ?_
    refine v_iload_n 2 (pc' := 24) rfl dX4_centre_23 rfl rfl ?_
    refine v_iald (z := ((hx ((bfs n s a).1.getD k pid) : Nat) : Int)) (pc' := 25) rfl dX4_centre_24 ly_15 (by omega) (by omega) rfl (by rw [show i.toNat = k by omega]; exact gw.2.1 k (by omega)) ?_
    refine v_aload_n 0 (pc' := 26) rfl dX4_centre_25 rfl rfl ?_
    refine v_get (z := ((hx s : Nat) : Int)) (pc' := 29) rfl dX4_centre_26 fk_RX4_22 ly_14 rfl (g4) ?_
    refine v_cSP (pc' := 32) rfl dX4_centre_29 lk_RX4_58 rfl (c_swap l G rfl rfl (hpp.b7 hn7) (hs.b7 hn7) w) rfl rfl rfl ?_
    refine v_nm (fun swap1 hswap1 => ?_)
    refine v_if_eq (pc' := 35) (tgt := 54) rfl dX4_centre_32 (by decide) (by rw [hswap1]; split <;> omega) (fun c2 => ?_) (fun c2 => ?_)
    ·
      have h1 : commB ((bfs n s a).1.getD k pid) s 7 = false := by rw [Bool.eq_false_iff]; intro e; rw [e] at hswap1; simp at hswap1; omega
      have hno : ¬ (commB ((bfs n s a).1.getD k pid) s 7 && commB ((bfs n s a).1.getD k pid) a 7) = true := by rw [h1]; simp
      refine v_iinc (ls' := [(2, _), (0, _), (1, _)]) 2 (pc' := 57) rfl dX4_centre_54 rfl rfl rfl ?_
      refine v_nl (fun i' hi' => ?_)
      refine v_goto (tgt := 4) dX4_centre_57 (by decide) ?_
      refine v_ls [1, 2, 0] rfl ?_
      exact ih0 (fnd) (i') (⟨k + 1, by omega, by omega, by simp only [cntG]; rw [if_neg hno]; omega⟩) (by omega)
    ·
      have h1 : commB ((bfs n s a).1.getD k pid) s 7 = true := by rw [← Bool.not_eq_false]; intro e; rw [e] at hswap1; simp at hswap1; omega
      refine v_aload_n 0 (pc' := 36) rfl dX4_centre_35 rfl rfl ?_
      refine v_getR (pc' := 39) rfl dX4_centre_36 fk_RX4_9 ly_14 rfl ?_
      refine v_iload_n 2 (pc' := 40) rfl dX4_centre_39 rfl rfl ?_
      refine v_iald (z := ((hx ((bfs n s a).1.getD k pid) : Nat) : Int)) (pc' := 41) rfl dX4_centre_40 ly_15 (by omega) (by omega) rfl (by rw [show i.toNat = k by omega]; exact gw.2.1 k (by omega)) ?_
      refine v_aload_n 0 (pc' := 42) rfl dX4_centre_41 rfl rfl ?_
      refine v_get (z := ((hx a : Nat) : Int)) (pc' := 45) rfl dX4_centre_42 fk_RX4_25 ly_14 rfl (g5) ?_
      refine v_cSP (pc' := 48) rfl dX4_centre_45 lk_RX4_58 rfl (c_swap l G rfl rfl (hpp.b7 hn7) (ha.b7 hn7) w) rfl rfl rfl ?_
      refine v_nm (fun swap2 hswap2 => ?_)
      refine v_if_eq (pc' := 51) (tgt := 54) rfl dX4_centre_48 (by decide) (by rw [hswap2]; split <;> omega) (fun c3 => ?_) (fun c3 => ?_)
      ·
        have h2 : commB ((bfs n s a).1.getD k pid) a 7 = false := by rw [Bool.eq_false_iff]; intro e; rw [e] at hswap2; simp at hswap2; omega
        have hno : ¬ (commB ((bfs n s a).1.getD k pid) s 7 && commB ((bfs n s a).1.getD k pid) a 7) = true := by rw [h1, h2]; simp
        refine v_iinc (ls' := [(2, _), (0, _), (1, _)]) 2 (pc' := 57) rfl dX4_centre_54 rfl rfl rfl ?_
        refine v_nl (fun i' hi' => ?_)
        refine v_goto (tgt := 4) dX4_centre_57 (by decide) ?_
        refine v_ls [1, 2, 0] rfl ?_
        exact ih0 (fnd) (i') (⟨k + 1, by omega, by omega, by simp only [cntG]; rw [if_neg hno]; omega⟩) (by omega)
      ·
        have h2 : commB ((bfs n s a).1.getD k pid) a 7 = true := by rw [← Bool.not_eq_false]; intro e; rw [e] at hswap2; simp at hswap2; omega
        have hyes : (commB ((bfs n s a).1.getD k pid) s 7 && commB ((bfs n s a).1.getD k pid) a 7) = true := by rw [h1, h2]; rfl
        refine v_iinc (ls' := [(1, _), (0, _), (2, _)]) 1 (pc' := 54) rfl dX4_centre_51 rfl rfl rfl ?_
        refine v_nl (fun fnd' hfnd' => ?_)
        refine v_iinc (ls' := [(2, _), (1, _), (0, _)]) 2 (pc' := 57) rfl dX4_centre_54 rfl rfl rfl ?_
        refine v_nl (fun i' hi' => ?_)
        refine v_goto (tgt := 4) dX4_centre_57 (by decide) ?_
        refine v_ls [2, 1, 0] rfl ?_
        exact ih0 (fnd') (i') (⟨k + 1, by omega, by omega, by simp only [cntG]; rw [if_pos hyes]; omega⟩) (by omega)

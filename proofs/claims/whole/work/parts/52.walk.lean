theorem spI_in {n : Nat} {s a : Nat → Nat} (hV : MapV n s a) (T : Nat → Int) : ∀ m i f, Pm n f → (∃ g, Pm n g ∧ spI s a T m i f = (hx g : Nat)) ∨ (spI s a T m i f < 0 ∧ -1000 - ((i + m : Nat) : Int) ≤ spI s a T m i f)
  | 0, i, f, hf => Or.inl ⟨f, hf, rfl⟩
  | m + 1, i, f, hf => by
    simp only [spI]
    split
    · rcases spI_in hV T m (i + 1) (pcomp f (letF s a (T i))) (hf.comp (letF_pm hV _)) with h | h
      · exact Or.inl h
      · exact Or.inr ⟨h.1, by have := h.2; omega⟩
    · exact Or.inr (by omega)
theorem spI_r {n m : Nat} {v z : Int} (hn : n ≤ 7) (h : z = v) (hs : (∃ g, Pm n g ∧ v = (hx g : Nat)) ∨ (v < 0 ∧ -1000 - (m : Int) ≤ v)) (hm : m ≤ 200) : rg z := by
  subst h
  rcases hs with ⟨g, hg, h⟩ | h
  · have := hx_pos hg hn; omega
  · omega
def WlkP (w : Wd) (n : Nat) (s a : Nat → Nat) (b d k z : Int) (w' : Wd) : Prop :=
  (¬ (dok n d ∧ 1 ≤ k ∧ k ≤ 60 ∧ k ≤ b) ∧ w' = w ∧ z = -1) ∨
  ((dok n d ∧ 1 ≤ k ∧ k ≤ 60 ∧ k ≤ b) ∧ w' = up w 0 1 0 ∧ ((spI s a (w 1) k.toNat 0 pid < 0 ∧ z = spI s a (w 1) k.toNat 0 pid) ∨ ∃ g, Pm n g ∧ spI s a (w 1) k.toNat 0 pid = (hx g : Nat) ∧ z = g d.toNat))
theorem rdb_1 {k b z : Int} (h : z = if 1 ≤ k ∧ k ≤ 60 ∧ k ≤ b then 1 else 0) (hz : z ≠ 0) : 1 ≤ k ∧ k ≤ 60 ∧ k ≤ b := Classical.byContradiction (fun q => hz (h.trans (if_neg q)))
theorem rdb_0 {k b z : Int} (h : z = if 1 ≤ k ∧ k ≤ 60 ∧ k ≤ b then 1 else 0) (hz : z = 0) : ¬ (1 ≤ k ∧ k ≤ 60 ∧ k ≤ b) := fun q => by rw [if_pos q] at h; omega
theorem rdb_r {k b z : Int} (h : z = if 1 ≤ k ∧ k ≤ 60 ∧ k ≤ b then 1 else 0) : rg z := by rw [h]; split <;> decide
set_option maxHeartbeats 4000000 in
set_option maxRecDepth 100000 in
theorem c_walk (l : Launch) (G : Gx) {d k b : Int} (hd : rg d) (hk : rg k) (hb : rg b) {n : Nat} {s a : Nat → Nat} (hV : MapV n s a) (w : Wd) (hM : MapW w n s a) (hB : w 0 1 = b) (hT : ∀ j, j < 120 → rg (w 1 j)) : Sp l G 6 mX10_walk [aR 0, aI (d), aI (k)] w (fun z w' => WlkP w n s a b d k z w') := by
  obtain ⟨⟨hn1, hn7⟩, hs, ha⟩ := id hV
  obtain ⟨m0, m1, m2⟩ := id hM
  have hsp := spI_in hV (w 1) k.toNat 0 pid (pm_id n)
  refine Sp_of RX10 rfl (by decide +kernel) rfl (Nat.le_of_ble_eq_true rfl) ?_
  refine v_aload_n 0 (pc' := 1) rfl dX10_walk_0 rfl rfl ?_
  refine v_iload_n 1 (pc' := 2) rfl dX10_walk_1 rfl rfl ?_
  refine v_cVP (pc' := 5) rfl dX10_walk_2 lk_RX10_174 ly_0 rfl (c_dartStands l G hd hV w hM) rfl rfl rfl ?_
  refine v_nm (fun dartStands1 hdartStands1 => ?_)
  refine v_if_eq (pc' := 8) (tgt := 16) rfl dX10_walk_5 (by decide) (dok_r hdartStands1) (fun c0 => ?_) (fun c0 => ?_)
  ·
    have hq := dok_0 hdartStands1 (by omega)
    refine v_iconst (pc' := 17) rfl dX10_walk_16 ?_
    refine v_iret dX10_walk_17 (by decide) (rfl) ?_
    first | exact Or.inl ⟨fun q => hq q.1, rfl, rfl⟩ | exact Or.inl ⟨fun q => hq2 q.2, rfl, rfl⟩ | exact Or.inr ⟨⟨hq, hq2⟩, f1, Or.inl ⟨hneg, f2⟩⟩ | exact Or.inr ⟨⟨hq, hq2⟩, f1, Or.inr ⟨g, hg, hge, hat1⟩⟩
  ·
    have hq := dok_1 hdartStands1 (by omega)
    refine v_aload_n 0 (pc' := 9) rfl dX10_walk_8 rfl rfl ?_
    refine v_iload_n 2 (pc' := 10) rfl dX10_walk_9 rfl rfl ?_
    refine v_cVP (pc' := 13) rfl dX10_walk_10 lk_RX10_112 ly_0 rfl (c_readable l G hk hb w hB) rfl rfl rfl ?_
    refine v_nm (fun readable1 hreadable1 => ?_)
    refine v_if_ne (pc' := 16) (tgt := 18) rfl dX10_walk_13 (by decide) (rdb_r hreadable1) (fun c1 => ?_) (fun c1 => ?_)
    ·
      have hq2 := rdb_1 hreadable1 (by omega)
      refine v_aload_n 0 (pc' := 19) rfl dX10_walk_18 rfl rfl ?_
      refine v_iload_n 2 (pc' := 20) rfl dX10_walk_19 rfl rfl ?_
      refine v_cVi (pc' := 23) rfl dX10_walk_20 lk_RX10_337 ly_0 rfl (c_spelt l G hk hV w hM hT) rfl rfl rfl (fun spelt1 w3 hq3 => ?_)
      obtain ⟨f1, f2⟩ := hq3
      rw [show min k.toNat 120 = k.toNat by omega] at f2
      have hrs := spI_r hn7 f2 hsp (by omega)
      refine v_istore_n (ls' := [(3, _), (0, _), (1, _), (2, _)]) (pc' := 24) rfl dX10_walk_23 rfl rfl rfl ?_
      refine v_iload_n 0 (pc' := 25) rfl dX10_walk_24 rfl rfl ?_
      refine v_if_ge (pc' := 28) (tgt := 32) rfl dX10_walk_25 (by decide) (by omega) (fun c2 => ?_) (fun c2 => ?_)
      ·
        obtain ⟨g, hg, hge⟩ := hsp.resolve_right (by omega)
        refine v_iload_n 0 (pc' := 33) rfl dX10_walk_32 rfl rfl ?_
        refine v_iload_n 2 (pc' := 34) rfl dX10_walk_33 rfl rfl ?_
        refine v_cSP (pc' := 37) rfl dX10_walk_34 lk_RX10_188 rfl (c_at l G (f2.trans hge) (hg.B hn7) (show d = ((d.toNat : Nat) : Int) by omega) (by omega) (by omega) w3) rfl rfl rfl ?_
        refine v_nm (fun at1 hat1 => ?_)
        refine v_iret dX10_walk_37 (by decide) (rfl) ?_
        first | exact Or.inl ⟨fun q => hq q.1, rfl, rfl⟩ | exact Or.inl ⟨fun q => hq2 q.2, rfl, rfl⟩ | exact Or.inr ⟨⟨hq, hq2⟩, f1, Or.inl ⟨hneg, f2⟩⟩ | exact Or.inr ⟨⟨hq, hq2⟩, f1, Or.inr ⟨g, hg, hge, hat1⟩⟩
      ·
        have hneg : spI s a (w 1) k.toNat 0 pid < 0 := by omega
        refine v_iload_n 0 (pc' := 29) rfl dX10_walk_28 rfl rfl ?_
        refine v_goto (tgt := 37) dX10_walk_29 (by decide) ?_
        refine v_iret dX10_walk_37 (by decide) (rfl) ?_
        first | exact Or.inl ⟨fun q => hq q.1, rfl, rfl⟩ | exact Or.inl ⟨fun q => hq2 q.2, rfl, rfl⟩ | exact Or.inr ⟨⟨hq, hq2⟩, f1, Or.inl ⟨hneg, f2⟩⟩ | exact Or.inr ⟨⟨hq, hq2⟩, f1, Or.inr ⟨g, hg, hge, hat1⟩⟩
    ·
      have hq2 := rdb_0 hreadable1 (by omega)
      refine v_iconst (pc' := 17) rfl dX10_walk_16 ?_
      refine v_iret dX10_walk_17 (by decide) (rfl) ?_
      first | exact Or.inl ⟨fun q => hq q.1, rfl, rfl⟩ | exact Or.inl ⟨fun q => hq2 q.2, rfl, rfl⟩ | exact Or.inr ⟨⟨hq, hq2⟩, f1, Or.inl ⟨hneg, f2⟩⟩ | exact Or.inr ⟨⟨hq, hq2⟩, f1, Or.inr ⟨g, hg, hge, hat1⟩⟩

/-! ===== the reference: parts, genus ===== -/
theorem bit7 : ∀ u : Nat, u < 128 → ∀ x : Nat, x < 7 → ((2 * u) / 2 ^ (x + 1) % 2 == 1) = !(u &&& bt (x + 1) == 0) := by decide +kernel
theorem bit_has {u x : Nat} (hu : u < 128) (h1 : 1 ≤ x) (h2 : x ≤ 7) : (2 * u) / 2 ^ x % 2 = 1 ↔ hasb u x := by
  have e := bit7 u hu (x - 1) (by omega)
  rw [show x - 1 + 1 = x by omega] at e
  constructor
  · intro h q
    rw [h, q] at e; exact absurd e (by decide)
  · intro h
    have : (u &&& bt x == 0) = false := beq_false_of_ne h
    rw [this] at e
    exact beq_iff_eq.mp e
theorem popc_lt7 : ∀ u : Nat, u < 128 → ∀ v : Nat, v < 128 → v &&& u = u → u ≠ v → popc u < popc v := by decide +kernel
theorem popc_lt {u v : Nat} (hu : u < 128) (hv : v < 128) (h : ∀ y, 1 ≤ y → y ≤ 7 → hasb u y → hasb v y) (hne : u ≠ v) : popc u < popc v := popc_lt7 u hu v hv (mask_sub hv hu h) hne
theorem kern : ∀ V : Nat, V < 256 → V ≠ 0 → popc (V &&& (V - 1)) + 1 = popc V ∧ V &&& (V - 1) < V := by decide +kernel
theorem popc_2 : ∀ u : Nat, u < 128 → popc (2 * u) = popc u := by decide +kernel
theorem popc_full : ∀ n : Nat, n < 8 → popc (full n) = n := by decide +kernel
theorem low_mask7 : ∀ u : Nat, u < 128 → ∀ x : Nat, x < 7 → u &&& bt (x + 1) ≠ 0 → ((2 * u) &&& (2 ^ (x + 1) - 1) == 0) = (lowN u == x + 1) := by decide +kernel
theorem bt_hasb {x : Nat} (h1 : 1 ≤ x) (h2 : x ≤ 7) : hasb (bt x) x := (hasb_bt h1 h2 h1 h2).mpr rfl
def ClR (n : Nat) (f g : Nat → Nat) (u k : Nat) : Prop := ∀ y, 1 ≤ y → y ≤ k → hasb u y → hasb u (f y) ∧ hasb u (g y)
def SubR (f g : Nat → Nat) (x u : Nat) : Prop := ∀ y, 1 ≤ y → y ≤ 7 → hasb u y → hasb (reachN f g x) y
theorem reach_eq {n u x : Nat} {f g : Nat → Nat} (h7 : n ≤ 7) (hf : Pm n f) (hg : Pm n g) (h1 : 1 ≤ x) (h2 : x ≤ n) (hu : u < 128) (hx : hasb u x) (hs : SubR f g x u) (hc : ClR n f g u n) : u = reachN f g x := by
  have sb := hf.b7 h7
  have ab := hg.b7 h7
  refine mask_eq hu (reachN_lt sb ab h1 (by omega)) (fun y a b => ⟨hs y a b, fun h => ?_⟩)
  refine (reach_spec sb ab h1 (by omega)).2.2 (fun y => hasb u y) hx (fun z c d hz => ?_) y a b h
  have := reach_in hf hg h7 h1 h2 c d (hs z c d hz)
  exact hc z c this hz
set_option maxHeartbeats 4000000 in
set_option maxRecDepth 100000 in
theorem c_partOf (l : Launch) (G : Gx) {p q d0 : Int} {n x0 : Nat} {f g : Nat → Nat} (hp : p = (cdk f n : Nat)) (hq : q = (cdk g n : Nat)) (hd : d0 = (x0 : Nat)) (h1 : 1 ≤ x0) (h2 : x0 ≤ n) (hf : Pm n f) (hg : Pm n g) (hn1 : 1 ≤ n) (hn7 : n ≤ 7) (w : Wd) (r0 : w 63 0 = n) : Sp l G 1 mX11_partOf [aR 63, aI (p), aI (q), aI (d0)] w (fun z w' => Fr [76, 77] w w' ∧ z = ((2 * reachN f g x0 : Nat) : Int)) := by
  have sb := hf.b7 hn7
  have ab := hg.b7 hn7
  have hbx := bt_lt (x := x0) h1 (by omega)
  refine Sp_of RX11 rfl (by decide +kernel) rfl (Nat.le_of_ble_eq_true rfl) ?_
  refine v_aload_n 0 (pc' := 1) rfl dX11_partOf_0 rfl rfl ?_
  refine v_iload_n 1 (pc' := 2) rfl dX11_partOf_1 rfl rfl ?_
  refine v_aload_n 0 (pc' := 3) rfl dX11_partOf_2 rfl rfl ?_
  refine v_getR (pc' := 6) rfl dX11_partOf_3 fk_RX11_47 ly_63 rfl ?_
  refine v_cVv (pc' := 9) rfl dX11_partOf_6 lk_RX11_133 ly_63 rfl (c_reads_76 l G (f := f) hp hf hn1 hn7 w r0) rfl rfl rfl (fun reads1 w1 hq1 => ?_)
  obtain ⟨x1, f1⟩ := hq1
  have r0 : w1 63 0 = (n : Int) := (f1 63 0 (by decide)).trans r0
  refine v_aload_n 0 (pc' := 10) rfl dX11_partOf_9 rfl rfl ?_
  refine v_iload_n 2 (pc' := 11) rfl dX11_partOf_10 rfl rfl ?_
  refine v_aload_n 0 (pc' := 12) rfl dX11_partOf_11 rfl rfl ?_
  refine v_getR (pc' := 15) rfl dX11_partOf_12 fk_RX11_50 ly_63 rfl ?_
  refine v_cVv (pc' := 18) rfl dX11_partOf_15 lk_RX11_133 ly_63 rfl (c_reads_77 l G (f := g) hq hg hn1 hn7 w1 r0) rfl rfl rfl (fun reads2 w2 hq2 => ?_)
  obtain ⟨x2, f2⟩ := hq2
  have y1 : ∀ x, 1 ≤ x → x ≤ n → w2 76 x = (f x : Nat) := fun x a b => (f2 76 x rfl).trans (x1 x a b)
  have r0 : w2 63 0 = (n : Int) := (f2 63 0 (by decide)).trans r0
  refine v_iconst (pc' := 19) rfl dX11_partOf_18 ?_
  refine v_iload_n 3 (pc' := 20) rfl dX11_partOf_19 rfl rfl ?_
  refine v_ishl (z := ((2 ^ x0 : Nat) : Int)) (pc' := 21) rfl dX11_partOf_20 (iz_one_shl hd (by omega)) ?_
  refine v_nm (fun set' hset' => ?_)
  refine v_istore (ls' := [(4, _), (0, _), (1, _), (2, _), (3, _)]) (pc' := 23) rfl dX11_partOf_21 rfl rfl ?_
  refine v_iconst (pc' := 24) rfl dX11_partOf_23 ?_
  refine v_istore (ls' := [(5, _), (4, _), (0, _), (1, _), (2, _), (3, _)]) (pc' := 26) rfl dX11_partOf_24 rfl rfl ?_
  refine v_ls [2, 3, 4, 5, 1, 0] rfl ?_
  refine v_loop3 26 (fun (set : Int) (more : Int) (gm : Int) => ∃ u : Nat, set = ((2 * u : Nat) : Int) ∧ u < 128 ∧ hasb u x0 ∧ SubR f g x0 u ∧ ((more = 1) ∨ (more = 0 ∧ ClR n f g u n)) ∧ gm = ((2 * (7 - popc u) : Nat) : Int) + more) (fun (set : Int) (more : Int) (gm : Int) => gm.toNat) (fun (set : Int) (more : Int) (gm : Int) => [(0, aR 63), (1, aI (p)), (2, aI (q)), (3, aI (d0)), (4, aI (set)), (5, aI (more))]) (fun (set : Int) (more : Int) (gm : Int) => []) (fun (set : Int) (more : Int) (gm : Int) => w2) (fun set more gm hI0 ih0 => ?_) (set') (1) (((2 * (7 - popc (bt x0)) : Nat) : Int) + 1) (⟨bt x0, by rw [hset']; show ((2 ^ x0 : Nat) : Int) = ((2 * 2 ^ (x0 - 1) : Nat) : Int); congr 1; rw [Nat.mul_comm, ← Nat.pow_succ]; congr 1; omega, hbx, bt_hasb h1 (by omega), fun y a b h => by rw [(hasb_bt h1 (by omega) a b).mp h]; exact (reach_spec sb ab h1 (by omega)).1, Or.inl rfl, rfl⟩)
  obtain ⟨u, hset0, hu, hxu, hsub, hmore, hgm⟩ := hI0
  have hup := popc_le u hu
  refine v_iload 5 (pc' := 28) rfl dX11_partOf_26 rfl ?_
  refine v_if_eq (pc' := 31) (tgt := 110) rfl dX11_partOf_28 (by decide) (by omega) (fun c0 => ?_) (fun c0 => ?_)
  ·
    have hc := (hmore.resolve_left (by omega)).2
    refine v_iload 4 (pc' := 112) rfl dX11_partOf_110 rfl ?_
    refine v_iret dX11_partOf_112 (by decide) (rfl) ?_
    exact ⟨(f1.mono rfl).trs (f2.mono rfl), by rw [hset0, reach_eq hn7 hf hg h1 h2 hu hxu hsub hc]⟩
  ·
    have hm1 : more = 1 := by omega
    refine v_iload 4 (pc' := 33) rfl dX11_partOf_31 rfl ?_
    refine v_istore (ls' := [(6, _), (0, _), (1, _), (2, _), (3, _), (4, _), (5, _)]) (pc' := 35) rfl dX11_partOf_33 rfl rfl ?_
    refine v_iconst (pc' := 36) rfl dX11_partOf_35 ?_
    refine v_istore (ls' := [(7, _), (6, _), (0, _), (1, _), (2, _), (3, _), (4, _), (5, _)]) (pc' := 38) rfl dX11_partOf_36 rfl rfl ?_
    refine v_ls [2, 3, 4, 5, 6, 7, 1, 0] rfl ?_
    refine v_loop2 38 (fun (set2 : Int) (x : Int) => ∃ v k : Nat, x = ((k + 1 : Nat) : Int) ∧ k ≤ n ∧ set2 = ((2 * v : Nat) : Int) ∧ v < 128 ∧ SubR f g x0 v ∧ (∀ y, 1 ≤ y → y ≤ 7 → hasb u y → hasb v y) ∧ (v = u → ClR n f g u k)) (fun (set2 : Int) (x : Int) => (8 - x).toNat) (fun (set2 : Int) (x : Int) => [(0, aR 63), (1, aI (p)), (2, aI (q)), (3, aI (d0)), (4, aI (set2)), (5, aI (more)), (6, aI (set)), (7, aI (x))]) (fun (set2 : Int) (x : Int) => []) (fun (set2 : Int) (x : Int) => w2) (fun set2 x hI1 ih1 => ?_) (set) (1) (⟨u, 0, rfl, by omega, hset0, hu, hsub, fun y _ _ h => h, fun _ y a b => by omega⟩)
    obtain ⟨v, k, hx, hk, hset, hv, hsv, huv, hvc⟩ := hI1
    refine v_iload 7 (pc' := 40) rfl dX11_partOf_38 rfl ?_
    refine v_aload_n 0 (pc' := 41) rfl dX11_partOf_40 rfl rfl ?_
    refine v_get (z := (n : Int)) (pc' := 44) rfl dX11_partOf_41 fk_RX11_125 ly_63 rfl (r0) ?_
    refine v_icmp_gt (pc' := 47) (tgt := 93) rfl dX11_partOf_44 (by decide) (by omega) (by omega) (fun c1 => ?_) (fun c1 => ?_)
    ·
      have hke : k = n := by omega
      refine v_iload 4 (pc' := 95) rfl dX11_partOf_93 rfl ?_
      refine v_iload 6 (pc' := 97) rfl dX11_partOf_95 rfl ?_
      refine v_icmp_eq (pc' := 100) (tgt := 104) rfl dX11_partOf_97 (by decide) (by omega) (by omega) (fun c3 => ?_) (fun c3 => ?_)
      ·
        have hvu : v = u := by omega
        have hpv : popc v = popc u := by rw [hvu]
        have hcl : ClR n f g v n := by
          have := hvc hvu
          rw [hke] at this
          rw [hvu]; exact this
        refine v_iconst (pc' := 105) rfl dX11_partOf_104 ?_
        refine v_istore (ls' := [(5, _), (0, _), (1, _), (2, _), (3, _), (4, _), (6, _), (7, _)]) (pc' := 107) rfl dX11_partOf_105 rfl rfl ?_
        refine v_goto (tgt := 26) dX11_partOf_107 (by decide) ?_
        refine v_ls [1, 2, 3, 4, 5, 0] rfl ?_
        exact ih0 (set2) (0) (((2 * (7 - popc v) : Nat) : Int) + 0) (⟨v, hset, hv, huv x0 h1 (by omega) hxu, hsv, Or.inr ⟨rfl, hcl⟩, rfl⟩) (by omega)
      ·
        have hpl := popc_lt hu hv huv (fun e => by omega)
        have hvp := popc_le v hv
        refine v_iconst (pc' := 101) rfl dX11_partOf_100 ?_
        refine v_goto (tgt := 105) dX11_partOf_101 (by decide) ?_
        refine v_istore (ls' := [(5, _), (0, _), (1, _), (2, _), (3, _), (4, _), (6, _), (7, _)]) (pc' := 107) rfl dX11_partOf_105 rfl rfl ?_
        refine v_goto (tgt := 26) dX11_partOf_107 (by decide) ?_
        refine v_ls [1, 2, 3, 4, 5, 0] rfl ?_
        exact ih0 (set2) (1) (((2 * (7 - popc v) : Nat) : Int) + 1) (⟨v, hset, hv, huv x0 h1 (by omega) hxu, hsv, Or.inl rfl, rfl⟩) (by omega)
    ·
      have hfk := hf.1 (k + 1) (by omega) (by omega)
      have hgk := hg.1 (k + 1) (by omega) (by omega)
      have hbh := bit_has (x := k + 1) hv (by omega) (by omega)
      have hm2 := Nat.mod_lt (2 * v / 2 ^ (k + 1)) (show 0 < 2 by decide)
      refine v_iload 4 (pc' := 49) rfl dX11_partOf_47 rfl ?_
      refine v_iload 7 (pc' := 51) rfl dX11_partOf_49 rfl ?_
      refine v_ishr (z := ((2 * v / 2 ^ (k + 1) : Nat) : Int)) (pc' := 52) rfl dX11_partOf_51 (iz_shrE hset hx (by omega) (by omega)) ?_
      refine v_iconst (pc' := 53) rfl dX11_partOf_52 ?_
      refine v_iand (z := ((2 * v / 2 ^ (k + 1) % 2 : Nat) : Int)) (pc' := 54) rfl dX11_partOf_53 (iz_and1 rfl) ?_
      refine v_iconst (pc' := 55) rfl dX11_partOf_54 ?_
      refine v_icmp_ne (pc' := 58) (tgt := 83) rfl dX11_partOf_55 (by decide) (by omega) (by omega) (fun c2 => ?_) (fun c2 => ?_)
      ·
        have hnb : ¬ hasb v (k + 1) := fun q => by have := hbh.mpr q; omega
        refine v_iload 4 (pc' := 85) rfl dX11_partOf_83 rfl ?_
        refine v_istore (ls' := [(4, _), (0, _), (1, _), (2, _), (3, _), (5, _), (6, _), (7, _)]) (pc' := 87) rfl dX11_partOf_85 rfl rfl ?_
        refine v_iinc (ls' := [(7, _), (4, _), (0, _), (1, _), (2, _), (3, _), (5, _), (6, _)]) 7 (pc' := 90) rfl dX11_partOf_87 rfl rfl rfl ?_
        refine v_nl (fun x' hx' => ?_)
        refine v_goto (tgt := 38) dX11_partOf_90 (by decide) ?_
        refine v_ls [2, 3, 4, 5, 1, 6, 7, 0] rfl ?_
        exact ih1 (set2) (x') (⟨v, k + 1, by omega, by omega, hset, hv, hsv, huv, fun e y a b h => by
            by_cases q : y = k + 1
            · rw [q, ← e] at h; exact absurd h hnb
            · exact hvc e y a (by omega) h⟩) (by omega)
      ·
        have hyb : hasb v (k + 1) := hbh.mp (by omega)
        have bf := bt_lt (x := f (k + 1)) hfk.1 (by omega)
        have bg := bt_lt (x := g (k + 1)) hgk.1 (by omega)
        have hv1 := or_lt7 hv bf
        have hv2 := or_lt7 hv1 bg
        have ho2 : ∀ y, 1 ≤ y → y ≤ 7 → (hasb ((v ||| bt (f (k + 1))) ||| bt (g (k + 1))) y ↔ ((hasb v y ∨ y = f (k + 1)) ∨ y = g (k + 1))) := fun y a b => by rw [hasb_or hv1 hgk.1 (by omega) a b, hasb_or hv hfk.1 (by omega) a b]
        have hrc := (reach_spec sb ab h1 (show x0 ≤ 7 by omega)).2.1 (k + 1) (by omega) (by omega) (hsv (k + 1) (by omega) (by omega) hyb)
        have hsv2 : SubR f g x0 ((v ||| bt (f (k + 1))) ||| bt (g (k + 1))) := fun y a b h => by
          rcases (ho2 y a b).mp h with (q | q) | q
          · exact hsv y a b q
          · rw [q]; exact hrc.1
          · rw [q]; exact hrc.2
        have hcl2 : (v ||| bt (f (k + 1))) ||| bt (g (k + 1)) = u → ClR n f g u (k + 1) := fun e y a b h => by
          have e2 : v = u := mask_eq hv hu (fun z c d => ⟨fun q => by rw [← e]; exact (ho2 z c d).mpr (Or.inl (Or.inl q)), huv z c d⟩)
          by_cases q : y = k + 1
          · rw [q, ← e]; exact ⟨(ho2 _ hfk.1 (by omega)).mpr (Or.inl (Or.inr rfl)), (ho2 _ hgk.1 (by omega)).mpr (Or.inr rfl)⟩
          · exact hvc e2 y a (by omega) h
        refine v_iload 4 (pc' := 60) rfl dX11_partOf_58 rfl ?_
        refine v_iconst (pc' := 61) rfl dX11_partOf_60 ?_
        refine v_aload_n 0 (pc' := 62) rfl dX11_partOf_61 rfl rfl ?_
        refine v_getR (pc' := 65) rfl dX11_partOf_62 fk_RX11_47 ly_63 rfl ?_
        refine v_iload 7 (pc' := 67) rfl dX11_partOf_65 rfl ?_
        refine v_iald (z := ((f (k + 1) : Nat) : Int)) (pc' := 68) rfl dX11_partOf_67 ly_76 (by omega) (by omega) rfl (by rw [show x.toNat = k + 1 by omega]; exact y1 (k + 1) (by omega) (by omega)) ?_
        refine v_ishl (z := ((2 ^ (f (k + 1)) : Nat) : Int)) (pc' := 69) rfl dX11_partOf_68 (iz_one_shl rfl (by omega)) ?_
        refine v_ior (z := ((2 * (v ||| bt (f (k + 1))) : Nat) : Int)) (pc' := 70) rfl dX11_partOf_69 (by rw [← or2b v hfk.1]; exact iz_orE hset rfl) ?_
        refine v_iconst (pc' := 71) rfl dX11_partOf_70 ?_
        refine v_aload_n 0 (pc' := 72) rfl dX11_partOf_71 rfl rfl ?_
        refine v_getR (pc' := 75) rfl dX11_partOf_72 fk_RX11_50 ly_63 rfl ?_
        refine v_iload 7 (pc' := 77) rfl dX11_partOf_75 rfl ?_
        refine v_iald (z := ((g (k + 1) : Nat) : Int)) (pc' := 78) rfl dX11_partOf_77 ly_77 (by omega) (by omega) rfl (by rw [show x.toNat = k + 1 by omega]; exact x2 (k + 1) (by omega) (by omega)) ?_
        refine v_ishl (z := ((2 ^ (g (k + 1)) : Nat) : Int)) (pc' := 79) rfl dX11_partOf_78 (iz_one_shl rfl (by omega)) ?_
        refine v_ior (z := ((2 * ((v ||| bt (f (k + 1))) ||| bt (g (k + 1))) : Nat) : Int)) (pc' := 80) rfl dX11_partOf_79 (by rw [← or2b _ hgk.1]; exact iz_orE rfl rfl) ?_
        refine v_goto (tgt := 85) dX11_partOf_80 (by decide) ?_
        refine v_nm (fun set' hset' => ?_)
        refine v_istore (ls' := [(4, _), (0, _), (1, _), (2, _), (3, _), (5, _), (6, _), (7, _)]) (pc' := 87) rfl dX11_partOf_85 rfl rfl ?_
        refine v_iinc (ls' := [(7, _), (4, _), (0, _), (1, _), (2, _), (3, _), (5, _), (6, _)]) 7 (pc' := 90) rfl dX11_partOf_87 rfl rfl rfl ?_
        refine v_nl (fun x' hx' => ?_)
        refine v_goto (tgt := 38) dX11_partOf_90 (by decide) ?_
        refine v_ls [2, 3, 4, 5, 1, 6, 7, 0] rfl ?_
        exact ih1 (set') (x') (⟨(v ||| bt (f (k + 1))) ||| bt (g (k + 1)), k + 1, by omega, by omega, hset', hv2, hsv2, fun y a b h => (ho2 y a b).mpr (Or.inl (Or.inl (huv y a b h))), fun e => hcl2 e⟩) (by omega)
set_option maxHeartbeats 4000000 in
set_option maxRecDepth 100000 in
theorem c_bits (l : Launch) (G : Gx) {S0 : Int} {S : Nat} (hS : S0 = (S : Nat)) (hS2 : S < 256) (w : Wd)  : SpP l G 0 mX11_bits [aI (S0)] w (((popc S : Nat) : Int)) := by
  refine Sp_of RX11 rfl (by decide +kernel) rfl (Nat.le_of_ble_eq_true rfl) ?_
  refine v_iconst (pc' := 1) rfl dX11_bits_0 ?_
  refine v_istore_n (ls' := [(1, _), (0, _)]) (pc' := 2) rfl dX11_bits_1 rfl rfl rfl ?_
  refine v_iload_n 1 (pc' := 3) rfl dX11_bits_2 rfl rfl ?_
  refine v_istore_n (ls' := [(2, _), (1, _), (0, _)]) (pc' := 4) rfl dX11_bits_3 rfl rfl rfl ?_
  refine v_ls [2, 1, 0] rfl ?_
  refine v_loop2 4 (fun (k : Int) (v : Int) => ∃ V K : Nat, v = (V : Nat) ∧ V < 256 ∧ k = (K : Nat) ∧ K + popc V = popc S) (fun (k : Int) (v : Int) => v.toNat) (fun (k : Int) (v : Int) => [(0, aI (S0)), (1, aI (k)), (2, aI (v))]) (fun (k : Int) (v : Int) => []) (fun (k : Int) (v : Int) => w) (fun k v hI0 ih0 => ?_) (0) (S0) (⟨S, 0, hS, hS2, rfl, by omega⟩)
  obtain ⟨V, K, hv, hV, hk, hP⟩ := hI0
  refine v_iload_n 2 (pc' := 5) rfl dX11_bits_4 rfl rfl ?_
  refine v_if_eq (pc' := 8) (tgt := 21) rfl dX11_bits_5 (by decide) (by omega) (fun c0 => ?_) (fun c0 => ?_)
  ·
    have hV0 : V = 0 := by omega
    have hp0 : popc 0 = 0 := by decide
    rw [hV0, hp0] at hP
    refine v_iload_n 1 (pc' := 22) rfl dX11_bits_21 rfl rfl ?_
    refine v_iret dX11_bits_22 (by decide) (rfl) ?_
    exact ⟨by omega, rfl⟩
  ·
    have hkn := kern V hV (by omega)
    refine v_iload_n 1 (pc' := 9) rfl dX11_bits_8 rfl rfl ?_
    refine v_iconst (pc' := 10) rfl dX11_bits_9 ?_
    refine v_iadd (pc' := 11) rfl dX11_bits_10 ?_
    refine v_nm (fun k' hk' => ?_)
    refine v_istore_n (ls' := [(1, _), (0, _), (2, _)]) (pc' := 12) rfl dX11_bits_11 rfl rfl rfl ?_
    refine v_iload_n 2 (pc' := 13) rfl dX11_bits_12 rfl rfl ?_
    refine v_iload_n 2 (pc' := 14) rfl dX11_bits_13 rfl rfl ?_
    refine v_iconst (pc' := 15) rfl dX11_bits_14 ?_
    refine v_isub (pc' := 16) rfl dX11_bits_15 ?_
    refine v_iand (z := ((V &&& (V - 1) : Nat) : Int)) (pc' := 17) rfl dX11_bits_16 (iz_andE hv (by omega)) ?_
    refine v_nm (fun v' hv' => ?_)
    refine v_istore_n (ls' := [(2, _), (1, _), (0, _)]) (pc' := 18) rfl dX11_bits_17 rfl rfl rfl ?_
    refine v_goto (tgt := 4) dX11_bits_18 (by decide) ?_
    refine v_ls [2, 1, 0] rfl ?_
    exact ih0 (k') (v') (⟨V &&& (V - 1), K + 1, hv', by omega, by omega, by omega⟩) (by omega)
set_option maxHeartbeats 4000000 in
set_option maxRecDepth 100000 in
theorem c_isConnected (l : Launch) (G : Gx) {p q : Int} {n : Nat} {f g : Nat → Nat} (hp : p = (cdk f n : Nat)) (hq : q = (cdk g n : Nat)) (hf : Pm n f) (hg : Pm n g) (hn1 : 1 ≤ n) (hn7 : n ≤ 7) (w : Wd) (r0 : w 63 0 = n) : Sp l G 2 mX11_isConnected [aR 63, aI (p), aI (q)] w (fun z w' => Fr [76, 77] w w' ∧ z = if joinB f g n then 1 else 0) := by
  have f2n := full2 n (by omega)
  have hrl := reachN_lt (x := 1) (hf.b7 hn7) (hg.b7 hn7) (by omega) (by omega)
  have hfl := full_le7 n (by omega)
  refine Sp_of RX11 rfl (by decide +kernel) rfl (Nat.le_of_ble_eq_true rfl) ?_
  refine v_aload_n 0 (pc' := 1) rfl dX11_isConnected_0 rfl rfl ?_
  refine v_iload_n 1 (pc' := 2) rfl dX11_isConnected_1 rfl rfl ?_
  refine v_iload_n 2 (pc' := 3) rfl dX11_isConnected_2 rfl rfl ?_
  refine v_iconst (pc' := 4) rfl dX11_isConnected_3 ?_
  refine v_cVi (pc' := 7) rfl dX11_isConnected_4 lk_RX11_276 ly_63 rfl (c_partOf l G (x0 := 1) hp hq rfl (by omega) hn1 hf hg hn1 hn7 w r0) rfl rfl rfl (fun partOf1 w1 hq1 => ?_)
  obtain ⟨f1, z1⟩ := hq1
  have r0 : w1 63 0 = (n : Int) := (f1 63 0 (by decide)).trans r0
  refine v_iconst (pc' := 8) rfl dX11_isConnected_7 ?_
  refine v_aload_n 0 (pc' := 9) rfl dX11_isConnected_8 rfl rfl ?_
  refine v_get (z := (n : Int)) (pc' := 12) rfl dX11_isConnected_9 fk_RX11_125 ly_63 rfl (r0) ?_
  refine v_iconst (pc' := 13) rfl dX11_isConnected_12 ?_
  refine v_iadd (pc' := 14) rfl dX11_isConnected_13 ?_
  refine v_ishl (z := ((2 * full n + 2 : Nat) : Int)) (pc' := 15) rfl dX11_isConnected_14 (by rw [← f2n]; exact iz_one_shl (by omega) (by omega)) ?_
  refine v_iconst (pc' := 16) rfl dX11_isConnected_15 ?_
  refine v_isub (pc' := 17) rfl dX11_isConnected_16 ?_
  refine v_icmp_ne (pc' := 20) (tgt := 24) rfl dX11_isConnected_17 (by decide) (by omega) (by omega) (fun c0 => ?_) (fun c0 => ?_)
  ·
    have hj : joinB f g n = false := by unfold joinB; rw [beq_eq_false_iff_ne]; omega
    refine v_iconst (pc' := 25) rfl dX11_isConnected_24 ?_
    refine v_iret dX11_isConnected_25 (by decide) (rfl) ?_
    exact ⟨f1, by rw [hj]; rfl⟩
  ·
    have hj : joinB f g n = true := by unfold joinB; rw [beq_iff_eq]; omega
    refine v_iconst (pc' := 21) rfl dX11_isConnected_20 ?_
    refine v_goto (tgt := 25) dX11_isConnected_21 (by decide) ?_
    refine v_iret dX11_isConnected_25 (by decide) (rfl) ?_
    exact ⟨f1, by rw [hj]; rfl⟩
set_option maxHeartbeats 4000000 in
set_option maxRecDepth 100000 in
theorem c_isOne (l : Launch) (G : Gx) {n : Nat} {s a : Nat → Nat} (hV : MapV n s a) (w : Wd) (hM : RMW w n s a) : Sp l G 3 mX11_isOne [aR 63] w (fun z w' => Fr [76, 77] w w' ∧ z = if joinB s a n then 1 else 0) := by
  obtain ⟨⟨hn1, hn7⟩, hs, ha⟩ := id hV
  obtain ⟨r0, r1, r2⟩ := id hM
  refine Sp_of RX11 rfl (by decide +kernel) rfl (Nat.le_of_ble_eq_true rfl) ?_
  refine v_aload_n 0 (pc' := 1) rfl dX11_isOne_0 rfl rfl ?_
  refine v_aload_n 0 (pc' := 2) rfl dX11_isOne_1 rfl rfl ?_
  refine v_get (z := ((cdk s n : Nat) : Int)) (pc' := 5) rfl dX11_isOne_2 fk_RX11_149 ly_63 rfl (r1) ?_
  refine v_aload_n 0 (pc' := 6) rfl dX11_isOne_5 rfl rfl ?_
  refine v_get (z := ((cdk a n : Nat) : Int)) (pc' := 9) rfl dX11_isOne_6 fk_RX11_152 ly_63 rfl (r2) ?_
  refine v_cVi (pc' := 12) rfl dX11_isOne_9 lk_RX11_280 ly_63 rfl (c_isConnected l G rfl rfl hs ha hn1 hn7 w r0) rfl rfl rfl (fun isConnected1 w1 hq1 => ?_)
  refine v_iret dX11_isOne_12 (by decide) (by rw [hq1.2]; split <;> rfl) ?_
  exact hq1
set_option maxHeartbeats 4000000 in
set_option maxRecDepth 100000 in
theorem c_genusOf (l : Launch) (G : Gx) {p q : Int} {n : Nat} {f g : Nat → Nat} (hp : p = (cdk f n : Nat)) (hq : q = (cdk g n : Nat)) (hf : Pm n f) (hg : Pm n g) (hn1 : 1 ≤ n) (hn7 : n ≤ 7) (w : Wd) (r0 : w 63 0 = n) : Sp l G 3 mX11_genusOf [aR 63, aI (p), aI (q)] w (fun z w' => Fr [69, 70] w w' ∧ z = genusI f g (full n)) := by
  have hfa := Pm.face hn7 hf hg
  have e1 := rings_full hf hn7
  have e2 := rings_full hg hn7
  have e3 := rings_full hfa hn7
  have e4 := popc_full n (by omega)
  refine Sp_of RX11 rfl (by decide +kernel) rfl (Nat.le_of_ble_eq_true rfl) ?_
  refine v_aload_n 0 (pc' := 1) rfl dX11_genusOf_0 rfl rfl ?_
  refine v_get (z := (n : Int)) (pc' := 4) rfl dX11_genusOf_1 fk_RX11_125 ly_63 rfl (r0) ?_
  refine v_iconst (pc' := 5) rfl dX11_genusOf_4 ?_
  refine v_iadd (pc' := 6) rfl dX11_genusOf_5 ?_
  refine v_aload_n 0 (pc' := 7) rfl dX11_genusOf_6 rfl rfl ?_
  refine v_iload_n 1 (pc' := 8) rfl dX11_genusOf_7 rfl rfl ?_
  refine v_cVi (pc' := 11) rfl dX11_genusOf_8 lk_RX11_267 ly_63 rfl (c_cyclesOf l G hp hf hn1 hn7 w r0) rfl rfl rfl (fun cyclesOf1 w1 hq1 => ?_)
  obtain ⟨f1, z1⟩ := hq1
  have hl1 := lst_le (f) n
  have r0 : w1 63 0 = (n : Int) := (f1 63 0 (by decide)).trans r0
  refine v_isub (pc' := 12) rfl dX11_genusOf_11 ?_
  refine v_aload_n 0 (pc' := 13) rfl dX11_genusOf_12 rfl rfl ?_
  refine v_iload_n 2 (pc' := 14) rfl dX11_genusOf_13 rfl rfl ?_
  refine v_cVi (pc' := 17) rfl dX11_genusOf_14 lk_RX11_267 ly_63 rfl (c_cyclesOf l G hq hg hn1 hn7 w1 r0) rfl rfl rfl (fun cyclesOf2 w2 hq2 => ?_)
  obtain ⟨f2, z2⟩ := hq2
  have hl2 := lst_le (g) n
  have r0 : w2 63 0 = (n : Int) := (f2 63 0 (by decide)).trans r0
  refine v_isub (pc' := 18) rfl dX11_genusOf_17 ?_
  refine v_aload_n 0 (pc' := 19) rfl dX11_genusOf_18 rfl rfl ?_
  refine v_aload_n 0 (pc' := 20) rfl dX11_genusOf_19 rfl rfl ?_
  refine v_iload_n 1 (pc' := 21) rfl dX11_genusOf_20 rfl rfl ?_
  refine v_iload_n 2 (pc' := 22) rfl dX11_genusOf_21 rfl rfl ?_
  refine v_cVi (pc' := 25) rfl dX11_genusOf_22 lk_RX11_155 ly_63 rfl (c_facesOfM l G hp hq hf hg hn1 hn7 w2 r0) rfl rfl rfl (fun facesOf1 w3 hq3 => ?_)
  obtain ⟨f3, z3⟩ := hq3
  have r0 : w3 63 0 = (n : Int) := (f3 63 0 (by decide)).trans r0
  refine v_cVi (pc' := 28) rfl dX11_genusOf_25 lk_RX11_267 ly_63 rfl (c_cyclesOf l G z3 hfa hn1 hn7 w3 r0) rfl rfl rfl (fun cyclesOf3 w4 hq4 => ?_)
  obtain ⟨f4, z4⟩ := hq4
  have hl4 := lst_le (pface f g) n
  have r0 : w4 63 0 = (n : Int) := (f4 63 0 (by decide)).trans r0
  refine v_isub (pc' := 29) rfl dX11_genusOf_28 ?_
  refine v_iconst (pc' := 30) rfl dX11_genusOf_29 ?_
  refine v_idiv (z := (genusI f g (full n))) (pc' := 31) rfl dX11_genusOf_30 (iz_ne (by decide) (by decide)) (by unfold genusI; rw [e1, e2, e3, e4, z1, z2, z4, show ((n : Int) + 2 - ((lstN f n : Nat) : Int) - ((lstN g n : Nat) : Int) - ((lstN (pface f g) n : Nat) : Int)) = (n : Int) + 2 - (((lstN f n : Nat) : Int) + ((lstN g n : Nat) : Int) + ((lstN (pface f g) n : Nat) : Int)) by omega]; exact iz_div ⟨by omega, by omega⟩ (by decide) (by decide) (by omega)) ?_
  refine v_iret dX11_genusOf_31 (by decide) (rfl) ?_
  exact ⟨(((f1.mono rfl).trs (f2.mono rfl)).trs (f3.mono rfl)).trs (f4.mono rfl), rfl⟩

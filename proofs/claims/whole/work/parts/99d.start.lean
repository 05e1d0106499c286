/-! THE CLAIM OUT OF ONE WALK OF THE LAW'S BODY. Your part is whole_start (and what it stands on); all else here is the same for every law, but numbers. -/
def R_law : String := "DrawnMapsLaw"
def lw_P (b : Addr) (xs : List Int32) (args : Array Value) (s : State) : Prop := args = #[.ref b] ∧ s.IntsAt b xs ∧ xs.length ≤ 3072 ∧ (Jvm.Cond.and given_1 narrow_1).before args s = true
def lw_Q (_ : Array Value) (s : State) (o : Outcome) (t : State) : Prop := o = .returned (some (.int 1)) ∧ Framed s o t [] 600000 7302250
def lw_Z (below : List Frame) (a : Array Value) (s : State) : State → Prop := fun t => ∃ o, t.status = .running ∧ Ended t below o ∧ lw_Q a s o t
/-- the law's own end, with 1 on the stack, nothing written that was there before, its room as the claim has it -/
theorem lw_ret {p : Program} {l : Launch} {e : Env} {s : State} {m : MethodId} {below : List Frame} {meth : Method} {c : Code} {b : Nat} (hx : p.tables.exec = Jvm.exec) (hb : c.code = code) (hr : meth.sig.returnType = ret) (hlocks : meth.locks = false) {pc : Nat} {H : Heap} {ls : Array Slot} (hdg : decode code pc = .ok (.ireturn, 1)) : W p l e room_1 s m #[Value.ref b] below meth c H [] 600000 7302250 (lw_Z below #[Value.ref b] s) (F0 m pc ls [.int 1]) := by
  intro T hT X
  obtain ⟨fs, hret, hrun, hended, hW, hframe⟩ := X.leave (v := some (.int 1)) (hlocks := hlocks) (fun h => by rw [hr] at h; cases h)
  have hmeth' : T.vm.method? m = some meth := X.method'
  refine ⟨T.setFrames fs, ?_, .returned (some (.int 1)), hrun, hended, rfl, ⟨_, rfl⟩, hW, hframe⟩
  jvm_step X.here [X.here.top, hx, hb, hdg, hmeth', hr, ret, narrow_b1]
  (try refine ⟨rfl, ?_⟩); (try refine ⟨rfl, ?_⟩)
  first | (intro acts; rw [hret _ acts rfl rfl rfl]) | rw [hret _ _ rfl rfl rfl]
  exact Steps.refl _
/-- what holds at the law's entry: the machine, the code, the tables' words (any of lw_tbl by 'hts w (by decide +kernel)'), the script of L ints xs at the cell b, what the Statement gives of the start (any of its parts by flat_of_before) -/
def lw_At (p : Program) (s : State) (m : MethodId) (meth : Method) (c : Code) (b L : Nat) (xs : Nat → Int32) : Prop :=
  p.tables.exec = Jvm.exec ∧ c.code = code ∧ meth.sig.returnType = ret ∧ c.maxLocals = 4 ∧ s.vm.findClass R_law = some m.cls ∧ (∀ w ∈ lw_tbl, w.before #[Value.ref b] s = true) ∧ va_X b L xs s s.heap ∧ b < s.heap.size ∧ meth.locks = false ∧ (Jvm.Cond.and given_1 narrow_1).before #[Value.ref b] s = true
theorem v_lawret {l : Launch} {G : Gx} {b L L0 k n pc : Nat} {xs : Nat → Int32} {ls : List (Nat × AV)} {w : Wd} (hk : k ≤ 600000) (hn : n ≤ 7302250) (hd : decode code pc = .ok (.ireturn, 1)) : V (lawX l lw_Z G b L L0 xs k n) RL code pc ls [aI 1] w := by
  intro p e s m args below meth c H locs lsA C hP hS hl
  have hE : lawE G b L L0 xs args s := C.2.2.2.2.2.2.2.2.2.2
  obtain ⟨h1, h2, h3, h4, h5, h6, h7, h8⟩ := hE
  subst h1
  have hS2 : ∀ q ∈ locs, Af G s.heap.size q.base := hS.2.2
  refine va_forget (fun q hq => ?_) (W.widen hk hn (lw_ret C.1 C.2.1 C.2.2.2.1 C.2.2.2.2.1 hd))
  rcases hS2 q hq with ⟨j, hj, e1⟩ | h
  · rw [e1, h8 j hj]; omega
  · exact h
theorem stat_of {args : Array Value} {s : State} {A : Nat → Prop} {C nm : String} {N : Nat} {X : List Int} (hs : ∀ u ∈ flatC (Jvm.Cond.and given_1 narrow_1), u.before args s = true) (hts : ∀ u ∈ lw_tbl, u.before args s = true) (hA : ∀ a : Nat, a < s.heap.size → ¬ A a) (hN : N < 2 ^ 31) (m1 : Cond.arrayOf (.static C nm "[I") .int ∈ flatC (Jvm.Cond.and given_1 narrow_1)) (m2 : Cond.eq (.length (.static C nm "[I")) (.int (Int32.ofNat N)) ∈ flatC (Jvm.Cond.and given_1 narrow_1)) (m3 : ∀ j, j < N → Cond.eq (.elem (.static C nm "[I") (.int (Int32.ofNat j))) (.int (iz (X.getD j 0))) ∈ flatC (Jvm.Cond.and given_1 narrow_1)) (m4 : Cond.laysStatic C nm "[I" ∈ lw_tbl) (m5 : Cond.initialized C ∈ lw_tbl) : ∃ t, va_Z C nm "[I" (.ref t) A s s.heap ∧ va_T .int t N (fun j => .int (iz (X.getD j 0))) A s s.heap := by
  obtain ⟨t, e0, hT⟩ := va_Tof (tm := .static C nm "[I") (ty := .int) (N := N) (f := fun j => .int (iz (X.getD j 0))) (A := A) hN (hs _ m1) (va_eqt (hs _ m2)) (fun j hj => va_eqt (hs _ (m3 j hj))) hA
  exact ⟨t, va_Zof (hts _ m4) (hts _ m5) e0 hA, hT⟩
theorem XInit.warm {s U : State} (hW : s.WarmedH U.vm) (h : XInit s) : XInit U := ⟨va_AO.moved hW.alike h.1, fun q hq => va_Nw.warmM hW (h.2 q hq)⟩
theorem XInit.call {U : State} {g : JFrame} {mk : MethodId} {a : Array Value} (h : XInit U) : XInit (U.calling g mk a) := ⟨va_AO.moved (u := U) (U := U.calling g mk a) (Vm.Alike.refl U.vm) h.1, fun q hq => va_Nw.same rfl rfl (h.2 q hq)⟩
theorem arr_of {args : Array Value} {s : State} {ty : FieldType} (h : (Cond.arrayClass ty).before args s = true) : ∃ c, ArrOfT s c ty ∧ s.vm.findClass ("[" ++ ty.toString) = some c := by
  obtain ⟨c, k, comp, h1, h2, h3⟩ := Cond.arrayClass_spec (o := none) (idx := []) (first := s) h
  exact ⟨c, fun n z => ⟨fun k h => (by cases h), k, h2, comp, h3⟩, h1⟩
def lawB (l : Launch) (G : Gx) (b L L0 : Nat) (xs : Nat → Int32) (nm : String) : BX := (l, room_1, lw_Z, G, (4, ret), fun q => L0 ≤ q, (L0, nm), lawE G b L L0 xs)
theorem nl_RL_7 : NLk RL 7 8 RX10 TX10 13 := ⟨rfl, fun u h => ws_of (inX10 u h).1 (inX10 u h).2, ws_of (List.mem_of_getElem? (i := 108) (by decide +kernel)) (by decide +kernel), ws_of (List.mem_of_getElem? (i := 109) (by decide +kernel)) (by decide +kernel), ws_of (List.mem_of_getElem? (i := 95) (by decide +kernel)) (by decide +kernel)⟩
theorem nl_RL_10 : NLk RL 10 9 RX11 TX11 59 := ⟨rfl, fun u h => ws_of (inX11 u h).1 (inX11 u h).2, ws_of (List.mem_of_getElem? (i := 1039) (by decide +kernel)) (by decide +kernel), ws_of (List.mem_of_getElem? (i := 1040) (by decide +kernel)) (by decide +kernel), ws_of (List.mem_of_getElem? (i := 104) (by decide +kernel)) (by decide +kernel)⟩
theorem il_RL_9 : Cond.methodLink RL 9 yX10_init ∈ WS := ws_of (List.mem_of_getElem? (i := 110) (by decide +kernel)) (by decide +kernel)
theorem il_RL_12 : Cond.methodLink RL 12 yX11_init ∈ WS := ws_of (List.mem_of_getElem? (i := 1041) (by decide +kernel)) (by decide +kernel)
set_option maxHeartbeats 40000000 in
set_option maxRecDepth 100000 in
theorem law_body (l : Launch) (D : va_G) (ci cb cz cs : ClassId) (L0 b t0 t1 t2 L : Nat) (xs : Nat → Int32) (nm : String) (hL : L ≤ 3072) (h64 : OP64) (hsz : OPSZ) (hord : ORD) (hmas : MAS) (hset : SETC) (hgen : GENH) (h12 : FAM12) (hblk : BLKD) (hgc : GCON) (hce : CYCE) (hbe : BLKE) (hfe : FAME) (hwe : WAYE) (hmd : MADE) : Bd (lawB l (gL D ci cb cz cs L0 b t0 t1 t2) b L L0 xs nm) RL code 0 [(0, .ref b)] [] [] 0 0 := by
  refine b_new tyX10 (fs := [.null, .int (iz 0), .int (iz 0), .null, .null, .int (iz 0), .null, .null, .null, .null, .null, .null, .null]) (ws' := [(L0 + 0, .inr (8, [.null, .int (iz 0), .int (iz 0), .null, .null, .int (iz 0), .null, .null, .null, .null, .null, .null, .null]))]) (pc' := 3) rfl dL_law_0 nl_RL_7 tyX10_ok df_X10 (Nat.le_of_ble_eq_true rfl) (Nat.le_of_ble_eq_true rfl) rfl ?_
  refine b_dup (pc' := 4) rfl dL_law_3 ?_
  refine b_call (wr := []) (X := XInit) (d := 2) (mc := 62) (ms := 31091) none dL_law_4 mk_X10_init im_X10_init rfl rfl il_RL_9 (Nat.le_of_ble_eq_true rfl) ⟨Nat.le_of_ble_eq_true rfl, Nat.le_of_ble_eq_true rfl⟩ ⟨Nat.le_of_ble_eq_true rfl, Nat.le_of_ble_eq_true rfl⟩ (fun _ _ _ _ h => h.call) (fun _ _ _ _ _ hE _ _ _ hW => hE.2.2.2.2.1.warm hW) (c_X10_init l (gL D ci cb cz cs L0 b t0 t1 t2) (L0 + 0) (L0 + 1)) [0] [] rfl rfl rfl rfl (fun i hi => absurd hi (List.not_mem_nil)) rfl ?_
  refine b_ws (WPre (gL D ci cb cz cs L0 b t0 t1 t2)) (wI_pre D ci cb cz cs L0 b t0 t1 t2) ?_
  refine b_astore (ls' := [(1, .ref (L0 + 0)), (0, .ref b)]) (pc' := 8) rfl dL_law_7 rfl rfl rfl ?_
  refine b_new tyX11 (fs := [.int (iz 0), .int (iz 0), .int (iz 0), .int (iz 0), .int (iz 0), .null, .null, .null, .null, .null, .null, .null, .null, .null, .null, .null, .int (iz 0), .int (iz 0), .int (iz 0), .int (iz 0), .null, .int (iz 0), .int (iz 0), .int (iz 0), .int (iz 0), .int (iz 0), .null, .null, .null, .null, .null, .int (iz 0), .null, .int (iz 0), .int (iz 0), .int (iz 0), .null, .int (iz 0), .null, .null, .null, .null, .int (iz 0), .null, .null, .null, .int (iz 0), .null, .null, .null, .int (iz 0), .null, .int (iz 0), .int (iz 0), .null, .null, .null, .null, .null]) (ws' := WPre (gL D ci cb cz cs L0 b t0 t1 t2) ++ [(L0 + 63, .inr (9, [.int (iz 0), .int (iz 0), .int (iz 0), .int (iz 0), .int (iz 0), .null, .null, .null, .null, .null, .null, .null, .null, .null, .null, .null, .int (iz 0), .int (iz 0), .int (iz 0), .int (iz 0), .null, .int (iz 0), .int (iz 0), .int (iz 0), .int (iz 0), .int (iz 0), .null, .null, .null, .null, .null, .int (iz 0), .null, .int (iz 0), .int (iz 0), .int (iz 0), .null, .int (iz 0), .null, .null, .null, .null, .int (iz 0), .null, .null, .null, .int (iz 0), .null, .null, .null, .int (iz 0), .null, .int (iz 0), .int (iz 0), .null, .null, .null, .null, .null]))]) (pc' := 11) rfl dL_law_8 nl_RL_10 tyX11_ok df_X11 (Nat.le_of_ble_eq_true rfl) (Nat.le_of_ble_eq_true rfl) rfl ?_
  refine b_dup (pc' := 12) rfl dL_law_11 ?_
  refine b_callM (d := 7) (mc := 35) (ms := 27940) (Q := Inv) (lsV := [(1, aR 0), (0, aR 2000)]) (stV := [aR 63]) dL_law_12 mk_X11_init im_X11_init rfl rfl il_RL_12 (Nat.le_of_ble_eq_true rfl) ⟨Nat.le_of_ble_eq_true rfl, Nat.le_of_ble_eq_true rfl⟩ ⟨Nat.le_of_ble_eq_true rfl, Nat.le_of_ble_eq_true rfl⟩ (gL_inj D ci cb cz cs L0 b t0 t1 t2) (gL_Af D ci cb cz cs L0 b t0 t1 t2) (fun q hq => ?_) (fun _ _ hE => hE.2.2.2.2.2.1) (c_X11_init l D ci cb cz cs L0 b t0 t1 t2) rfl rfl (fun w' hI => ?_)
  · rcases hq with hq | hq
    · exact Or.inl hq
    · exact Or.inr (Nat.le_trans (Nat.le_add_right _ _) hq)
  show V (lawX l lw_Z (gL D ci cb cz cs L0 b t0 t1 t2) b L L0 xs 99 59103) RL cL_law 15 [(1, aR 0), (0, aR 2000)] [aR 63] w'
  refine v_astore_n (ls' := [(2, aR 63), (1, aR 0), (0, aR 2000)]) (pc' := 16) rfl dL_law_15 rfl rfl rfl ?_
  refine v_iconst (pc' := 17) rfl dL_law_16 ?_
  refine v_istore_n (ls' := locs 0) (pc' := 18) rfl dL_law_17 rfl rfl rfl ?_
  refine law_loop h64 hsz hord hmas hset hgen h12 hblk hgc hce hbe hfe hwe hmd ⟨Nat.le_of_ble_eq_true rfl, Nat.le_of_ble_eq_true rfl⟩ hL (fun I w => ?_) w' hI
  refine v_iconst (pc' := 1582) rfl dL_law_1581 ?_
  exact v_lawret (Nat.le_of_ble_eq_true rfl) (Nat.le_of_ble_eq_true rfl) dL_law_1582
set_option maxHeartbeats 40000000 in
set_option maxRecDepth 100000 in
theorem whole_start {p : Program} {e : Env} {s : State} {m : MethodId} {below : List Frame} {meth : Method} {c : Code} (l : Launch) (hflags : l.flags = flags0) {b L : Nat} {xs : Nat → Int32} (hL : L ≤ 3072) (C0 : lw_At p s m meth c b L xs) : W p l e room_1 s m #[Value.ref b] below meth c s.heap [] 0 0 (lw_Z below #[Value.ref b] s) (entryFrame m ([Value.ref b] : List Value).toArray 4) := by
  obtain ⟨hx, hb, hr, hml, hown, hts, hX, hbl, hlocks, hgv⟩ := id C0
  have hs := flat_of_before _ hgv
  obtain ⟨c0, i0, k0⟩ := u_known (C := RX0) (T := TX0) (N := 2) (n := 2) hts (fun u h => (inX0 u h).1) (hts (.instantiable RX0 2) (ws_in (ws_of (List.mem_of_getElem? (i := 239) (by decide +kernel)) (by decide +kernel))))
  obtain ⟨c1, i1, k1⟩ := u_known (C := RX1) (T := TX1) (N := 16) (n := 16) hts (fun u h => (inX1 u h).1) (hts (.instantiable RX1 16) (ws_in (ws_of (List.mem_of_getElem? (i := 252) (by decide +kernel)) (by decide +kernel))))
  obtain ⟨c2, i2, k2⟩ := u_known (C := RX2) (T := TX2) (N := 3) (n := 3) hts (fun u h => (inX2 u h).1) (hts (.instantiable RX2 3) (ws_in (ws_of (List.mem_of_getElem? (i := 198) (by decide +kernel)) (by decide +kernel))))
  obtain ⟨c3, i3, k3⟩ := u_known (C := RX3) (T := TX3) (N := 3) (n := 3) hts (fun u h => (inX3 u h).1) (hts (.instantiable RX3 3) (ws_in (ws_of (List.mem_of_getElem? (i := 310) (by decide +kernel)) (by decide +kernel))))
  obtain ⟨c4, i4, k4⟩ := u_known (C := RX4) (T := TX4) (N := 6) (n := 6) hts (fun u h => (inX4 u h).1) (hts (.instantiable RX4 6) (ws_in (ws_of (List.mem_of_getElem? (i := 214) (by decide +kernel)) (by decide +kernel))))
  obtain ⟨c5, i5, k5⟩ := u_known (C := RX7) (T := TX7) (N := 6) (n := 6) hts (fun u h => (inX7 u h).1) (hts (.instantiable RX7 6) (ws_in (ws_of (List.mem_of_getElem? (i := 327) (by decide +kernel)) (by decide +kernel))))
  obtain ⟨c6, i6, k6⟩ := u_known (C := RX8) (T := TX8) (N := 10) (n := 10) hts (fun u h => (inX8 u h).1) (hts (.instantiable RX8 10) (ws_in (ws_of (List.mem_of_getElem? (i := 155) (by decide +kernel)) (by decide +kernel))))
  obtain ⟨c7, i7, k7⟩ := u_known (C := RX9) (T := TX9) (N := 7) (n := 7) hts (fun u h => (inX9 u h).1) (hts (.instantiable RX9 7) (ws_in (ws_of (List.mem_of_getElem? (i := 117) (by decide +kernel)) (by decide +kernel))))
  obtain ⟨c8, i8, k8⟩ := u_known (C := RX10) (T := TX10) (N := 13) (n := 13) hts (fun u h => (inX10 u h).1) (hts (.instantiable RX10 13) (ws_in (ws_of (List.mem_of_getElem? (i := 109) (by decide +kernel)) (by decide +kernel))))
  obtain ⟨c9, i9, k9⟩ := u_known (C := RX11) (T := TX11) (N := 59) (n := 59) hts (fun u h => (inX11 u h).1) (hts (.instantiable RX11 59) (ws_in (ws_of (List.mem_of_getElem? (i := 1040) (by decide +kernel)) (by decide +kernel))))
  obtain ⟨dC, dI, hKc⟩ : ∃ (dC : Nat → ClassId) (dI : Nat → Nat → Nat), ∀ (k : Nat) (q : vw_C), vwCl[k]? = some q → u_Kn s q.1 q.2.1 q.2.2 (dC k) (dI k) := by
    refine ⟨fun k => if k = 0 then c0 else if k = 1 then c1 else if k = 2 then c2 else if k = 3 then c3 else if k = 4 then c4 else if k = 5 then c5 else if k = 6 then c6 else if k = 7 then c7 else if k = 8 then c8 else c9, fun k => if k = 0 then i0 else if k = 1 then i1 else if k = 2 then i2 else if k = 3 then i3 else if k = 4 then i4 else if k = 5 then i5 else if k = 6 then i6 else if k = 7 then i7 else if k = 8 then i8 else i9, ?_⟩
    intro k q hq
    match k, hq with
    | 0, hq => cases hq; exact k0
    | 1, hq => cases hq; exact k1
    | 2, hq => cases hq; exact k2
    | 3, hq => cases hq; exact k3
    | 4, hq => cases hq; exact k4
    | 5, hq => cases hq; exact k5
    | 6, hq => cases hq; exact k6
    | 7, hq => cases hq; exact k7
    | 8, hq => cases hq; exact k8
    | 9, hq => cases hq; exact k9
    | k + 10, hq => simp [vwCl] at hq
  obtain ⟨ci, hci, nci⟩ := arr_of (hts (.arrayClass .int) (ws_in ar_0))
  obtain ⟨cb, hcb, ncb⟩ := arr_of (hts (.arrayClass .byte) (ws_in ar_1))
  obtain ⟨cz, hcz, ncz⟩ := arr_of (hts (.arrayClass .boolean) (ws_in ar_2))
  have hao : (Cond.arrayOver (.object "DrawnMaps$State")).before #[Value.ref b] s = true := hts _ (List.mem_of_getElem? (i := 153) (by decide +kernel))
  obtain ⟨comp, cs, kS, s1, s2, s3, s4, s5⟩ := Cond.arrayOver_spec (o := none) (idx := []) (first := s) hao
  obtain ⟨t0, z0, T0⟩ := stat_of (C := "DrawnMaps$Kind") (nm := "LIST") (N := 44) (X := SLIST) (A := fun q => s.heap.size ≤ q) hs hts (fun a ha h => absurd h (by omega)) (by decide) (by decide +kernel) (by decide +kernel) (by decide +kernel) (List.mem_of_getElem? (i := 783) (by decide +kernel)) (ws_in (ws_of (List.mem_of_getElem? (i := 107) (by decide +kernel)) (by decide +kernel)))
  obtain ⟨t1, z1, T1⟩ := stat_of (C := "DrawnMaps$Kind") (nm := "FIRST") (N := 9) (X := SFIRST) (A := fun q => s.heap.size ≤ q) hs hts (fun a ha h => absurd h (by omega)) (by decide) (by decide +kernel) (by decide +kernel) (by decide +kernel) (List.mem_of_getElem? (i := 778) (by decide +kernel)) (ws_in (ws_of (List.mem_of_getElem? (i := 107) (by decide +kernel)) (by decide +kernel)))
  obtain ⟨t2, z2, T2⟩ := stat_of (C := "DrawnMaps$Kind") (nm := "FACTORIAL") (N := 8) (X := SFACT) (A := fun q => s.heap.size ≤ q) hs hts (fun a ha h => absurd h (by omega)) (by decide) (by decide +kernel) (by decide +kernel) (by decide +kernel) (List.mem_of_getElem? (i := 702) (by decide +kernel)) (ws_in (ws_of (List.mem_of_getElem? (i := 107) (by decide +kernel)) (by decide +kernel)))
  have hK : va_K (gL (dC, dI) ci cb cz cs s.heap.size b t0 t1 t2).1 vwCl (tysG (gL (dC, dI) ci cb cz cs s.heap.size b t0 t1 t2)) s := by
    refine ⟨hKc, fun k q hq => ?_⟩
    match k, hq with
    | 0, hq => cases hq; exact ⟨hci, nci⟩
    | 1, hq => cases hq; exact ⟨hcb, ncb⟩
    | 2, hq => cases hq; exact ⟨hcz, ncz⟩
    | 3, hq => cases hq; exact ⟨fun n z => ⟨fun k h => (by cases h), kS, s3, comp, s4⟩, kS, comp, s3, s4, s1, s5⟩
    | k + 4, hq => simp [tysG] at hq
  have hSta : Sta (gL (dC, dI) ci cb cz cs s.heap.size b t0 t1 t2) (Af (gL (dC, dI) ci cb cz cs s.heap.size b t0 t1 t2) s.heap.size) s s.heap := by
    have hn : ∀ q, Af (gL (dC, dI) ci cb cz cs s.heap.size b t0 t1 t2) s.heap.size q → s.heap.size ≤ q := fun q hq => (gL_Af _ _ _ _ _ _ _ _ _ _ q).mpr hq
    intro k hk
    rcases hk with rfl | rfl | rfl
    · exact ⟨z0.narrow hn, T0.narrow hn⟩
    · exact ⟨z1.narrow hn, T1.narrow hn⟩
    · exact ⟨z2.narrow hn, T2.narrow hn⟩
  have hXI : XInit s := ⟨va_AO.of hao, fun q hq => va_Nw.of rfl (hts _ ((by decide +kernel : ∀ q ∈ ([(15, yX9_init), (26, yX8_init), (33, yX2_init), (40, yX4_init), (47, yX0_init), (54, yX1_init), (61, yX3_init), (68, yX7_init)] : List (Nat × MethodName)), Cond.methodLinkNest RX10 q.1 q.2 "DrawnMaps" ∈ lw_tbl) q hq))⟩
  have hE : lawE (gL (dC, dI) ci cb cz cs s.heap.size b t0 t1 t2) b L s.heap.size xs #[Value.ref b] s := ⟨rfl, rfl, hX, hbl, hXI, hSta, rfl, fun k hk => gL_lo hk⟩
  have hll := lv_entry ([.ref b]) (n := 4) (Nat.le_of_ble_eq_true rfl)
  rw [lg_entry_eq]
  have hP : va_P (dC, dI) vwCl [] s.heap := fun k q h => by simp at h
  have hD : va_D (fun q : Nat => s.heap.size ≤ q) [] := ⟨fun i j p q h => by simp at h, fun k q h => by simp at h⟩
  exact law_body l (dC, dI) ci cb cz cs s.heap.size b t0 t1 t2 L xs meth.name hL hyp_OP64 hyp_OPSZ hyp_ORD hyp_MAS hyp_SETC hyp_GENH hyp_FAM12 hyp_BLKD hyp_GCON hyp_CYCE hyp_BLKE hyp_FAME hyp_WAYE hyp_MADE p e s m #[Value.ref b] below meth c s.heap [] _ ⟨hx, hb, hml, hr, hlocks, hown, fun u hu => hts u (ws_in hu), hK, rfl, rfl, fun q hq => hq, hE⟩ hP hD va_S.rf rfl hll
set_option maxHeartbeats 4000000 in
theorem lw_walk (l : Launch) (hflags : l.flags = flags0) (b : Addr) (xs : List Int32) : MetFree l x (headSpec (Jvm.Cond.code x code maxLocals ret :: tables_1) room_1) (lw_P b xs) (fun _ _ _ _ _ => True) lw_Q := by
  refine MetFree.of_bodyS (code := code) (maxLocals := maxLocals) (ret := ret) (by decide) ?_ ?_
  · intro args s m h hn
    obtain ⟨meth, c, h1, h2, h3, h4, h5, h6, -, -⟩ := Cond.code_spec hn (atoms_spec (ws := Jvm.Cond.code x code maxLocals ret :: tables_1) h _ List.mem_cons_self)
    exact ⟨meth, c, h1, h2, h3, h4, h5, h6⟩
  · intro p e s m args below meth c s₁ B hml0 hP _
    obtain ⟨rfl, hx, hbd, hgv⟩ := hP
    obtain ⟨scr, harrAt, hlist, hof, hsmall⟩ := hx
    obtain ⟨hcb, hkn, -, -⟩ := State.arrayAt?_spec harrAt
    have hown : s.vm.findClass R_law = some m.cls := findClass_of_methodNamed B.named
    have hts0 : ∀ c ∈ (Jvm.Cond.code x code maxLocals ret :: tables_1), c.before #[Value.ref b] s = true := atoms_spec (ws := Jvm.Cond.code x code maxLocals ret :: tables_1) B.pre
    have hts : ∀ w ∈ lw_tbl, w.before #[Value.ref b] s = true := k2_hts_sels lw_privs (fun w hw => hts0 w (List.mem_cons_of_mem _ hw)) lw_privs_ok
    have hml : c.maxLocals = 4 := B.maxLocals_eq (hts0 _ List.mem_cons_self)
    have X₀ : Stand p l e room_1 s m #[Value.ref b] below meth c s₁ [] 0 0 := Stand.of_body B
    have hh0 : s₁.heap = s.heap := by rw [B.state]; rfl
    have hsz : scr.slots.size = xs.length := by rw [← Array.length_toList, hlist, List.length_map]
    have hval : ∀ j : Nat, j < xs.length → scr.slots[j]? = some (.int (xs.getD j 0)) := fun j hj => by
      rw [← Array.getElem?_toList, hlist]
      simp [hj]
    have hbl : b < s.heap.size := (Array.getElem?_eq_some_iff.mp hcb).1
    have hX : va_X b xs.length (fun j => xs.getD j 0) s s.heap := ⟨scr, hcb, hof, hkn, hsz, hval⟩
    have K : W p l e room_1 s m #[Value.ref b] below meth c s₁.heap [] 0 0 (lw_Z below #[Value.ref b] s) (entryFrame m ([Value.ref b] : List Value).toArray 4) := by
      rw [hh0]
      exact whole_start l hflags hbd ⟨B.exec, B.bytes, B.returns, hml, hown, hts, hX, hbl, B.notSynchronized, hgv⟩
    obtain ⟨t, a1, o, b1, b2, b3⟩ := K s₁ rfl X₀
    exact ⟨t, o, a1, b1, b2, b3⟩
theorem lw_pre_spec {args : Array Value} {s : State} (h : (Jvm.Cond.and given_1 narrow_1).before args s = true) (hr : rest_1_c.before args s = true) : ∃ (b : Addr) (xs : List Int32), lw_P b xs args s := by
  have hs := flat_of_before _ h
  have hq := flat_of_before _ hr
  have hc : (Cond.count 1).before args s = true := hs _ (by decide +kernel)
  have harr : (Cond.arrayOf (.arg 0) .int).before args s = true := hs _ (by decide +kernel)
  have hle : (Cond.le (.length (.arg 0)) (.int 3072)).before args s = true := hs _ (by decide +kernel)
  have hlen : (Cond.isInt (.length (.arg 0))).before args s = true := hq _ (by decide +kernel)
  have hall : (Cond.all (.arg 0) (.isInt (.elem (.arg 0) (.index 0)))).before args s = true := hq _ (by decide +kernel)
  obtain ⟨b, xs, hb, hx⟩ := State.ints_of_pre rfl harr hlen hall
  have hsm : xs.length < 2 ^ 31 := hx.choose_spec.2.2.2
  have hev : (Term.length (.arg 0)).eval args s none [] s = some (.int xs.length.toInt32) := hx.length_eval hb
  have hv := Cond.le_ints hev (show (Term.int 3072).eval args s none [] s = some (.int 3072) from rfl)
  have hd : xs.length.toInt32 ≤ 3072 := by
    simpa [Cond.before, Cond.holds, hv] using hle
  have hN : xs.length ≤ 3072 := (Int32.ofNat_le_ofNat hsm (by decide)).mp (show Int32.ofNat xs.length ≤ Int32.ofNat 3072 from hd)
  exact ⟨b, xs, Cond.one_arg hc (show args[0]? = some (.ref b) from hb), hx, hN, h⟩
theorem lw_comes (l : Launch) (hflags : l.flags = flags0) : Comes l x (Jvm.Cond.code x code maxLocals ret :: tables_1) room_1 (fun tb e args s => Calls_1 tb e args s ∧ rest_1 tb e args s ∧ Pre_1 tb e args s)
    (fun _ _ args s o t => lw_Q args s o t) := by
  intro p e ha hc hk s m args below hf hfit hheap happ hpre
  obtain ⟨b, xs, hP⟩ := lw_pre_spec hpre.2.2 hpre.2.1
  obtain ⟨k, o, h1, h2, h3, hQ⟩ := lw_walk l hflags b xs p e ha hc hk s m args below hf ((Spec.applies_iff_loose hf).mp happ).1 hP trivial
  exact ⟨k, o, h1, h2, h3, hQ⟩
theorem lw_frame {s t : State} {o : Outcome} {args : Array Value} (h : Framed s o t [] 600000 7302250) :
    Framed s o t (fieldLocs frame_1_writes args s ++ arrayLocs frame_1_arrays args s ++ staticLocs frame_1_statics s) 600000 7302250 := h
theorem lw_limb (L : Cond) (hL : ∀ (args : Array Value) (s t : State), L.after args s (.returned (some (.int 1))) t = true) :
    ArmFor flags0 classFile x code maxLocals ret World_1 tables_1 room_1 Calls_1 rest_1 Pre_1
      (fun tb e a s o t => postC L tb e a s o t ∧ Framed s o t (fieldLocs frame_1_writes a s ++ arrayLocs frame_1_arrays a s ++ staticLocs frame_1_statics s) 600000 7302250) := by
  intro l hflags _ _ p e ha hc hk s m args below hf hfit hheap happ hpre
  obtain ⟨k, o, h1, h2, h3, rfl, hF⟩ := lw_comes l hflags p e ha hc hk s m args below hf hfit hheap happ hpre
  exact ⟨k, _, h1, h2, h3, hL args s _, lw_frame hF⟩
theorem i_vc : Claimed_1_1 ∧ Claimed_1_2 := ⟨lw_limb limb_1_1 (fun args s t => by simp [limb_1_1, Cond.after, Cond.holds, Cond.value]), lw_limb limb_1_2 (fun args s t => Cond.after_iff.mpr (by
  first | (rw [show limb_1_2 = Cond.eq .result (.int 1) from rfl, Cond.eq_ints (x := 1) (y := 1) rfl rfl]; simp; done) | (simp [limb_1_2, Cond.value, Term.eval]; done)))⟩

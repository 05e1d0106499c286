/-! building: cells that come one behind the other; constructors by contract -/
abbrev BX : Type := Launch × Room × (List Frame → Array Value → State → State → Prop) × Gx × (Nat × Option FieldType) × (Nat → Prop) × (Nat × String) × (Array Value → State → Prop)
abbrev bG (x : BX) : Gx := x.2.2.2.1
abbrev bL (x : BX) : Nat × Option FieldType := x.2.2.2.2.1
abbrev bA (x : BX) : Nat → Prop := x.2.2.2.2.2.1
abbrev bz (x : BX) : Nat := x.2.2.2.2.2.2.1.1
abbrev bN (x : BX) : String := x.2.2.2.2.2.2.1.2
abbrev bE (x : BX) : Array Value → State → Prop := x.2.2.2.2.2.2.2
def Bc (x : BX) (own : String) (cc : ByteArray) (p : Program) (s : State) (m : MethodId) (args : Array Value) (meth : Method) (c : Code) : Prop :=
  p.tables.exec = Jvm.exec ∧ c.code = cc ∧ c.maxLocals = (bL x).1 ∧ meth.sig.returnType = (bL x).2 ∧ meth.locks = false ∧ s.vm.findClass own = some m.cls ∧ (∀ u ∈ WS, u.before args s = true) ∧ va_K (bG x).1 vwCl (tysG (bG x)) s ∧ meth.name = bN x ∧ s.heap.size = bz x ∧ (∀ q, bz x ≤ q → bA x q) ∧ bE x args s
def Bd (x : BX) (own : String) (cc : ByteArray) (pc : Nat) (ls : List (Nat × Value)) (st : List Value) (ws : va_W) (k n : Nat) : Prop :=
  ∀ (p : Program) (e : Env) (s : State) (m : MethodId) (args : Array Value) (below : List Frame) (meth : Method) (c : Code) (H : Heap) (locs : List Loc) (lsA : Array Slot),
    Bc x own cc p s m args meth c → va_P (bG x).1 vwCl ws H → va_D (bA x) ws → va_S (bA x) s.heap H locs → H.size = bz x + k → lv_has lsA (bL x).1 ls →
    W p x.1 e x.2.1 s m args below meth c H locs k n (x.2.2.1 below args s) (F0 m pc lsA st)
def OLk (own : String) (idx : Nat) : Prop := Cond.methodLink own idx Lib.objectInit ∈ WS ∧ Cond.instanceMethod Lib.objectInit ∈ WS ∧ Cond.code Lib.objectInit ⟨#[0xb1]⟩ 1 none ∈ WS
def NLk (own : String) (idx ci : Nat) (C : String) (T : u_T) (N : Nat) : Prop := vwCl[ci]? = some (C, T, N) ∧ (∀ u ∈ u_ws C T N, u ∈ WS) ∧ Cond.classLink own idx C ∈ WS ∧ Cond.instantiable C N ∈ WS ∧ Cond.initialized C ∈ WS
/-- a field that a constructor writes -/
def PLk (own : String) (idx ci j : Nat) (nm : String) (ty : FieldType) : Prop := ∃ (C : String) (T : u_T) (N : Nat), CK ci C T N ∧ j < N ∧ Cond.fieldLink own idx (T j).1 (T j).2.1 (T j).2.2.1 ∈ WS ∧ ((T j).2.2.2 = false ∨ ((T j).2.2.2 = true ∧ nm = "<init>" ∧ (T j).1 = own)) ∧ parseFieldDescriptor (T j).2.2.1 = some ty
section BR
variable {x : BX} {own : String} {cc : ByteArray} {pc : Nat} {ls : List (Nat × Value)} {st : List Value} {ws : va_W} {k n : Nat}
theorem b_aload {pc' : Nat} (j : Nat) {kf : Fin 4} {i a : Nat} (hp : pc + 1 = pc') (hd : decode cc pc = .ok (.aload_n kf, 1)) (hi : (kf : Nat) = i) (h : ls[j]? = some (i, .ref a)) (kk : Bd x own cc pc' ls (.ref a :: st) ws k n) : Bd x own cc pc ls st ws k n := by
  subst hp
  exact fun p e s m args below meth c H locs lsA C hP hD hS hz hl => lv_aload_n C.1 C.2.1 hd hi (lv_at hl j h) (kk p e s m args below meth c H locs lsA C hP hD hS hz hl)
theorem b_iload {pc' : Nat} (j : Nat) {kf : Fin 4} {i : Nat} {a : Int32} (hp : pc + 1 = pc') (hd : decode cc pc = .ok (.iload_n kf, 1)) (hi : (kf : Nat) = i) (h : ls[j]? = some (i, .int a)) (kk : Bd x own cc pc' ls (.int a :: st) ws k n) : Bd x own cc pc ls st ws k n := by
  subst hp
  exact fun p e s m args below meth c H locs lsA C hP hD hS hz hl => lv_iload_n C.1 C.2.1 hd hi (lv_at hl j h) (kk p e s m args below meth c H locs lsA C hP hD hS hz hl)
theorem b_iconst {pc' : Nat} {z : Int} {v : Int32} (hp : pc + 1 = pc') (hd : decode cc pc = .ok (.iconst z, 1)) (hv : Int32.ofInt z = v) (kk : Bd x own cc pc' ls (.int v :: st) ws k n) : Bd x own cc pc ls st ws k n := by
  subst hp
  exact fun p e s m args below meth c H locs lsA C hP hD hS hz hl => lv_iconst C.1 C.2.1 hd hv (kk p e s m args below meth c H locs lsA C hP hD hS hz hl)
theorem b_bipush {pc' : Nat} {z : Int} {v : Int32} (hp : pc + 2 = pc') (hd : decode cc pc = .ok (.bipush z, 2)) (hv : (Int8.ofInt z).toInt32 = v) (kk : Bd x own cc pc' ls (.int v :: st) ws k n) : Bd x own cc pc ls st ws k n := by
  subst hp
  exact fun p e s m args below meth c H locs lsA C hP hD hS hz hl => lv_bipush C.1 C.2.1 hd hv (kk p e s m args below meth c H locs lsA C hP hD hS hz hl)
theorem b_sipush {pc' : Nat} {z : Int} {v : Int32} (hp : pc + 3 = pc') (hd : decode cc pc = .ok (.sipush z, 3)) (hv : (Int16.ofInt z).toInt32 = v) (kk : Bd x own cc pc' ls (.int v :: st) ws k n) : Bd x own cc pc ls st ws k n := by
  subst hp
  exact fun p e s m args below meth c H locs lsA C hP hD hS hz hl => lv_sipush C.1 C.2.1 hd hv (kk p e s m args below meth c H locs lsA C hP hD hS hz hl)
theorem b_ldc {pc' idx : Nat} {z : Int} (hp : pc + 2 = pc') (hd : decode cc pc = .ok (.ldc idx, 2)) (hc : Cond.constant own idx (iz z) ∈ WS) (kk : Bd x own cc pc' ls (.int (iz z) :: st) ws k n) : Bd x own cc pc ls st ws k n := by
  subst hp
  exact fun p e s m args below meth c H locs lsA C hP hD hS hz hl => lv_ldc C.1 C.2.1 C.2.2.2.2.2.1 (C.2.2.2.2.2.2.1 _ hc) hd (kk p e s m args below meth c H locs lsA C hP hD hS hz hl)
theorem b_dup {pc' : Nat} {a : Nat} (hp : pc + 1 = pc') (hd : decode cc pc = .ok (.dup, 1)) (kk : Bd x own cc pc' ls (.ref a :: .ref a :: st) ws k n) : Bd x own cc pc ls (.ref a :: st) ws k n := by
  subst hp
  exact fun p e s m args below meth c H locs lsA C hP hD hS hz hl => lv_dup C.1 C.2.1 hd rfl (kk p e s m args below meth c H locs lsA C hP hD hS hz hl)
theorem b_goto {off : Int} {tgt : Nat} (hd : decode cc pc = .ok (.goto off, 3)) (ht : (pc : Int) + off = (tgt : Int)) (kk : Bd x own cc tgt ls st ws k n) : Bd x own cc pc ls st ws k n :=
  fun p e s m args below meth c H locs lsA C hP hD hS hz hl => lv_goto C.1 C.2.1 hd ht (kk p e s m args below meth c H locs lsA C hP hD hS hz hl)
theorem b_istore {pc' : Nat} {kf : Fin 4} {i : Nat} {a : Int32} {ls' : List (Nat × Value)} (hp : pc + 1 = pc') (hd : decode cc pc = .ok (.istore_n kf, 1)) (hi : (kf : Nat) = i) (hn : Nat.blt i (bL x).1 = true) (hl0 : (i, Value.int a) :: ls.filter (fun q => !(q.1 == i) && !(q.1 + 1 == i && q.2.category == 2)) = ls') (kk : Bd x own cc pc' ls' st ws k n) : Bd x own cc pc ls (.int a :: st) ws k n := by
  subst hp
  intro p e s m args below meth c H locs lsA C hP hD hS hz hl
  exact lv_istore_n C.1 C.2.1 hd hi hl (blt_of hn) hl0 (fun lsA' h' => kk p e s m args below meth c H locs lsA' C hP hD hS hz h')
theorem b_astore {pc' : Nat} {kf : Fin 4} {i a : Nat} {ls' : List (Nat × Value)} (hp : pc + 1 = pc') (hd : decode cc pc = .ok (.astore_n kf, 1)) (hi : (kf : Nat) = i) (hn : Nat.blt i (bL x).1 = true) (hl0 : (i, Value.ref a) :: ls.filter (fun q => !(q.1 == i) && !(q.1 + 1 == i && q.2.category == 2)) = ls') (kk : Bd x own cc pc' ls' st ws k n) : Bd x own cc pc ls (.ref a :: st) ws k n := by
  subst hp
  intro p e s m args below meth c H locs lsA C hP hD hS hz hl
  exact lv_astore_n C.1 C.2.1 hd hi hl (blt_of hn) hl0 (fun lsA' h' => kk p e s m args below meth c H locs lsA' C hP hD hS hz h')
theorem b_iinc {pc' : Nat} (j : Nat) {i : Nat} {z : Int} {a v : Int32} {ls' : List (Nat × Value)} (hp : pc + 3 = pc') (hd : decode cc pc = .ok (.iinc i z, 3)) (h : ls[j]? = some (i, .int a)) (hv : a + Int32.ofInt z = v) (hn : Nat.blt i (bL x).1 = true) (hl0 : (i, Value.int v) :: ls.filter (fun q => !(q.1 == i) && !(q.1 + 1 == i && q.2.category == 2)) = ls') (kk : Bd x own cc pc' ls' st ws k n) : Bd x own cc pc ls st ws k n := by
  subst hp
  intro p e s m args below meth c H locs lsA C hP hD hS hz hl
  exact lv_iinc (k := j) C.1 C.2.1 hd hl h hv (blt_of hn) hl0 (fun lsA' h' => kk p e s m args below meth c H locs lsA' C hP hD hS hz h')
theorem b_ge_t {off : Int} {tgt : Nat} {a b : Int32} (hd : decode cc pc = .ok (.if_icmp .ge off, 3)) (ht : (pc : Int) + off = (tgt : Int)) (h : b ≤ a) (kk : Bd x own cc tgt ls st ws k n) : Bd x own cc pc ls (.int b :: .int a :: st) ws k n :=
  fun p e s m args below meth c H locs lsA C hP hD hS hz hl => lv_icmp_ge C.1 C.2.1 hd ht (fun _ => kk p e s m args below meth c H locs lsA C hP hD hS hz hl) (fun q => absurd h q)
theorem b_ge_f {pc' : Nat} {off : Int} {tgt : Nat} {a b : Int32} (hp : pc + 3 = pc') (hd : decode cc pc = .ok (.if_icmp .ge off, 3)) (ht : (pc : Int) + off = (tgt : Int)) (h : ¬ b ≤ a) (kk : Bd x own cc pc' ls st ws k n) : Bd x own cc pc ls (.int b :: .int a :: st) ws k n := by
  subst hp
  exact fun p e s m args below meth c H locs lsA C hP hD hS hz hl => lv_icmp_ge C.1 C.2.1 hd ht (fun q => absurd q h) (fun _ => kk p e s m args below meth c H locs lsA C hP hD hS hz hl)
theorem b_obj {pc' idx a : Nat} (hp : pc + 3 = pc') (hd : decode cc pc = .ok (.invokespecial idx, 3)) (ho : OLk own idx) (hf : 1 ≤ x.2.1.frames) (hst : (st.map fun v => v.category).sum + 12 ≤ x.2.1.locals) (kk : Bd x own cc pc' ls st ws k n) : Bd x own cc pc ls (.ref a :: st) ws k n := by
  subst hp
  intro p e s m args below meth c H locs lsA C hP hD hS hz hl
  refine W.objInit C.1 C.2.1 C.2.2.2.2.2.1 (C.2.2.2.2.2.2.1 _ ho.1) (C.2.2.2.2.2.2.1 _ ho.2.1) (C.2.2.2.2.2.2.1 _ ho.2.2) rfl (by rw [C.2.2.1]; exact hl.1) rfl hd hf (by show 2 * 0 + _ + 12 ≤ _; omega) ?_
  exact W.eq (g2 := F0 m (pc + 3) lsA st) rfl (kk p e s m args below meth c H locs lsA C hP hD hS hz hl)
theorem b_new {pc' idx ci : Nat} {Cn : String} {T : u_T} {N : Nat} (ty : Nat → FieldType) {fs : List Value} (hp : pc + 3 = pc') (hd : decode cc pc = .ok (.new idx, 3)) (hN : NLk own idx ci Cn T N) (hty : ∀ j, j < N → parseFieldDescriptor (T j).2.2.1 = some (ty j)) (hfs : ∀ j, j < N → defaultValue (ty j) = vp_V fs j) (hcells : k + 1 ≤ x.2.1.cells) (hslots : n + N ≤ x.2.1.slots)
    {ws' : va_W} (hw : ws ++ [(bz x + k, .inr (ci, fs))] = ws') (kk : Bd x own cc pc' ls (.ref (bz x + k) :: st) ws' (k + 1) (n + N)) : Bd x own cc pc ls st ws k n := by
  subst hp
  subst hw
  intro p e s m args below meth c H locs lsA C hP hD hS hz hl
  obtain ⟨h1, h2, h3, h4, h5⟩ := hN
  have hts := C.2.2.2.2.2.2.1
  have hKn := C.2.2.2.2.2.2.2.1.1 ci _ h1
  refine W.newcK C.1 C.2.1 C.2.2.2.2.2.1 (hts _ h3) (hts _ h4) (hts _ h5) rfl hd hcells hslots hKn.2.1 hz (fun H1 kC hkC e1 z1 o1 => ?_)
  have hk : ∀ (i : Nat) (q : Nat × va_E), ws[i]? = some q → H1[q.1]? = H[q.1]? := fun i q hq => o1 q.1 (by have := (hP i q hq).lt; omega)
  refine kk p e s m args below meth c H1 locs lsA C ((hP.kept hk).app (fun i q hq => ?_)) (hD.push hP (by rw [hz]) (C.2.2.2.2.2.2.2.2.2.2.1 _ (by omega))) ⟨?_, fun q h1 h2 => ?_, hS.2.2⟩ (by omega) hl
  · have hz2 : i < 1 := (List.getElem?_eq_some_iff.mp hq).1
    rw [show i = 0 by omega] at hq
    cases hq
    exact ⟨_, h1, (u_born ty hts h2 hKn hkC e1 hty).to hfs⟩
  · have := hS.1
    omega
  · have := hS.1
    rw [o1 q (by omega)]
    exact hS.2.1 q h1 h2
theorem b_newa {pc' t : Nat} {atype : ArrayType} {ty : FieldType} {v : Int32} {N : Nat} (hp : pc + 2 = pc') (hd : decode cc pc = .ok (.newarray atype, 2)) (hty : newarray.typeOf atype = ty) (harr : Cond.arrayClass ty ∈ WS) (ht : (tysG (bG x))[t]? = some (acls (bG x) t, ty)) (hR : ∀ (U : State) (cA : ClassId), va_RA U cA ty = (U.vm.findClass ("[" ++ ty.toString) = some cA)) (hdef : ∀ cA : ClassId, vp_cell cA (N, .inl (fun _ => iz 0)) = arrV cA N (fun _ => defaultValue ty)) (hn : ¬ v < 0) (hN : v.toNatClampNeg = N) (hb : N * componentBytes ty ≤ 536870912) (hcells : k + 1 ≤ x.2.1.cells) (hslots : n + N ≤ x.2.1.slots)
    {ws' : va_W} (hw : ws ++ [(bz x + k, .inl (acls (bG x) t, N, .inl (fun _ => iz 0)))] = ws') (kk : Bd x own cc pc' ls (.ref (bz x + k) :: st) ws' (k + 1) (n + N)) : Bd x own cc pc ls (.int v :: st) ws k n := by
  subst hp
  subst hw
  subst hty
  intro p e s m args below meth c H locs lsA C hP hD hS hz hl
  refine va_newaK C.1 C.2.1 (C.2.2.2.2.2.2.1 _ harr) rfl hd rfl hn hN hb hcells hslots hz (fun H1 cA e1 z1 o1 hAr hNm => ?_)
  have hcA : cA = acls (bG x) t := by
    have h := (C.2.2.2.2.2.2.2.1.2 t _ ht).2
    rw [hR] at h
    exact Option.some.inj (hNm.symm.trans h)
  subst hcA
  have hk : ∀ (i : Nat) (q : Nat × va_E), ws[i]? = some q → H1[q.1]? = H[q.1]? := fun i q hq => o1 q.1 (by have := (hP i q hq).lt; omega)
  refine kk p e s m args below meth c H1 locs lsA C ((hP.kept hk).app (fun i q hq => ?_)) (hD.push hP (by rw [hz]) (C.2.2.2.2.2.2.2.2.2.2.1 _ (by omega))) ⟨?_, fun q h1 h2 => ?_, hS.2.2⟩ (by omega) hl
  · have hz2 : i < 1 := (List.getElem?_eq_some_iff.mp hq).1
    rw [show i = 0 by omega] at hq
    cases hq
    show H1[bz x + k]? = some (vp_cell _ _)
    rw [hdef]
    exact e1
  · have := hS.1
    omega
  · have := hS.1
    rw [o1 q (by omega)]
    exact hS.2.1 q h1 h2
theorem b_newq {pc' idx : Nat} {v : Int32} {N : Nat} (hp : pc + 3 = pc') (hd : decode cc pc = .ok (.anewarray idx, 3)) (hlk : Cond.classLink own idx "DrawnMaps$State" ∈ WS) (hao : ∀ args s, bE x args s → (Cond.arrayOver (.object "DrawnMaps$State")).before args s = true) (hn : ¬ v < 0) (hN : v.toNatClampNeg = N) (hb : N * 4 ≤ 536870912) (hcells : k + 1 ≤ x.2.1.cells) (hslots : n + N ≤ x.2.1.slots)
    {ws' : va_W} (hw : ws ++ [(bz x + k, .inl ((bG x).2.2.2.2.2, N, .inr (.inr (.inr (.inr (fun _ => none))))))] = ws') (kk : Bd x own cc pc' ls (.ref (bz x + k) :: st) ws' (k + 1) (n + N)) : Bd x own cc pc ls (.int v :: st) ws k n := by
  subst hp
  subst hw
  subst hN
  intro p e s m args below meth c H locs lsA C hP hD hS hz hl
  refine W.anew C.1 C.2.1 C.2.2.2.2.2.1 (C.2.2.2.2.2.2.1 _ hlk) (hao _ _ C.2.2.2.2.2.2.2.2.2.2.2) rfl hd rfl hn hb hcells hslots (fun cA kA comp f1 f2 f3 f4 => ?_)
  have hcA : cA = (bG x).2.2.2.2.2 := by
    obtain ⟨_, _, _, _, _, h⟩ := (C.2.2.2.2.2.2.2.1.2 3 _ rfl).2
    exact Option.some.inj (f1.symm.trans h)
  subst hcA
  generalize hH1 : H.push ({ cls := (bG x).2.2.2.2.2, slots := Array.replicate v.toNatClampNeg .null, vm := .none } : Cell) = H1
  have z1 : H1.size = H.size + 1 := by rw [← hH1, Array.size_push]
  have e1 : H1[H.size]? = some (arrV (bG x).2.2.2.2.2 v.toNatClampNeg (fun _ => .null)) := by rw [← hH1, Array.getElem?_push_size, ← arrV_new]
  have o1 : ∀ q : Nat, q < H.size → H1[q]? = H[q]? := fun q hq => by rw [← hH1, Array.getElem?_push, if_neg (Nat.ne_of_lt hq)]
  have hk : ∀ (i : Nat) (q : Nat × va_E), ws[i]? = some q → H1[q.1]? = H[q.1]? := fun i q hq => o1 q.1 ((hP i q hq).lt)
  have hgo := kk p e s m args below meth c H1 locs lsA C ((hP.kept hk).app (fun i q hq => ?_)) (hD.push hP (by rw [hz]) (C.2.2.2.2.2.2.2.2.2.2.1 _ (by omega))) ⟨?_, fun q h1 h2 => ?_, hS.2.2⟩ (by omega) hl
  · rw [← hz] at hgo
    exact W.eq rfl hgo
  · have hz2 : i < 1 := (List.getElem?_eq_some_iff.mp hq).1
    rw [show i = 0 by omega] at hq
    cases hq
    show H1[bz x + k]? = some (vp_cell _ _)
    rw [← hz]
    exact e1
  · have := hS.1
    omega
  · have := hS.1
    rw [o1 q (by omega)]
    exact hS.2.1 q h1 h2
theorem b_put {pc' idx ci j a q0 : Nat} {fs : List Value} {ty : FieldType} {v : Value} (hp : pc + 3 = pc') (hd : decode cc pc = .ok (.putfield idx, 3)) (hf : PLk own idx ci j (bN x) ty) (he : ws[q0]? = some (a, .inr (ci, fs))) (hn : narrow ty v = v) (hfit : fits ty v = true) (hl0 : Nat.blt j fs.length = true)
    {ws' : va_W} (hw : ws.set q0 (a, .inr (ci, fs.set j v)) = ws') (kk : Bd x own cc pc' ls st ws' k n) : Bd x own cc pc ls (v :: .ref a :: st) ws k n := by
  subst hp
  subst hw
  intro p e s m args below meth c H locs lsA C hP hD hS hz hl
  obtain ⟨Cn, T, N, ⟨h1, h2, ⟨ty0, h3⟩, h4⟩, h5, h6, h7, h8⟩ := hf
  have hts := C.2.2.2.2.2.2.1
  have hap := va_apart (own := own) hts h2 ty0 h3 h4 C.2.2.2.2.2.2.2.1 h1
  obtain ⟨r, g1, cell, q1, q2, q3, q4⟩ := hP q0 _ he
  have hr : r = (Cn, T, N) := Option.some.inj (g1.symm.trans h1)
  subst hr
  obtain ⟨hSl, hfc, kC, hkC, hkind⟩ := C.2.2.2.2.2.2.2.1.1 ci _ h1
  obtain ⟨cf, kf, fi, f, hi, hsl⟩ := hSl j h5
  have hlay := hts _ (h2 _ (u_in_lay h5))
  unfold u_lay at hlay
  have hst := (u_facts hfc hkC (u_lays hts h2 h5) hi).1
  rcases h7 with h7 | ⟨h7, h9, h10⟩
  · rw [if_neg (by rw [h7]; decide)] at hlay
    have g6 := u_store hfc hkC hkind hlay hi h8 hn hfit
    refine W.putK C.1 C.2.1 (f := f) ⟨C.2.2.2.2.2.1, hts _ h6, ⟨_, _, _, hi⟩, hst⟩ (by rw [q2]; exact g6) q1 q3 (by rw [hsl]; exact k2_hasslot (q4 j h5)) rfl rfl hd (fun H1 e1 e2 e3 => ?_)
    rw [hsl] at e1 ⊢
    exact kk p e s m args below meth c H1 _ lsA C (hP.set hD he ⟨_, h1, t_OB.to (V := updV (vp_V fs) j v) ⟨_, e1, q2, q3, t_set q4 hap h5 v⟩ (fun i _ => vp_updV_set (blt_of hl0) v i)⟩ e3) (hD.set he) (hS.put e2 e3 (hD.2 q0 _ he)) (by omega) hl
  · rw [if_pos h7] at hlay
    have hcf : m.cls = cf := by
      obtain ⟨_, _, c', _, _, _, -, -, hf', -, -, -, hown2, -⟩ := Cond.laysFinal_spec hlay
      have e1 : c' = cf := by have := hi.symm.trans hf'; simp at this; exact this.1.symm
      rw [h10] at hown2
      rw [← e1]; exact Option.some.inj (C.2.2.2.2.2.1.symm.trans hown2)
    have g6 := u_fits hfc hkC hkind (Or.inr hlay) hi h8 hn hfit
    refine W.putFinK C.1 C.2.1 C.2.2.2.2.2.1 (hts _ h6) hi hst hcf (C.2.2.2.2.2.2.2.2.1.trans h9) (by rw [q2]; exact g6) q1 q3 (by rw [hsl]; exact k2_hasslot (q4 j h5)) rfl rfl hd (fun H1 e1 e2 e3 => ?_)
    rw [hsl] at e1 ⊢
    exact kk p e s m args below meth c H1 _ lsA C (hP.set hD he ⟨_, h1, t_OB.to (V := updV (vp_V fs) j v) ⟨_, e1, q2, q3, t_set q4 hap h5 v⟩ (fun i _ => vp_updV_set (blt_of hl0) v i)⟩ e3) (hD.set he) (hS.put e2 e3 (hD.2 q0 _ he)) (by omega) hl
theorem b_get {pc' idx ci j a q0 : Nat} {fs : List Value} {v : Value} (hp : pc + 3 = pc') (hd : decode cc pc = .ok (.getfield idx, 3)) (hf : FLk own idx ci j) (he : ws[q0]? = some (a, .inr (ci, fs))) (hv : fs[j]? = some v) (kk : Bd x own cc pc' ls (v :: st) ws k n) : Bd x own cc pc ls (.ref a :: st) ws k n := by
  subst hp
  obtain ⟨Cn, T, N, ⟨h1, h2, h3, h4⟩, h5, h6⟩ := hf
  intro p e s m args below meth c H locs lsA C hP hD hS hz hl
  exact va_get C.1 C.2.1 C.2.2.2.2.2.2.1 h2 C.2.2.2.2.2.1 C.2.2.2.2.2.2.2.1 hP q0 he h1 j h5 (C.2.2.2.2.2.2.1 _ h6) (fun _ h => h) hv hd (kk p e s m args below meth c H locs lsA C hP hD hS hz hl)
theorem b_astq {pc' q0 qk ci a v N : Nat} {r : vw_C} {vs : List Value} {f : Nat → Option Nat} {i : Int32} {I : Nat} (hp : pc + 1 = pc') (hd : decode cc pc = .ok (.aastore, 1)) (ha : ws[q0]? = some (a, .inl ((bG x).2.2.2.2.2, N, .inr (.inr (.inr (.inr f)))))) (hv : ws[qk]? = some (v, .inr (ci, vs))) (hc : vwCl[ci]? = some r) (hr : r.1 = "DrawnMaps$State") (hI : i.toNatClampNeg = I) (h0 : ¬ i < 0) (h1 : Nat.blt I N = true)
    {ws' : va_W} (hw : ws.set q0 (a, .inl ((bG x).2.2.2.2.2, N, .inr (.inr (.inr (.inr (va_up f I (some v))))))) = ws') (kk : Bd x own cc pc' ls st ws' k n) : Bd x own cc pc ls (.ref v :: .int i :: .ref a :: st) ws k n := by
  subst hp
  subst hw
  subst hI
  intro p e s m args below meth c H locs lsA C hP hD hS hz hl
  have hlt := blt_of h1
  obtain ⟨r', hr', cellV, g1, g2, g3, -⟩ := hP qk _ hv
  have hK := C.2.2.2.2.2.2.2.1
  have hcls := (hK.1 ci r hc).2
  obtain ⟨kA, comp, k1, k2, k3, -⟩ := (hK.2 3 _ rfl).2
  have hcomp : comp = (bG x).1.1 ci := Option.some.inj (k3.symm.trans (by rw [← hr]; exact hcls.1))
  subst hcomp
  obtain ⟨kC, hkC, -⟩ := hcls.2
  refine W.aast C.1 C.2.1 (hP q0 _ ha) (fun q h => by cases h) (fun h => by cases h) k1 k2 rfl hkC ⟨h0, by show _ < (arrV _ _ _).slots.size; rw [arrV_size]; exact hlt⟩ g1 (fun q h => by rw [g3] at h; cases h) (by rw [g2]; exact hkC) (by rw [g2]; exact va_assign hcls) rfl rfl hd (fun H1 e1 z oq => ?_)
  refine kk p e s m args below meth c H1 _ lsA C (hP.set hD ha ?_ oq) (hD.set ha) (hS.put z oq (hD.2 q0 _ ha)) (by omega) hl
  show H1[a]? = some (vp_cell _ _)
  rw [e1]
  rw [vp_cell_q, vp_cell_q, arrV_store]
  congr 2
  funext q
  by_cases hq : q = i.toNatClampNeg
  · subst hq
    simp [updV, va_up, va_rf]
  · simp [updV, va_up, hq]
end BR
/-- a constructor's contract: it makes mc cells (ms slots), from the address sz on -/
def Ct (l : Launch) (G : Gx) (d mc ms : Nat) (Y : MI) (h sz : Nat) (X : State → Prop) (w0 w1 : va_W) : Prop :=
  Met l Y.1 (wsm Y) ({ frames := d, cells := mc, slots := ms, locals := 40 * d } : Room) (va_Pc [.ref h] (fun U => U.heap.size = sz ∧ va_P G.1 vwCl w0 U.heap ∧ va_K G.1 vwCl (tysG G) U ∧ va_D (fun _ => True) w0 ∧ X U)) (va_Qv (fun _ : Unit => True) (fun _ t => t.heap.size = sz + mc ∧ va_P G.1 vwCl w1 t.heap ∧ va_D (va_A w0 sz) w1) (va_A w0 sz)) mc ms (va_A w0 sz)
def cX (l : Launch) (G : Gx) (d mc ms nL h sz : Nat) (X : State → Prop) (w0 w1 : va_W) : BX :=
  (l, ({ frames := d, cells := mc, slots := ms, locals := 40 * d } : Room), fun below args s => MQ below (va_Qv (fun _ : Unit => True) (fun _ t => t.heap.size = sz + mc ∧ va_P G.1 vwCl w1 t.heap ∧ va_D (va_A w0 sz) w1) (va_A w0 sz)) args s mc ms (va_A w0 sz), G, (nL, none), va_A w0 sz, (sz, "<init>"), fun _ s => X s)
theorem Ct_of {l : Launch} {G : Gx} {d mc ms h sz : Nat} {Y : MI} {X : State → Prop} {w0 w1 : va_W} (own : String) (hown : Y.1.cls = own) (hn : Y.1.name = "<init>") (hret : Y.2.2.2 = none) (hpl : plainName Y.1.cls = true) (hlen : 1 ≤ Y.2.2.1)
    (hb : Bd (cX l G d mc ms Y.2.2.1 h sz X w0 w1) own Y.2.1 0 [(0, .ref h)] [] w0 0 0) : Ct l G d mc ms Y h sz X w0 w1 := by
  refine Met.ofW (cc := Y.2.1) (maxL := Y.2.2.1) (ret := Y.2.2.2) hpl rfl ?_
  intro p e s m args below meth c s₁ B hml hv
  obtain ⟨rfl, hsz, hP, hK, hD, hX⟩ := hv
  have hts := atoms_spec (ws := wsm Y) B.pre
  have hfc := findClass_of_methodNamed B.named
  rw [hown] at hfc
  have hll := lv_entry ([.ref h]) (n := Y.2.2.1) hlen
  rw [lg_entry_eq]
  exact hb p e s m _ below meth c s.heap [] _ ⟨B.exec, B.bytes, hml, B.returns.trans hret, B.notSynchronized, hfc, fun u hu => hts u (List.mem_cons_of_mem _ hu), hK, (name_of_methodNamed B.named B.method).1.trans hn, hsz, fun q hq => Or.inr hq, hX⟩ hP (hD.self (sz := sz)) va_S.rf hsz hll
theorem b_ret {l : Launch} {G : Gx} {d mc ms nL h sz pc : Nat} {X : State → Prop} {w0 w1 : va_W} {own : String} {cc : ByteArray} {ls : List (Nat × Value)} (hd : decode cc pc = .ok (.return_, 1)) : Bd (cX l G d mc ms nL h sz X w0 w1) own cc pc ls [] w1 mc ms := by
  intro p e s m args below meth c H locs lsA C hP hD hS hz hl
  exact W.vret C.1 C.2.1 C.2.2.2.1 (fun t ht hW => ⟨⟨(), rfl, trivial, by rw [ht]; exact hz, by rw [ht]; exact hP, hD⟩, hS.F ht⟩) hS.2.2 hd C.2.2.2.2.1
theorem blind_ct (G : Gx) (w0 : va_W) (h sz : Nat) (X : State → Prop) (hX : ∀ (U : State) (g : JFrame) (mk : MethodId) (a : Array Value), X U → X (U.calling g mk a)) : FrameBlind (va_Pc [.ref h] (fun U => U.heap.size = sz ∧ va_P G.1 vwCl w0 U.heap ∧ va_K G.1 vwCl (tysG G) U ∧ va_D (fun _ => True) w0 ∧ X U)) := by
  intro a U g mk q
  obtain ⟨q0, q1, q2, q3, q4, q5⟩ := q
  exact ⟨q0, q1, q2, va_K.moved (u := U) (U := U.calling g mk a) (Vm.Alike.refl U.vm) q3, q4, hX U g mk a q5⟩
section BCall
variable {x : BX} {own : String} {cc : ByteArray} {pc idx h d mc ms : Nat} {ls : List (Nat × Value)} {st : List Value} {ws wc wr w1 : va_W} {k n : Nat} {Y : MI} {X : State → Prop}
/-- a constructor is called: straight, or as a nest mate's (host) -/
theorem b_call (host : Option String) (hd : decode cc pc = .ok (.invokespecial idx, 3)) (hM : MK Y 0) (hin : Cond.instanceMethod Y.1 ∈ WS) (hnm : Y.1.name = "<init>") (hret : Y.2.2.2 = none)
    (hlk : match host with | none => Cond.methodLink own idx Y.1 ∈ WS | some hh => ∀ args s, bE x args s → va_Nw (.methodLinkNest own idx Y.1 hh) s)
    (hst : (st.map fun v => v.category).sum ≤ 8) (hroom : d + 1 ≤ x.2.1.frames ∧ 8 + (Y.2.2.1 + 11) + 40 * d ≤ x.2.1.locals) (hcs : k + mc ≤ x.2.1.cells ∧ n + ms ≤ x.2.1.slots)
    (hXb : ∀ (U : State) (g : JFrame) (mk : MethodId) (a : Array Value), X U → X (U.calling g mk a))
    (hX : ∀ (args : Array Value) (s U : State) (H : Heap) (locs : List Loc), bE x args s → s.heap.size = bz x → va_S (bA x) s.heap H locs → U.heap = H → s.WarmedH U.vm → X U)
    (hc : Ct x.1 (bG x) d mc ms Y h (bz x + k) X wc w1) (isC isR : List Nat) (hC : isC.map (fun i => ws[i]?) = wc.map some) (hR : isR.map (fun i => ws[i]?) = wr.map some) (hndC : va_nd isC = true) (hnd : va_nd isR = true) (hdis : ∀ i ∈ isR, i ∉ isC)
    {ws' : va_W} (hw : wr ++ w1 = ws') (kk : Bd x own cc (pc + 3) ls st ws' (k + mc) (n + ms)) : Bd x own cc pc ls (.ref h :: st) ws k n := by
  subst hw
  intro p e s m args below meth c H locs lsA C hP hD hS hz hl
  have ht := C.2.2.2.2.2.2.1
  have hnL : lsA.size = (bL x).1 := hl.1
  have hPc : va_P (bG x).1 vwCl wc H := fun i q hq => by
    have h1 : (isC.map (fun i => ws[i]?))[i]? = some (some q) := by rw [hC, List.getElem?_map, hq]; rfl
    rw [List.getElem?_map] at h1
    cases hi : isC[i]? with
    | none => rw [hi] at h1; cases h1
    | some j => rw [hi] at h1; exact hP j q (Option.some.inj h1)
  have hDc := hD.sub isC hndC hC
  have hFc := va_free hD hS (by rw [C.2.2.2.2.2.2.2.2.2.1]; exact C.2.2.2.2.2.2.2.2.2.2.1) isC hC
  have hwsm : ∀ u ∈ wsm Y, ∀ (a' : Array Value) (U : State), s.WarmedH U.vm → u.before a' U = true := by
    intro u hu a' U hW
    have h1 : u ∈ WS := by
      rcases List.mem_cons.mp hu with h | h
      · rw [h]; exact hM.1
      · exact h
    exact word_at hW (ws_good h1) (ht _ h1)
  have hpre : PreS s H (va_Pc [.ref h] (fun U => U.heap.size = bz x + k ∧ va_P (bG x).1 vwCl wc U.heap ∧ va_K (bG x).1 vwCl (tysG (bG x)) U ∧ va_D (fun _ => True) wc ∧ X U)) [.ref h] :=
    ⟨blind_ct _ _ _ _ _ hXb, fun U hU hW => ⟨rfl, by rw [hU]; exact hz, by rw [hU]; exact hPc, va_K.moved hW.alike C.2.2.2.2.2.2.2.1, hDc.weaken (fun _ _ _ _ => trivial), hX args s U H locs C.2.2.2.2.2.2.2.2.2.2.2 C.2.2.2.2.2.2.2.2.2.1 hS hU hW⟩⟩
  have hlen : ∀ sig, parseMethodDescriptor Y.1.desc = some sig → 0 = sig.parameters.length := fun sig hsig => by have := hM.2.2.2; rw [hsig] at this; exact (Option.some.inj this).symm
  have hmet : Met x.1 Y.1 (wsm Y) ({ frames := d, cells := mc, slots := ms, locals := 40 * d } : Room) (va_Pc [.ref h] (fun U => U.heap.size = bz x + k ∧ va_P (bG x).1 vwCl wc U.heap ∧ va_K (bG x).1 vwCl (tysG (bG x)) U ∧ va_D (fun _ => True) wc ∧ X U)) (va_Qv (fun _ : Unit => True) (fun _ t => t.heap.size = bz x + k + mc ∧ va_P (bG x).1 vwCl w1 t.heap ∧ va_D (va_A wc (bz x + k)) w1) (va_A wc (bz x + k))) mc ms (va_A wc (bz x + k)) := hc
  have hrun : va_Run p x.1 e x.2.1 s m args below meth c H locs k n mc ms (F0 m pc lsA (.ref h :: st)) st (va_Qv (fun _ : Unit => True) (fun _ t => t.heap.size = bz x + k + mc ∧ va_P (bG x).1 vwCl w1 t.heap ∧ va_D (va_A wc (bz x + k)) w1) (va_A wc (bz x + k)) (Value.ref h :: []).toArray) (va_A wc (bz x + k)) := by
    cases host with
    | none =>
      exact va_runI (As := []) (rest := st) (Ts := WS) (own := own) (nL := (bL x).1) (bytes := Y.2.1) (maxL := Y.2.2.1) (index := idx) (n := 0) ⟨C.1, C.2.1, C.2.2.1, C.2.2.2.2.2.1, ht⟩ hmet ⟨⟨rfl, rfl, hroom.1, hroom.2, hwsm, by rw [← hret]; exact List.mem_cons_self, by rw [← hret]; exact ht _ hM.1, ht _ hM.2.1, hM.2.2.1, hlen, ht _ hlk⟩, hnm, ht _ hin⟩ hpre rfl rfl hnL rfl (lv_room hst) hd hcs
    | some hh =>
      exact va_runIN (As := []) (rest := st) (Ts := WS) (own := own) (host := hh) (nL := (bL x).1) (bytes := Y.2.1) (maxL := Y.2.2.1) (index := idx) (n := 0) ⟨C.1, C.2.1, C.2.2.1, C.2.2.2.2.2.1, ht⟩ hmet ⟨⟨⟨rfl, rfl, hroom.1, hroom.2, hwsm, by rw [← hret]; exact List.mem_cons_self⟩, by rw [← hret]; exact ht _ hM.1, ht _ hM.2.1, hM.2.2.1, hlen, va_Nw.use rfl (hlk args s C.2.2.2.2.2.2.2.2.2.2.2)⟩, hnm, ht _ hin⟩ hpre rfl rfl hnL rfl (lv_room hst) hd hcs
  rw [← hz] at hrun
  refine va_callv hrun hS (fun q _ hq => hFc q hq) hFc (fun u t H1 locs1 hH1 hvm hw hB hz1 hk1 hS1 => ?_)
  obtain ⟨hB1, hB2, hB3⟩ := hB
  rw [hH1] at hB1 hB2
  obtain ⟨hP2, hD2⟩ := va_join (wr := wr) (w1 := w1) hP hD isC isR hC hR hnd hdis hk1 hFc hB2 hB3
  exact kk p e s m args below meth c H1 locs1 lsA C hP2 hD2 hS1 (by omega) hl
end BCall

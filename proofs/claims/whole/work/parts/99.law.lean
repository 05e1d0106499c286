/-! the law: its own rules, its start -/
def gL (D : va_G) (ci cb cz cs : ClassId) (L0 b t0 t1 t2 : Nat) : Gx := (D, fun k => if k < 99 then L0 + k else if k = 1000 then t0 else if k = 1001 then t1 else if k = 1002 then t2 else b, (ci, cb, cz, cs))
theorem gL_lo {D : va_G} {ci cb cz cs : ClassId} {L0 b t0 t1 t2 k : Nat} (h : k < 99) : (gL D ci cb cz cs L0 b t0 t1 t2).2.1 k = L0 + k := if_pos h
theorem gL_inj (D : va_G) (ci cb cz cs : ClassId) (L0 b t0 t1 t2 : Nat) : Inj (gL D ci cb cz cs L0 b t0 t1 t2) := by
  intro i j hi hj h
  rw [gL_lo hi, gL_lo hj] at h
  omega
theorem gL_Af (D : va_G) (ci cb cz cs : ClassId) (L0 b t0 t1 t2 : Nat) (q : Nat) : L0 ≤ q ↔ Af (gL D ci cb cz cs L0 b t0 t1 t2) L0 q := by
  constructor
  · exact fun h => Or.inr h
  · rintro (⟨k, hk, rfl⟩ | h)
    · rw [gL_lo hk]; omega
    · exact h
/-- what the law's start gives, kept through its walk -/
def lawE (G : Gx) (b L L0 : Nat) (xs : Nat → Int32) (args : Array Value) (s : State) : Prop := args = #[.ref b] ∧ s.heap.size = L0 ∧ va_X b L xs s s.heap ∧ b < L0 ∧ XInit s ∧ Sta G (Af G L0) s s.heap ∧ G.2.1 2000 = b ∧ (∀ k, k < 99 → G.2.1 k = L0 + k)
def lawX (l : Launch) (Z : List Frame → Array Value → State → State → Prop) (G : Gx) (b L L0 : Nat) (xs : Nat → Int32) (k n : Nat) : CX := (l, room_1, (k, n), Z, G, (4, ret), lawE G b L L0 xs)
section LawR
variable {l : Launch} {Z : List Frame → Array Value → State → State → Prop} {G : Gx} {b L L0 k n : Nat} {xs : Nat → Int32} {own : String} {cc : ByteArray} {pc : Nat} {ls : List (Nat × AV)} {st : List AV} {w : Wd}
theorem lawE_out {args : Array Value} {s : State} (h : lawE G b L L0 xs args s) : ¬ Af G s.heap.size b := by
  obtain ⟨h1, h2, h3, h4, h5, h6, h7, h8⟩ := h
  rintro (⟨k, hk, e⟩ | e)
  · rw [h8 k hk] at e; omega
  · omega
theorem v_slen {pc' : Nat} (hp : pc + 1 = pc') (hd : decode cc pc = .ok (.arraylength, 1)) (kk : V (lawX l Z G b L L0 xs k n) own cc pc' ls (aI (L : Int) :: st) w) : V (lawX l Z G b L L0 xs k n) own cc pc ls (aR 2000 :: st) w := by
  subst hp
  intro p e s m args below meth c H locs lsA C hP hS hl
  have hE : lawE G b L L0 xs args s := C.2.2.2.2.2.2.2.2.2.2
  have hout := lawE_out hE
  obtain ⟨h1, h2, h3, h4, h5, h6, h7, h8⟩ := hE
  have hgo := kk p e s m args below meth c H locs lsA C hP hS hl
  show W _ _ _ _ _ _ _ _ _ _ _ _ _ _ _ (F0 m pc lsA (Value.ref (G.2.1 2000) :: st.map (tv G.2.1)))
  rw [h7]
  exact va_slen C.1 C.2.1 h3 (by rw [h2]; exact h4) hout hS hd hgo
theorem v_sld {pc' : Nat} {i z : Int} (hp : pc + 1 = pc') (hd : decode cc pc = .ok (.iaload, 1)) (h0 : 0 ≤ i) (hi : i < L) (hL : L < 2147483648) (hz : (xs i.toNat).toInt = z) (kk : V (lawX l Z G b L L0 xs k n) own cc pc' ls (aI z :: st) w) : V (lawX l Z G b L L0 xs k n) own cc pc ls (aI i :: aR 2000 :: st) w := by
  subst hp
  subst hz
  intro p e s m args below meth c H locs lsA C hP hS hl
  have hE : lawE G b L L0 xs args s := C.2.2.2.2.2.2.2.2.2.2
  have hout := lawE_out hE
  obtain ⟨h1, h2, h3, h4, h5, h6, h7, h8⟩ := hE
  have hgo := kk p e s m args below meth c H locs lsA C hP hS hl
  show W _ _ _ _ _ _ _ _ _ _ _ _ _ _ _ (F0 m pc lsA (Value.int (iz i) :: Value.ref (G.2.1 2000) :: st.map (tv G.2.1)))
  rw [h7]
  refine va_sld C.1 C.2.1 h3 (by rw [h2]; exact h4) hout hS (i := iz i) (iz_in h0 hi hL) hd ?_
  rw [iz_clamp h0 (by omega)]
  have e1 : Value.int (xs i.toNat) = tv G.2.1 (aI (xs i.toNat).toInt) := congrArg Value.int (iz_of _).symm
  rw [e1]
  exact hgo
end LawR
theorem iz_and63 (z : Int) : iz z &&& iz 63 = iz (z % 64) := by
  have h := iz_andlow (a := ((z % 4294967296).toNat : Nat)) (b := 63) (m := (z % 4294967296).toNat) (k := 6) rfl (by decide)
  have e : (((z % 4294967296).toNat % 2 ^ 6 : Nat) : Int) = z % 64 := by simp only [Nat.reducePow]; omega
  rw [iz_mod (a := z) (b := ((z % 4294967296).toNat : Nat)) (by omega), h, e]
theorem lg_cmp_self (a : Int64) : lg_cmp a a = iz 0 := by unfold lg_cmp; simp; rfl
section LawS
variable {l : Launch} {Z : List Frame → Array Value → State → State → Prop} {G : Gx} {b L L0 k n : Nat} {xs : Nat → Int32} {own : String} {cc : ByteArray} {pc : Nat} {st : List AV} {w : Wd}
abbrev locs (I : Nat) : List (Nat × AV) := [(3, aI (I : Int)), (2, aR 63), (1, aR 0), (0, aR 2000)]
theorem v_arg {I K : Nat} {z kz : Int} (h1 : decode cc pc = .ok (.aload_n 0, 1)) (h2 : decode cc (pc + 1) = .ok (.iload_n 3, 1)) (h3 : decode cc (pc + 2) = .ok (.iconst kz, 1)) (h4 : decode cc (pc + 3) = .ok (.iadd, 1)) (h5 : decode cc (pc + 4) = .ok (.iaload, 1)) (hk : kz = (K : Nat)) (hI : I + K < L) (hL : L ≤ 3072) (hz : (xs (I + K)).toInt = z) (kk : V (lawX l Z G b L L0 xs k n) own cc (pc + 5) (locs I) (aI z :: st) w) : V (lawX l Z G b L L0 xs k n) own cc pc (locs I) st w := by
  subst hk
  refine v_aload_n 3 (pc' := pc + 1) rfl h1 rfl rfl ?_
  refine v_iload_n 0 (pc' := pc + 2) rfl h2 rfl rfl ?_
  refine v_iconst (pc' := pc + 3) rfl h3 ?_
  refine v_iadd (pc' := pc + 4) rfl h4 ?_
  exact v_sld (pc' := pc + 5) rfl h5 (by omega) (by omega) (by omega) (by rw [show ((I : Int) + (K : Nat)).toNat = I + K by omega]; exact hz) kk
theorem v_same {x : CX} {ls : List (Nat × AV)} {off : Int} {tgt : Nat} {z : Int} (hd : decode cc pc = .ok (.if_icmp .eq off, 3)) (ht : (pc : Int) + off = (tgt : Int)) (kk : V x own cc tgt ls st w) : V x own cc pc ls (aI z :: aI z :: st) w :=
  fun p e s m args below meth c H locs lsA C hP hS hl => lv_icmp_eq C.1 C.2.1 hd ht (fun _ => kk p e s m args below meth c H locs lsA C hP hS hl) (fun q => absurd rfl q)
theorem v_sameL {x : CX} {ls : List (Nat × AV)} {off : Int} {tgt : Nat} {z : Int} (hd0 : decode cc pc = .ok (.lcmp, 1)) (hd : decode cc (pc + 1) = .ok (.ifCond .eq off, 3)) (ht : ((pc + 1 : Nat) : Int) + off = (tgt : Int)) (kk : V x own cc tgt ls st w) : V x own cc pc ls (aL z :: aL z :: st) w := by
  refine v_lcmp (pc' := pc + 1) (z := 0) rfl hd0 (by unfold lg_cmp; simp; rfl) ?_
  exact v_if_eq (pc' := pc + 1 + 3) (tgt := tgt) rfl hd ht (by omega) (fun _ => kk) (fun q => absurd rfl q)
end LawS
set_option maxHeartbeats 4000000 in
set_option maxRecDepth 100000 in
theorem law_feed {l : Launch} {Z : List Frame → Array Value → State → State → Prop} {G : Gx} {b L L0 k n : Nat} {xs : Nat → Int32} {w : Wd} (hcs : k ≤ room_1.cells ∧ n ≤ room_1.slots) {I : Nat} (hI6 : I + 6 ≤ L) (hL : L ≤ 3072) (hp : Pair l G 1 1 mX10_feed mX11_feed [aI (xs (I + 1)).toInt, aI (xs (I + 2)).toInt, aI (xs (I + 3)).toInt, aI (xs (I + 4)).toInt, aI (xs (I + 5)).toInt] w) (hb : ∀ w', Inv w' → V (lawX l Z G b L L0 xs k n) RL cL_law 1575 (locs I) [] w') : V (lawX l Z G b L L0 xs k n) RL cL_law 216 (locs I) [] w := by
  refine v_aload_n 2 (pc' := 217) rfl dL_law_216 rfl rfl ?_
  refine v_arg (K := 1) dL_law_217 dL_law_218 dL_law_219 dL_law_220 dL_law_221 rfl (by omega) hL rfl ?_
  refine v_arg (K := 2) dL_law_222 dL_law_223 dL_law_224 dL_law_225 dL_law_226 rfl (by omega) hL rfl ?_
  refine v_arg (K := 3) dL_law_227 dL_law_228 dL_law_229 dL_law_230 dL_law_231 rfl (by omega) hL rfl ?_
  refine v_arg (K := 4) dL_law_232 dL_law_233 dL_law_234 dL_law_235 dL_law_236 rfl (by omega) hL rfl ?_
  refine v_arg (K := 5) dL_law_237 dL_law_238 dL_law_239 dL_law_240 dL_law_241 rfl (by omega) hL rfl ?_
  refine v_callV (x := lawX l Z G b L L0 xs k n) (d := 1) (as := [aI (xs (I + 1)).toInt, aI (xs (I + 2)).toInt, aI (xs (I + 3)).toInt, aI (xs (I + 4)).toInt, aI (xs (I + 5)).toInt]) (st := []) dL_law_242 lk_RL_13 ly_0 rfl (Nat.le_of_ble_eq_true rfl) ⟨Nat.le_of_ble_eq_true rfl, Nat.le_of_ble_eq_true rfl⟩ hcs hp (fun z w1 hq => ?_) rfl
  show V (lawX l Z G b L L0 xs k n) RL cL_law 245 (locs I) [aI z] w1
  refine v_aload_n 1 (pc' := 246) rfl dL_law_245 rfl rfl ?_
  refine v_arg (K := 1) dL_law_246 dL_law_247 dL_law_248 dL_law_249 dL_law_250 rfl (by omega) hL rfl ?_
  refine v_arg (K := 2) dL_law_251 dL_law_252 dL_law_253 dL_law_254 dL_law_255 rfl (by omega) hL rfl ?_
  refine v_arg (K := 3) dL_law_256 dL_law_257 dL_law_258 dL_law_259 dL_law_260 rfl (by omega) hL rfl ?_
  refine v_arg (K := 4) dL_law_261 dL_law_262 dL_law_263 dL_law_264 dL_law_265 rfl (by omega) hL rfl ?_
  refine v_arg (K := 5) dL_law_266 dL_law_267 dL_law_268 dL_law_269 dL_law_270 rfl (by omega) hL rfl ?_
  refine v_callV (x := lawX l Z G b L L0 xs k n) (d := 1) (as := [aI (xs (I + 1)).toInt, aI (xs (I + 2)).toInt, aI (xs (I + 3)).toInt, aI (xs (I + 4)).toInt, aI (xs (I + 5)).toInt]) (st := [aI z]) dL_law_271 lk_RL_17 ly_63 rfl (Nat.le_of_ble_eq_true rfl) ⟨Nat.le_of_ble_eq_true rfl, Nat.le_of_ble_eq_true rfl⟩ hcs hq (fun z2 w2 hq2 => ?_) rfl
  obtain ⟨rfl, hI2⟩ := hq2
  show V (lawX l Z G b L L0 xs k n) RL cL_law 274 (locs I) [aI z2, aI z2] w2
  exact v_same (tgt := 1575) dL_law_274 (by decide) (hb w2 hI2)
set_option maxHeartbeats 4000000 in
set_option maxRecDepth 100000 in
theorem law_degree {l : Launch} {Z : List Frame → Array Value → State → State → Prop} {G : Gx} {b L L0 k n : Nat} {xs : Nat → Int32} {w : Wd} (hcs : k ≤ room_1.cells ∧ n ≤ room_1.slots) {I : Nat} (hI6 : I + 6 ≤ L) (hL : L ≤ 3072) (hp : Pair l G 0 6 mX10_degree mX11_degree [aI (xs (I + 1)).toInt] w) (hb : ∀ w', Inv w' → V (lawX l Z G b L L0 xs k n) RL cL_law 1575 (locs I) [] w') : V (lawX l Z G b L L0 xs k n) RL cL_law 279 (locs I) [] w := by
  refine v_aload_n 2 (pc' := 280) rfl dL_law_279 rfl rfl ?_
  refine v_arg (K := 1) dL_law_280 dL_law_281 dL_law_282 dL_law_283 dL_law_284 rfl (by omega) hL rfl ?_
  refine v_callV (x := lawX l Z G b L L0 xs k n) (d := 0) (as := [aI (xs (I + 1)).toInt]) (st := []) dL_law_285 lk_RL_18 ly_0 rfl (Nat.le_of_ble_eq_true rfl) ⟨Nat.le_of_ble_eq_true rfl, Nat.le_of_ble_eq_true rfl⟩ hcs hp (fun z w1 hq => ?_) rfl
  show V (lawX l Z G b L L0 xs k n) RL cL_law 288 (locs I) [aI z] w1
  refine v_aload_n 1 (pc' := 289) rfl dL_law_288 rfl rfl ?_
  refine v_arg (K := 1) dL_law_289 dL_law_290 dL_law_291 dL_law_292 dL_law_293 rfl (by omega) hL rfl ?_
  refine v_callV (x := lawX l Z G b L L0 xs k n) (d := 6) (as := [aI (xs (I + 1)).toInt]) (st := [aI z]) dL_law_294 lk_RL_22 ly_63 rfl (Nat.le_of_ble_eq_true rfl) ⟨Nat.le_of_ble_eq_true rfl, Nat.le_of_ble_eq_true rfl⟩ hcs hq (fun z2 w2 hq2 => ?_) rfl
  obtain ⟨rfl, hI2⟩ := hq2
  show V (lawX l Z G b L L0 xs k n) RL cL_law 297 (locs I) [aI z2, aI z2] w2
  exact v_same (tgt := 1575) dL_law_297 (by decide) (hb w2 hI2)
set_option maxHeartbeats 4000000 in
set_option maxRecDepth 100000 in
theorem law_set {l : Launch} {Z : List Frame → Array Value → State → State → Prop} {G : Gx} {b L L0 k n : Nat} {xs : Nat → Int32} {w : Wd} (hcs : k ≤ room_1.cells ∧ n ≤ room_1.slots) {I : Nat} (hI6 : I + 6 ≤ L) (hL : L ≤ 3072) (hp : Pair l G 4 4 mX10_set mX11_set [aI (xs (I + 1)).toInt, aI (xs (I + 2)).toInt] w) (hb : ∀ w', Inv w' → V (lawX l Z G b L L0 xs k n) RL cL_law 1575 (locs I) [] w') : V (lawX l Z G b L L0 xs k n) RL cL_law 302 (locs I) [] w := by
  refine v_aload_n 2 (pc' := 303) rfl dL_law_302 rfl rfl ?_
  refine v_arg (K := 1) dL_law_303 dL_law_304 dL_law_305 dL_law_306 dL_law_307 rfl (by omega) hL rfl ?_
  refine v_arg (K := 2) dL_law_308 dL_law_309 dL_law_310 dL_law_311 dL_law_312 rfl (by omega) hL rfl ?_
  refine v_callV (x := lawX l Z G b L L0 xs k n) (d := 4) (as := [aI (xs (I + 1)).toInt, aI (xs (I + 2)).toInt]) (st := []) dL_law_313 lk_RL_23 ly_0 rfl (Nat.le_of_ble_eq_true rfl) ⟨Nat.le_of_ble_eq_true rfl, Nat.le_of_ble_eq_true rfl⟩ hcs hp (fun z w1 hq => ?_) rfl
  show V (lawX l Z G b L L0 xs k n) RL cL_law 316 (locs I) [aI z] w1
  refine v_aload_n 1 (pc' := 317) rfl dL_law_316 rfl rfl ?_
  refine v_arg (K := 1) dL_law_317 dL_law_318 dL_law_319 dL_law_320 dL_law_321 rfl (by omega) hL rfl ?_
  refine v_arg (K := 2) dL_law_322 dL_law_323 dL_law_324 dL_law_325 dL_law_326 rfl (by omega) hL rfl ?_
  refine v_callV (x := lawX l Z G b L L0 xs k n) (d := 4) (as := [aI (xs (I + 1)).toInt, aI (xs (I + 2)).toInt]) (st := [aI z]) dL_law_327 lk_RL_27 ly_63 rfl (Nat.le_of_ble_eq_true rfl) ⟨Nat.le_of_ble_eq_true rfl, Nat.le_of_ble_eq_true rfl⟩ hcs hq (fun z2 w2 hq2 => ?_) rfl
  obtain ⟨rfl, hI2⟩ := hq2
  show V (lawX l Z G b L L0 xs k n) RL cL_law 330 (locs I) [aI z2, aI z2] w2
  exact v_same (tgt := 1575) dL_law_330 (by decide) (hb w2 hI2)
set_option maxHeartbeats 4000000 in
set_option maxRecDepth 100000 in
theorem law_text {l : Launch} {Z : List Frame → Array Value → State → State → Prop} {G : Gx} {b L L0 k n : Nat} {xs : Nat → Int32} {w : Wd} (hcs : k ≤ room_1.cells ∧ n ≤ room_1.slots) {I : Nat} (hI6 : I + 6 ≤ L) (hL : L ≤ 3072) (hp : Pair l G 4 4 mX10_text mX11_text [aI (xs (I + 1)).toInt, aI (xs (I + 2)).toInt] w) (hb : ∀ w', Inv w' → V (lawX l Z G b L L0 xs k n) RL cL_law 1575 (locs I) [] w') : V (lawX l Z G b L L0 xs k n) RL cL_law 335 (locs I) [] w := by
  refine v_aload_n 2 (pc' := 336) rfl dL_law_335 rfl rfl ?_
  refine v_arg (K := 1) dL_law_336 dL_law_337 dL_law_338 dL_law_339 dL_law_340 rfl (by omega) hL rfl ?_
  refine v_arg (K := 2) dL_law_341 dL_law_342 dL_law_343 dL_law_344 dL_law_345 rfl (by omega) hL rfl ?_
  refine v_callV (x := lawX l Z G b L L0 xs k n) (d := 4) (as := [aI (xs (I + 1)).toInt, aI (xs (I + 2)).toInt]) (st := []) dL_law_346 lk_RL_28 ly_0 rfl (Nat.le_of_ble_eq_true rfl) ⟨Nat.le_of_ble_eq_true rfl, Nat.le_of_ble_eq_true rfl⟩ hcs hp (fun z w1 hq => ?_) rfl
  show V (lawX l Z G b L L0 xs k n) RL cL_law 349 (locs I) [aI z] w1
  refine v_aload_n 1 (pc' := 350) rfl dL_law_349 rfl rfl ?_
  refine v_arg (K := 1) dL_law_350 dL_law_351 dL_law_352 dL_law_353 dL_law_354 rfl (by omega) hL rfl ?_
  refine v_arg (K := 2) dL_law_355 dL_law_356 dL_law_357 dL_law_358 dL_law_359 rfl (by omega) hL rfl ?_
  refine v_callV (x := lawX l Z G b L L0 xs k n) (d := 4) (as := [aI (xs (I + 1)).toInt, aI (xs (I + 2)).toInt]) (st := [aI z]) dL_law_360 lk_RL_31 ly_63 rfl (Nat.le_of_ble_eq_true rfl) ⟨Nat.le_of_ble_eq_true rfl, Nat.le_of_ble_eq_true rfl⟩ hcs hq (fun z2 w2 hq2 => ?_) rfl
  obtain ⟨rfl, hI2⟩ := hq2
  show V (lawX l Z G b L L0 xs k n) RL cL_law 363 (locs I) [aI z2, aI z2] w2
  exact v_same (tgt := 1575) dL_law_363 (by decide) (hb w2 hI2)
set_option maxHeartbeats 4000000 in
set_option maxRecDepth 100000 in
theorem law_drawn {l : Launch} {Z : List Frame → Array Value → State → State → Prop} {G : Gx} {b L L0 k n : Nat} {xs : Nat → Int32} {w : Wd} (hcs : k ≤ room_1.cells ∧ n ≤ room_1.slots) {I : Nat} (hI6 : I + 6 ≤ L) (hL : L ≤ 3072) (hp : Pair l G 3 2 mX10_drawn mX11_drawn [aI (xs (I + 1)).toInt] w) (hb : ∀ w', Inv w' → V (lawX l Z G b L L0 xs k n) RL cL_law 1575 (locs I) [] w') : V (lawX l Z G b L L0 xs k n) RL cL_law 368 (locs I) [] w := by
  refine v_aload_n 2 (pc' := 369) rfl dL_law_368 rfl rfl ?_
  refine v_arg (K := 1) dL_law_369 dL_law_370 dL_law_371 dL_law_372 dL_law_373 rfl (by omega) hL rfl ?_
  refine v_callV (x := lawX l Z G b L L0 xs k n) (d := 3) (as := [aI (xs (I + 1)).toInt]) (st := []) dL_law_374 lk_RL_32 ly_0 rfl (Nat.le_of_ble_eq_true rfl) ⟨Nat.le_of_ble_eq_true rfl, Nat.le_of_ble_eq_true rfl⟩ hcs hp (fun z w1 hq => ?_) rfl
  show V (lawX l Z G b L L0 xs k n) RL cL_law 377 (locs I) [aI z] w1
  refine v_aload_n 1 (pc' := 378) rfl dL_law_377 rfl rfl ?_
  refine v_arg (K := 1) dL_law_378 dL_law_379 dL_law_380 dL_law_381 dL_law_382 rfl (by omega) hL rfl ?_
  refine v_callV (x := lawX l Z G b L L0 xs k n) (d := 2) (as := [aI (xs (I + 1)).toInt]) (st := [aI z]) dL_law_383 lk_RL_35 ly_63 rfl (Nat.le_of_ble_eq_true rfl) ⟨Nat.le_of_ble_eq_true rfl, Nat.le_of_ble_eq_true rfl⟩ hcs hq (fun z2 w2 hq2 => ?_) rfl
  obtain ⟨rfl, hI2⟩ := hq2
  show V (lawX l Z G b L L0 xs k n) RL cL_law 386 (locs I) [aI z2, aI z2] w2
  exact v_same (tgt := 1575) dL_law_386 (by decide) (hb w2 hI2)
set_option maxHeartbeats 4000000 in
set_option maxRecDepth 100000 in
theorem law_operate {l : Launch} {Z : List Frame → Array Value → State → State → Prop} {G : Gx} {b L L0 k n : Nat} {xs : Nat → Int32} {w : Wd} (hcs : k ≤ room_1.cells ∧ n ≤ room_1.slots) {I : Nat} (hI6 : I + 6 ≤ L) (hL : L ≤ 3072) (hp : Pair l G 4 4 mX10_operate mX11_operate [aI (xs (I + 1)).toInt] w) (hb : ∀ w', Inv w' → V (lawX l Z G b L L0 xs k n) RL cL_law 1575 (locs I) [] w') : V (lawX l Z G b L L0 xs k n) RL cL_law 391 (locs I) [] w := by
  refine v_aload_n 2 (pc' := 392) rfl dL_law_391 rfl rfl ?_
  refine v_arg (K := 1) dL_law_392 dL_law_393 dL_law_394 dL_law_395 dL_law_396 rfl (by omega) hL rfl ?_
  refine v_callV (x := lawX l Z G b L L0 xs k n) (d := 4) (as := [aI (xs (I + 1)).toInt]) (st := []) dL_law_397 lk_RL_36 ly_0 rfl (Nat.le_of_ble_eq_true rfl) ⟨Nat.le_of_ble_eq_true rfl, Nat.le_of_ble_eq_true rfl⟩ hcs hp (fun z w1 hq => ?_) rfl
  show V (lawX l Z G b L L0 xs k n) RL cL_law 400 (locs I) [aI z] w1
  refine v_aload_n 1 (pc' := 401) rfl dL_law_400 rfl rfl ?_
  refine v_arg (K := 1) dL_law_401 dL_law_402 dL_law_403 dL_law_404 dL_law_405 rfl (by omega) hL rfl ?_
  refine v_callV (x := lawX l Z G b L L0 xs k n) (d := 4) (as := [aI (xs (I + 1)).toInt]) (st := [aI z]) dL_law_406 lk_RL_39 ly_63 rfl (Nat.le_of_ble_eq_true rfl) ⟨Nat.le_of_ble_eq_true rfl, Nat.le_of_ble_eq_true rfl⟩ hcs hq (fun z2 w2 hq2 => ?_) rfl
  obtain ⟨rfl, hI2⟩ := hq2
  show V (lawX l Z G b L L0 xs k n) RL cL_law 409 (locs I) [aI z2, aI z2] w2
  exact v_same (tgt := 1575) dL_law_409 (by decide) (hb w2 hI2)
set_option maxHeartbeats 4000000 in
set_option maxRecDepth 100000 in
theorem law_tidy {l : Launch} {Z : List Frame → Array Value → State → State → Prop} {G : Gx} {b L L0 k n : Nat} {xs : Nat → Int32} {w : Wd} (hcs : k ≤ room_1.cells ∧ n ≤ room_1.slots) {I : Nat} (hI6 : I + 6 ≤ L) (hL : L ≤ 3072) (hp : Pair l G 11 3 mX10_tidy mX11_tidy [] w) (hb : ∀ w', Inv w' → V (lawX l Z G b L L0 xs k n) RL cL_law 1575 (locs I) [] w') : V (lawX l Z G b L L0 xs k n) RL cL_law 414 (locs I) [] w := by
  refine v_aload_n 2 (pc' := 415) rfl dL_law_414 rfl rfl ?_
  refine v_callV (x := lawX l Z G b L L0 xs k n) (d := 11) (as := []) (st := []) dL_law_415 lk_RL_40 ly_0 rfl (Nat.le_of_ble_eq_true rfl) ⟨Nat.le_of_ble_eq_true rfl, Nat.le_of_ble_eq_true rfl⟩ hcs hp (fun z w1 hq => ?_) rfl
  show V (lawX l Z G b L L0 xs k n) RL cL_law 418 (locs I) [aI z] w1
  refine v_aload_n 1 (pc' := 419) rfl dL_law_418 rfl rfl ?_
  refine v_callV (x := lawX l Z G b L L0 xs k n) (d := 3) (as := []) (st := [aI z]) dL_law_419 lk_RL_44 ly_63 rfl (Nat.le_of_ble_eq_true rfl) ⟨Nat.le_of_ble_eq_true rfl, Nat.le_of_ble_eq_true rfl⟩ hcs hq (fun z2 w2 hq2 => ?_) rfl
  obtain ⟨rfl, hI2⟩ := hq2
  show V (lawX l Z G b L L0 xs k n) RL cL_law 422 (locs I) [aI z2, aI z2] w2
  exact v_same (tgt := 1575) dL_law_422 (by decide) (hb w2 hI2)
set_option maxHeartbeats 4000000 in
set_option maxRecDepth 100000 in
theorem law_code {l : Launch} {Z : List Frame → Array Value → State → State → Prop} {G : Gx} {b L L0 k n : Nat} {xs : Nat → Int32} {w : Wd} (hcs : k ≤ room_1.cells ∧ n ≤ room_1.slots) {I : Nat} (hI6 : I + 6 ≤ L) (hL : L ≤ 3072) (hp : Pair l G 4 4 mX10_code mX11_code [aI (xs (I + 1)).toInt] w) (hb : ∀ w', Inv w' → V (lawX l Z G b L L0 xs k n) RL cL_law 1575 (locs I) [] w') : V (lawX l Z G b L L0 xs k n) RL cL_law 427 (locs I) [] w := by
  refine v_aload_n 2 (pc' := 428) rfl dL_law_427 rfl rfl ?_
  refine v_arg (K := 1) dL_law_428 dL_law_429 dL_law_430 dL_law_431 dL_law_432 rfl (by omega) hL rfl ?_
  refine v_callV (x := lawX l Z G b L L0 xs k n) (d := 4) (as := [aI (xs (I + 1)).toInt]) (st := []) dL_law_433 lk_RL_45 ly_0 rfl (Nat.le_of_ble_eq_true rfl) ⟨Nat.le_of_ble_eq_true rfl, Nat.le_of_ble_eq_true rfl⟩ hcs hp (fun z w1 hq => ?_) rfl
  show V (lawX l Z G b L L0 xs k n) RL cL_law 436 (locs I) [aI z] w1
  refine v_aload_n 1 (pc' := 437) rfl dL_law_436 rfl rfl ?_
  refine v_arg (K := 1) dL_law_437 dL_law_438 dL_law_439 dL_law_440 dL_law_441 rfl (by omega) hL rfl ?_
  refine v_callV (x := lawX l Z G b L L0 xs k n) (d := 4) (as := [aI (xs (I + 1)).toInt]) (st := [aI z]) dL_law_442 lk_RL_48 ly_63 rfl (Nat.le_of_ble_eq_true rfl) ⟨Nat.le_of_ble_eq_true rfl, Nat.le_of_ble_eq_true rfl⟩ hcs hq (fun z2 w2 hq2 => ?_) rfl
  obtain ⟨rfl, hI2⟩ := hq2
  show V (lawX l Z G b L L0 xs k n) RL cL_law 445 (locs I) [aI z2, aI z2] w2
  exact v_same (tgt := 1575) dL_law_445 (by decide) (hb w2 hI2)
set_option maxHeartbeats 4000000 in
set_option maxRecDepth 100000 in
theorem law_type {l : Launch} {Z : List Frame → Array Value → State → State → Prop} {G : Gx} {b L L0 k n : Nat} {xs : Nat → Int32} {w : Wd} (hcs : k ≤ room_1.cells ∧ n ≤ room_1.slots) {I : Nat} (hI6 : I + 6 ≤ L) (hL : L ≤ 3072) (hp : Pair l G 4 4 mX10_type mX11_type [aI (xs (I + 1)).toInt] w) (hb : ∀ w', Inv w' → V (lawX l Z G b L L0 xs k n) RL cL_law 1575 (locs I) [] w') : V (lawX l Z G b L L0 xs k n) RL cL_law 450 (locs I) [] w := by
  refine v_aload_n 2 (pc' := 451) rfl dL_law_450 rfl rfl ?_
  refine v_arg (K := 1) dL_law_451 dL_law_452 dL_law_453 dL_law_454 dL_law_455 rfl (by omega) hL rfl ?_
  refine v_callV (x := lawX l Z G b L L0 xs k n) (d := 4) (as := [aI (xs (I + 1)).toInt]) (st := []) dL_law_456 lk_RL_49 ly_0 rfl (Nat.le_of_ble_eq_true rfl) ⟨Nat.le_of_ble_eq_true rfl, Nat.le_of_ble_eq_true rfl⟩ hcs hp (fun z w1 hq => ?_) rfl
  show V (lawX l Z G b L L0 xs k n) RL cL_law 459 (locs I) [aI z] w1
  refine v_aload_n 1 (pc' := 460) rfl dL_law_459 rfl rfl ?_
  refine v_arg (K := 1) dL_law_460 dL_law_461 dL_law_462 dL_law_463 dL_law_464 rfl (by omega) hL rfl ?_
  refine v_callV (x := lawX l Z G b L L0 xs k n) (d := 4) (as := [aI (xs (I + 1)).toInt]) (st := [aI z]) dL_law_465 lk_RL_52 ly_63 rfl (Nat.le_of_ble_eq_true rfl) ⟨Nat.le_of_ble_eq_true rfl, Nat.le_of_ble_eq_true rfl⟩ hcs hq (fun z2 w2 hq2 => ?_) rfl
  obtain ⟨rfl, hI2⟩ := hq2
  show V (lawX l Z G b L L0 xs k n) RL cL_law 468 (locs I) [aI z2, aI z2] w2
  exact v_same (tgt := 1575) dL_law_468 (by decide) (hb w2 hI2)
set_option maxHeartbeats 4000000 in
set_option maxRecDepth 100000 in
theorem law_cycles {l : Launch} {Z : List Frame → Array Value → State → State → Prop} {G : Gx} {b L L0 k n : Nat} {xs : Nat → Int32} {w : Wd} (hcs : k ≤ room_1.cells ∧ n ≤ room_1.slots) {I : Nat} (hI6 : I + 6 ≤ L) (hL : L ≤ 3072) (hp : Pair l G 4 4 mX10_cycles mX11_cycles [aI (xs (I + 1)).toInt, aI (xs (I + 2)).toInt] w) (hb : ∀ w', Inv w' → V (lawX l Z G b L L0 xs k n) RL cL_law 1575 (locs I) [] w') : V (lawX l Z G b L L0 xs k n) RL cL_law 473 (locs I) [] w := by
  refine v_aload_n 2 (pc' := 474) rfl dL_law_473 rfl rfl ?_
  refine v_arg (K := 1) dL_law_474 dL_law_475 dL_law_476 dL_law_477 dL_law_478 rfl (by omega) hL rfl ?_
  refine v_arg (K := 2) dL_law_479 dL_law_480 dL_law_481 dL_law_482 dL_law_483 rfl (by omega) hL rfl ?_
  refine v_callV (x := lawX l Z G b L L0 xs k n) (d := 4) (as := [aI (xs (I + 1)).toInt, aI (xs (I + 2)).toInt]) (st := []) dL_law_484 lk_RL_53 ly_0 rfl (Nat.le_of_ble_eq_true rfl) ⟨Nat.le_of_ble_eq_true rfl, Nat.le_of_ble_eq_true rfl⟩ hcs hp (fun z w1 hq => ?_) rfl
  show V (lawX l Z G b L L0 xs k n) RL cL_law 487 (locs I) [aI z] w1
  refine v_aload_n 1 (pc' := 488) rfl dL_law_487 rfl rfl ?_
  refine v_arg (K := 1) dL_law_488 dL_law_489 dL_law_490 dL_law_491 dL_law_492 rfl (by omega) hL rfl ?_
  refine v_arg (K := 2) dL_law_493 dL_law_494 dL_law_495 dL_law_496 dL_law_497 rfl (by omega) hL rfl ?_
  refine v_callV (x := lawX l Z G b L L0 xs k n) (d := 4) (as := [aI (xs (I + 1)).toInt, aI (xs (I + 2)).toInt]) (st := [aI z]) dL_law_498 lk_RL_56 ly_63 rfl (Nat.le_of_ble_eq_true rfl) ⟨Nat.le_of_ble_eq_true rfl, Nat.le_of_ble_eq_true rfl⟩ hcs hq (fun z2 w2 hq2 => ?_) rfl
  obtain ⟨rfl, hI2⟩ := hq2
  show V (lawX l Z G b L L0 xs k n) RL cL_law 501 (locs I) [aI z2, aI z2] w2
  exact v_same (tgt := 1575) dL_law_501 (by decide) (hb w2 hI2)
set_option maxHeartbeats 4000000 in
set_option maxRecDepth 100000 in
theorem law_along {l : Launch} {Z : List Frame → Array Value → State → State → Prop} {G : Gx} {b L L0 k n : Nat} {xs : Nat → Int32} {w : Wd} (hcs : k ≤ room_1.cells ∧ n ≤ room_1.slots) {I : Nat} (hI6 : I + 6 ≤ L) (hL : L ≤ 3072) (hp : Pair l G 4 4 mX10_along mX11_along [aI (xs (I + 1)).toInt, aI (xs (I + 2)).toInt, aI (xs (I + 3)).toInt] w) (hb : ∀ w', Inv w' → V (lawX l Z G b L L0 xs k n) RL cL_law 1575 (locs I) [] w') : V (lawX l Z G b L L0 xs k n) RL cL_law 506 (locs I) [] w := by
  refine v_aload_n 2 (pc' := 507) rfl dL_law_506 rfl rfl ?_
  refine v_arg (K := 1) dL_law_507 dL_law_508 dL_law_509 dL_law_510 dL_law_511 rfl (by omega) hL rfl ?_
  refine v_arg (K := 2) dL_law_512 dL_law_513 dL_law_514 dL_law_515 dL_law_516 rfl (by omega) hL rfl ?_
  refine v_arg (K := 3) dL_law_517 dL_law_518 dL_law_519 dL_law_520 dL_law_521 rfl (by omega) hL rfl ?_
  refine v_callV (x := lawX l Z G b L L0 xs k n) (d := 4) (as := [aI (xs (I + 1)).toInt, aI (xs (I + 2)).toInt, aI (xs (I + 3)).toInt]) (st := []) dL_law_522 lk_RL_57 ly_0 rfl (Nat.le_of_ble_eq_true rfl) ⟨Nat.le_of_ble_eq_true rfl, Nat.le_of_ble_eq_true rfl⟩ hcs hp (fun z w1 hq => ?_) rfl
  show V (lawX l Z G b L L0 xs k n) RL cL_law 525 (locs I) [aI z] w1
  refine v_aload_n 1 (pc' := 526) rfl dL_law_525 rfl rfl ?_
  refine v_arg (K := 1) dL_law_526 dL_law_527 dL_law_528 dL_law_529 dL_law_530 rfl (by omega) hL rfl ?_
  refine v_arg (K := 2) dL_law_531 dL_law_532 dL_law_533 dL_law_534 dL_law_535 rfl (by omega) hL rfl ?_
  refine v_arg (K := 3) dL_law_536 dL_law_537 dL_law_538 dL_law_539 dL_law_540 rfl (by omega) hL rfl ?_
  refine v_callV (x := lawX l Z G b L L0 xs k n) (d := 4) (as := [aI (xs (I + 1)).toInt, aI (xs (I + 2)).toInt, aI (xs (I + 3)).toInt]) (st := [aI z]) dL_law_541 lk_RL_61 ly_63 rfl (Nat.le_of_ble_eq_true rfl) ⟨Nat.le_of_ble_eq_true rfl, Nat.le_of_ble_eq_true rfl⟩ hcs hq (fun z2 w2 hq2 => ?_) rfl
  obtain ⟨rfl, hI2⟩ := hq2
  show V (lawX l Z G b L L0 xs k n) RL cL_law 544 (locs I) [aI z2, aI z2] w2
  exact v_same (tgt := 1575) dL_law_544 (by decide) (hb w2 hI2)
set_option maxHeartbeats 4000000 in
set_option maxRecDepth 100000 in
theorem law_count {l : Launch} {Z : List Frame → Array Value → State → State → Prop} {G : Gx} {b L L0 k n : Nat} {xs : Nat → Int32} {w : Wd} (hcs : k ≤ room_1.cells ∧ n ≤ room_1.slots) {I : Nat} (hI6 : I + 6 ≤ L) (hL : L ≤ 3072) (hp : Pair l G 12 5 mX10_count mX11_count [aI (xs (I + 1)).toInt] w) (hb : ∀ w', Inv w' → V (lawX l Z G b L L0 xs k n) RL cL_law 1575 (locs I) [] w') : V (lawX l Z G b L L0 xs k n) RL cL_law 549 (locs I) [] w := by
  refine v_aload_n 2 (pc' := 550) rfl dL_law_549 rfl rfl ?_
  refine v_arg (K := 1) dL_law_550 dL_law_551 dL_law_552 dL_law_553 dL_law_554 rfl (by omega) hL rfl ?_
  refine v_callV (x := lawX l Z G b L L0 xs k n) (d := 12) (as := [aI (xs (I + 1)).toInt]) (st := []) dL_law_555 lk_RL_62 ly_0 rfl (Nat.le_of_ble_eq_true rfl) ⟨Nat.le_of_ble_eq_true rfl, Nat.le_of_ble_eq_true rfl⟩ hcs hp (fun z w1 hq => ?_) rfl
  show V (lawX l Z G b L L0 xs k n) RL cL_law 558 (locs I) [aI z] w1
  refine v_aload_n 1 (pc' := 559) rfl dL_law_558 rfl rfl ?_
  refine v_arg (K := 1) dL_law_559 dL_law_560 dL_law_561 dL_law_562 dL_law_563 rfl (by omega) hL rfl ?_
  refine v_callV (x := lawX l Z G b L L0 xs k n) (d := 5) (as := [aI (xs (I + 1)).toInt]) (st := [aI z]) dL_law_564 lk_RL_65 ly_63 rfl (Nat.le_of_ble_eq_true rfl) ⟨Nat.le_of_ble_eq_true rfl, Nat.le_of_ble_eq_true rfl⟩ hcs hq (fun z2 w2 hq2 => ?_) rfl
  obtain ⟨rfl, hI2⟩ := hq2
  show V (lawX l Z G b L L0 xs k n) RL cL_law 567 (locs I) [aI z2, aI z2] w2
  exact v_same (tgt := 1575) dL_law_567 (by decide) (hb w2 hI2)
set_option maxHeartbeats 4000000 in
set_option maxRecDepth 100000 in
theorem law_part {l : Launch} {Z : List Frame → Array Value → State → State → Prop} {G : Gx} {b L L0 k n : Nat} {xs : Nat → Int32} {w : Wd} (hcs : k ≤ room_1.cells ∧ n ≤ room_1.slots) {I : Nat} (hI6 : I + 6 ≤ L) (hL : L ≤ 3072) (hp : Pair l G 4 4 mX10_part mX11_part [aI (xs (I + 1)).toInt, aI (xs (I + 2)).toInt] w) (hb : ∀ w', Inv w' → V (lawX l Z G b L L0 xs k n) RL cL_law 1575 (locs I) [] w') : V (lawX l Z G b L L0 xs k n) RL cL_law 572 (locs I) [] w := by
  refine v_aload_n 2 (pc' := 573) rfl dL_law_572 rfl rfl ?_
  refine v_arg (K := 1) dL_law_573 dL_law_574 dL_law_575 dL_law_576 dL_law_577 rfl (by omega) hL rfl ?_
  refine v_arg (K := 2) dL_law_578 dL_law_579 dL_law_580 dL_law_581 dL_law_582 rfl (by omega) hL rfl ?_
  refine v_callV (x := lawX l Z G b L L0 xs k n) (d := 4) (as := [aI (xs (I + 1)).toInt, aI (xs (I + 2)).toInt]) (st := []) dL_law_583 lk_RL_66 ly_0 rfl (Nat.le_of_ble_eq_true rfl) ⟨Nat.le_of_ble_eq_true rfl, Nat.le_of_ble_eq_true rfl⟩ hcs hp (fun z w1 hq => ?_) rfl
  show V (lawX l Z G b L L0 xs k n) RL cL_law 586 (locs I) [aI z] w1
  refine v_aload_n 1 (pc' := 587) rfl dL_law_586 rfl rfl ?_
  refine v_arg (K := 1) dL_law_587 dL_law_588 dL_law_589 dL_law_590 dL_law_591 rfl (by omega) hL rfl ?_
  refine v_arg (K := 2) dL_law_592 dL_law_593 dL_law_594 dL_law_595 dL_law_596 rfl (by omega) hL rfl ?_
  refine v_callV (x := lawX l Z G b L L0 xs k n) (d := 4) (as := [aI (xs (I + 1)).toInt, aI (xs (I + 2)).toInt]) (st := [aI z]) dL_law_597 lk_RL_69 ly_63 rfl (Nat.le_of_ble_eq_true rfl) ⟨Nat.le_of_ble_eq_true rfl, Nat.le_of_ble_eq_true rfl⟩ hcs hq (fun z2 w2 hq2 => ?_) rfl
  obtain ⟨rfl, hI2⟩ := hq2
  show V (lawX l Z G b L L0 xs k n) RL cL_law 600 (locs I) [aI z2, aI z2] w2
  exact v_same (tgt := 1575) dL_law_600 (by decide) (hb w2 hI2)
set_option maxHeartbeats 4000000 in
set_option maxRecDepth 100000 in
theorem law_canon {l : Launch} {Z : List Frame → Array Value → State → State → Prop} {G : Gx} {b L L0 k n : Nat} {xs : Nat → Int32} {w : Wd} (hcs : k ≤ room_1.cells ∧ n ≤ room_1.slots) {I : Nat} (hI6 : I + 6 ≤ L) (hL : L ≤ 3072) (hp : Pair l G 11 3 mX10_canon mX11_canon [aI (xs (I + 1)).toInt] w) (hb : ∀ w', Inv w' → V (lawX l Z G b L L0 xs k n) RL cL_law 1575 (locs I) [] w') : V (lawX l Z G b L L0 xs k n) RL cL_law 605 (locs I) [] w := by
  refine v_aload_n 2 (pc' := 606) rfl dL_law_605 rfl rfl ?_
  refine v_arg (K := 1) dL_law_606 dL_law_607 dL_law_608 dL_law_609 dL_law_610 rfl (by omega) hL rfl ?_
  refine v_callV (x := lawX l Z G b L L0 xs k n) (d := 11) (as := [aI (xs (I + 1)).toInt]) (st := []) dL_law_611 lk_RL_70 ly_0 rfl (Nat.le_of_ble_eq_true rfl) ⟨Nat.le_of_ble_eq_true rfl, Nat.le_of_ble_eq_true rfl⟩ hcs hp (fun z w1 hq => ?_) rfl
  show V (lawX l Z G b L L0 xs k n) RL cL_law 614 (locs I) [aI z] w1
  refine v_aload_n 1 (pc' := 615) rfl dL_law_614 rfl rfl ?_
  refine v_arg (K := 1) dL_law_615 dL_law_616 dL_law_617 dL_law_618 dL_law_619 rfl (by omega) hL rfl ?_
  refine v_callV (x := lawX l Z G b L L0 xs k n) (d := 3) (as := [aI (xs (I + 1)).toInt]) (st := [aI z]) dL_law_620 lk_RL_73 ly_63 rfl (Nat.le_of_ble_eq_true rfl) ⟨Nat.le_of_ble_eq_true rfl, Nat.le_of_ble_eq_true rfl⟩ hcs hq (fun z2 w2 hq2 => ?_) rfl
  obtain ⟨rfl, hI2⟩ := hq2
  show V (lawX l Z G b L L0 xs k n) RL cL_law 623 (locs I) [aI z2, aI z2] w2
  exact v_same (tgt := 1575) dL_law_623 (by decide) (hb w2 hI2)
set_option maxHeartbeats 4000000 in
set_option maxRecDepth 100000 in
theorem law_point {l : Launch} {Z : List Frame → Array Value → State → State → Prop} {G : Gx} {b L L0 k n : Nat} {xs : Nat → Int32} {w : Wd} (hcs : k ≤ room_1.cells ∧ n ≤ room_1.slots) {I : Nat} (hI6 : I + 6 ≤ L) (hL : L ≤ 3072) (hp : Pair l G 4 4 mX10_point mX11_point [aI (xs (I + 1)).toInt, aI (xs (I + 2)).toInt, aI (xs (I + 3)).toInt] w) (hb : ∀ w', Inv w' → V (lawX l Z G b L L0 xs k n) RL cL_law 1575 (locs I) [] w') : V (lawX l Z G b L L0 xs k n) RL cL_law 628 (locs I) [] w := by
  refine v_aload_n 2 (pc' := 629) rfl dL_law_628 rfl rfl ?_
  refine v_arg (K := 1) dL_law_629 dL_law_630 dL_law_631 dL_law_632 dL_law_633 rfl (by omega) hL rfl ?_
  refine v_arg (K := 2) dL_law_634 dL_law_635 dL_law_636 dL_law_637 dL_law_638 rfl (by omega) hL rfl ?_
  refine v_arg (K := 3) dL_law_639 dL_law_640 dL_law_641 dL_law_642 dL_law_643 rfl (by omega) hL rfl ?_
  refine v_callV (x := lawX l Z G b L L0 xs k n) (d := 4) (as := [aI (xs (I + 1)).toInt, aI (xs (I + 2)).toInt, aI (xs (I + 3)).toInt]) (st := []) dL_law_644 lk_RL_74 ly_0 rfl (Nat.le_of_ble_eq_true rfl) ⟨Nat.le_of_ble_eq_true rfl, Nat.le_of_ble_eq_true rfl⟩ hcs hp (fun z w1 hq => ?_) rfl
  show V (lawX l Z G b L L0 xs k n) RL cL_law 647 (locs I) [aI z] w1
  refine v_aload_n 1 (pc' := 648) rfl dL_law_647 rfl rfl ?_
  refine v_arg (K := 1) dL_law_648 dL_law_649 dL_law_650 dL_law_651 dL_law_652 rfl (by omega) hL rfl ?_
  refine v_arg (K := 2) dL_law_653 dL_law_654 dL_law_655 dL_law_656 dL_law_657 rfl (by omega) hL rfl ?_
  refine v_arg (K := 3) dL_law_658 dL_law_659 dL_law_660 dL_law_661 dL_law_662 rfl (by omega) hL rfl ?_
  refine v_callV (x := lawX l Z G b L L0 xs k n) (d := 4) (as := [aI (xs (I + 1)).toInt, aI (xs (I + 2)).toInt, aI (xs (I + 3)).toInt]) (st := [aI z]) dL_law_663 lk_RL_77 ly_63 rfl (Nat.le_of_ble_eq_true rfl) ⟨Nat.le_of_ble_eq_true rfl, Nat.le_of_ble_eq_true rfl⟩ hcs hq (fun z2 w2 hq2 => ?_) rfl
  obtain ⟨rfl, hI2⟩ := hq2
  show V (lawX l Z G b L L0 xs k n) RL cL_law 666 (locs I) [aI z2, aI z2] w2
  exact v_same (tgt := 1575) dL_law_666 (by decide) (hb w2 hI2)
set_option maxHeartbeats 4000000 in
set_option maxRecDepth 100000 in
theorem law_same {l : Launch} {Z : List Frame → Array Value → State → State → Prop} {G : Gx} {b L L0 k n : Nat} {xs : Nat → Int32} {w : Wd} (hcs : k ≤ room_1.cells ∧ n ≤ room_1.slots) {I : Nat} (hI6 : I + 6 ≤ L) (hL : L ≤ 3072) (hp : Pair l G 11 3 mX10_same mX11_same [aI (xs (I + 1)).toInt, aI (xs (I + 2)).toInt] w) (hb : ∀ w', Inv w' → V (lawX l Z G b L L0 xs k n) RL cL_law 1575 (locs I) [] w') : V (lawX l Z G b L L0 xs k n) RL cL_law 671 (locs I) [] w := by
  refine v_aload_n 2 (pc' := 672) rfl dL_law_671 rfl rfl ?_
  refine v_arg (K := 1) dL_law_672 dL_law_673 dL_law_674 dL_law_675 dL_law_676 rfl (by omega) hL rfl ?_
  refine v_arg (K := 2) dL_law_677 dL_law_678 dL_law_679 dL_law_680 dL_law_681 rfl (by omega) hL rfl ?_
  refine v_callV (x := lawX l Z G b L L0 xs k n) (d := 11) (as := [aI (xs (I + 1)).toInt, aI (xs (I + 2)).toInt]) (st := []) dL_law_682 lk_RL_78 ly_0 rfl (Nat.le_of_ble_eq_true rfl) ⟨Nat.le_of_ble_eq_true rfl, Nat.le_of_ble_eq_true rfl⟩ hcs hp (fun z w1 hq => ?_) rfl
  show V (lawX l Z G b L L0 xs k n) RL cL_law 685 (locs I) [aI z] w1
  refine v_aload_n 1 (pc' := 686) rfl dL_law_685 rfl rfl ?_
  refine v_arg (K := 1) dL_law_686 dL_law_687 dL_law_688 dL_law_689 dL_law_690 rfl (by omega) hL rfl ?_
  refine v_arg (K := 2) dL_law_691 dL_law_692 dL_law_693 dL_law_694 dL_law_695 rfl (by omega) hL rfl ?_
  refine v_callV (x := lawX l Z G b L L0 xs k n) (d := 3) (as := [aI (xs (I + 1)).toInt, aI (xs (I + 2)).toInt]) (st := [aI z]) dL_law_696 lk_RL_81 ly_63 rfl (Nat.le_of_ble_eq_true rfl) ⟨Nat.le_of_ble_eq_true rfl, Nat.le_of_ble_eq_true rfl⟩ hcs hq (fun z2 w2 hq2 => ?_) rfl
  obtain ⟨rfl, hI2⟩ := hq2
  show V (lawX l Z G b L L0 xs k n) RL cL_law 699 (locs I) [aI z2, aI z2] w2
  exact v_same (tgt := 1575) dL_law_699 (by decide) (hb w2 hI2)
set_option maxHeartbeats 4000000 in
set_option maxRecDepth 100000 in
theorem law_label {l : Launch} {Z : List Frame → Array Value → State → State → Prop} {G : Gx} {b L L0 k n : Nat} {xs : Nat → Int32} {w : Wd} (hcs : k ≤ room_1.cells ∧ n ≤ room_1.slots) {I : Nat} (hI6 : I + 6 ≤ L) (hL : L ≤ 3072) (hp : Pair l G 11 3 mX10_label mX11_label [aI (xs (I + 1)).toInt, aI (xs (I + 2)).toInt] w) (hb : ∀ w', Inv w' → V (lawX l Z G b L L0 xs k n) RL cL_law 1575 (locs I) [] w') : V (lawX l Z G b L L0 xs k n) RL cL_law 704 (locs I) [] w := by
  refine v_aload_n 2 (pc' := 705) rfl dL_law_704 rfl rfl ?_
  refine v_arg (K := 1) dL_law_705 dL_law_706 dL_law_707 dL_law_708 dL_law_709 rfl (by omega) hL rfl ?_
  refine v_arg (K := 2) dL_law_710 dL_law_711 dL_law_712 dL_law_713 dL_law_714 rfl (by omega) hL rfl ?_
  refine v_callV (x := lawX l Z G b L L0 xs k n) (d := 11) (as := [aI (xs (I + 1)).toInt, aI (xs (I + 2)).toInt]) (st := []) dL_law_715 lk_RL_82 ly_0 rfl (Nat.le_of_ble_eq_true rfl) ⟨Nat.le_of_ble_eq_true rfl, Nat.le_of_ble_eq_true rfl⟩ hcs hp (fun z w1 hq => ?_) rfl
  show V (lawX l Z G b L L0 xs k n) RL cL_law 718 (locs I) [aI z] w1
  refine v_aload_n 1 (pc' := 719) rfl dL_law_718 rfl rfl ?_
  refine v_arg (K := 1) dL_law_719 dL_law_720 dL_law_721 dL_law_722 dL_law_723 rfl (by omega) hL rfl ?_
  refine v_arg (K := 2) dL_law_724 dL_law_725 dL_law_726 dL_law_727 dL_law_728 rfl (by omega) hL rfl ?_
  refine v_callV (x := lawX l Z G b L L0 xs k n) (d := 3) (as := [aI (xs (I + 1)).toInt, aI (xs (I + 2)).toInt]) (st := [aI z]) dL_law_729 lk_RL_85 ly_63 rfl (Nat.le_of_ble_eq_true rfl) ⟨Nat.le_of_ble_eq_true rfl, Nat.le_of_ble_eq_true rfl⟩ hcs hq (fun z2 w2 hq2 => ?_) rfl
  obtain ⟨rfl, hI2⟩ := hq2
  show V (lawX l Z G b L L0 xs k n) RL cL_law 732 (locs I) [aI z2, aI z2] w2
  exact v_same (tgt := 1575) dL_law_732 (by decide) (hb w2 hI2)
set_option maxHeartbeats 4000000 in
set_option maxRecDepth 100000 in
theorem law_ofType {l : Launch} {Z : List Frame → Array Value → State → State → Prop} {G : Gx} {b L L0 k n : Nat} {xs : Nat → Int32} {w : Wd} (hcs : k ≤ room_1.cells ∧ n ≤ room_1.slots) {I : Nat} (hI6 : I + 6 ≤ L) (hL : L ≤ 3072) (hp : Pair l G 4 3 mX10_ofType mX11_ofType [aI (xs (I + 1)).toInt] w) (hb : ∀ w', Inv w' → V (lawX l Z G b L L0 xs k n) RL cL_law 1575 (locs I) [] w') : V (lawX l Z G b L L0 xs k n) RL cL_law 737 (locs I) [] w := by
  refine v_aload_n 2 (pc' := 738) rfl dL_law_737 rfl rfl ?_
  refine v_arg (K := 1) dL_law_738 dL_law_739 dL_law_740 dL_law_741 dL_law_742 rfl (by omega) hL rfl ?_
  refine v_callV (x := lawX l Z G b L L0 xs k n) (d := 4) (as := [aI (xs (I + 1)).toInt]) (st := []) dL_law_743 lk_RL_86 ly_0 rfl (Nat.le_of_ble_eq_true rfl) ⟨Nat.le_of_ble_eq_true rfl, Nat.le_of_ble_eq_true rfl⟩ hcs hp (fun z w1 hq => ?_) rfl
  show V (lawX l Z G b L L0 xs k n) RL cL_law 746 (locs I) [aI z] w1
  refine v_aload_n 1 (pc' := 747) rfl dL_law_746 rfl rfl ?_
  refine v_arg (K := 1) dL_law_747 dL_law_748 dL_law_749 dL_law_750 dL_law_751 rfl (by omega) hL rfl ?_
  refine v_callV (x := lawX l Z G b L L0 xs k n) (d := 3) (as := [aI (xs (I + 1)).toInt]) (st := [aI z]) dL_law_752 lk_RL_89 ly_63 rfl (Nat.le_of_ble_eq_true rfl) ⟨Nat.le_of_ble_eq_true rfl, Nat.le_of_ble_eq_true rfl⟩ hcs hq (fun z2 w2 hq2 => ?_) rfl
  obtain ⟨rfl, hI2⟩ := hq2
  show V (lawX l Z G b L L0 xs k n) RL cL_law 755 (locs I) [aI z2, aI z2] w2
  exact v_same (tgt := 1575) dL_law_755 (by decide) (hb w2 hI2)
set_option maxHeartbeats 4000000 in
set_option maxRecDepth 100000 in
theorem law_elements {l : Launch} {Z : List Frame → Array Value → State → State → Prop} {G : Gx} {b L L0 k n : Nat} {xs : Nat → Int32} {w : Wd} (hcs : k ≤ room_1.cells ∧ n ≤ room_1.slots) {I : Nat} (hI6 : I + 6 ≤ L) (hL : L ≤ 3072) (hp : Pair l G 4 3 mX10_elements mX11_elements [aI (xs (I + 1)).toInt] w) (hb : ∀ w', Inv w' → V (lawX l Z G b L L0 xs k n) RL cL_law 1575 (locs I) [] w') : V (lawX l Z G b L L0 xs k n) RL cL_law 760 (locs I) [] w := by
  refine v_aload_n 2 (pc' := 761) rfl dL_law_760 rfl rfl ?_
  refine v_arg (K := 1) dL_law_761 dL_law_762 dL_law_763 dL_law_764 dL_law_765 rfl (by omega) hL rfl ?_
  refine v_callV (x := lawX l Z G b L L0 xs k n) (d := 4) (as := [aI (xs (I + 1)).toInt]) (st := []) dL_law_766 lk_RL_90 ly_0 rfl (Nat.le_of_ble_eq_true rfl) ⟨Nat.le_of_ble_eq_true rfl, Nat.le_of_ble_eq_true rfl⟩ hcs hp (fun z w1 hq => ?_) rfl
  show V (lawX l Z G b L L0 xs k n) RL cL_law 769 (locs I) [aI z] w1
  refine v_aload_n 1 (pc' := 770) rfl dL_law_769 rfl rfl ?_
  refine v_arg (K := 1) dL_law_770 dL_law_771 dL_law_772 dL_law_773 dL_law_774 rfl (by omega) hL rfl ?_
  refine v_callV (x := lawX l Z G b L L0 xs k n) (d := 3) (as := [aI (xs (I + 1)).toInt]) (st := [aI z]) dL_law_775 lk_RL_93 ly_63 rfl (Nat.le_of_ble_eq_true rfl) ⟨Nat.le_of_ble_eq_true rfl, Nat.le_of_ble_eq_true rfl⟩ hcs hq (fun z2 w2 hq2 => ?_) rfl
  obtain ⟨rfl, hI2⟩ := hq2
  show V (lawX l Z G b L L0 xs k n) RL cL_law 778 (locs I) [aI z2, aI z2] w2
  exact v_same (tgt := 1575) dL_law_778 (by decide) (hb w2 hI2)
set_option maxHeartbeats 4000000 in
set_option maxRecDepth 100000 in
theorem law_length {l : Launch} {Z : List Frame → Array Value → State → State → Prop} {G : Gx} {b L L0 k n : Nat} {xs : Nat → Int32} {w : Wd} (hcs : k ≤ room_1.cells ∧ n ≤ room_1.slots) {I : Nat} (hI6 : I + 6 ≤ L) (hL : L ≤ 3072) (hp : Pair l G 4 4 mX10_length mX11_length [aI (xs (I + 1)).toInt] w) (hb : ∀ w', Inv w' → V (lawX l Z G b L L0 xs k n) RL cL_law 1575 (locs I) [] w') : V (lawX l Z G b L L0 xs k n) RL cL_law 783 (locs I) [] w := by
  refine v_aload_n 2 (pc' := 784) rfl dL_law_783 rfl rfl ?_
  refine v_arg (K := 1) dL_law_784 dL_law_785 dL_law_786 dL_law_787 dL_law_788 rfl (by omega) hL rfl ?_
  refine v_callV (x := lawX l Z G b L L0 xs k n) (d := 4) (as := [aI (xs (I + 1)).toInt]) (st := []) dL_law_789 lk_RL_94 ly_0 rfl (Nat.le_of_ble_eq_true rfl) ⟨Nat.le_of_ble_eq_true rfl, Nat.le_of_ble_eq_true rfl⟩ hcs hp (fun z w1 hq => ?_) rfl
  show V (lawX l Z G b L L0 xs k n) RL cL_law 792 (locs I) [aI z] w1
  refine v_aload_n 1 (pc' := 793) rfl dL_law_792 rfl rfl ?_
  refine v_arg (K := 1) dL_law_793 dL_law_794 dL_law_795 dL_law_796 dL_law_797 rfl (by omega) hL rfl ?_
  refine v_callV (x := lawX l Z G b L L0 xs k n) (d := 4) (as := [aI (xs (I + 1)).toInt]) (st := [aI z]) dL_law_798 lk_RL_97 ly_63 rfl (Nat.le_of_ble_eq_true rfl) ⟨Nat.le_of_ble_eq_true rfl, Nat.le_of_ble_eq_true rfl⟩ hcs hq (fun z2 w2 hq2 => ?_) rfl
  obtain ⟨rfl, hI2⟩ := hq2
  show V (lawX l Z G b L L0 xs k n) RL cL_law 801 (locs I) [aI z2, aI z2] w2
  exact v_same (tgt := 1575) dL_law_801 (by decide) (hb w2 hI2)
set_option maxHeartbeats 4000000 in
set_option maxRecDepth 100000 in
theorem law_block {l : Launch} {Z : List Frame → Array Value → State → State → Prop} {G : Gx} {b L L0 k n : Nat} {xs : Nat → Int32} {w : Wd} (hcs : k ≤ room_1.cells ∧ n ≤ room_1.slots) {I : Nat} (hI6 : I + 6 ≤ L) (hL : L ≤ 3072) (hp : Pair l G 5 5 mX10_block mX11_block [aI (xs (I + 1)).toInt, aI (xs (I + 2)).toInt] w) (hb : ∀ w', Inv w' → V (lawX l Z G b L L0 xs k n) RL cL_law 1575 (locs I) [] w') : V (lawX l Z G b L L0 xs k n) RL cL_law 806 (locs I) [] w := by
  refine v_aload_n 2 (pc' := 807) rfl dL_law_806 rfl rfl ?_
  refine v_arg (K := 1) dL_law_807 dL_law_808 dL_law_809 dL_law_810 dL_law_811 rfl (by omega) hL rfl ?_
  refine v_arg (K := 2) dL_law_812 dL_law_813 dL_law_814 dL_law_815 dL_law_816 rfl (by omega) hL rfl ?_
  refine v_callV (x := lawX l Z G b L L0 xs k n) (d := 5) (as := [aI (xs (I + 1)).toInt, aI (xs (I + 2)).toInt]) (st := []) dL_law_817 lk_RL_98 ly_0 rfl (Nat.le_of_ble_eq_true rfl) ⟨Nat.le_of_ble_eq_true rfl, Nat.le_of_ble_eq_true rfl⟩ hcs hp (fun z w1 hq => ?_) rfl
  show V (lawX l Z G b L L0 xs k n) RL cL_law 820 (locs I) [aI z] w1
  refine v_aload_n 1 (pc' := 821) rfl dL_law_820 rfl rfl ?_
  refine v_arg (K := 1) dL_law_821 dL_law_822 dL_law_823 dL_law_824 dL_law_825 rfl (by omega) hL rfl ?_
  refine v_arg (K := 2) dL_law_826 dL_law_827 dL_law_828 dL_law_829 dL_law_830 rfl (by omega) hL rfl ?_
  refine v_callV (x := lawX l Z G b L L0 xs k n) (d := 5) (as := [aI (xs (I + 1)).toInt, aI (xs (I + 2)).toInt]) (st := [aI z]) dL_law_831 lk_RL_101 ly_63 rfl (Nat.le_of_ble_eq_true rfl) ⟨Nat.le_of_ble_eq_true rfl, Nat.le_of_ble_eq_true rfl⟩ hcs hq (fun z2 w2 hq2 => ?_) rfl
  obtain ⟨rfl, hI2⟩ := hq2
  show V (lawX l Z G b L L0 xs k n) RL cL_law 834 (locs I) [aI z2, aI z2] w2
  exact v_same (tgt := 1575) dL_law_834 (by decide) (hb w2 hI2)
set_option maxHeartbeats 4000000 in
set_option maxRecDepth 100000 in
theorem law_kinds {l : Launch} {Z : List Frame → Array Value → State → State → Prop} {G : Gx} {b L L0 k n : Nat} {xs : Nat → Int32} {w : Wd} (hcs : k ≤ room_1.cells ∧ n ≤ room_1.slots) {I : Nat} (hI6 : I + 6 ≤ L) (hL : L ≤ 3072) (hp : Pair l G 2 0 mX10_kinds mX11_kinds [aI (xs (I + 1)).toInt] w) (hb : ∀ w', Inv w' → V (lawX l Z G b L L0 xs k n) RL cL_law 1575 (locs I) [] w') : V (lawX l Z G b L L0 xs k n) RL cL_law 839 (locs I) [] w := by
  refine v_aload_n 2 (pc' := 840) rfl dL_law_839 rfl rfl ?_
  refine v_arg (K := 1) dL_law_840 dL_law_841 dL_law_842 dL_law_843 dL_law_844 rfl (by omega) hL rfl ?_
  refine v_callV (x := lawX l Z G b L L0 xs k n) (d := 2) (as := [aI (xs (I + 1)).toInt]) (st := []) dL_law_845 lk_RL_102 ly_0 rfl (Nat.le_of_ble_eq_true rfl) ⟨Nat.le_of_ble_eq_true rfl, Nat.le_of_ble_eq_true rfl⟩ hcs hp (fun z w1 hq => ?_) rfl
  show V (lawX l Z G b L L0 xs k n) RL cL_law 848 (locs I) [aI z] w1
  refine v_aload_n 1 (pc' := 849) rfl dL_law_848 rfl rfl ?_
  refine v_arg (K := 1) dL_law_849 dL_law_850 dL_law_851 dL_law_852 dL_law_853 rfl (by omega) hL rfl ?_
  refine v_callV (x := lawX l Z G b L L0 xs k n) (d := 0) (as := [aI (xs (I + 1)).toInt]) (st := [aI z]) dL_law_854 lk_RL_105 ly_63 rfl (Nat.le_of_ble_eq_true rfl) ⟨Nat.le_of_ble_eq_true rfl, Nat.le_of_ble_eq_true rfl⟩ hcs hq (fun z2 w2 hq2 => ?_) rfl
  obtain ⟨rfl, hI2⟩ := hq2
  show V (lawX l Z G b L L0 xs k n) RL cL_law 857 (locs I) [aI z2, aI z2] w2
  exact v_same (tgt := 1575) dL_law_857 (by decide) (hb w2 hI2)
set_option maxHeartbeats 4000000 in
set_option maxRecDepth 100000 in
theorem law_size {l : Launch} {Z : List Frame → Array Value → State → State → Prop} {G : Gx} {b L L0 k n : Nat} {xs : Nat → Int32} {w : Wd} (hcs : k ≤ room_1.cells ∧ n ≤ room_1.slots) {I : Nat} (hI6 : I + 6 ≤ L) (hL : L ≤ 3072) (hp : Pair l G 4 1 mX10_size mX11_size [aI (xs (I + 1)).toInt] w) (hb : ∀ w', Inv w' → V (lawX l Z G b L L0 xs k n) RL cL_law 1575 (locs I) [] w') : V (lawX l Z G b L L0 xs k n) RL cL_law 862 (locs I) [] w := by
  refine v_aload_n 2 (pc' := 863) rfl dL_law_862 rfl rfl ?_
  refine v_arg (K := 1) dL_law_863 dL_law_864 dL_law_865 dL_law_866 dL_law_867 rfl (by omega) hL rfl ?_
  refine v_callV (x := lawX l Z G b L L0 xs k n) (d := 4) (as := [aI (xs (I + 1)).toInt]) (st := []) dL_law_868 lk_RL_106 ly_0 rfl (Nat.le_of_ble_eq_true rfl) ⟨Nat.le_of_ble_eq_true rfl, Nat.le_of_ble_eq_true rfl⟩ hcs hp (fun z w1 hq => ?_) rfl
  show V (lawX l Z G b L L0 xs k n) RL cL_law 871 (locs I) [aI z] w1
  refine v_aload_n 1 (pc' := 872) rfl dL_law_871 rfl rfl ?_
  refine v_arg (K := 1) dL_law_872 dL_law_873 dL_law_874 dL_law_875 dL_law_876 rfl (by omega) hL rfl ?_
  refine v_callV (x := lawX l Z G b L L0 xs k n) (d := 1) (as := [aI (xs (I + 1)).toInt]) (st := [aI z]) dL_law_877 lk_RL_109 ly_63 rfl (Nat.le_of_ble_eq_true rfl) ⟨Nat.le_of_ble_eq_true rfl, Nat.le_of_ble_eq_true rfl⟩ hcs hq (fun z2 w2 hq2 => ?_) rfl
  obtain ⟨rfl, hI2⟩ := hq2
  show V (lawX l Z G b L L0 xs k n) RL cL_law 880 (locs I) [aI z2, aI z2] w2
  exact v_same (tgt := 1575) dL_law_880 (by decide) (hb w2 hI2)
set_option maxHeartbeats 4000000 in
set_option maxRecDepth 100000 in
theorem law_character {l : Launch} {Z : List Frame → Array Value → State → State → Prop} {G : Gx} {b L L0 k n : Nat} {xs : Nat → Int32} {w : Wd} (hcs : k ≤ room_1.cells ∧ n ≤ room_1.slots) {I : Nat} (hI6 : I + 6 ≤ L) (hL : L ≤ 3072) (hp : Pair l G 9 3 mX10_character mX11_character [aI (xs (I + 1)).toInt, aI (xs (I + 2)).toInt] w) (hb : ∀ w', Inv w' → V (lawX l Z G b L L0 xs k n) RL cL_law 1575 (locs I) [] w') : V (lawX l Z G b L L0 xs k n) RL cL_law 885 (locs I) [] w := by
  refine v_aload_n 2 (pc' := 886) rfl dL_law_885 rfl rfl ?_
  refine v_arg (K := 1) dL_law_886 dL_law_887 dL_law_888 dL_law_889 dL_law_890 rfl (by omega) hL rfl ?_
  refine v_arg (K := 2) dL_law_891 dL_law_892 dL_law_893 dL_law_894 dL_law_895 rfl (by omega) hL rfl ?_
  refine v_callV (x := lawX l Z G b L L0 xs k n) (d := 9) (as := [aI (xs (I + 1)).toInt, aI (xs (I + 2)).toInt]) (st := []) dL_law_896 lk_RL_110 ly_0 rfl (Nat.le_of_ble_eq_true rfl) ⟨Nat.le_of_ble_eq_true rfl, Nat.le_of_ble_eq_true rfl⟩ hcs hp (fun z w1 hq => ?_) rfl
  show V (lawX l Z G b L L0 xs k n) RL cL_law 899 (locs I) [aI z] w1
  refine v_aload_n 1 (pc' := 900) rfl dL_law_899 rfl rfl ?_
  refine v_arg (K := 1) dL_law_900 dL_law_901 dL_law_902 dL_law_903 dL_law_904 rfl (by omega) hL rfl ?_
  refine v_arg (K := 2) dL_law_905 dL_law_906 dL_law_907 dL_law_908 dL_law_909 rfl (by omega) hL rfl ?_
  refine v_callV (x := lawX l Z G b L L0 xs k n) (d := 3) (as := [aI (xs (I + 1)).toInt, aI (xs (I + 2)).toInt]) (st := [aI z]) dL_law_910 lk_RL_113 ly_63 rfl (Nat.le_of_ble_eq_true rfl) ⟨Nat.le_of_ble_eq_true rfl, Nat.le_of_ble_eq_true rfl⟩ hcs hq (fun z2 w2 hq2 => ?_) rfl
  obtain ⟨rfl, hI2⟩ := hq2
  show V (lawX l Z G b L L0 xs k n) RL cL_law 913 (locs I) [aI z2, aI z2] w2
  exact v_same (tgt := 1575) dL_law_913 (by decide) (hb w2 hI2)
set_option maxHeartbeats 4000000 in
set_option maxRecDepth 100000 in
theorem law_triples {l : Launch} {Z : List Frame → Array Value → State → State → Prop} {G : Gx} {b L L0 k n : Nat} {xs : Nat → Int32} {w : Wd} (hcs : k ≤ room_1.cells ∧ n ≤ room_1.slots) {I : Nat} (hI6 : I + 6 ≤ L) (hL : L ≤ 3072) (hp : Pair l G 10 4 mX10_triples mX11_triples [aI (xs (I + 1)).toInt, aI (xs (I + 2)).toInt, aI (xs (I + 3)).toInt, aI (xs (I + 4)).toInt] w) (hb : ∀ w', Inv w' → V (lawX l Z G b L L0 xs k n) RL cL_law 1575 (locs I) [] w') : V (lawX l Z G b L L0 xs k n) RL cL_law 918 (locs I) [] w := by
  refine v_aload_n 2 (pc' := 919) rfl dL_law_918 rfl rfl ?_
  refine v_arg (K := 1) dL_law_919 dL_law_920 dL_law_921 dL_law_922 dL_law_923 rfl (by omega) hL rfl ?_
  refine v_arg (K := 2) dL_law_924 dL_law_925 dL_law_926 dL_law_927 dL_law_928 rfl (by omega) hL rfl ?_
  refine v_arg (K := 3) dL_law_929 dL_law_930 dL_law_931 dL_law_932 dL_law_933 rfl (by omega) hL rfl ?_
  refine v_arg (K := 4) dL_law_934 dL_law_935 dL_law_936 dL_law_937 dL_law_938 rfl (by omega) hL rfl ?_
  refine v_callV (x := lawX l Z G b L L0 xs k n) (d := 10) (as := [aI (xs (I + 1)).toInt, aI (xs (I + 2)).toInt, aI (xs (I + 3)).toInt, aI (xs (I + 4)).toInt]) (st := []) dL_law_939 lk_RL_114 ly_0 rfl (Nat.le_of_ble_eq_true rfl) ⟨Nat.le_of_ble_eq_true rfl, Nat.le_of_ble_eq_true rfl⟩ hcs hp (fun z w1 hq => ?_) rfl
  show V (lawX l Z G b L L0 xs k n) RL cL_law 942 (locs I) [aL z] w1
  refine v_aload_n 1 (pc' := 943) rfl dL_law_942 rfl rfl ?_
  refine v_arg (K := 1) dL_law_943 dL_law_944 dL_law_945 dL_law_946 dL_law_947 rfl (by omega) hL rfl ?_
  refine v_arg (K := 2) dL_law_948 dL_law_949 dL_law_950 dL_law_951 dL_law_952 rfl (by omega) hL rfl ?_
  refine v_arg (K := 3) dL_law_953 dL_law_954 dL_law_955 dL_law_956 dL_law_957 rfl (by omega) hL rfl ?_
  refine v_arg (K := 4) dL_law_958 dL_law_959 dL_law_960 dL_law_961 dL_law_962 rfl (by omega) hL rfl ?_
  refine v_callV (x := lawX l Z G b L L0 xs k n) (d := 4) (as := [aI (xs (I + 1)).toInt, aI (xs (I + 2)).toInt, aI (xs (I + 3)).toInt, aI (xs (I + 4)).toInt]) (st := [aL z]) dL_law_963 lk_RL_118 ly_63 rfl (Nat.le_of_ble_eq_true rfl) ⟨Nat.le_of_ble_eq_true rfl, Nat.le_of_ble_eq_true rfl⟩ hcs hq (fun z2 w2 hq2 => ?_) rfl
  obtain ⟨rfl, hI2⟩ := hq2
  show V (lawX l Z G b L L0 xs k n) RL cL_law 966 (locs I) [aL z2, aL z2] w2
  exact v_sameL (tgt := 1575) dL_law_966 dL_law_967 (by decide) (hb w2 hI2)
set_option maxHeartbeats 4000000 in
set_option maxRecDepth 100000 in
theorem law_classes {l : Launch} {Z : List Frame → Array Value → State → State → Prop} {G : Gx} {b L L0 k n : Nat} {xs : Nat → Int32} {w : Wd} (hcs : k ≤ room_1.cells ∧ n ≤ room_1.slots) {I : Nat} (hI6 : I + 6 ≤ L) (hL : L ≤ 3072) (hp : Pair l G 13 5 mX10_classes mX11_classes [aI (xs (I + 1)).toInt, aI (xs (I + 2)).toInt, aI (xs (I + 3)).toInt, aI (xs (I + 4)).toInt, aI (xs (I + 5)).toInt] w) (hb : ∀ w', Inv w' → V (lawX l Z G b L L0 xs k n) RL cL_law 1575 (locs I) [] w') : V (lawX l Z G b L L0 xs k n) RL cL_law 972 (locs I) [] w := by
  refine v_aload_n 2 (pc' := 973) rfl dL_law_972 rfl rfl ?_
  refine v_arg (K := 1) dL_law_973 dL_law_974 dL_law_975 dL_law_976 dL_law_977 rfl (by omega) hL rfl ?_
  refine v_arg (K := 2) dL_law_978 dL_law_979 dL_law_980 dL_law_981 dL_law_982 rfl (by omega) hL rfl ?_
  refine v_arg (K := 3) dL_law_983 dL_law_984 dL_law_985 dL_law_986 dL_law_987 rfl (by omega) hL rfl ?_
  refine v_arg (K := 4) dL_law_988 dL_law_989 dL_law_990 dL_law_991 dL_law_992 rfl (by omega) hL rfl ?_
  refine v_arg (K := 5) dL_law_993 dL_law_994 dL_law_995 dL_law_996 dL_law_997 rfl (by omega) hL rfl ?_
  refine v_callV (x := lawX l Z G b L L0 xs k n) (d := 13) (as := [aI (xs (I + 1)).toInt, aI (xs (I + 2)).toInt, aI (xs (I + 3)).toInt, aI (xs (I + 4)).toInt, aI (xs (I + 5)).toInt]) (st := []) dL_law_998 lk_RL_119 ly_0 rfl (Nat.le_of_ble_eq_true rfl) ⟨Nat.le_of_ble_eq_true rfl, Nat.le_of_ble_eq_true rfl⟩ hcs hp (fun z w1 hq => ?_) rfl
  show V (lawX l Z G b L L0 xs k n) RL cL_law 1001 (locs I) [aI z] w1
  refine v_aload_n 1 (pc' := 1002) rfl dL_law_1001 rfl rfl ?_
  refine v_arg (K := 1) dL_law_1002 dL_law_1003 dL_law_1004 dL_law_1005 dL_law_1006 rfl (by omega) hL rfl ?_
  refine v_arg (K := 2) dL_law_1007 dL_law_1008 dL_law_1009 dL_law_1010 dL_law_1011 rfl (by omega) hL rfl ?_
  refine v_arg (K := 3) dL_law_1012 dL_law_1013 dL_law_1014 dL_law_1015 dL_law_1016 rfl (by omega) hL rfl ?_
  refine v_arg (K := 4) dL_law_1017 dL_law_1018 dL_law_1019 dL_law_1020 dL_law_1021 rfl (by omega) hL rfl ?_
  refine v_arg (K := 5) dL_law_1022 dL_law_1023 dL_law_1024 dL_law_1025 dL_law_1026 rfl (by omega) hL rfl ?_
  refine v_callV (x := lawX l Z G b L L0 xs k n) (d := 5) (as := [aI (xs (I + 1)).toInt, aI (xs (I + 2)).toInt, aI (xs (I + 3)).toInt, aI (xs (I + 4)).toInt, aI (xs (I + 5)).toInt]) (st := [aI z]) dL_law_1027 lk_RL_122 ly_63 rfl (Nat.le_of_ble_eq_true rfl) ⟨Nat.le_of_ble_eq_true rfl, Nat.le_of_ble_eq_true rfl⟩ hcs hq (fun z2 w2 hq2 => ?_) rfl
  obtain ⟨rfl, hI2⟩ := hq2
  show V (lawX l Z G b L L0 xs k n) RL cL_law 1030 (locs I) [aI z2, aI z2] w2
  exact v_same (tgt := 1575) dL_law_1030 (by decide) (hb w2 hI2)
set_option maxHeartbeats 4000000 in
set_option maxRecDepth 100000 in
theorem law_mass {l : Launch} {Z : List Frame → Array Value → State → State → Prop} {G : Gx} {b L L0 k n : Nat} {xs : Nat → Int32} {w : Wd} (hcs : k ≤ room_1.cells ∧ n ≤ room_1.slots) {I : Nat} (hI6 : I + 6 ≤ L) (hL : L ≤ 3072) (hp : Pair l G 7 4 mX10_mass mX11_mass [aI (xs (I + 1)).toInt, aI (xs (I + 2)).toInt, aI (xs (I + 3)).toInt, aI (xs (I + 4)).toInt] w) (hb : ∀ w', Inv w' → V (lawX l Z G b L L0 xs k n) RL cL_law 1575 (locs I) [] w') : V (lawX l Z G b L L0 xs k n) RL cL_law 1035 (locs I) [] w := by
  refine v_aload_n 2 (pc' := 1036) rfl dL_law_1035 rfl rfl ?_
  refine v_arg (K := 1) dL_law_1036 dL_law_1037 dL_law_1038 dL_law_1039 dL_law_1040 rfl (by omega) hL rfl ?_
  refine v_arg (K := 2) dL_law_1041 dL_law_1042 dL_law_1043 dL_law_1044 dL_law_1045 rfl (by omega) hL rfl ?_
  refine v_arg (K := 3) dL_law_1046 dL_law_1047 dL_law_1048 dL_law_1049 dL_law_1050 rfl (by omega) hL rfl ?_
  refine v_arg (K := 4) dL_law_1051 dL_law_1052 dL_law_1053 dL_law_1054 dL_law_1055 rfl (by omega) hL rfl ?_
  refine v_callV (x := lawX l Z G b L L0 xs k n) (d := 7) (as := [aI (xs (I + 1)).toInt, aI (xs (I + 2)).toInt, aI (xs (I + 3)).toInt, aI (xs (I + 4)).toInt]) (st := []) dL_law_1056 lk_RL_123 ly_0 rfl (Nat.le_of_ble_eq_true rfl) ⟨Nat.le_of_ble_eq_true rfl, Nat.le_of_ble_eq_true rfl⟩ hcs hp (fun z w1 hq => ?_) rfl
  show V (lawX l Z G b L L0 xs k n) RL cL_law 1059 (locs I) [aL z] w1
  refine v_aload_n 1 (pc' := 1060) rfl dL_law_1059 rfl rfl ?_
  refine v_arg (K := 1) dL_law_1060 dL_law_1061 dL_law_1062 dL_law_1063 dL_law_1064 rfl (by omega) hL rfl ?_
  refine v_arg (K := 2) dL_law_1065 dL_law_1066 dL_law_1067 dL_law_1068 dL_law_1069 rfl (by omega) hL rfl ?_
  refine v_arg (K := 3) dL_law_1070 dL_law_1071 dL_law_1072 dL_law_1073 dL_law_1074 rfl (by omega) hL rfl ?_
  refine v_arg (K := 4) dL_law_1075 dL_law_1076 dL_law_1077 dL_law_1078 dL_law_1079 rfl (by omega) hL rfl ?_
  refine v_callV (x := lawX l Z G b L L0 xs k n) (d := 4) (as := [aI (xs (I + 1)).toInt, aI (xs (I + 2)).toInt, aI (xs (I + 3)).toInt, aI (xs (I + 4)).toInt]) (st := [aL z]) dL_law_1080 lk_RL_126 ly_63 rfl (Nat.le_of_ble_eq_true rfl) ⟨Nat.le_of_ble_eq_true rfl, Nat.le_of_ble_eq_true rfl⟩ hcs hq (fun z2 w2 hq2 => ?_) rfl
  obtain ⟨rfl, hI2⟩ := hq2
  show V (lawX l Z G b L L0 xs k n) RL cL_law 1083 (locs I) [aL z2, aL z2] w2
  exact v_sameL (tgt := 1575) dL_law_1083 dL_law_1084 (by decide) (hb w2 hI2)
set_option maxHeartbeats 4000000 in
set_option maxRecDepth 100000 in
theorem law_genera {l : Launch} {Z : List Frame → Array Value → State → State → Prop} {G : Gx} {b L L0 k n : Nat} {xs : Nat → Int32} {w : Wd} (hcs : k ≤ room_1.cells ∧ n ≤ room_1.slots) {I : Nat} (hI6 : I + 6 ≤ L) (hL : L ≤ 3072) (hp : Pair l G 6 4 mX10_genera mX11_genera [aI (xs (I + 1)).toInt, aI (xs (I + 2)).toInt, aI (xs (I + 3)).toInt] w) (hb : ∀ w', Inv w' → V (lawX l Z G b L L0 xs k n) RL cL_law 1575 (locs I) [] w') : V (lawX l Z G b L L0 xs k n) RL cL_law 1089 (locs I) [] w := by
  refine v_aload_n 2 (pc' := 1090) rfl dL_law_1089 rfl rfl ?_
  refine v_arg (K := 1) dL_law_1090 dL_law_1091 dL_law_1092 dL_law_1093 dL_law_1094 rfl (by omega) hL rfl ?_
  refine v_arg (K := 2) dL_law_1095 dL_law_1096 dL_law_1097 dL_law_1098 dL_law_1099 rfl (by omega) hL rfl ?_
  refine v_arg (K := 3) dL_law_1100 dL_law_1101 dL_law_1102 dL_law_1103 dL_law_1104 rfl (by omega) hL rfl ?_
  refine v_callV (x := lawX l Z G b L L0 xs k n) (d := 6) (as := [aI (xs (I + 1)).toInt, aI (xs (I + 2)).toInt, aI (xs (I + 3)).toInt]) (st := []) dL_law_1105 lk_RL_127 ly_0 rfl (Nat.le_of_ble_eq_true rfl) ⟨Nat.le_of_ble_eq_true rfl, Nat.le_of_ble_eq_true rfl⟩ hcs hp (fun z w1 hq => ?_) rfl
  show V (lawX l Z G b L L0 xs k n) RL cL_law 1108 (locs I) [aL z] w1
  refine v_aload_n 1 (pc' := 1109) rfl dL_law_1108 rfl rfl ?_
  refine v_arg (K := 1) dL_law_1109 dL_law_1110 dL_law_1111 dL_law_1112 dL_law_1113 rfl (by omega) hL rfl ?_
  refine v_arg (K := 2) dL_law_1114 dL_law_1115 dL_law_1116 dL_law_1117 dL_law_1118 rfl (by omega) hL rfl ?_
  refine v_arg (K := 3) dL_law_1119 dL_law_1120 dL_law_1121 dL_law_1122 dL_law_1123 rfl (by omega) hL rfl ?_
  refine v_callV (x := lawX l Z G b L L0 xs k n) (d := 4) (as := [aI (xs (I + 1)).toInt, aI (xs (I + 2)).toInt, aI (xs (I + 3)).toInt]) (st := [aL z]) dL_law_1124 lk_RL_131 ly_63 rfl (Nat.le_of_ble_eq_true rfl) ⟨Nat.le_of_ble_eq_true rfl, Nat.le_of_ble_eq_true rfl⟩ hcs hq (fun z2 w2 hq2 => ?_) rfl
  obtain ⟨rfl, hI2⟩ := hq2
  show V (lawX l Z G b L L0 xs k n) RL cL_law 1127 (locs I) [aL z2, aL z2] w2
  exact v_sameL (tgt := 1575) dL_law_1127 dL_law_1128 (by decide) (hb w2 hI2)
set_option maxHeartbeats 4000000 in
set_option maxRecDepth 100000 in
theorem law_thirds {l : Launch} {Z : List Frame → Array Value → State → State → Prop} {G : Gx} {b L L0 k n : Nat} {xs : Nat → Int32} {w : Wd} (hcs : k ≤ room_1.cells ∧ n ≤ room_1.slots) {I : Nat} (hI6 : I + 6 ≤ L) (hL : L ≤ 3072) (hp : Pair l G 6 3 mX10_thirds mX11_thirds [aI (xs (I + 1)).toInt, aI (xs (I + 2)).toInt, aI (xs (I + 3)).toInt] w) (hb : ∀ w', Inv w' → V (lawX l Z G b L L0 xs k n) RL cL_law 1575 (locs I) [] w') : V (lawX l Z G b L L0 xs k n) RL cL_law 1133 (locs I) [] w := by
  refine v_aload_n 2 (pc' := 1134) rfl dL_law_1133 rfl rfl ?_
  refine v_arg (K := 1) dL_law_1134 dL_law_1135 dL_law_1136 dL_law_1137 dL_law_1138 rfl (by omega) hL rfl ?_
  refine v_arg (K := 2) dL_law_1139 dL_law_1140 dL_law_1141 dL_law_1142 dL_law_1143 rfl (by omega) hL rfl ?_
  refine v_arg (K := 3) dL_law_1144 dL_law_1145 dL_law_1146 dL_law_1147 dL_law_1148 rfl (by omega) hL rfl ?_
  refine v_callV (x := lawX l Z G b L L0 xs k n) (d := 6) (as := [aI (xs (I + 1)).toInt, aI (xs (I + 2)).toInt, aI (xs (I + 3)).toInt]) (st := []) dL_law_1149 lk_RL_132 ly_0 rfl (Nat.le_of_ble_eq_true rfl) ⟨Nat.le_of_ble_eq_true rfl, Nat.le_of_ble_eq_true rfl⟩ hcs hp (fun z w1 hq => ?_) rfl
  show V (lawX l Z G b L L0 xs k n) RL cL_law 1152 (locs I) [aI z] w1
  refine v_aload_n 1 (pc' := 1153) rfl dL_law_1152 rfl rfl ?_
  refine v_arg (K := 1) dL_law_1153 dL_law_1154 dL_law_1155 dL_law_1156 dL_law_1157 rfl (by omega) hL rfl ?_
  refine v_arg (K := 2) dL_law_1158 dL_law_1159 dL_law_1160 dL_law_1161 dL_law_1162 rfl (by omega) hL rfl ?_
  refine v_arg (K := 3) dL_law_1163 dL_law_1164 dL_law_1165 dL_law_1166 dL_law_1167 rfl (by omega) hL rfl ?_
  refine v_callV (x := lawX l Z G b L L0 xs k n) (d := 3) (as := [aI (xs (I + 1)).toInt, aI (xs (I + 2)).toInt, aI (xs (I + 3)).toInt]) (st := [aI z]) dL_law_1168 lk_RL_135 ly_63 rfl (Nat.le_of_ble_eq_true rfl) ⟨Nat.le_of_ble_eq_true rfl, Nat.le_of_ble_eq_true rfl⟩ hcs hq (fun z2 w2 hq2 => ?_) rfl
  obtain ⟨rfl, hI2⟩ := hq2
  show V (lawX l Z G b L L0 xs k n) RL cL_law 1171 (locs I) [aI z2, aI z2] w2
  exact v_same (tgt := 1575) dL_law_1171 (by decide) (hb w2 hI2)
set_option maxHeartbeats 4000000 in
set_option maxRecDepth 100000 in
theorem law_family {l : Launch} {Z : List Frame → Array Value → State → State → Prop} {G : Gx} {b L L0 k n : Nat} {xs : Nat → Int32} {w : Wd} (hcs : k ≤ room_1.cells ∧ n ≤ room_1.slots) {I : Nat} (hI6 : I + 6 ≤ L) (hL : L ≤ 3072) (hp : Pair l G 12 4 mX10_family mX11_family [aI (xs (I + 1)).toInt, aI (xs (I + 2)).toInt] w) (hb : ∀ w', Inv w' → V (lawX l Z G b L L0 xs k n) RL cL_law 1575 (locs I) [] w') : V (lawX l Z G b L L0 xs k n) RL cL_law 1176 (locs I) [] w := by
  refine v_aload_n 2 (pc' := 1177) rfl dL_law_1176 rfl rfl ?_
  refine v_arg (K := 1) dL_law_1177 dL_law_1178 dL_law_1179 dL_law_1180 dL_law_1181 rfl (by omega) hL rfl ?_
  refine v_arg (K := 2) dL_law_1182 dL_law_1183 dL_law_1184 dL_law_1185 dL_law_1186 rfl (by omega) hL rfl ?_
  refine v_callV (x := lawX l Z G b L L0 xs k n) (d := 12) (as := [aI (xs (I + 1)).toInt, aI (xs (I + 2)).toInt]) (st := []) dL_law_1187 lk_RL_136 ly_0 rfl (Nat.le_of_ble_eq_true rfl) ⟨Nat.le_of_ble_eq_true rfl, Nat.le_of_ble_eq_true rfl⟩ hcs hp (fun z w1 hq => ?_) rfl
  show V (lawX l Z G b L L0 xs k n) RL cL_law 1190 (locs I) [aI z] w1
  refine v_aload_n 1 (pc' := 1191) rfl dL_law_1190 rfl rfl ?_
  refine v_arg (K := 1) dL_law_1191 dL_law_1192 dL_law_1193 dL_law_1194 dL_law_1195 rfl (by omega) hL rfl ?_
  refine v_arg (K := 2) dL_law_1196 dL_law_1197 dL_law_1198 dL_law_1199 dL_law_1200 rfl (by omega) hL rfl ?_
  refine v_callV (x := lawX l Z G b L L0 xs k n) (d := 4) (as := [aI (xs (I + 1)).toInt, aI (xs (I + 2)).toInt]) (st := [aI z]) dL_law_1201 lk_RL_139 ly_63 rfl (Nat.le_of_ble_eq_true rfl) ⟨Nat.le_of_ble_eq_true rfl, Nat.le_of_ble_eq_true rfl⟩ hcs hq (fun z2 w2 hq2 => ?_) rfl
  obtain ⟨rfl, hI2⟩ := hq2
  show V (lawX l Z G b L L0 xs k n) RL cL_law 1204 (locs I) [aI z2, aI z2] w2
  exact v_same (tgt := 1575) dL_law_1204 (by decide) (hb w2 hI2)
set_option maxHeartbeats 4000000 in
set_option maxRecDepth 100000 in
theorem law_walk {l : Launch} {Z : List Frame → Array Value → State → State → Prop} {G : Gx} {b L L0 k n : Nat} {xs : Nat → Int32} {w : Wd} (hcs : k ≤ room_1.cells ∧ n ≤ room_1.slots) {I : Nat} (hI6 : I + 6 ≤ L) (hL : L ≤ 3072) (hp : Pair l G 6 6 mX10_walk mX11_walk [aI (xs (I + 1)).toInt, aI (xs (I + 2)).toInt] w) (hb : ∀ w', Inv w' → V (lawX l Z G b L L0 xs k n) RL cL_law 1575 (locs I) [] w') : V (lawX l Z G b L L0 xs k n) RL cL_law 1209 (locs I) [] w := by
  refine v_aload_n 2 (pc' := 1210) rfl dL_law_1209 rfl rfl ?_
  refine v_arg (K := 1) dL_law_1210 dL_law_1211 dL_law_1212 dL_law_1213 dL_law_1214 rfl (by omega) hL rfl ?_
  refine v_arg (K := 2) dL_law_1215 dL_law_1216 dL_law_1217 dL_law_1218 dL_law_1219 rfl (by omega) hL rfl ?_
  refine v_callV (x := lawX l Z G b L L0 xs k n) (d := 6) (as := [aI (xs (I + 1)).toInt, aI (xs (I + 2)).toInt]) (st := []) dL_law_1220 lk_RL_140 ly_0 rfl (Nat.le_of_ble_eq_true rfl) ⟨Nat.le_of_ble_eq_true rfl, Nat.le_of_ble_eq_true rfl⟩ hcs hp (fun z w1 hq => ?_) rfl
  show V (lawX l Z G b L L0 xs k n) RL cL_law 1223 (locs I) [aI z] w1
  refine v_aload_n 1 (pc' := 1224) rfl dL_law_1223 rfl rfl ?_
  refine v_arg (K := 1) dL_law_1224 dL_law_1225 dL_law_1226 dL_law_1227 dL_law_1228 rfl (by omega) hL rfl ?_
  refine v_arg (K := 2) dL_law_1229 dL_law_1230 dL_law_1231 dL_law_1232 dL_law_1233 rfl (by omega) hL rfl ?_
  refine v_callV (x := lawX l Z G b L L0 xs k n) (d := 6) (as := [aI (xs (I + 1)).toInt, aI (xs (I + 2)).toInt]) (st := [aI z]) dL_law_1234 lk_RL_143 ly_63 rfl (Nat.le_of_ble_eq_true rfl) ⟨Nat.le_of_ble_eq_true rfl, Nat.le_of_ble_eq_true rfl⟩ hcs hq (fun z2 w2 hq2 => ?_) rfl
  obtain ⟨rfl, hI2⟩ := hq2
  show V (lawX l Z G b L L0 xs k n) RL cL_law 1237 (locs I) [aI z2, aI z2] w2
  exact v_same (tgt := 1575) dL_law_1237 (by decide) (hb w2 hI2)
set_option maxHeartbeats 4000000 in
set_option maxRecDepth 100000 in
theorem law_made {l : Launch} {Z : List Frame → Array Value → State → State → Prop} {G : Gx} {b L L0 k n : Nat} {xs : Nat → Int32} {w : Wd} (hcs : k ≤ room_1.cells ∧ n ≤ room_1.slots) {I : Nat} (hI6 : I + 6 ≤ L) (hL : L ≤ 3072) (hp : Pair l G 6 6 mX10_made mX11_made [aI (xs (I + 1)).toInt, aI (xs (I + 2)).toInt] w) (hb : ∀ w', Inv w' → V (lawX l Z G b L L0 xs k n) RL cL_law 1575 (locs I) [] w') : V (lawX l Z G b L L0 xs k n) RL cL_law 1242 (locs I) [] w := by
  refine v_aload_n 2 (pc' := 1243) rfl dL_law_1242 rfl rfl ?_
  refine v_arg (K := 1) dL_law_1243 dL_law_1244 dL_law_1245 dL_law_1246 dL_law_1247 rfl (by omega) hL rfl ?_
  refine v_arg (K := 2) dL_law_1248 dL_law_1249 dL_law_1250 dL_law_1251 dL_law_1252 rfl (by omega) hL rfl ?_
  refine v_callV (x := lawX l Z G b L L0 xs k n) (d := 6) (as := [aI (xs (I + 1)).toInt, aI (xs (I + 2)).toInt]) (st := []) dL_law_1253 lk_RL_144 ly_0 rfl (Nat.le_of_ble_eq_true rfl) ⟨Nat.le_of_ble_eq_true rfl, Nat.le_of_ble_eq_true rfl⟩ hcs hp (fun z w1 hq => ?_) rfl
  show V (lawX l Z G b L L0 xs k n) RL cL_law 1256 (locs I) [aI z] w1
  refine v_aload_n 1 (pc' := 1257) rfl dL_law_1256 rfl rfl ?_
  refine v_arg (K := 1) dL_law_1257 dL_law_1258 dL_law_1259 dL_law_1260 dL_law_1261 rfl (by omega) hL rfl ?_
  refine v_arg (K := 2) dL_law_1262 dL_law_1263 dL_law_1264 dL_law_1265 dL_law_1266 rfl (by omega) hL rfl ?_
  refine v_callV (x := lawX l Z G b L L0 xs k n) (d := 6) (as := [aI (xs (I + 1)).toInt, aI (xs (I + 2)).toInt]) (st := [aI z]) dL_law_1267 lk_RL_147 ly_63 rfl (Nat.le_of_ble_eq_true rfl) ⟨Nat.le_of_ble_eq_true rfl, Nat.le_of_ble_eq_true rfl⟩ hcs hq (fun z2 w2 hq2 => ?_) rfl
  obtain ⟨rfl, hI2⟩ := hq2
  show V (lawX l Z G b L L0 xs k n) RL cL_law 1270 (locs I) [aI z2, aI z2] w2
  exact v_same (tgt := 1575) dL_law_1270 (by decide) (hb w2 hI2)
set_option maxHeartbeats 4000000 in
set_option maxRecDepth 100000 in
theorem law_power {l : Launch} {Z : List Frame → Array Value → State → State → Prop} {G : Gx} {b L L0 k n : Nat} {xs : Nat → Int32} {w : Wd} (hcs : k ≤ room_1.cells ∧ n ≤ room_1.slots) {I : Nat} (hI6 : I + 6 ≤ L) (hL : L ≤ 3072) (hp : Pair l G 4 4 mX10_power mX11_power [aI (xs (I + 1)).toInt, aI (xs (I + 2)).toInt] w) (hb : ∀ w', Inv w' → V (lawX l Z G b L L0 xs k n) RL cL_law 1575 (locs I) [] w') : V (lawX l Z G b L L0 xs k n) RL cL_law 1275 (locs I) [] w := by
  refine v_aload_n 2 (pc' := 1276) rfl dL_law_1275 rfl rfl ?_
  refine v_arg (K := 1) dL_law_1276 dL_law_1277 dL_law_1278 dL_law_1279 dL_law_1280 rfl (by omega) hL rfl ?_
  refine v_arg (K := 2) dL_law_1281 dL_law_1282 dL_law_1283 dL_law_1284 dL_law_1285 rfl (by omega) hL rfl ?_
  refine v_callV (x := lawX l Z G b L L0 xs k n) (d := 4) (as := [aI (xs (I + 1)).toInt, aI (xs (I + 2)).toInt]) (st := []) dL_law_1286 lk_RL_148 ly_0 rfl (Nat.le_of_ble_eq_true rfl) ⟨Nat.le_of_ble_eq_true rfl, Nat.le_of_ble_eq_true rfl⟩ hcs hp (fun z w1 hq => ?_) rfl
  show V (lawX l Z G b L L0 xs k n) RL cL_law 1289 (locs I) [aI z] w1
  refine v_aload_n 1 (pc' := 1290) rfl dL_law_1289 rfl rfl ?_
  refine v_arg (K := 1) dL_law_1290 dL_law_1291 dL_law_1292 dL_law_1293 dL_law_1294 rfl (by omega) hL rfl ?_
  refine v_arg (K := 2) dL_law_1295 dL_law_1296 dL_law_1297 dL_law_1298 dL_law_1299 rfl (by omega) hL rfl ?_
  refine v_callV (x := lawX l Z G b L L0 xs k n) (d := 4) (as := [aI (xs (I + 1)).toInt, aI (xs (I + 2)).toInt]) (st := [aI z]) dL_law_1300 lk_RL_151 ly_63 rfl (Nat.le_of_ble_eq_true rfl) ⟨Nat.le_of_ble_eq_true rfl, Nat.le_of_ble_eq_true rfl⟩ hcs hq (fun z2 w2 hq2 => ?_) rfl
  obtain ⟨rfl, hI2⟩ := hq2
  show V (lawX l Z G b L L0 xs k n) RL cL_law 1303 (locs I) [aI z2, aI z2] w2
  exact v_same (tgt := 1575) dL_law_1303 (by decide) (hb w2 hI2)
set_option maxHeartbeats 4000000 in
set_option maxRecDepth 100000 in
theorem law_roots {l : Launch} {Z : List Frame → Array Value → State → State → Prop} {G : Gx} {b L L0 k n : Nat} {xs : Nat → Int32} {w : Wd} (hcs : k ≤ room_1.cells ∧ n ≤ room_1.slots) {I : Nat} (hI6 : I + 6 ≤ L) (hL : L ≤ 3072) (hp : Pair l G 4 4 mX10_roots mX11_roots [aI (xs (I + 1)).toInt, aI (xs (I + 2)).toInt, aI (xs (I + 3)).toInt] w) (hb : ∀ w', Inv w' → V (lawX l Z G b L L0 xs k n) RL cL_law 1575 (locs I) [] w') : V (lawX l Z G b L L0 xs k n) RL cL_law 1308 (locs I) [] w := by
  refine v_aload_n 2 (pc' := 1309) rfl dL_law_1308 rfl rfl ?_
  refine v_arg (K := 1) dL_law_1309 dL_law_1310 dL_law_1311 dL_law_1312 dL_law_1313 rfl (by omega) hL rfl ?_
  refine v_arg (K := 2) dL_law_1314 dL_law_1315 dL_law_1316 dL_law_1317 dL_law_1318 rfl (by omega) hL rfl ?_
  refine v_arg (K := 3) dL_law_1319 dL_law_1320 dL_law_1321 dL_law_1322 dL_law_1323 rfl (by omega) hL rfl ?_
  refine v_callV (x := lawX l Z G b L L0 xs k n) (d := 4) (as := [aI (xs (I + 1)).toInt, aI (xs (I + 2)).toInt, aI (xs (I + 3)).toInt]) (st := []) dL_law_1324 lk_RL_152 ly_0 rfl (Nat.le_of_ble_eq_true rfl) ⟨Nat.le_of_ble_eq_true rfl, Nat.le_of_ble_eq_true rfl⟩ hcs hp (fun z w1 hq => ?_) rfl
  show V (lawX l Z G b L L0 xs k n) RL cL_law 1327 (locs I) [aI z] w1
  refine v_aload_n 1 (pc' := 1328) rfl dL_law_1327 rfl rfl ?_
  refine v_arg (K := 1) dL_law_1328 dL_law_1329 dL_law_1330 dL_law_1331 dL_law_1332 rfl (by omega) hL rfl ?_
  refine v_arg (K := 2) dL_law_1333 dL_law_1334 dL_law_1335 dL_law_1336 dL_law_1337 rfl (by omega) hL rfl ?_
  refine v_arg (K := 3) dL_law_1338 dL_law_1339 dL_law_1340 dL_law_1341 dL_law_1342 rfl (by omega) hL rfl ?_
  refine v_callV (x := lawX l Z G b L L0 xs k n) (d := 4) (as := [aI (xs (I + 1)).toInt, aI (xs (I + 2)).toInt, aI (xs (I + 3)).toInt]) (st := [aI z]) dL_law_1343 lk_RL_155 ly_63 rfl (Nat.le_of_ble_eq_true rfl) ⟨Nat.le_of_ble_eq_true rfl, Nat.le_of_ble_eq_true rfl⟩ hcs hq (fun z2 w2 hq2 => ?_) rfl
  obtain ⟨rfl, hI2⟩ := hq2
  show V (lawX l Z G b L L0 xs k n) RL cL_law 1346 (locs I) [aI z2, aI z2] w2
  exact v_same (tgt := 1575) dL_law_1346 (by decide) (hb w2 hI2)
set_option maxHeartbeats 4000000 in
set_option maxRecDepth 100000 in
theorem law_reckon {l : Launch} {Z : List Frame → Array Value → State → State → Prop} {G : Gx} {b L L0 k n : Nat} {xs : Nat → Int32} {w : Wd} (hcs : k ≤ room_1.cells ∧ n ≤ room_1.slots) {I : Nat} (hI6 : I + 6 ≤ L) (hL : L ≤ 3072) (hp : Pair l G 3 3 mX10_reckon mX11_reckon [aI (xs (I + 1)).toInt, aI (xs (I + 2)).toInt, aI (xs (I + 3)).toInt] w) (hb : ∀ w', Inv w' → V (lawX l Z G b L L0 xs k n) RL cL_law 1575 (locs I) [] w') : V (lawX l Z G b L L0 xs k n) RL cL_law 1351 (locs I) [] w := by
  refine v_aload_n 2 (pc' := 1352) rfl dL_law_1351 rfl rfl ?_
  refine v_arg (K := 1) dL_law_1352 dL_law_1353 dL_law_1354 dL_law_1355 dL_law_1356 rfl (by omega) hL rfl ?_
  refine v_arg (K := 2) dL_law_1357 dL_law_1358 dL_law_1359 dL_law_1360 dL_law_1361 rfl (by omega) hL rfl ?_
  refine v_arg (K := 3) dL_law_1362 dL_law_1363 dL_law_1364 dL_law_1365 dL_law_1366 rfl (by omega) hL rfl ?_
  refine v_callV (x := lawX l Z G b L L0 xs k n) (d := 3) (as := [aI (xs (I + 1)).toInt, aI (xs (I + 2)).toInt, aI (xs (I + 3)).toInt]) (st := []) dL_law_1367 lk_RL_156 ly_0 rfl (Nat.le_of_ble_eq_true rfl) ⟨Nat.le_of_ble_eq_true rfl, Nat.le_of_ble_eq_true rfl⟩ hcs hp (fun z w1 hq => ?_) rfl
  show V (lawX l Z G b L L0 xs k n) RL cL_law 1370 (locs I) [aI z] w1
  refine v_aload_n 1 (pc' := 1371) rfl dL_law_1370 rfl rfl ?_
  refine v_arg (K := 1) dL_law_1371 dL_law_1372 dL_law_1373 dL_law_1374 dL_law_1375 rfl (by omega) hL rfl ?_
  refine v_arg (K := 2) dL_law_1376 dL_law_1377 dL_law_1378 dL_law_1379 dL_law_1380 rfl (by omega) hL rfl ?_
  refine v_arg (K := 3) dL_law_1381 dL_law_1382 dL_law_1383 dL_law_1384 dL_law_1385 rfl (by omega) hL rfl ?_
  refine v_callV (x := lawX l Z G b L L0 xs k n) (d := 3) (as := [aI (xs (I + 1)).toInt, aI (xs (I + 2)).toInt, aI (xs (I + 3)).toInt]) (st := [aI z]) dL_law_1386 lk_RL_159 ly_63 rfl (Nat.le_of_ble_eq_true rfl) ⟨Nat.le_of_ble_eq_true rfl, Nat.le_of_ble_eq_true rfl⟩ hcs hq (fun z2 w2 hq2 => ?_) rfl
  obtain ⟨rfl, hI2⟩ := hq2
  show V (lawX l Z G b L L0 xs k n) RL cL_law 1389 (locs I) [aI z2, aI z2] w2
  exact v_same (tgt := 1575) dL_law_1389 (by decide) (hb w2 hI2)
set_option maxHeartbeats 4000000 in
set_option maxRecDepth 100000 in
theorem law_way {l : Launch} {Z : List Frame → Array Value → State → State → Prop} {G : Gx} {b L L0 k n : Nat} {xs : Nat → Int32} {w : Wd} (hcs : k ≤ room_1.cells ∧ n ≤ room_1.slots) {I : Nat} (hI6 : I + 6 ≤ L) (hL : L ≤ 3072) (hp : Pair l G 2 2 mX10_way mX11_way [aI (xs (I + 1)).toInt, aI (xs (I + 2)).toInt] w) (hb : ∀ w', Inv w' → V (lawX l Z G b L L0 xs k n) RL cL_law 1575 (locs I) [] w') : V (lawX l Z G b L L0 xs k n) RL cL_law 1394 (locs I) [] w := by
  refine v_aload_n 2 (pc' := 1395) rfl dL_law_1394 rfl rfl ?_
  refine v_arg (K := 1) dL_law_1395 dL_law_1396 dL_law_1397 dL_law_1398 dL_law_1399 rfl (by omega) hL rfl ?_
  refine v_arg (K := 2) dL_law_1400 dL_law_1401 dL_law_1402 dL_law_1403 dL_law_1404 rfl (by omega) hL rfl ?_
  refine v_callV (x := lawX l Z G b L L0 xs k n) (d := 2) (as := [aI (xs (I + 1)).toInt, aI (xs (I + 2)).toInt]) (st := []) dL_law_1405 lk_RL_160 ly_0 rfl (Nat.le_of_ble_eq_true rfl) ⟨Nat.le_of_ble_eq_true rfl, Nat.le_of_ble_eq_true rfl⟩ hcs hp (fun z w1 hq => ?_) rfl
  show V (lawX l Z G b L L0 xs k n) RL cL_law 1408 (locs I) [aI z] w1
  refine v_aload_n 1 (pc' := 1409) rfl dL_law_1408 rfl rfl ?_
  refine v_arg (K := 1) dL_law_1409 dL_law_1410 dL_law_1411 dL_law_1412 dL_law_1413 rfl (by omega) hL rfl ?_
  refine v_arg (K := 2) dL_law_1414 dL_law_1415 dL_law_1416 dL_law_1417 dL_law_1418 rfl (by omega) hL rfl ?_
  refine v_callV (x := lawX l Z G b L L0 xs k n) (d := 2) (as := [aI (xs (I + 1)).toInt, aI (xs (I + 2)).toInt]) (st := [aI z]) dL_law_1419 lk_RL_163 ly_63 rfl (Nat.le_of_ble_eq_true rfl) ⟨Nat.le_of_ble_eq_true rfl, Nat.le_of_ble_eq_true rfl⟩ hcs hq (fun z2 w2 hq2 => ?_) rfl
  obtain ⟨rfl, hI2⟩ := hq2
  show V (lawX l Z G b L L0 xs k n) RL cL_law 1422 (locs I) [aI z2, aI z2] w2
  exact v_same (tgt := 1575) dL_law_1422 (by decide) (hb w2 hI2)
set_option maxHeartbeats 4000000 in
set_option maxRecDepth 100000 in
theorem law_meet {l : Launch} {Z : List Frame → Array Value → State → State → Prop} {G : Gx} {b L L0 k n : Nat} {xs : Nat → Int32} {w : Wd} (hcs : k ≤ room_1.cells ∧ n ≤ room_1.slots) {I : Nat} (hI6 : I + 6 ≤ L) (hL : L ≤ 3072) (hp : Pair l G 4 5 mX10_meet mX11_meet [aI (xs (I + 1)).toInt, aI (xs (I + 2)).toInt, aI (xs (I + 3)).toInt, aI (xs (I + 4)).toInt] w) (hb : ∀ w', Inv w' → V (lawX l Z G b L L0 xs k n) RL cL_law 1575 (locs I) [] w') : V (lawX l Z G b L L0 xs k n) RL cL_law 1427 (locs I) [] w := by
  refine v_aload_n 2 (pc' := 1428) rfl dL_law_1427 rfl rfl ?_
  refine v_arg (K := 1) dL_law_1428 dL_law_1429 dL_law_1430 dL_law_1431 dL_law_1432 rfl (by omega) hL rfl ?_
  refine v_arg (K := 2) dL_law_1433 dL_law_1434 dL_law_1435 dL_law_1436 dL_law_1437 rfl (by omega) hL rfl ?_
  refine v_arg (K := 3) dL_law_1438 dL_law_1439 dL_law_1440 dL_law_1441 dL_law_1442 rfl (by omega) hL rfl ?_
  refine v_arg (K := 4) dL_law_1443 dL_law_1444 dL_law_1445 dL_law_1446 dL_law_1447 rfl (by omega) hL rfl ?_
  refine v_callV (x := lawX l Z G b L L0 xs k n) (d := 4) (as := [aI (xs (I + 1)).toInt, aI (xs (I + 2)).toInt, aI (xs (I + 3)).toInt, aI (xs (I + 4)).toInt]) (st := []) dL_law_1448 lk_RL_164 ly_0 rfl (Nat.le_of_ble_eq_true rfl) ⟨Nat.le_of_ble_eq_true rfl, Nat.le_of_ble_eq_true rfl⟩ hcs hp (fun z w1 hq => ?_) rfl
  show V (lawX l Z G b L L0 xs k n) RL cL_law 1451 (locs I) [aI z] w1
  refine v_aload_n 1 (pc' := 1452) rfl dL_law_1451 rfl rfl ?_
  refine v_arg (K := 1) dL_law_1452 dL_law_1453 dL_law_1454 dL_law_1455 dL_law_1456 rfl (by omega) hL rfl ?_
  refine v_arg (K := 2) dL_law_1457 dL_law_1458 dL_law_1459 dL_law_1460 dL_law_1461 rfl (by omega) hL rfl ?_
  refine v_arg (K := 3) dL_law_1462 dL_law_1463 dL_law_1464 dL_law_1465 dL_law_1466 rfl (by omega) hL rfl ?_
  refine v_arg (K := 4) dL_law_1467 dL_law_1468 dL_law_1469 dL_law_1470 dL_law_1471 rfl (by omega) hL rfl ?_
  refine v_callV (x := lawX l Z G b L L0 xs k n) (d := 5) (as := [aI (xs (I + 1)).toInt, aI (xs (I + 2)).toInt, aI (xs (I + 3)).toInt, aI (xs (I + 4)).toInt]) (st := [aI z]) dL_law_1472 lk_RL_168 ly_63 rfl (Nat.le_of_ble_eq_true rfl) ⟨Nat.le_of_ble_eq_true rfl, Nat.le_of_ble_eq_true rfl⟩ hcs hq (fun z2 w2 hq2 => ?_) rfl
  obtain ⟨rfl, hI2⟩ := hq2
  show V (lawX l Z G b L L0 xs k n) RL cL_law 1475 (locs I) [aI z2, aI z2] w2
  exact v_same (tgt := 1575) dL_law_1475 (by decide) (hb w2 hI2)
set_option maxHeartbeats 4000000 in
set_option maxRecDepth 100000 in
theorem law_paste {l : Launch} {Z : List Frame → Array Value → State → State → Prop} {G : Gx} {b L L0 k n : Nat} {xs : Nat → Int32} {w : Wd} (hcs : k ≤ room_1.cells ∧ n ≤ room_1.slots) {I : Nat} (hI6 : I + 6 ≤ L) (hL : L ≤ 3072) (hp : Pair l G 11 4 mX10_paste mX11_paste [] w) (hb : ∀ w', Inv w' → V (lawX l Z G b L L0 xs k n) RL cL_law 1575 (locs I) [] w') : V (lawX l Z G b L L0 xs k n) RL cL_law 1480 (locs I) [] w := by
  refine v_aload_n 2 (pc' := 1481) rfl dL_law_1480 rfl rfl ?_
  refine v_callV (x := lawX l Z G b L L0 xs k n) (d := 11) (as := []) (st := []) dL_law_1481 lk_RL_169 ly_0 rfl (Nat.le_of_ble_eq_true rfl) ⟨Nat.le_of_ble_eq_true rfl, Nat.le_of_ble_eq_true rfl⟩ hcs hp (fun z w1 hq => ?_) rfl
  show V (lawX l Z G b L L0 xs k n) RL cL_law 1484 (locs I) [aI z] w1
  refine v_aload_n 1 (pc' := 1485) rfl dL_law_1484 rfl rfl ?_
  refine v_callV (x := lawX l Z G b L L0 xs k n) (d := 4) (as := []) (st := [aI z]) dL_law_1485 lk_RL_172 ly_63 rfl (Nat.le_of_ble_eq_true rfl) ⟨Nat.le_of_ble_eq_true rfl, Nat.le_of_ble_eq_true rfl⟩ hcs hq (fun z2 w2 hq2 => ?_) rfl
  obtain ⟨rfl, hI2⟩ := hq2
  show V (lawX l Z G b L L0 xs k n) RL cL_law 1488 (locs I) [aI z2, aI z2] w2
  exact v_same (tgt := 1575) dL_law_1488 (by decide) (hb w2 hI2)
set_option maxHeartbeats 4000000 in
set_option maxRecDepth 100000 in
theorem law_piece {l : Launch} {Z : List Frame → Array Value → State → State → Prop} {G : Gx} {b L L0 k n : Nat} {xs : Nat → Int32} {w : Wd} (hcs : k ≤ room_1.cells ∧ n ≤ room_1.slots) {I : Nat} (hI6 : I + 6 ≤ L) (hL : L ≤ 3072) (hp : Pair l G 4 1 mX10_piece mX11_piece [aI (xs (I + 1)).toInt, aI (xs (I + 2)).toInt] w) (hb : ∀ w', Inv w' → V (lawX l Z G b L L0 xs k n) RL cL_law 1575 (locs I) [] w') : V (lawX l Z G b L L0 xs k n) RL cL_law 1493 (locs I) [] w := by
  refine v_aload_n 2 (pc' := 1494) rfl dL_law_1493 rfl rfl ?_
  refine v_arg (K := 1) dL_law_1494 dL_law_1495 dL_law_1496 dL_law_1497 dL_law_1498 rfl (by omega) hL rfl ?_
  refine v_arg (K := 2) dL_law_1499 dL_law_1500 dL_law_1501 dL_law_1502 dL_law_1503 rfl (by omega) hL rfl ?_
  refine v_callV (x := lawX l Z G b L L0 xs k n) (d := 4) (as := [aI (xs (I + 1)).toInt, aI (xs (I + 2)).toInt]) (st := []) dL_law_1504 lk_RL_173 ly_0 rfl (Nat.le_of_ble_eq_true rfl) ⟨Nat.le_of_ble_eq_true rfl, Nat.le_of_ble_eq_true rfl⟩ hcs hp (fun z w1 hq => ?_) rfl
  show V (lawX l Z G b L L0 xs k n) RL cL_law 1507 (locs I) [aI z] w1
  refine v_aload_n 1 (pc' := 1508) rfl dL_law_1507 rfl rfl ?_
  refine v_arg (K := 1) dL_law_1508 dL_law_1509 dL_law_1510 dL_law_1511 dL_law_1512 rfl (by omega) hL rfl ?_
  refine v_arg (K := 2) dL_law_1513 dL_law_1514 dL_law_1515 dL_law_1516 dL_law_1517 rfl (by omega) hL rfl ?_
  refine v_callV (x := lawX l Z G b L L0 xs k n) (d := 1) (as := [aI (xs (I + 1)).toInt, aI (xs (I + 2)).toInt]) (st := [aI z]) dL_law_1518 lk_RL_176 ly_63 rfl (Nat.le_of_ble_eq_true rfl) ⟨Nat.le_of_ble_eq_true rfl, Nat.le_of_ble_eq_true rfl⟩ hcs hq (fun z2 w2 hq2 => ?_) rfl
  obtain ⟨rfl, hI2⟩ := hq2
  show V (lawX l Z G b L L0 xs k n) RL cL_law 1521 (locs I) [aI z2, aI z2] w2
  exact v_same (tgt := 1575) dL_law_1521 (by decide) (hb w2 hI2)
set_option maxHeartbeats 4000000 in
set_option maxRecDepth 100000 in
theorem law_take {l : Launch} {Z : List Frame → Array Value → State → State → Prop} {G : Gx} {b L L0 k n : Nat} {xs : Nat → Int32} {w : Wd} (hcs : k ≤ room_1.cells ∧ n ≤ room_1.slots) {I : Nat} (hI6 : I + 6 ≤ L) (hL : L ≤ 3072) (hp : Pair l G 0 5 mX10_take mX11_take [aI (xs (I + 1)).toInt] w) (hb : ∀ w', Inv w' → V (lawX l Z G b L L0 xs k n) RL cL_law 1575 (locs I) [] w') : V (lawX l Z G b L L0 xs k n) RL cL_law 1526 (locs I) [] w := by
  refine v_aload_n 2 (pc' := 1527) rfl dL_law_1526 rfl rfl ?_
  refine v_arg (K := 1) dL_law_1527 dL_law_1528 dL_law_1529 dL_law_1530 dL_law_1531 rfl (by omega) hL rfl ?_
  refine v_callV (x := lawX l Z G b L L0 xs k n) (d := 0) (as := [aI (xs (I + 1)).toInt]) (st := []) dL_law_1532 lk_RL_177 ly_0 rfl (Nat.le_of_ble_eq_true rfl) ⟨Nat.le_of_ble_eq_true rfl, Nat.le_of_ble_eq_true rfl⟩ hcs hp (fun z w1 hq => ?_) rfl
  show V (lawX l Z G b L L0 xs k n) RL cL_law 1535 (locs I) [aI z] w1
  refine v_aload_n 1 (pc' := 1536) rfl dL_law_1535 rfl rfl ?_
  refine v_arg (K := 1) dL_law_1536 dL_law_1537 dL_law_1538 dL_law_1539 dL_law_1540 rfl (by omega) hL rfl ?_
  refine v_callV (x := lawX l Z G b L L0 xs k n) (d := 5) (as := [aI (xs (I + 1)).toInt]) (st := [aI z]) dL_law_1541 lk_RL_180 ly_63 rfl (Nat.le_of_ble_eq_true rfl) ⟨Nat.le_of_ble_eq_true rfl, Nat.le_of_ble_eq_true rfl⟩ hcs hq (fun z2 w2 hq2 => ?_) rfl
  obtain ⟨rfl, hI2⟩ := hq2
  show V (lawX l Z G b L L0 xs k n) RL cL_law 1544 (locs I) [aI z2, aI z2] w2
  exact v_same (tgt := 1575) dL_law_1544 (by decide) (hb w2 hI2)
set_option maxHeartbeats 4000000 in
set_option maxRecDepth 100000 in
theorem law_keep {l : Launch} {Z : List Frame → Array Value → State → State → Prop} {G : Gx} {b L L0 k n : Nat} {xs : Nat → Int32} {w : Wd} (hcs : k ≤ room_1.cells ∧ n ≤ room_1.slots) {I : Nat} (hI6 : I + 6 ≤ L) (hL : L ≤ 3072) (hI : Inv w) (hb : ∀ w', Inv w' → V (lawX l Z G b L L0 xs k n) RL cL_law 1575 (locs I) [] w') : V (lawX l Z G b L L0 xs k n) RL cL_law 1549 (locs I) [] w := by
  obtain ⟨d, hd, hp⟩ := pr_keep l G hI
  refine v_aload_n 2 (pc' := 1550) rfl dL_law_1549 rfl rfl ?_
  refine v_callV (x := lawX l Z G b L L0 xs k n) (d := d) (as := []) (st := []) dL_law_1550 lk_RL_181 ly_0 rfl (Nat.le_of_ble_eq_true rfl) ⟨Nat.le_trans (Nat.add_le_add_right hd 1) (Nat.le_of_ble_eq_true rfl), Nat.le_trans (Nat.add_le_add_left (Nat.mul_le_mul_left 40 hd) _) (Nat.le_of_ble_eq_true rfl)⟩ hcs hp (fun z w1 hq => ?_) rfl
  show V (lawX l Z G b L L0 xs k n) RL cL_law 1553 (locs I) [aI z] w1
  refine v_aload_n 1 (pc' := 1554) rfl dL_law_1553 rfl rfl ?_
  refine v_callV (x := lawX l Z G b L L0 xs k n) (d := 0) (as := []) (st := [aI z]) dL_law_1554 lk_RL_184 ly_63 rfl (Nat.le_of_ble_eq_true rfl) ⟨Nat.le_of_ble_eq_true rfl, Nat.le_of_ble_eq_true rfl⟩ hcs hq (fun z2 w2 hq2 => ?_) rfl
  obtain ⟨rfl, hI2⟩ := hq2
  show V (lawX l Z G b L L0 xs k n) RL cL_law 1557 (locs I) [aI z2, aI z2] w2
  exact v_same (tgt := 1575) dL_law_1557 (by decide) (hb w2 hI2)
set_option maxHeartbeats 4000000 in
set_option maxRecDepth 100000 in
theorem law_undo {l : Launch} {Z : List Frame → Array Value → State → State → Prop} {G : Gx} {b L L0 k n : Nat} {xs : Nat → Int32} {w : Wd} (hcs : k ≤ room_1.cells ∧ n ≤ room_1.slots) {I : Nat} (hI6 : I + 6 ≤ L) (hL : L ≤ 3072) (hI : Inv w) (hb : ∀ w', Inv w' → V (lawX l Z G b L L0 xs k n) RL cL_law 1575 (locs I) [] w') : V (lawX l Z G b L L0 xs k n) RL cL_law 1562 (locs I) [] w := by
  obtain ⟨d, d2, hd, hd2, hp⟩ := pr_undo l G hI
  refine v_aload_n 2 (pc' := 1563) rfl dL_law_1562 rfl rfl ?_
  refine v_callV (x := lawX l Z G b L L0 xs k n) (d := d) (as := []) (st := []) dL_law_1563 lk_RL_185 ly_0 rfl (Nat.le_of_ble_eq_true rfl) ⟨Nat.le_trans (Nat.add_le_add_right hd 1) (Nat.le_of_ble_eq_true rfl), Nat.le_trans (Nat.add_le_add_left (Nat.mul_le_mul_left 40 hd) _) (Nat.le_of_ble_eq_true rfl)⟩ hcs hp (fun z w1 hq => ?_) rfl
  show V (lawX l Z G b L L0 xs k n) RL cL_law 1566 (locs I) [aI z] w1
  refine v_aload_n 1 (pc' := 1567) rfl dL_law_1566 rfl rfl ?_
  refine v_callV (x := lawX l Z G b L L0 xs k n) (d := d2) (as := []) (st := [aI z]) dL_law_1567 lk_RL_188 ly_63 rfl (Nat.le_of_ble_eq_true rfl) ⟨Nat.le_trans (Nat.add_le_add_right hd2 1) (Nat.le_of_ble_eq_true rfl), Nat.le_trans (Nat.add_le_add_left (Nat.mul_le_mul_left 40 hd2) _) (Nat.le_of_ble_eq_true rfl)⟩ hcs hq (fun z2 w2 hq2 => ?_) rfl
  obtain ⟨rfl, hI2⟩ := hq2
  show V (lawX l Z G b L L0 xs k n) RL cL_law 1570 (locs I) [aI z2, aI z2] w2
  exact v_same (tgt := 1575) dL_law_1570 (by decide) (hb w2 hI2)
set_option maxHeartbeats 4000000 in
set_option maxRecDepth 100000 in
theorem law_loop {l : Launch} {Z : List Frame → Array Value → State → State → Prop} {G : Gx} {b L L0 k n : Nat} {xs : Nat → Int32} (h64 : OP64) (hsz : OPSZ) (hord : ORD) (hmas : MAS) (hset : SETC) (hgen : GENH) (h12 : FAM12) (hblk : BLKD) (hgc : GCON) (hce : CYCE) (hbe : BLKE) (hfe : FAME) (hwe : WAYE) (hmd : MADE) (hcs : k ≤ room_1.cells ∧ n ≤ room_1.slots) (hL : L ≤ 3072) (hend : ∀ (I : Nat) (w : Wd), V (lawX l Z G b L L0 xs k n) RL cL_law 1581 (locs I) [] w) (w0 : Wd) (hI0 : Inv w0) : V (lawX l Z G b L L0 xs k n) RL cL_law 18 (locs 0) [] w0 := by
  refine v_loop (σ := Nat × Wd) 18 (fun a => Inv a.2 ∧ a.1 ≤ L) (fun a => L - a.1) (fun a => locs a.1) (fun _ => []) (fun a => a.2) ?_ (0, w0) ⟨hI0, Nat.zero_le _⟩
  rintro ⟨I, w⟩ ⟨hI, hIL⟩ ih
  show V (lawX l Z G b L L0 xs k n) RL cL_law 18 (locs I) [] w
  have hI : Inv w := hI
  have hIL : I ≤ L := hIL
  refine v_iload_n 0 (pc' := 19) rfl dL_law_18 rfl rfl ?_
  refine v_aload_n 3 (pc' := 20) rfl dL_law_19 rfl rfl ?_
  refine v_slen (pc' := 21) rfl dL_law_20 ?_
  refine v_bipush (pc' := 23) rfl dL_law_21 rfl ?_
  refine v_isub (pc' := 24) rfl dL_law_23 ?_
  refine v_icmp_gt (pc' := 27) (tgt := 1581) rfl dL_law_24 (by decide) (by omega) (by omega) (fun _ => hend I w) (fun c0 => ?_)
  have hI6 : I + 6 ≤ L := by omega
  have hb : ∀ w', Inv w' → V (lawX l Z G b L L0 xs k n) RL cL_law 1575 (locs I) [] w' := fun w' hI' => by
    refine v_iinc (ls' := locs (I + 6)) 0 (pc' := 1578) rfl dL_law_1575 rfl rfl rfl ?_
    refine v_goto (tgt := 18) dL_law_1578 (by decide) ?_
    exact ih (I + 6, w') ⟨hI', hI6⟩ (by show L - (I + 6) < L - I; omega)
  refine v_aload_n 3 (pc' := 28) rfl dL_law_27 rfl rfl ?_
  refine v_iload_n 0 (pc' := 29) rfl dL_law_28 rfl rfl ?_
  refine v_sld (pc' := 30) (z := (xs I).toInt) rfl dL_law_29 (by omega) (by omega) (by omega) rfl ?_
  refine v_bipush (pc' := 32) rfl dL_law_30 rfl ?_
  refine v_iand (z := (xs I).toInt % 64) (pc' := 33) rfl dL_law_32 (iz_and63 _) ?_
  have r : ∀ j : Nat, rg (xs (I + j)).toInt := fun j => rg_toInt _
  rcases (show (xs I).toInt % 64 = 0 ∨ (xs I).toInt % 64 = 1 ∨ (xs I).toInt % 64 = 2 ∨ (xs I).toInt % 64 = 3 ∨ (xs I).toInt % 64 = 4 ∨ (xs I).toInt % 64 = 5 ∨ (xs I).toInt % 64 = 6 ∨ (xs I).toInt % 64 = 7 ∨ (xs I).toInt % 64 = 8 ∨ (xs I).toInt % 64 = 9 ∨ (xs I).toInt % 64 = 10 ∨ (xs I).toInt % 64 = 11 ∨ (xs I).toInt % 64 = 12 ∨ (xs I).toInt % 64 = 13 ∨ (xs I).toInt % 64 = 14 ∨ (xs I).toInt % 64 = 15 ∨ (xs I).toInt % 64 = 16 ∨ (xs I).toInt % 64 = 17 ∨ (xs I).toInt % 64 = 18 ∨ (xs I).toInt % 64 = 19 ∨ (xs I).toInt % 64 = 20 ∨ (xs I).toInt % 64 = 21 ∨ (xs I).toInt % 64 = 22 ∨ (xs I).toInt % 64 = 23 ∨ (xs I).toInt % 64 = 24 ∨ (xs I).toInt % 64 = 25 ∨ (xs I).toInt % 64 = 26 ∨ (xs I).toInt % 64 = 27 ∨ (xs I).toInt % 64 = 28 ∨ (xs I).toInt % 64 = 29 ∨ (xs I).toInt % 64 = 30 ∨ (xs I).toInt % 64 = 31 ∨ (xs I).toInt % 64 = 32 ∨ (xs I).toInt % 64 = 33 ∨ (xs I).toInt % 64 = 34 ∨ (xs I).toInt % 64 = 35 ∨ (xs I).toInt % 64 = 36 ∨ (xs I).toInt % 64 = 37 ∨ (xs I).toInt % 64 = 38 ∨ (xs I).toInt % 64 = 39 ∨ (xs I).toInt % 64 = 40 ∨ (xs I).toInt % 64 = 41 ∨ ((xs I).toInt % 64 < 0 ∨ 41 < (xs I).toInt % 64) by omega) with sw | sw | sw | sw | sw | sw | sw | sw | sw | sw | sw | sw | sw | sw | sw | sw | sw | sw | sw | sw | sw | sw | sw | sw | sw | sw | sw | sw | sw | sw | sw | sw | sw | sw | sw | sw | sw | sw | sw | sw | sw | sw | sw
  · refine v_tin (tgt := 216) 0 dL_law_33 sw (by decide) (by decide) (by decide) rfl (by decide) ?_
    exact law_feed hcs hI6 hL (pr_feed l G (r 1) (r 2) (r 3) (r 4) (r 5)  hI) hb
  · refine v_tin (tgt := 279) 1 dL_law_33 sw (by decide) (by decide) (by decide) rfl (by decide) ?_
    exact law_degree hcs hI6 hL (pr_degree l G (r 1)  hI) hb
  · refine v_tin (tgt := 302) 2 dL_law_33 sw (by decide) (by decide) (by decide) rfl (by decide) ?_
    exact law_set hcs hI6 hL (pr_set l G (r 1) (r 2)  hI) hb
  · refine v_tin (tgt := 335) 3 dL_law_33 sw (by decide) (by decide) (by decide) rfl (by decide) ?_
    exact law_text hcs hI6 hL (pr_text l G (r 1) (r 2)  hI) hb
  · refine v_tin (tgt := 368) 4 dL_law_33 sw (by decide) (by decide) (by decide) rfl (by decide) ?_
    exact law_drawn hcs hI6 hL (pr_drawn l G (r 1)  hI) hb
  · refine v_tin (tgt := 391) 5 dL_law_33 sw (by decide) (by decide) (by decide) rfl (by decide) ?_
    exact law_operate hcs hI6 hL (pr_operate l G (r 1)  hI) hb
  · refine v_tin (tgt := 414) 6 dL_law_33 sw (by decide) (by decide) (by decide) rfl (by decide) ?_
    exact law_tidy hcs hI6 hL (pr_tidy l G   hI) hb
  · refine v_tin (tgt := 427) 7 dL_law_33 sw (by decide) (by decide) (by decide) rfl (by decide) ?_
    exact law_code hcs hI6 hL (pr_code l G (r 1)  hI) hb
  · refine v_tin (tgt := 450) 8 dL_law_33 sw (by decide) (by decide) (by decide) rfl (by decide) ?_
    exact law_type hcs hI6 hL (pr_type l G (r 1)  hI) hb
  · refine v_tin (tgt := 473) 9 dL_law_33 sw (by decide) (by decide) (by decide) rfl (by decide) ?_
    exact law_cycles hcs hI6 hL (pr_cycles l G (r 1) (r 2) hce hI) hb
  · refine v_tin (tgt := 506) 10 dL_law_33 sw (by decide) (by decide) (by decide) rfl (by decide) ?_
    exact law_along hcs hI6 hL (pr_along l G (r 1) (r 2) (r 3)  hI) hb
  · refine v_tin (tgt := 549) 11 dL_law_33 sw (by decide) (by decide) (by decide) rfl (by decide) ?_
    exact law_count hcs hI6 hL (pr_count l G (r 1) h64 hord hset hblk hI) hb
  · refine v_tin (tgt := 572) 12 dL_law_33 sw (by decide) (by decide) (by decide) rfl (by decide) ?_
    exact law_part hcs hI6 hL (pr_part l G (r 1) (r 2)  hI) hb
  · refine v_tin (tgt := 605) 13 dL_law_33 sw (by decide) (by decide) (by decide) rfl (by decide) ?_
    exact law_canon hcs hI6 hL (pr_canon l G (r 1)  hI) hb
  · refine v_tin (tgt := 628) 14 dL_law_33 sw (by decide) (by decide) (by decide) rfl (by decide) ?_
    exact law_point hcs hI6 hL (pr_point l G (r 1) (r 2) (r 3)  hI) hb
  · refine v_tin (tgt := 671) 15 dL_law_33 sw (by decide) (by decide) (by decide) rfl (by decide) ?_
    exact law_same hcs hI6 hL (pr_same l G (r 1) (r 2)  hI) hb
  · refine v_tin (tgt := 704) 16 dL_law_33 sw (by decide) (by decide) (by decide) rfl (by decide) ?_
    exact law_label hcs hI6 hL (pr_label l G (r 1) (r 2)  hI) hb
  · refine v_tin (tgt := 737) 17 dL_law_33 sw (by decide) (by decide) (by decide) rfl (by decide) ?_
    exact law_ofType hcs hI6 hL (pr_ofType l G (r 1)  hI) hb
  · refine v_tin (tgt := 760) 18 dL_law_33 sw (by decide) (by decide) (by decide) rfl (by decide) ?_
    exact law_elements hcs hI6 hL (pr_elements l G (r 1)  hI) hb
  · refine v_tin (tgt := 783) 19 dL_law_33 sw (by decide) (by decide) (by decide) rfl (by decide) ?_
    exact law_length hcs hI6 hL (pr_length l G (r 1)  hI) hb
  · refine v_tin (tgt := 806) 20 dL_law_33 sw (by decide) (by decide) (by decide) rfl (by decide) ?_
    exact law_block hcs hI6 hL (pr_block l G (r 1) (r 2) hblk hbe hI) hb
  · refine v_tin (tgt := 839) 21 dL_law_33 sw (by decide) (by decide) (by decide) rfl (by decide) ?_
    exact law_kinds hcs hI6 hL (pr_kinds l G (r 1)  hI) hb
  · refine v_tin (tgt := 862) 22 dL_law_33 sw (by decide) (by decide) (by decide) rfl (by decide) ?_
    exact law_size hcs hI6 hL (pr_size l G (r 1) hsz hI) hb
  · refine v_tin (tgt := 885) 23 dL_law_33 sw (by decide) (by decide) (by decide) rfl (by decide) ?_
    exact law_character hcs hI6 hL (pr_character l G (r 1) (r 2)  hI) hb
  · refine v_tin (tgt := 918) 24 dL_law_33 sw (by decide) (by decide) (by decide) rfl (by decide) ?_
    exact law_triples hcs hI6 hL (pr_triples l G (r 1) (r 2) (r 3) (r 4) hsz hI) hb
  · refine v_tin (tgt := 972) 25 dL_law_33 sw (by decide) (by decide) (by decide) rfl (by decide) ?_
    exact law_classes hcs hI6 hL (pr_classes l G (r 1) (r 2) (r 3) (r 4) (r 5) h64 hord hI) hb
  · refine v_tin (tgt := 1035) 26 dL_law_33 sw (by decide) (by decide) (by decide) rfl (by decide) ?_
    exact law_mass hcs hI6 hL (pr_mass l G (r 1) (r 2) (r 3) (r 4) h64 hmas hI) hb
  · refine v_tin (tgt := 1089) 27 dL_law_33 sw (by decide) (by decide) (by decide) rfl (by decide) ?_
    exact law_genera hcs hI6 hL (pr_genera l G (r 1) (r 2) (r 3) hsz hgen hI) hb
  · refine v_tin (tgt := 1133) 28 dL_law_33 sw (by decide) (by decide) (by decide) rfl (by decide) ?_
    exact law_thirds hcs hI6 hL (pr_thirds l G (r 1) (r 2) (r 3)  hI) hb
  · refine v_tin (tgt := 1176) 29 dL_law_33 sw (by decide) (by decide) (by decide) rfl (by decide) ?_
    exact law_family hcs hI6 hL (pr_family l G (r 1) (r 2) h12 hfe hI) hb
  · refine v_tin (tgt := 1209) 30 dL_law_33 sw (by decide) (by decide) (by decide) rfl (by decide) ?_
    exact law_walk hcs hI6 hL (pr_walk l G (r 1) (r 2)  hI) hb
  · refine v_tin (tgt := 1242) 31 dL_law_33 sw (by decide) (by decide) (by decide) rfl (by decide) ?_
    exact law_made hcs hI6 hL (pr_made l G (r 1) (r 2) hmd hI) hb
  · refine v_tin (tgt := 1275) 32 dL_law_33 sw (by decide) (by decide) (by decide) rfl (by decide) ?_
    exact law_power hcs hI6 hL (pr_power l G (r 1) (r 2)  hI) hb
  · refine v_tin (tgt := 1308) 33 dL_law_33 sw (by decide) (by decide) (by decide) rfl (by decide) ?_
    exact law_roots hcs hI6 hL (pr_roots l G (r 1) (r 2) (r 3)  hI) hb
  · refine v_tin (tgt := 1351) 34 dL_law_33 sw (by decide) (by decide) (by decide) rfl (by decide) ?_
    exact law_reckon hcs hI6 hL (pr_reckon l G (r 1) (r 2) (r 3)  hI) hb
  · refine v_tin (tgt := 1394) 35 dL_law_33 sw (by decide) (by decide) (by decide) rfl (by decide) ?_
    exact law_way hcs hI6 hL (pr_way l G (r 1) (r 2) hwe hI) hb
  · refine v_tin (tgt := 1427) 36 dL_law_33 sw (by decide) (by decide) (by decide) rfl (by decide) ?_
    exact law_meet hcs hI6 hL (pr_meet l G (r 1) (r 2) (r 3) (r 4)  hI) hb
  · refine v_tin (tgt := 1480) 37 dL_law_33 sw (by decide) (by decide) (by decide) rfl (by decide) ?_
    exact law_paste hcs hI6 hL (pr_paste l G  hgc hI) hb
  · refine v_tin (tgt := 1493) 38 dL_law_33 sw (by decide) (by decide) (by decide) rfl (by decide) ?_
    exact law_piece hcs hI6 hL (pr_piece l G (r 1) (r 2)  hI) hb
  · refine v_tin (tgt := 1526) 39 dL_law_33 sw (by decide) (by decide) (by decide) rfl (by decide) ?_
    exact law_take hcs hI6 hL (pr_take l G (r 1)  hI) hb
  · refine v_tin (tgt := 1549) 40 dL_law_33 sw (by decide) (by decide) (by decide) rfl (by decide) ?_
    exact law_keep hcs hI6 hL hI hb
  · refine v_tin (tgt := 1562) 41 dL_law_33 sw (by decide) (by decide) (by decide) rfl (by decide) ?_
    exact law_undo hcs hI6 hL hI hb
  · refine v_tout (tgt := 1575) dL_law_33 (by omega) sw (by decide) ?_
    exact hb w hI

/-! ===== all permutations of n, by their numbers ===== -/
def dg (c : Nat) : Nat → Nat := fun x => if 1 ≤ x ∧ x ≤ 7 then c / 16 ^ (7 - x) % 16 else x
def dsel (n free : Nat) : List Nat := [1, 2, 3, 4, 5, 6, 7].filter (fun d => Nat.ble d n && !(free &&& bt d == 0))
def permsGo (n : Nat) : Nat → Nat → Nat → List Nat
  | 0, _, c => [c]
  | k + 1, free, c => (dsel n free).flatMap (fun d => permsGo n k (andn free (bt d)) (16 * c + d))
def PH (n : Nat) : List Nat := (permsGo n n (full n) 0).map (fun c => c * 16 ^ (7 - n) + hx (tl n))
theorem dsel_mem {n free d : Nat} : d ∈ dsel n free ↔ (1 ≤ d ∧ d ≤ 7) ∧ d ≤ n ∧ hasb free d := by
  unfold dsel hasb
  rw [List.mem_filter]
  simp only [List.mem_cons, List.not_mem_nil, or_false, Bool.and_eq_true, Nat.ble_eq, Bool.not_eq_true', beq_eq_false_iff_ne]
  constructor
  · rintro ⟨h, a, b⟩; exact ⟨by omega, a, b⟩
  · rintro ⟨h, a, b⟩; exact ⟨by omega, a, b⟩
theorem permsGo_mem {n : Nat} {f : Nat → Nat} (hf : Pm n f) (hn : n ≤ 7) : ∀ k free, k ≤ n → free < 128 → (∀ y, 1 ≤ y → y ≤ 7 → (hasb free y ↔ y ≤ n ∧ ∀ z, 1 ≤ z → z ≤ n - k → f z ≠ y)) → hxk f n ∈ permsGo n k free (hxk f (n - k))
  | 0, free, _, _, _ => by simp [permsGo]
  | k + 1, free, hk, hl, h => by
    have c := hf.1 (n - k) (by omega) (by omega)
    have e : 16 * hxk f (n - (k + 1)) + f (n - k) = hxk f (n - k) := by
      rw [show n - k = (n - (k + 1)) + 1 by omega]; rfl
    simp only [permsGo, List.mem_flatMap]
    have hd : hasb free (f (n - k)) := by
      rw [h _ c.1 (by omega)]
      refine ⟨c.2, fun z a b e2 => ?_⟩
      have := hf.inj e2
      omega
    refine ⟨f (n - k), dsel_mem.mpr ⟨by omega, c.2, hd⟩, ?_⟩
    rw [e]
    refine permsGo_mem hf hn k _ (by omega) (andn_lt7 hl) (fun y a b => ?_)
    rw [hasb_andn hl (bt_lt c.1 (by omega)) a b, h y a b]
    have hb : hasb (bt (f (n - k))) y ↔ y = f (n - k) := by
      have := hasb_or (u := 0) (v := f (n - k)) (y := y) (by decide) c.1 (by omega) a b
      rw [Nat.zero_or] at this
      rw [this]
      unfold hasb
      rw [Nat.zero_and]
      simp
    rw [hb]
    constructor
    · rintro ⟨⟨p, q⟩, r⟩
      refine ⟨p, fun z a2 b2 => ?_⟩
      by_cases s : z = n - k
      · rw [s]; exact fun e2 => r e2.symm
      · exact q z a2 (by omega)
    · rintro ⟨p, q⟩
      exact ⟨⟨p, fun z a2 b2 => q z a2 (by omega)⟩, fun e2 => q (n - k) (by omega) (by omega) e2.symm⟩
theorem hxk_split {n : Nat} {f : Nat → Nat} (hf : Pm n f) : ∀ j, hxk f (n + j) = hxk f n * 16 ^ j + hxk (tl n) (n + j) := by
  have h0 : ∀ k, k ≤ n → hxk (tl n) k = 0 := by
    intro k
    induction k with
    | zero => intro _; rfl
    | succ k ih => intro h; simp only [hxk]; rw [ih (by omega)]; unfold tl; rw [if_neg (by omega)]
  intro j
  induction j with
  | zero => rw [Nat.add_zero, h0 n (Nat.le_refl _)]; simp
  | succ j ih =>
    rw [show n + (j + 1) = (n + j) + 1 by omega]
    simp only [hxk]
    rw [ih, hf.2.2 (n + j + 1) (Or.inr (by omega)), Nat.pow_succ]
    have : tl n (n + j + 1) = n + j + 1 := by unfold tl; rw [if_pos (by omega)]
    rw [this, Nat.mul_add, ← Nat.mul_assoc]
    have e : 16 * hxk f n * 16 ^ j = hxk f n * (16 ^ j * 16) := by rw [Nat.mul_comm 16, Nat.mul_assoc, Nat.mul_comm 16]
    omega
theorem PH_mem {n : Nat} {f : Nat → Nat} (hf : Pm n f) (hn : n ≤ 7) : hx f ∈ PH n := by
  unfold PH
  rw [List.mem_map]
  refine ⟨hxk f n, ?_, ?_⟩
  · have := permsGo_mem hf hn n (full n) (Nat.le_refl _) (full_lt hn) (fun y a b => by
      rw [hasb_full hn a b]
      exact ⟨fun h => ⟨h, fun z p q => by omega⟩, fun h => h.1⟩)
    rw [Nat.sub_self] at this
    exact this
  · have := hxk_split hf (7 - n)
    rw [show n + (7 - n) = 7 by omega] at this
    exact this.symm
theorem dg_hx {n : Nat} {f : Nat → Nat} (hf : Pm n f) (hn : n ≤ 7) : dg (hx f) = f := by
  funext x
  unfold dg
  by_cases h : 1 ≤ x ∧ x ≤ 7
  · rw [if_pos h]
    have hB := hf.B hn
    have a1 := hB 1 (by omega) (by omega)
    have a2 := hB 2 (by omega) (by omega)
    have a3 := hB 3 (by omega) (by omega)
    have a4 := hB 4 (by omega) (by omega)
    have a5 := hB 5 (by omega) (by omega)
    have a6 := hB 6 (by omega) (by omega)
    have a7 := hB 7 (by omega) (by omega)
    rw [hx_eq]
    rcases (show x = 1 ∨ x = 2 ∨ x = 3 ∨ x = 4 ∨ x = 5 ∨ x = 6 ∨ x = 7 by omega) with rfl | rfl | rfl | rfl | rfl | rfl | rfl <;> (simp only [Nat.reduceMul, Nat.reduceSub, Nat.reducePow]; omega)
  · rw [if_neg h]
    exact (hf.2.2 x (by omega)).symm
/-- what holds of all numbers of the list holds of all permutations -/
theorem brute {n : Nat} (hn : n ≤ 7) {P : (Nat → Nat) → Prop} {b : Nat → Bool} (hb : (PH n).all b = true) (h : ∀ c, b c = true → P (dg c)) {f : Nat → Nat} (hf : Pm n f) : P f := by
  have := h _ (List.all_eq_true.mp hb _ (PH_mem hf hn))
  rw [dg_hx hf hn] at this
  exact this
def pmB (n c : Nat) : Bool := ([1, 2, 3, 4, 5, 6, 7].all (fun x => if x ≤ n then Nat.ble 1 (dg c x) && Nat.ble (dg c x) n else dg c x == x)) && ([1, 2, 3, 4, 5, 6, 7].all (fun x => [1, 2, 3, 4, 5, 6, 7].all (fun y => x == y || !(dg c x == dg c y))))
theorem pmB_ok {n c : Nat} (hn : n ≤ 7) (h : pmB n c = true) : Pm n (dg c) := by
  unfold pmB at h
  rw [Bool.and_eq_true, List.all_eq_true, List.all_eq_true] at h
  obtain ⟨h1, h2⟩ := h
  have m7 : ∀ x, 1 ≤ x → x ≤ 7 → x ∈ [1, 2, 3, 4, 5, 6, 7] := fun x a b => by
    simp only [List.mem_cons, List.not_mem_nil, or_false]; omega
  refine ⟨fun x a b => ?_, fun x y a b c d e => ?_, fun x hx => ?_⟩
  · have := h1 x (m7 x a (by omega))
    rw [if_pos b, Bool.and_eq_true, Nat.ble_eq, Nat.ble_eq] at this
    exact this
  · have := List.all_eq_true.mp (h2 x (m7 x a (by omega))) y (m7 y c (by omega))
    simp only [Bool.or_eq_true, beq_iff_eq, Bool.not_eq_true', beq_eq_false_iff_ne] at this
    rcases this with q | q
    · exact q
    · exact absurd e q
  · by_cases q : 1 ≤ x ∧ x ≤ 7
    · have := h1 x (m7 x q.1 q.2)
      rw [if_neg (by omega), beq_iff_eq] at this
      exact this
    · unfold dg; rw [if_neg q]
def chkE (n e : Nat) : Nat → List Nat → Bool
  | _, [] => true
  | i, [c] => pmB n c && (rankN (dg c) n == i && (if e == 0 then (Nat.ble n 1 || nxA (dg c) (n - 1) == 0) else (Nat.blt c e && hx (nextF (dg c) n) == e)))
  | i, c :: c2 :: cs => pmB n c && (rankN (dg c) n == i && ((Nat.blt c c2 && hx (nextF (dg c) n) == c2) && chkE n e (i + 1) (c2 :: cs)))
theorem chkE_app {n e : Nat} : ∀ (L : List Nat) (i c : Nat) (M : List Nat), c ≠ 0 → chkE n c i L = true → chkE n e (i + L.length) (c :: M) = true → chkE n e i (L ++ c :: M) = true
  | [], i, c, M, _, _, h => h
  | [a], i, c, M, hc, h, h2 => by
    simp only [chkE, Bool.and_eq_true] at h
    rw [if_neg (by simpa using hc)] at h
    show chkE n e i (a :: c :: M) = true
    simp only [chkE, Bool.and_eq_true]
    exact ⟨h.1, h.2.1, by simpa using h.2.2, h2⟩
  | a :: b :: L, i, c, M, hc, h, h2 => by
    simp only [chkE, Bool.and_eq_true] at h
    show chkE n e i (a :: b :: (L ++ c :: M)) = true
    simp only [chkE, Bool.and_eq_true]
    refine ⟨h.1, h.2.1, h.2.2.1, ?_⟩
    exact chkE_app (b :: L) (i + 1) c M hc h.2.2.2 (by rw [show i + 1 + (b :: L).length = i + (a :: b :: L).length by simp; omega]; exact h2)
def ch_12 : List Nat := permsGo 7 5 (andn (andn 127 (bt 1)) (bt 2)) 18
theorem ck_12' : chkE 7 20071783 0 ch_12 = true ∧ ch_12.length = 120 ∧ ch_12.head? = some 19088743 := by decide +kernel
def ch_13 : List Nat := permsGo 7 5 (andn (andn 127 (bt 1)) (bt 3)) 19
theorem ck_13' : chkE 7 21116263 120 ch_13 = true ∧ ch_13.length = 120 ∧ ch_13.head? = some 20071783 := by decide +kernel
def ch_14 : List Nat := permsGo 7 5 (andn (andn 127 (bt 1)) (bt 4)) 20
theorem ck_14' : chkE 7 22164583 240 ch_14 = true ∧ ch_14.length = 120 ∧ ch_14.head? = some 21116263 := by decide +kernel
def ch_15 : List Nat := permsGo 7 5 (andn (andn 127 (bt 1)) (bt 5)) 21
theorem ck_15' : chkE 7 23213143 360 ch_15 = true ∧ ch_15.length = 120 ∧ ch_15.head? = some 22164583 := by decide +kernel
def ch_16 : List Nat := permsGo 7 5 (andn (andn 127 (bt 1)) (bt 6)) 22
theorem ck_16' : chkE 7 24261718 480 ch_16 = true ∧ ch_16.length = 120 ∧ ch_16.head? = some 23213143 := by decide +kernel
def ch_17 : List Nat := permsGo 7 5 (andn (andn 127 (bt 1)) (bt 7)) 23
theorem ck_17' : chkE 7 34817383 600 ch_17 = true ∧ ch_17.length = 120 ∧ ch_17.head? = some 24261718 := by decide +kernel
def ch_21 : List Nat := permsGo 7 5 (andn (andn 127 (bt 2)) (bt 1)) 33
theorem ck_21' : chkE 7 36783463 720 ch_21 = true ∧ ch_21.length = 120 ∧ ch_21.head? = some 34817383 := by decide +kernel
def ch_23 : List Nat := permsGo 7 5 (andn (andn 127 (bt 2)) (bt 3)) 35
theorem ck_23' : chkE 7 37827943 840 ch_23 = true ∧ ch_23.length = 120 ∧ ch_23.head? = some 36783463 := by decide +kernel
def ch_24 : List Nat := permsGo 7 5 (andn (andn 127 (bt 2)) (bt 4)) 36
theorem ck_24' : chkE 7 38876263 960 ch_24 = true ∧ ch_24.length = 120 ∧ ch_24.head? = some 37827943 := by decide +kernel
def ch_25 : List Nat := permsGo 7 5 (andn (andn 127 (bt 2)) (bt 5)) 37
theorem ck_25' : chkE 7 39924823 1080 ch_25 = true ∧ ch_25.length = 120 ∧ ch_25.head? = some 38876263 := by decide +kernel
def ch_26 : List Nat := permsGo 7 5 (andn (andn 127 (bt 2)) (bt 6)) 38
theorem ck_26' : chkE 7 40973398 1200 ch_26 = true ∧ ch_26.length = 120 ∧ ch_26.head? = some 39924823 := by decide +kernel
def ch_27 : List Nat := permsGo 7 5 (andn (andn 127 (bt 2)) (bt 7)) 39
theorem ck_27' : chkE 7 51529063 1320 ch_27 = true ∧ ch_27.length = 120 ∧ ch_27.head? = some 40973398 := by decide +kernel
def ch_31 : List Nat := permsGo 7 5 (andn (andn 127 (bt 3)) (bt 1)) 49
theorem ck_31' : chkE 7 52512103 1440 ch_31 = true ∧ ch_31.length = 120 ∧ ch_31.head? = some 51529063 := by decide +kernel
def ch_32 : List Nat := permsGo 7 5 (andn (andn 127 (bt 3)) (bt 2)) 50
theorem ck_32' : chkE 7 54601063 1560 ch_32 = true ∧ ch_32.length = 120 ∧ ch_32.head? = some 52512103 := by decide +kernel
def ch_34 : List Nat := permsGo 7 5 (andn (andn 127 (bt 3)) (bt 4)) 52
theorem ck_34' : chkE 7 55649383 1680 ch_34 = true ∧ ch_34.length = 120 ∧ ch_34.head? = some 54601063 := by decide +kernel
def ch_35 : List Nat := permsGo 7 5 (andn (andn 127 (bt 3)) (bt 5)) 53
theorem ck_35' : chkE 7 56697943 1800 ch_35 = true ∧ ch_35.length = 120 ∧ ch_35.head? = some 55649383 := by decide +kernel
def ch_36 : List Nat := permsGo 7 5 (andn (andn 127 (bt 3)) (bt 6)) 54
theorem ck_36' : chkE 7 57746518 1920 ch_36 = true ∧ ch_36.length = 120 ∧ ch_36.head? = some 56697943 := by decide +kernel
def ch_37 : List Nat := permsGo 7 5 (andn (andn 127 (bt 3)) (bt 7)) 55
theorem ck_37' : chkE 7 68302183 2040 ch_37 = true ∧ ch_37.length = 120 ∧ ch_37.head? = some 57746518 := by decide +kernel
def ch_41 : List Nat := permsGo 7 5 (andn (andn 127 (bt 4)) (bt 1)) 65
theorem ck_41' : chkE 7 69285223 2160 ch_41 = true ∧ ch_41.length = 120 ∧ ch_41.head? = some 68302183 := by decide +kernel
def ch_42 : List Nat := permsGo 7 5 (andn (andn 127 (bt 4)) (bt 2)) 66
theorem ck_42' : chkE 7 70329703 2280 ch_42 = true ∧ ch_42.length = 120 ∧ ch_42.head? = some 69285223 := by decide +kernel
def ch_43 : List Nat := permsGo 7 5 (andn (andn 127 (bt 4)) (bt 3)) 67
theorem ck_43' : chkE 7 72426343 2400 ch_43 = true ∧ ch_43.length = 120 ∧ ch_43.head? = some 70329703 := by decide +kernel
def ch_45 : List Nat := permsGo 7 5 (andn (andn 127 (bt 4)) (bt 5)) 69
theorem ck_45' : chkE 7 73474903 2520 ch_45 = true ∧ ch_45.length = 120 ∧ ch_45.head? = some 72426343 := by decide +kernel
def ch_46 : List Nat := permsGo 7 5 (andn (andn 127 (bt 4)) (bt 6)) 70
theorem ck_46' : chkE 7 74523478 2640 ch_46 = true ∧ ch_46.length = 120 ∧ ch_46.head? = some 73474903 := by decide +kernel
def ch_47 : List Nat := permsGo 7 5 (andn (andn 127 (bt 4)) (bt 7)) 71
theorem ck_47' : chkE 7 85079143 2760 ch_47 = true ∧ ch_47.length = 120 ∧ ch_47.head? = some 74523478 := by decide +kernel
def ch_51 : List Nat := permsGo 7 5 (andn (andn 127 (bt 5)) (bt 1)) 81
theorem ck_51' : chkE 7 86062183 2880 ch_51 = true ∧ ch_51.length = 120 ∧ ch_51.head? = some 85079143 := by decide +kernel
def ch_52 : List Nat := permsGo 7 5 (andn (andn 127 (bt 5)) (bt 2)) 82
theorem ck_52' : chkE 7 87106663 3000 ch_52 = true ∧ ch_52.length = 120 ∧ ch_52.head? = some 86062183 := by decide +kernel
def ch_53 : List Nat := permsGo 7 5 (andn (andn 127 (bt 5)) (bt 3)) 83
theorem ck_53' : chkE 7 88154983 3120 ch_53 = true ∧ ch_53.length = 120 ∧ ch_53.head? = some 87106663 := by decide +kernel
def ch_54 : List Nat := permsGo 7 5 (andn (andn 127 (bt 5)) (bt 4)) 84
theorem ck_54' : chkE 7 90252103 3240 ch_54 = true ∧ ch_54.length = 120 ∧ ch_54.head? = some 88154983 := by decide +kernel
def ch_56 : List Nat := permsGo 7 5 (andn (andn 127 (bt 5)) (bt 6)) 86
theorem ck_56' : chkE 7 91300678 3360 ch_56 = true ∧ ch_56.length = 120 ∧ ch_56.head? = some 90252103 := by decide +kernel
def ch_57 : List Nat := permsGo 7 5 (andn (andn 127 (bt 5)) (bt 7)) 87
theorem ck_57' : chkE 7 101856343 3480 ch_57 = true ∧ ch_57.length = 120 ∧ ch_57.head? = some 91300678 := by decide +kernel
def ch_61 : List Nat := permsGo 7 5 (andn (andn 127 (bt 6)) (bt 1)) 97
theorem ck_61' : chkE 7 102839383 3600 ch_61 = true ∧ ch_61.length = 120 ∧ ch_61.head? = some 101856343 := by decide +kernel
def ch_62 : List Nat := permsGo 7 5 (andn (andn 127 (bt 6)) (bt 2)) 98
theorem ck_62' : chkE 7 103883863 3720 ch_62 = true ∧ ch_62.length = 120 ∧ ch_62.head? = some 102839383 := by decide +kernel
def ch_63 : List Nat := permsGo 7 5 (andn (andn 127 (bt 6)) (bt 3)) 99
theorem ck_63' : chkE 7 104932183 3840 ch_63 = true ∧ ch_63.length = 120 ∧ ch_63.head? = some 103883863 := by decide +kernel
def ch_64 : List Nat := permsGo 7 5 (andn (andn 127 (bt 6)) (bt 4)) 100
theorem ck_64' : chkE 7 105980743 3960 ch_64 = true ∧ ch_64.length = 120 ∧ ch_64.head? = some 104932183 := by decide +kernel
def ch_65 : List Nat := permsGo 7 5 (andn (andn 127 (bt 6)) (bt 5)) 101
theorem ck_65' : chkE 7 108077893 4080 ch_65 = true ∧ ch_65.length = 120 ∧ ch_65.head? = some 105980743 := by decide +kernel
def ch_67 : List Nat := permsGo 7 5 (andn (andn 127 (bt 6)) (bt 7)) 103
theorem ck_67' : chkE 7 118633558 4200 ch_67 = true ∧ ch_67.length = 120 ∧ ch_67.head? = some 108077893 := by decide +kernel
def ch_71 : List Nat := permsGo 7 5 (andn (andn 127 (bt 7)) (bt 1)) 113
theorem ck_71' : chkE 7 119616598 4320 ch_71 = true ∧ ch_71.length = 120 ∧ ch_71.head? = some 118633558 := by decide +kernel
def ch_72 : List Nat := permsGo 7 5 (andn (andn 127 (bt 7)) (bt 2)) 114
theorem ck_72' : chkE 7 120661078 4440 ch_72 = true ∧ ch_72.length = 120 ∧ ch_72.head? = some 119616598 := by decide +kernel
def ch_73 : List Nat := permsGo 7 5 (andn (andn 127 (bt 7)) (bt 3)) 115
theorem ck_73' : chkE 7 121709398 4560 ch_73 = true ∧ ch_73.length = 120 ∧ ch_73.head? = some 120661078 := by decide +kernel
def ch_74 : List Nat := permsGo 7 5 (andn (andn 127 (bt 7)) (bt 4)) 116
theorem ck_74' : chkE 7 122757958 4680 ch_74 = true ∧ ch_74.length = 120 ∧ ch_74.head? = some 121709398 := by decide +kernel
def ch_75 : List Nat := permsGo 7 5 (andn (andn 127 (bt 7)) (bt 5)) 117
theorem ck_75' : chkE 7 123806533 4800 ch_75 = true ∧ ch_75.length = 120 ∧ ch_75.head? = some 122757958 := by decide +kernel
def ch_76 : List Nat := permsGo 7 5 (andn (andn 127 (bt 7)) (bt 6)) 118
theorem ck_76' : chkE 7 0 4920 ch_76 = true ∧ ch_76.length = 120 ∧ ch_76.head? = some 123806533 := by decide +kernel

/-! how many permutations have a type -/
def kl_41 : List Nat := kc_76
theorem kg_41 : sg_41.map (fun c => kindN (dg c) 7) = kl_41 := km_76
def kl_40 : List Nat := kc_75 ++ kl_41
theorem kg_40 : sg_40.map (fun c => kindN (dg c) 7) = kl_40 := by
  unfold sg_40 kl_40
  rw [List.map_append, km_75, kg_41]
def kl_39 : List Nat := kc_74 ++ kl_40
theorem kg_39 : sg_39.map (fun c => kindN (dg c) 7) = kl_39 := by
  unfold sg_39 kl_39
  rw [List.map_append, km_74, kg_40]
def kl_38 : List Nat := kc_73 ++ kl_39
theorem kg_38 : sg_38.map (fun c => kindN (dg c) 7) = kl_38 := by
  unfold sg_38 kl_38
  rw [List.map_append, km_73, kg_39]
def kl_37 : List Nat := kc_72 ++ kl_38
theorem kg_37 : sg_37.map (fun c => kindN (dg c) 7) = kl_37 := by
  unfold sg_37 kl_37
  rw [List.map_append, km_72, kg_38]
def kl_36 : List Nat := kc_71 ++ kl_37
theorem kg_36 : sg_36.map (fun c => kindN (dg c) 7) = kl_36 := by
  unfold sg_36 kl_36
  rw [List.map_append, km_71, kg_37]
def kl_35 : List Nat := kc_67 ++ kl_36
theorem kg_35 : sg_35.map (fun c => kindN (dg c) 7) = kl_35 := by
  unfold sg_35 kl_35
  rw [List.map_append, km_67, kg_36]
def kl_34 : List Nat := kc_65 ++ kl_35
theorem kg_34 : sg_34.map (fun c => kindN (dg c) 7) = kl_34 := by
  unfold sg_34 kl_34
  rw [List.map_append, km_65, kg_35]
def kl_33 : List Nat := kc_64 ++ kl_34
theorem kg_33 : sg_33.map (fun c => kindN (dg c) 7) = kl_33 := by
  unfold sg_33 kl_33
  rw [List.map_append, km_64, kg_34]
def kl_32 : List Nat := kc_63 ++ kl_33
theorem kg_32 : sg_32.map (fun c => kindN (dg c) 7) = kl_32 := by
  unfold sg_32 kl_32
  rw [List.map_append, km_63, kg_33]
def kl_31 : List Nat := kc_62 ++ kl_32
theorem kg_31 : sg_31.map (fun c => kindN (dg c) 7) = kl_31 := by
  unfold sg_31 kl_31
  rw [List.map_append, km_62, kg_32]
def kl_30 : List Nat := kc_61 ++ kl_31
theorem kg_30 : sg_30.map (fun c => kindN (dg c) 7) = kl_30 := by
  unfold sg_30 kl_30
  rw [List.map_append, km_61, kg_31]
def kl_29 : List Nat := kc_57 ++ kl_30
theorem kg_29 : sg_29.map (fun c => kindN (dg c) 7) = kl_29 := by
  unfold sg_29 kl_29
  rw [List.map_append, km_57, kg_30]
def kl_28 : List Nat := kc_56 ++ kl_29
theorem kg_28 : sg_28.map (fun c => kindN (dg c) 7) = kl_28 := by
  unfold sg_28 kl_28
  rw [List.map_append, km_56, kg_29]
def kl_27 : List Nat := kc_54 ++ kl_28
theorem kg_27 : sg_27.map (fun c => kindN (dg c) 7) = kl_27 := by
  unfold sg_27 kl_27
  rw [List.map_append, km_54, kg_28]
def kl_26 : List Nat := kc_53 ++ kl_27
theorem kg_26 : sg_26.map (fun c => kindN (dg c) 7) = kl_26 := by
  unfold sg_26 kl_26
  rw [List.map_append, km_53, kg_27]
def kl_25 : List Nat := kc_52 ++ kl_26
theorem kg_25 : sg_25.map (fun c => kindN (dg c) 7) = kl_25 := by
  unfold sg_25 kl_25
  rw [List.map_append, km_52, kg_26]
def kl_24 : List Nat := kc_51 ++ kl_25
theorem kg_24 : sg_24.map (fun c => kindN (dg c) 7) = kl_24 := by
  unfold sg_24 kl_24
  rw [List.map_append, km_51, kg_25]
def kl_23 : List Nat := kc_47 ++ kl_24
theorem kg_23 : sg_23.map (fun c => kindN (dg c) 7) = kl_23 := by
  unfold sg_23 kl_23
  rw [List.map_append, km_47, kg_24]
def kl_22 : List Nat := kc_46 ++ kl_23
theorem kg_22 : sg_22.map (fun c => kindN (dg c) 7) = kl_22 := by
  unfold sg_22 kl_22
  rw [List.map_append, km_46, kg_23]
def kl_21 : List Nat := kc_45 ++ kl_22
theorem kg_21 : sg_21.map (fun c => kindN (dg c) 7) = kl_21 := by
  unfold sg_21 kl_21
  rw [List.map_append, km_45, kg_22]
def kl_20 : List Nat := kc_43 ++ kl_21
theorem kg_20 : sg_20.map (fun c => kindN (dg c) 7) = kl_20 := by
  unfold sg_20 kl_20
  rw [List.map_append, km_43, kg_21]
def kl_19 : List Nat := kc_42 ++ kl_20
theorem kg_19 : sg_19.map (fun c => kindN (dg c) 7) = kl_19 := by
  unfold sg_19 kl_19
  rw [List.map_append, km_42, kg_20]
def kl_18 : List Nat := kc_41 ++ kl_19
theorem kg_18 : sg_18.map (fun c => kindN (dg c) 7) = kl_18 := by
  unfold sg_18 kl_18
  rw [List.map_append, km_41, kg_19]
def kl_17 : List Nat := kc_37 ++ kl_18
theorem kg_17 : sg_17.map (fun c => kindN (dg c) 7) = kl_17 := by
  unfold sg_17 kl_17
  rw [List.map_append, km_37, kg_18]
def kl_16 : List Nat := kc_36 ++ kl_17
theorem kg_16 : sg_16.map (fun c => kindN (dg c) 7) = kl_16 := by
  unfold sg_16 kl_16
  rw [List.map_append, km_36, kg_17]
def kl_15 : List Nat := kc_35 ++ kl_16
theorem kg_15 : sg_15.map (fun c => kindN (dg c) 7) = kl_15 := by
  unfold sg_15 kl_15
  rw [List.map_append, km_35, kg_16]
def kl_14 : List Nat := kc_34 ++ kl_15
theorem kg_14 : sg_14.map (fun c => kindN (dg c) 7) = kl_14 := by
  unfold sg_14 kl_14
  rw [List.map_append, km_34, kg_15]
def kl_13 : List Nat := kc_32 ++ kl_14
theorem kg_13 : sg_13.map (fun c => kindN (dg c) 7) = kl_13 := by
  unfold sg_13 kl_13
  rw [List.map_append, km_32, kg_14]
def kl_12 : List Nat := kc_31 ++ kl_13
theorem kg_12 : sg_12.map (fun c => kindN (dg c) 7) = kl_12 := by
  unfold sg_12 kl_12
  rw [List.map_append, km_31, kg_13]
def kl_11 : List Nat := kc_27 ++ kl_12
theorem kg_11 : sg_11.map (fun c => kindN (dg c) 7) = kl_11 := by
  unfold sg_11 kl_11
  rw [List.map_append, km_27, kg_12]
def kl_10 : List Nat := kc_26 ++ kl_11
theorem kg_10 : sg_10.map (fun c => kindN (dg c) 7) = kl_10 := by
  unfold sg_10 kl_10
  rw [List.map_append, km_26, kg_11]
def kl_9 : List Nat := kc_25 ++ kl_10
theorem kg_9 : sg_9.map (fun c => kindN (dg c) 7) = kl_9 := by
  unfold sg_9 kl_9
  rw [List.map_append, km_25, kg_10]
def kl_8 : List Nat := kc_24 ++ kl_9
theorem kg_8 : sg_8.map (fun c => kindN (dg c) 7) = kl_8 := by
  unfold sg_8 kl_8
  rw [List.map_append, km_24, kg_9]
def kl_7 : List Nat := kc_23 ++ kl_8
theorem kg_7 : sg_7.map (fun c => kindN (dg c) 7) = kl_7 := by
  unfold sg_7 kl_7
  rw [List.map_append, km_23, kg_8]
def kl_6 : List Nat := kc_21 ++ kl_7
theorem kg_6 : sg_6.map (fun c => kindN (dg c) 7) = kl_6 := by
  unfold sg_6 kl_6
  rw [List.map_append, km_21, kg_7]
def kl_5 : List Nat := kc_17 ++ kl_6
theorem kg_5 : sg_5.map (fun c => kindN (dg c) 7) = kl_5 := by
  unfold sg_5 kl_5
  rw [List.map_append, km_17, kg_6]
def kl_4 : List Nat := kc_16 ++ kl_5
theorem kg_4 : sg_4.map (fun c => kindN (dg c) 7) = kl_4 := by
  unfold sg_4 kl_4
  rw [List.map_append, km_16, kg_5]
def kl_3 : List Nat := kc_15 ++ kl_4
theorem kg_3 : sg_3.map (fun c => kindN (dg c) 7) = kl_3 := by
  unfold sg_3 kl_3
  rw [List.map_append, km_15, kg_4]
def kl_2 : List Nat := kc_14 ++ kl_3
theorem kg_2 : sg_2.map (fun c => kindN (dg c) 7) = kl_2 := by
  unfold sg_2 kl_2
  rw [List.map_append, km_14, kg_3]
def kl_1 : List Nat := kc_13 ++ kl_2
theorem kg_1 : sg_1.map (fun c => kindN (dg c) 7) = kl_1 := by
  unfold sg_1 kl_1
  rw [List.map_append, km_13, kg_2]
def kl_0 : List Nat := kc_12 ++ kl_1
theorem kg_0 : sg_0.map (fun c => kindN (dg c) 7) = kl_0 := by
  unfold sg_0 kl_0
  rw [List.map_append, km_12, kg_1]
def kl6 : List Nat := [111111, 21111, 21111, 3111, 3111, 21111, 21111, 2211, 3111, 411, 411, 3111, 3111, 411, 21111, 3111, 2211, 411, 411, 3111, 3111, 21111, 411, 2211, 21111, 2211, 2211, 321, 321, 2211, 3111, 321, 411, 51, 51, 411, 411, 51, 3111, 411, 321, 51, 51, 411, 411, 3111, 51, 321, 3111, 321, 411, 51, 51, 411, 21111, 2211, 3111, 411, 411, 3111, 2211, 321, 411, 51, 51, 321, 321, 2211, 51, 411, 321, 51, 411, 51, 3111, 411, 321, 51, 3111, 411, 21111, 3111, 2211, 411, 411, 51, 2211, 321, 321, 51, 51, 321, 321, 51, 2211, 411, 51, 411, 411, 3111, 51, 321, 411, 3111, 3111, 21111, 411, 2211, 51, 411, 321, 2211, 51, 321, 321, 51, 51, 321, 411, 2211, 21111, 2211, 2211, 321, 321, 2211, 2211, 222, 321, 42, 42, 321, 321, 42, 2211, 321, 222, 42, 42, 321, 321, 2211, 42, 222, 3111, 321, 321, 33, 33, 321, 411, 42, 51, 6, 6, 51, 51, 6, 411, 51, 42, 6, 6, 51, 51, 411, 6, 42, 411, 42, 51, 6, 6, 51, 3111, 321, 411, 51, 51, 411, 321, 33, 51, 6, 6, 42, 33, 321, 6, 51, 42, 6, 51, 6, 411, 51, 42, 6, 411, 51, 3111, 411, 321, 51, 51, 6, 321, 42, 33, 6, 6, 42, 33, 6, 321, 51, 6, 51, 51, 411, 6, 42, 51, 411, 411, 3111, 51, 321, 6, 51, 42, 321, 6, 33, 42, 6, 6, 33, 51, 321, 3111, 321, 321, 33, 33, 321, 411, 42, 51, 6, 6, 51, 51, 6, 411, 51, 42, 6, 6, 51, 51, 411, 6, 42, 21111, 2211, 2211, 321, 321, 2211, 3111, 321, 411, 51, 51, 411, 411, 51, 3111, 411, 321, 51, 51, 411, 411, 3111, 51, 321, 2211, 222, 321, 42, 42, 321, 411, 42, 51, 6, 6, 51, 51, 6, 321, 42, 33, 6, 6, 51, 42, 321, 6, 33, 321, 42, 2211, 321, 222, 42, 51, 6, 411, 51, 42, 6, 321, 33, 51, 6, 6, 42, 42, 6, 6, 33, 51, 321, 42, 321, 321, 2211, 42, 222, 6, 51, 51, 411, 6, 42, 33, 321, 6, 51, 42, 6, 6, 42, 33, 6, 321, 51, 411, 42, 51, 6, 6, 51, 3111, 321, 411, 51, 51, 411, 321, 33, 51, 6, 6, 42, 33, 321, 6, 51, 42, 6, 3111, 321, 411, 51, 51, 411, 21111, 2211, 3111, 411, 411, 3111, 2211, 321, 411, 51, 51, 321, 321, 2211, 51, 411, 321, 51, 411, 42, 51, 6, 6, 51, 2211, 222, 321, 42, 42, 321, 321, 42, 51, 6, 6, 33, 42, 321, 6, 51, 33, 6, 51, 6, 321, 33, 42, 6, 321, 42, 51, 6, 6, 33, 2211, 321, 411, 51, 51, 321, 222, 42, 42, 6, 6, 42, 6, 51, 33, 321, 6, 42, 42, 321, 6, 51, 33, 6, 321, 2211, 51, 411, 321, 51, 42, 222, 6, 42, 42, 6, 51, 6, 411, 51, 42, 6, 411, 51, 3111, 411, 321, 51, 51, 6, 321, 42, 33, 6, 6, 42, 33, 6, 321, 51, 411, 51, 3111, 411, 321, 51, 3111, 411, 21111, 3111, 2211, 411, 411, 51, 2211, 321, 321, 51, 51, 321, 321, 51, 2211, 411, 51, 6, 411, 51, 42, 6, 321, 42, 2211, 321, 222, 42, 51, 6, 321, 33, 42, 6, 6, 33, 42, 6, 321, 51, 321, 42, 51, 6, 6, 33, 51, 6, 321, 33, 42, 6, 411, 51, 2211, 321, 321, 51, 42, 6, 222, 42, 42, 6, 33, 6, 6, 42, 51, 321, 6, 33, 42, 6, 321, 51, 51, 321, 321, 51, 2211, 411, 6, 42, 42, 6, 222, 42, 6, 51, 51, 411, 6, 42, 51, 411, 411, 3111, 51, 321, 6, 51, 42, 321, 6, 33, 42, 6, 6, 33, 51, 321, 51, 411, 411, 3111, 51, 321, 411, 3111, 3111, 21111, 411, 2211, 51, 411, 321, 2211, 51, 321, 321, 51, 51, 321, 411, 2211, 6, 51, 51, 411, 6, 42, 42, 321, 321, 2211, 42, 222, 6, 51, 33, 321, 6, 42, 33, 6, 6, 42, 51, 321, 42, 321, 6, 51, 33, 6, 6, 51, 33, 321, 6, 42, 51, 411, 321, 2211, 51, 321, 6, 42, 42, 222, 6, 42, 6, 33, 42, 6, 321, 51, 33, 6, 6, 42, 51, 321, 321, 51, 51, 321, 411, 2211, 42, 6, 6, 42, 42, 222]
theorem km6 : (PH 6).map (fun c => kindN (dg c) 6) = kl6 := by decide +kernel
theorem kcnt7 : ∀ k, k < 15 → kl_0.countP (fun t => t == kT 7 k) = membersN (kT 7 k) 7 := by decide +kernel
theorem kcnt6 : ∀ k, k < 11 → kl6.countP (fun t => t == kT 6 k) = membersN (kT 6 k) 6 := by decide +kernel
theorem kcnt5 : ∀ n, n < 6 → 1 ≤ n → ∀ k, k < kmany n → ((PH n).map (fun c => kindN (dg c) n)).countP (fun t => t == kT n k) = membersN (kT n k) n := by decide +kernel
theorem kcnt {n k : Nat} (h1 : 1 ≤ n) (h7 : n ≤ 7) (hk : k < kmany n) : ((PH n).map (fun c => kindN (dg c) n)).countP (fun t => t == kT n k) = membersN (kT n k) n := by
  by_cases h : n < 6
  · exact kcnt5 n h h1 k hk
  · rcases (show n = 6 ∨ n = 7 by omega) with rfl | rfl
    · rw [km6]; exact kcnt6 k hk
    · rw [ph7, kg_0]; exact kcnt7 k hk
theorem cntI_take (L : List Nat) (P : Nat → Bool) : ∀ k, k ≤ L.length → cntI (fun i => P (L.getD i 0)) k = (L.take k).countP P
  | 0, _ => by simp; rfl
  | k + 1, hk => by
    rw [cntI_s, cntI_take L P k (by omega), List.take_succ, List.countP_append, List.getElem?_eq_getElem (show k < L.length by omega)]
    have e : L.getD k 0 = L[k] := by rw [List.getD_eq_getElem?_getD, List.getElem?_eq_getElem (show k < L.length by omega)]; rfl
    rw [e]
    by_cases h : P L[k] = true
    · simp [h]
    · simp [h]
theorem hyp_OPSZ : OPSZ := by
  intro n k h1 h7 hk
  have hl := (ph_chk n (by omega) h1).2.1
  rw [← kcnt h1 h7 hk, List.countP_map]
  have h := cntI_take (PH n) (fun c => kindN (dg c) n == kT n k) (facN n) (by omega)
  rw [← hl, List.take_length] at h
  unfold szN
  rw [← hl]
  exact h

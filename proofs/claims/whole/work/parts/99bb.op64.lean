/-! at most sixty-four classes of three types -/
theorem y_le {i S : Nat} {T : List Nat} (hS : (i, (S, T)) ∈ S7L) {t2 t3 : Nat} (ht : T.contains t2 = true) : ∀ l : List Nat, l.countP (fun c => kindN (dg c) 7 == t2 && kindN (pcomp (dg S) (dg c)) 7 == t3) ≤ ((l.zip (l.map (fun c => kindN (dg c) 7))).flatMap rowF).countP (fun v => v == (i * 10000 + t2) * 10000000 + t3)
  | [] => Nat.zero_le _
  | c :: l => by
    have ih := y_le (t3 := t3) hS ht l
    rw [List.map_cons, List.zip_cons_cons, List.flatMap_cons, List.countP_append, List.countP_cons]
    by_cases q : (kindN (dg c) 7 == t2 && kindN (pcomp (dg S) (dg c)) 7 == t3) = true
    · rw [if_pos q]
      have h : 0 < (rowF (c, kindN (dg c) 7)).countP (fun v => v == (i * 10000 + t2) * 10000000 + t3) := by
        rw [List.countP_pos_iff]
        simp only [Bool.and_eq_true, beq_iff_eq] at q
        refine ⟨(i * 10000 + t2) * 10000000 + t3, List.mem_map.mpr ⟨(i, (S, T)), List.mem_filter.mpr ⟨hS, ?_⟩, ?_⟩, beq_self_eq_true _⟩
        · show T.contains (kindN (dg c) 7) = true
          rw [q.1]; exact ht
        · show (i * 10000 + kindN (dg c) 7) * 10000000 + kindN (pcomp (dg S) (dg c)) 7 = _
          rw [q.1, q.2]
      omega
    · rw [if_neg q]; omega
section Y
variable {i S : Nat} {T : List Nat} {t2 t3 : Nat}
abbrev YP (S t2 t3 : Nat) : Nat → Bool := fun c => kindN (dg c) 7 == t2 && kindN (pcomp (dg S) (dg c)) 7 == t3
abbrev YQ (i t2 t3 : Nat) : Nat → Bool := fun v => v == (i * 10000 + t2) * 10000000 + t3
def yl_41 : List Nat := yc_76
theorem yt_41 (hS : (i, (S, T)) ∈ S7L) (ht : T.contains t2 = true) : sg_41.countP (YP S t2 t3) ≤ yl_41.countP (YQ i t2 t3) := by
  have h := y_le (t3 := t3) hS ht ch_76
  rw [km_76, ym_76] at h
  exact h
def yl_40 : List Nat := yc_75 ++ yl_41
theorem yt_40 (hS : (i, (S, T)) ∈ S7L) (ht : T.contains t2 = true) : sg_40.countP (YP S t2 t3) ≤ yl_40.countP (YQ i t2 t3) := by
  have h := y_le (t3 := t3) hS ht ch_75
  rw [km_75, ym_75] at h
  unfold sg_40 yl_40
  rw [List.countP_append, List.countP_append]
  exact Nat.add_le_add h (yt_41 hS ht)
def yl_39 : List Nat := yc_74 ++ yl_40
theorem yt_39 (hS : (i, (S, T)) ∈ S7L) (ht : T.contains t2 = true) : sg_39.countP (YP S t2 t3) ≤ yl_39.countP (YQ i t2 t3) := by
  have h := y_le (t3 := t3) hS ht ch_74
  rw [km_74, ym_74] at h
  unfold sg_39 yl_39
  rw [List.countP_append, List.countP_append]
  exact Nat.add_le_add h (yt_40 hS ht)
def yl_38 : List Nat := yc_73 ++ yl_39
theorem yt_38 (hS : (i, (S, T)) ∈ S7L) (ht : T.contains t2 = true) : sg_38.countP (YP S t2 t3) ≤ yl_38.countP (YQ i t2 t3) := by
  have h := y_le (t3 := t3) hS ht ch_73
  rw [km_73, ym_73] at h
  unfold sg_38 yl_38
  rw [List.countP_append, List.countP_append]
  exact Nat.add_le_add h (yt_39 hS ht)
def yl_37 : List Nat := yc_72 ++ yl_38
theorem yt_37 (hS : (i, (S, T)) ∈ S7L) (ht : T.contains t2 = true) : sg_37.countP (YP S t2 t3) ≤ yl_37.countP (YQ i t2 t3) := by
  have h := y_le (t3 := t3) hS ht ch_72
  rw [km_72, ym_72] at h
  unfold sg_37 yl_37
  rw [List.countP_append, List.countP_append]
  exact Nat.add_le_add h (yt_38 hS ht)
def yl_36 : List Nat := yc_71 ++ yl_37
theorem yt_36 (hS : (i, (S, T)) ∈ S7L) (ht : T.contains t2 = true) : sg_36.countP (YP S t2 t3) ≤ yl_36.countP (YQ i t2 t3) := by
  have h := y_le (t3 := t3) hS ht ch_71
  rw [km_71, ym_71] at h
  unfold sg_36 yl_36
  rw [List.countP_append, List.countP_append]
  exact Nat.add_le_add h (yt_37 hS ht)
def yl_35 : List Nat := yc_67 ++ yl_36
theorem yt_35 (hS : (i, (S, T)) ∈ S7L) (ht : T.contains t2 = true) : sg_35.countP (YP S t2 t3) ≤ yl_35.countP (YQ i t2 t3) := by
  have h := y_le (t3 := t3) hS ht ch_67
  rw [km_67, ym_67] at h
  unfold sg_35 yl_35
  rw [List.countP_append, List.countP_append]
  exact Nat.add_le_add h (yt_36 hS ht)
def yl_34 : List Nat := yc_65 ++ yl_35
theorem yt_34 (hS : (i, (S, T)) ∈ S7L) (ht : T.contains t2 = true) : sg_34.countP (YP S t2 t3) ≤ yl_34.countP (YQ i t2 t3) := by
  have h := y_le (t3 := t3) hS ht ch_65
  rw [km_65, ym_65] at h
  unfold sg_34 yl_34
  rw [List.countP_append, List.countP_append]
  exact Nat.add_le_add h (yt_35 hS ht)
def yl_33 : List Nat := yc_64 ++ yl_34
theorem yt_33 (hS : (i, (S, T)) ∈ S7L) (ht : T.contains t2 = true) : sg_33.countP (YP S t2 t3) ≤ yl_33.countP (YQ i t2 t3) := by
  have h := y_le (t3 := t3) hS ht ch_64
  rw [km_64, ym_64] at h
  unfold sg_33 yl_33
  rw [List.countP_append, List.countP_append]
  exact Nat.add_le_add h (yt_34 hS ht)
def yl_32 : List Nat := yc_63 ++ yl_33
theorem yt_32 (hS : (i, (S, T)) ∈ S7L) (ht : T.contains t2 = true) : sg_32.countP (YP S t2 t3) ≤ yl_32.countP (YQ i t2 t3) := by
  have h := y_le (t3 := t3) hS ht ch_63
  rw [km_63, ym_63] at h
  unfold sg_32 yl_32
  rw [List.countP_append, List.countP_append]
  exact Nat.add_le_add h (yt_33 hS ht)
def yl_31 : List Nat := yc_62 ++ yl_32
theorem yt_31 (hS : (i, (S, T)) ∈ S7L) (ht : T.contains t2 = true) : sg_31.countP (YP S t2 t3) ≤ yl_31.countP (YQ i t2 t3) := by
  have h := y_le (t3 := t3) hS ht ch_62
  rw [km_62, ym_62] at h
  unfold sg_31 yl_31
  rw [List.countP_append, List.countP_append]
  exact Nat.add_le_add h (yt_32 hS ht)
def yl_30 : List Nat := yc_61 ++ yl_31
theorem yt_30 (hS : (i, (S, T)) ∈ S7L) (ht : T.contains t2 = true) : sg_30.countP (YP S t2 t3) ≤ yl_30.countP (YQ i t2 t3) := by
  have h := y_le (t3 := t3) hS ht ch_61
  rw [km_61, ym_61] at h
  unfold sg_30 yl_30
  rw [List.countP_append, List.countP_append]
  exact Nat.add_le_add h (yt_31 hS ht)
def yl_29 : List Nat := yc_57 ++ yl_30
theorem yt_29 (hS : (i, (S, T)) ∈ S7L) (ht : T.contains t2 = true) : sg_29.countP (YP S t2 t3) ≤ yl_29.countP (YQ i t2 t3) := by
  have h := y_le (t3 := t3) hS ht ch_57
  rw [km_57, ym_57] at h
  unfold sg_29 yl_29
  rw [List.countP_append, List.countP_append]
  exact Nat.add_le_add h (yt_30 hS ht)
def yl_28 : List Nat := yc_56 ++ yl_29
theorem yt_28 (hS : (i, (S, T)) ∈ S7L) (ht : T.contains t2 = true) : sg_28.countP (YP S t2 t3) ≤ yl_28.countP (YQ i t2 t3) := by
  have h := y_le (t3 := t3) hS ht ch_56
  rw [km_56, ym_56] at h
  unfold sg_28 yl_28
  rw [List.countP_append, List.countP_append]
  exact Nat.add_le_add h (yt_29 hS ht)
def yl_27 : List Nat := yc_54 ++ yl_28
theorem yt_27 (hS : (i, (S, T)) ∈ S7L) (ht : T.contains t2 = true) : sg_27.countP (YP S t2 t3) ≤ yl_27.countP (YQ i t2 t3) := by
  have h := y_le (t3 := t3) hS ht ch_54
  rw [km_54, ym_54] at h
  unfold sg_27 yl_27
  rw [List.countP_append, List.countP_append]
  exact Nat.add_le_add h (yt_28 hS ht)
def yl_26 : List Nat := yc_53 ++ yl_27
theorem yt_26 (hS : (i, (S, T)) ∈ S7L) (ht : T.contains t2 = true) : sg_26.countP (YP S t2 t3) ≤ yl_26.countP (YQ i t2 t3) := by
  have h := y_le (t3 := t3) hS ht ch_53
  rw [km_53, ym_53] at h
  unfold sg_26 yl_26
  rw [List.countP_append, List.countP_append]
  exact Nat.add_le_add h (yt_27 hS ht)
def yl_25 : List Nat := yc_52 ++ yl_26
theorem yt_25 (hS : (i, (S, T)) ∈ S7L) (ht : T.contains t2 = true) : sg_25.countP (YP S t2 t3) ≤ yl_25.countP (YQ i t2 t3) := by
  have h := y_le (t3 := t3) hS ht ch_52
  rw [km_52, ym_52] at h
  unfold sg_25 yl_25
  rw [List.countP_append, List.countP_append]
  exact Nat.add_le_add h (yt_26 hS ht)
def yl_24 : List Nat := yc_51 ++ yl_25
theorem yt_24 (hS : (i, (S, T)) ∈ S7L) (ht : T.contains t2 = true) : sg_24.countP (YP S t2 t3) ≤ yl_24.countP (YQ i t2 t3) := by
  have h := y_le (t3 := t3) hS ht ch_51
  rw [km_51, ym_51] at h
  unfold sg_24 yl_24
  rw [List.countP_append, List.countP_append]
  exact Nat.add_le_add h (yt_25 hS ht)
def yl_23 : List Nat := yc_47 ++ yl_24
theorem yt_23 (hS : (i, (S, T)) ∈ S7L) (ht : T.contains t2 = true) : sg_23.countP (YP S t2 t3) ≤ yl_23.countP (YQ i t2 t3) := by
  have h := y_le (t3 := t3) hS ht ch_47
  rw [km_47, ym_47] at h
  unfold sg_23 yl_23
  rw [List.countP_append, List.countP_append]
  exact Nat.add_le_add h (yt_24 hS ht)
def yl_22 : List Nat := yc_46 ++ yl_23
theorem yt_22 (hS : (i, (S, T)) ∈ S7L) (ht : T.contains t2 = true) : sg_22.countP (YP S t2 t3) ≤ yl_22.countP (YQ i t2 t3) := by
  have h := y_le (t3 := t3) hS ht ch_46
  rw [km_46, ym_46] at h
  unfold sg_22 yl_22
  rw [List.countP_append, List.countP_append]
  exact Nat.add_le_add h (yt_23 hS ht)
def yl_21 : List Nat := yc_45 ++ yl_22
theorem yt_21 (hS : (i, (S, T)) ∈ S7L) (ht : T.contains t2 = true) : sg_21.countP (YP S t2 t3) ≤ yl_21.countP (YQ i t2 t3) := by
  have h := y_le (t3 := t3) hS ht ch_45
  rw [km_45, ym_45] at h
  unfold sg_21 yl_21
  rw [List.countP_append, List.countP_append]
  exact Nat.add_le_add h (yt_22 hS ht)
def yl_20 : List Nat := yc_43 ++ yl_21
theorem yt_20 (hS : (i, (S, T)) ∈ S7L) (ht : T.contains t2 = true) : sg_20.countP (YP S t2 t3) ≤ yl_20.countP (YQ i t2 t3) := by
  have h := y_le (t3 := t3) hS ht ch_43
  rw [km_43, ym_43] at h
  unfold sg_20 yl_20
  rw [List.countP_append, List.countP_append]
  exact Nat.add_le_add h (yt_21 hS ht)
def yl_19 : List Nat := yc_42 ++ yl_20
theorem yt_19 (hS : (i, (S, T)) ∈ S7L) (ht : T.contains t2 = true) : sg_19.countP (YP S t2 t3) ≤ yl_19.countP (YQ i t2 t3) := by
  have h := y_le (t3 := t3) hS ht ch_42
  rw [km_42, ym_42] at h
  unfold sg_19 yl_19
  rw [List.countP_append, List.countP_append]
  exact Nat.add_le_add h (yt_20 hS ht)
def yl_18 : List Nat := yc_41 ++ yl_19
theorem yt_18 (hS : (i, (S, T)) ∈ S7L) (ht : T.contains t2 = true) : sg_18.countP (YP S t2 t3) ≤ yl_18.countP (YQ i t2 t3) := by
  have h := y_le (t3 := t3) hS ht ch_41
  rw [km_41, ym_41] at h
  unfold sg_18 yl_18
  rw [List.countP_append, List.countP_append]
  exact Nat.add_le_add h (yt_19 hS ht)
def yl_17 : List Nat := yc_37 ++ yl_18
theorem yt_17 (hS : (i, (S, T)) ∈ S7L) (ht : T.contains t2 = true) : sg_17.countP (YP S t2 t3) ≤ yl_17.countP (YQ i t2 t3) := by
  have h := y_le (t3 := t3) hS ht ch_37
  rw [km_37, ym_37] at h
  unfold sg_17 yl_17
  rw [List.countP_append, List.countP_append]
  exact Nat.add_le_add h (yt_18 hS ht)
def yl_16 : List Nat := yc_36 ++ yl_17
theorem yt_16 (hS : (i, (S, T)) ∈ S7L) (ht : T.contains t2 = true) : sg_16.countP (YP S t2 t3) ≤ yl_16.countP (YQ i t2 t3) := by
  have h := y_le (t3 := t3) hS ht ch_36
  rw [km_36, ym_36] at h
  unfold sg_16 yl_16
  rw [List.countP_append, List.countP_append]
  exact Nat.add_le_add h (yt_17 hS ht)
def yl_15 : List Nat := yc_35 ++ yl_16
theorem yt_15 (hS : (i, (S, T)) ∈ S7L) (ht : T.contains t2 = true) : sg_15.countP (YP S t2 t3) ≤ yl_15.countP (YQ i t2 t3) := by
  have h := y_le (t3 := t3) hS ht ch_35
  rw [km_35, ym_35] at h
  unfold sg_15 yl_15
  rw [List.countP_append, List.countP_append]
  exact Nat.add_le_add h (yt_16 hS ht)
def yl_14 : List Nat := yc_34 ++ yl_15
theorem yt_14 (hS : (i, (S, T)) ∈ S7L) (ht : T.contains t2 = true) : sg_14.countP (YP S t2 t3) ≤ yl_14.countP (YQ i t2 t3) := by
  have h := y_le (t3 := t3) hS ht ch_34
  rw [km_34, ym_34] at h
  unfold sg_14 yl_14
  rw [List.countP_append, List.countP_append]
  exact Nat.add_le_add h (yt_15 hS ht)
def yl_13 : List Nat := yc_32 ++ yl_14
theorem yt_13 (hS : (i, (S, T)) ∈ S7L) (ht : T.contains t2 = true) : sg_13.countP (YP S t2 t3) ≤ yl_13.countP (YQ i t2 t3) := by
  have h := y_le (t3 := t3) hS ht ch_32
  rw [km_32, ym_32] at h
  unfold sg_13 yl_13
  rw [List.countP_append, List.countP_append]
  exact Nat.add_le_add h (yt_14 hS ht)
def yl_12 : List Nat := yc_31 ++ yl_13
theorem yt_12 (hS : (i, (S, T)) ∈ S7L) (ht : T.contains t2 = true) : sg_12.countP (YP S t2 t3) ≤ yl_12.countP (YQ i t2 t3) := by
  have h := y_le (t3 := t3) hS ht ch_31
  rw [km_31, ym_31] at h
  unfold sg_12 yl_12
  rw [List.countP_append, List.countP_append]
  exact Nat.add_le_add h (yt_13 hS ht)
def yl_11 : List Nat := yc_27 ++ yl_12
theorem yt_11 (hS : (i, (S, T)) ∈ S7L) (ht : T.contains t2 = true) : sg_11.countP (YP S t2 t3) ≤ yl_11.countP (YQ i t2 t3) := by
  have h := y_le (t3 := t3) hS ht ch_27
  rw [km_27, ym_27] at h
  unfold sg_11 yl_11
  rw [List.countP_append, List.countP_append]
  exact Nat.add_le_add h (yt_12 hS ht)
def yl_10 : List Nat := yc_26 ++ yl_11
theorem yt_10 (hS : (i, (S, T)) ∈ S7L) (ht : T.contains t2 = true) : sg_10.countP (YP S t2 t3) ≤ yl_10.countP (YQ i t2 t3) := by
  have h := y_le (t3 := t3) hS ht ch_26
  rw [km_26, ym_26] at h
  unfold sg_10 yl_10
  rw [List.countP_append, List.countP_append]
  exact Nat.add_le_add h (yt_11 hS ht)
def yl_9 : List Nat := yc_25 ++ yl_10
theorem yt_9 (hS : (i, (S, T)) ∈ S7L) (ht : T.contains t2 = true) : sg_9.countP (YP S t2 t3) ≤ yl_9.countP (YQ i t2 t3) := by
  have h := y_le (t3 := t3) hS ht ch_25
  rw [km_25, ym_25] at h
  unfold sg_9 yl_9
  rw [List.countP_append, List.countP_append]
  exact Nat.add_le_add h (yt_10 hS ht)
def yl_8 : List Nat := yc_24 ++ yl_9
theorem yt_8 (hS : (i, (S, T)) ∈ S7L) (ht : T.contains t2 = true) : sg_8.countP (YP S t2 t3) ≤ yl_8.countP (YQ i t2 t3) := by
  have h := y_le (t3 := t3) hS ht ch_24
  rw [km_24, ym_24] at h
  unfold sg_8 yl_8
  rw [List.countP_append, List.countP_append]
  exact Nat.add_le_add h (yt_9 hS ht)
def yl_7 : List Nat := yc_23 ++ yl_8
theorem yt_7 (hS : (i, (S, T)) ∈ S7L) (ht : T.contains t2 = true) : sg_7.countP (YP S t2 t3) ≤ yl_7.countP (YQ i t2 t3) := by
  have h := y_le (t3 := t3) hS ht ch_23
  rw [km_23, ym_23] at h
  unfold sg_7 yl_7
  rw [List.countP_append, List.countP_append]
  exact Nat.add_le_add h (yt_8 hS ht)
def yl_6 : List Nat := yc_21 ++ yl_7
theorem yt_6 (hS : (i, (S, T)) ∈ S7L) (ht : T.contains t2 = true) : sg_6.countP (YP S t2 t3) ≤ yl_6.countP (YQ i t2 t3) := by
  have h := y_le (t3 := t3) hS ht ch_21
  rw [km_21, ym_21] at h
  unfold sg_6 yl_6
  rw [List.countP_append, List.countP_append]
  exact Nat.add_le_add h (yt_7 hS ht)
def yl_5 : List Nat := yc_17 ++ yl_6
theorem yt_5 (hS : (i, (S, T)) ∈ S7L) (ht : T.contains t2 = true) : sg_5.countP (YP S t2 t3) ≤ yl_5.countP (YQ i t2 t3) := by
  have h := y_le (t3 := t3) hS ht ch_17
  rw [km_17, ym_17] at h
  unfold sg_5 yl_5
  rw [List.countP_append, List.countP_append]
  exact Nat.add_le_add h (yt_6 hS ht)
def yl_4 : List Nat := yc_16 ++ yl_5
theorem yt_4 (hS : (i, (S, T)) ∈ S7L) (ht : T.contains t2 = true) : sg_4.countP (YP S t2 t3) ≤ yl_4.countP (YQ i t2 t3) := by
  have h := y_le (t3 := t3) hS ht ch_16
  rw [km_16, ym_16] at h
  unfold sg_4 yl_4
  rw [List.countP_append, List.countP_append]
  exact Nat.add_le_add h (yt_5 hS ht)
def yl_3 : List Nat := yc_15 ++ yl_4
theorem yt_3 (hS : (i, (S, T)) ∈ S7L) (ht : T.contains t2 = true) : sg_3.countP (YP S t2 t3) ≤ yl_3.countP (YQ i t2 t3) := by
  have h := y_le (t3 := t3) hS ht ch_15
  rw [km_15, ym_15] at h
  unfold sg_3 yl_3
  rw [List.countP_append, List.countP_append]
  exact Nat.add_le_add h (yt_4 hS ht)
def yl_2 : List Nat := yc_14 ++ yl_3
theorem yt_2 (hS : (i, (S, T)) ∈ S7L) (ht : T.contains t2 = true) : sg_2.countP (YP S t2 t3) ≤ yl_2.countP (YQ i t2 t3) := by
  have h := y_le (t3 := t3) hS ht ch_14
  rw [km_14, ym_14] at h
  unfold sg_2 yl_2
  rw [List.countP_append, List.countP_append]
  exact Nat.add_le_add h (yt_3 hS ht)
def yl_1 : List Nat := yc_13 ++ yl_2
theorem yt_1 (hS : (i, (S, T)) ∈ S7L) (ht : T.contains t2 = true) : sg_1.countP (YP S t2 t3) ≤ yl_1.countP (YQ i t2 t3) := by
  have h := y_le (t3 := t3) hS ht ch_13
  rw [km_13, ym_13] at h
  unfold sg_1 yl_1
  rw [List.countP_append, List.countP_append]
  exact Nat.add_le_add h (yt_2 hS ht)
def yl_0 : List Nat := yc_12 ++ yl_1
theorem yt_0 (hS : (i, (S, T)) ∈ S7L) (ht : T.contains t2 = true) : sg_0.countP (YP S t2 t3) ≤ yl_0.countP (YQ i t2 t3) := by
  have h := y_le (t3 := t3) hS ht ch_12
  rw [km_12, ym_12] at h
  unfold sg_0 yl_0
  rw [List.countP_append, List.countP_append]
  exact Nat.add_le_add h (yt_1 hS ht)
end Y
theorem cnt_fil (p q : Nat → Bool) (h : ∀ v, p v = true → q v = true) : ∀ l : List Nat, (l.filter q).countP p = l.countP p
  | [] => rfl
  | v :: l => by
    have ih := cnt_fil p q h l
    by_cases e : q v = true
    · rw [List.filter_cons_of_pos e, List.countP_cons, List.countP_cons, ih]
    · have e2 : ¬ p v = true := fun z => e (h v z)
      rw [List.filter_cons_of_neg e, List.countP_cons, if_neg e2, ih, Nat.add_zero]
theorem y7 : S7L.all (fun S => S.2.2.all (fun t2 => (List.range 15).all (fun j => Nat.ble (((yl_0.filter (fun v => v / 10000000 == S.1 * 10000 + t2)).countP (fun v => v == (S.1 * 10000 + t2) * 10000000 + kT 7 j)) * membersN (kT 7 S.1) 7) 287280))) = true := by decide +kernel
theorem y7s : S7L.all (fun S => hx (leastF (kT 7 S.1) 7) == S.2.1) = true := by decide +kernel
theorem y7c : (List.range 15).all (fun i => i == 0 || (List.range 15).all (fun j => Nat.ble (membersN (kT 7 j) 7 * membersN (kT 7 i) 7) (if i = 14 then 287280 else 322560) || S7L.any (fun S => S.1 == i && S.2.2.contains (kT 7 j)))) = true := by decide +kernel
theorem y7k : ∀ j, j < 15 → kT 7 j < 10000000 := by decide +kernel
theorem y6c : (List.range 11).all (fun i => (List.range 11).all (fun j => Nat.ble (6 * membersN (kT 6 j) 6 * membersN (kT 6 i) 6) 46080 || (i == 7 || (i == 5 || (i == 8 || (i == 4 || i == 10)))))) = true := by decide +kernel
def z6 (i : Nat) (L : List Nat) : Bool := (List.range 11).all (fun j => (List.range 11).all (fun k => Nat.ble (6 * (kl6.zip L).countP (fun q => q.1 == kT 6 j && q.2 == kT 6 k) * membersN (kT 6 i) 6) 46080))
theorem z6_7 : z6 7 y6_7 = true := by decide +kernel
theorem z6_5 : z6 5 y6_5 = true := by decide +kernel
theorem z6_8 : z6 8 y6_8 = true := by decide +kernel
theorem z6_4 : z6 4 y6_4 = true := by decide +kernel
theorem z6_10 : z6 10 y6_10 = true := by decide +kernel
theorem y5c : ∀ n, n < 6 → 1 ≤ n → ∀ i, i < kmany n → ∀ j, j < kmany n → n * membersN (kT n j) n * membersN (kT n i) n ≤ 64 * facN n := by decide +kernel
theorem fixq : ∀ i, i < 15 → i ≠ 0 → i ≠ 14 → (gathL 7 (leastF (kT 7 i) 7) (leastF (kT 7 i) 7)).all (fun r => seven.all (fun x => r x == x) || [1, 2, 3].any (fun j => seven.any (fun x => pstep r j x == x) && !(seven.all (fun x => pstep r j x == x)))) = true := by decide +kernel


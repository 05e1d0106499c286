/-! ===== the list of all permutations: its order, its places ===== -/
theorem chkE_app2 {n e i c : Nat} {L M : List Nat} (hc : c ≠ 0) (hM : M.head? = some c) (h1 : chkE n c i L = true) (hL : L.length = 120) (h2 : chkE n e (i + 120) M = true) : chkE n e i (L ++ M) = true := by
  cases M with
  | nil => simp at hM
  | cons a M =>
    simp at hM
    subst hM
    exact chkE_app L i a M hc h1 (by rw [hL]; exact h2)
theorem permsGo_s (n k free c : Nat) : permsGo n (k + 1) free c = (dsel n free).flatMap (fun d => permsGo n k (andn free (bt d)) (16 * c + d)) := rfl
def sg_41 : List Nat := ch_76
theorem sk_41 : chkE 7 0 4920 sg_41 = true ∧ sg_41.head? = some 123806533 ∧ sg_41.length = 120 := ⟨ck_76'.1, ck_76'.2.2, ck_76'.2.1⟩
def sg_40 : List Nat := ch_75 ++ sg_41
theorem sk_40 : chkE 7 0 4800 sg_40 = true ∧ sg_40.head? = some 122757958 ∧ sg_40.length = 240 := ⟨chkE_app2 (c := 123806533) (by decide) sk_41.2.1 ck_75'.1 ck_75'.2.1 sk_41.1, by unfold sg_40; rw [List.head?_append, ck_75'.2.2]; rfl, by unfold sg_40; rw [List.length_append, ck_75'.2.1, sk_41.2.2]⟩
def sg_39 : List Nat := ch_74 ++ sg_40
theorem sk_39 : chkE 7 0 4680 sg_39 = true ∧ sg_39.head? = some 121709398 ∧ sg_39.length = 360 := ⟨chkE_app2 (c := 122757958) (by decide) sk_40.2.1 ck_74'.1 ck_74'.2.1 sk_40.1, by unfold sg_39; rw [List.head?_append, ck_74'.2.2]; rfl, by unfold sg_39; rw [List.length_append, ck_74'.2.1, sk_40.2.2]⟩
def sg_38 : List Nat := ch_73 ++ sg_39
theorem sk_38 : chkE 7 0 4560 sg_38 = true ∧ sg_38.head? = some 120661078 ∧ sg_38.length = 480 := ⟨chkE_app2 (c := 121709398) (by decide) sk_39.2.1 ck_73'.1 ck_73'.2.1 sk_39.1, by unfold sg_38; rw [List.head?_append, ck_73'.2.2]; rfl, by unfold sg_38; rw [List.length_append, ck_73'.2.1, sk_39.2.2]⟩
def sg_37 : List Nat := ch_72 ++ sg_38
theorem sk_37 : chkE 7 0 4440 sg_37 = true ∧ sg_37.head? = some 119616598 ∧ sg_37.length = 600 := ⟨chkE_app2 (c := 120661078) (by decide) sk_38.2.1 ck_72'.1 ck_72'.2.1 sk_38.1, by unfold sg_37; rw [List.head?_append, ck_72'.2.2]; rfl, by unfold sg_37; rw [List.length_append, ck_72'.2.1, sk_38.2.2]⟩
def sg_36 : List Nat := ch_71 ++ sg_37
theorem sk_36 : chkE 7 0 4320 sg_36 = true ∧ sg_36.head? = some 118633558 ∧ sg_36.length = 720 := ⟨chkE_app2 (c := 119616598) (by decide) sk_37.2.1 ck_71'.1 ck_71'.2.1 sk_37.1, by unfold sg_36; rw [List.head?_append, ck_71'.2.2]; rfl, by unfold sg_36; rw [List.length_append, ck_71'.2.1, sk_37.2.2]⟩
def sg_35 : List Nat := ch_67 ++ sg_36
theorem sk_35 : chkE 7 0 4200 sg_35 = true ∧ sg_35.head? = some 108077893 ∧ sg_35.length = 840 := ⟨chkE_app2 (c := 118633558) (by decide) sk_36.2.1 ck_67'.1 ck_67'.2.1 sk_36.1, by unfold sg_35; rw [List.head?_append, ck_67'.2.2]; rfl, by unfold sg_35; rw [List.length_append, ck_67'.2.1, sk_36.2.2]⟩
def sg_34 : List Nat := ch_65 ++ sg_35
theorem sk_34 : chkE 7 0 4080 sg_34 = true ∧ sg_34.head? = some 105980743 ∧ sg_34.length = 960 := ⟨chkE_app2 (c := 108077893) (by decide) sk_35.2.1 ck_65'.1 ck_65'.2.1 sk_35.1, by unfold sg_34; rw [List.head?_append, ck_65'.2.2]; rfl, by unfold sg_34; rw [List.length_append, ck_65'.2.1, sk_35.2.2]⟩
def sg_33 : List Nat := ch_64 ++ sg_34
theorem sk_33 : chkE 7 0 3960 sg_33 = true ∧ sg_33.head? = some 104932183 ∧ sg_33.length = 1080 := ⟨chkE_app2 (c := 105980743) (by decide) sk_34.2.1 ck_64'.1 ck_64'.2.1 sk_34.1, by unfold sg_33; rw [List.head?_append, ck_64'.2.2]; rfl, by unfold sg_33; rw [List.length_append, ck_64'.2.1, sk_34.2.2]⟩
def sg_32 : List Nat := ch_63 ++ sg_33
theorem sk_32 : chkE 7 0 3840 sg_32 = true ∧ sg_32.head? = some 103883863 ∧ sg_32.length = 1200 := ⟨chkE_app2 (c := 104932183) (by decide) sk_33.2.1 ck_63'.1 ck_63'.2.1 sk_33.1, by unfold sg_32; rw [List.head?_append, ck_63'.2.2]; rfl, by unfold sg_32; rw [List.length_append, ck_63'.2.1, sk_33.2.2]⟩
def sg_31 : List Nat := ch_62 ++ sg_32
theorem sk_31 : chkE 7 0 3720 sg_31 = true ∧ sg_31.head? = some 102839383 ∧ sg_31.length = 1320 := ⟨chkE_app2 (c := 103883863) (by decide) sk_32.2.1 ck_62'.1 ck_62'.2.1 sk_32.1, by unfold sg_31; rw [List.head?_append, ck_62'.2.2]; rfl, by unfold sg_31; rw [List.length_append, ck_62'.2.1, sk_32.2.2]⟩
def sg_30 : List Nat := ch_61 ++ sg_31
theorem sk_30 : chkE 7 0 3600 sg_30 = true ∧ sg_30.head? = some 101856343 ∧ sg_30.length = 1440 := ⟨chkE_app2 (c := 102839383) (by decide) sk_31.2.1 ck_61'.1 ck_61'.2.1 sk_31.1, by unfold sg_30; rw [List.head?_append, ck_61'.2.2]; rfl, by unfold sg_30; rw [List.length_append, ck_61'.2.1, sk_31.2.2]⟩
def sg_29 : List Nat := ch_57 ++ sg_30
theorem sk_29 : chkE 7 0 3480 sg_29 = true ∧ sg_29.head? = some 91300678 ∧ sg_29.length = 1560 := ⟨chkE_app2 (c := 101856343) (by decide) sk_30.2.1 ck_57'.1 ck_57'.2.1 sk_30.1, by unfold sg_29; rw [List.head?_append, ck_57'.2.2]; rfl, by unfold sg_29; rw [List.length_append, ck_57'.2.1, sk_30.2.2]⟩
def sg_28 : List Nat := ch_56 ++ sg_29
theorem sk_28 : chkE 7 0 3360 sg_28 = true ∧ sg_28.head? = some 90252103 ∧ sg_28.length = 1680 := ⟨chkE_app2 (c := 91300678) (by decide) sk_29.2.1 ck_56'.1 ck_56'.2.1 sk_29.1, by unfold sg_28; rw [List.head?_append, ck_56'.2.2]; rfl, by unfold sg_28; rw [List.length_append, ck_56'.2.1, sk_29.2.2]⟩
def sg_27 : List Nat := ch_54 ++ sg_28
theorem sk_27 : chkE 7 0 3240 sg_27 = true ∧ sg_27.head? = some 88154983 ∧ sg_27.length = 1800 := ⟨chkE_app2 (c := 90252103) (by decide) sk_28.2.1 ck_54'.1 ck_54'.2.1 sk_28.1, by unfold sg_27; rw [List.head?_append, ck_54'.2.2]; rfl, by unfold sg_27; rw [List.length_append, ck_54'.2.1, sk_28.2.2]⟩
def sg_26 : List Nat := ch_53 ++ sg_27
theorem sk_26 : chkE 7 0 3120 sg_26 = true ∧ sg_26.head? = some 87106663 ∧ sg_26.length = 1920 := ⟨chkE_app2 (c := 88154983) (by decide) sk_27.2.1 ck_53'.1 ck_53'.2.1 sk_27.1, by unfold sg_26; rw [List.head?_append, ck_53'.2.2]; rfl, by unfold sg_26; rw [List.length_append, ck_53'.2.1, sk_27.2.2]⟩
def sg_25 : List Nat := ch_52 ++ sg_26
theorem sk_25 : chkE 7 0 3000 sg_25 = true ∧ sg_25.head? = some 86062183 ∧ sg_25.length = 2040 := ⟨chkE_app2 (c := 87106663) (by decide) sk_26.2.1 ck_52'.1 ck_52'.2.1 sk_26.1, by unfold sg_25; rw [List.head?_append, ck_52'.2.2]; rfl, by unfold sg_25; rw [List.length_append, ck_52'.2.1, sk_26.2.2]⟩
def sg_24 : List Nat := ch_51 ++ sg_25
theorem sk_24 : chkE 7 0 2880 sg_24 = true ∧ sg_24.head? = some 85079143 ∧ sg_24.length = 2160 := ⟨chkE_app2 (c := 86062183) (by decide) sk_25.2.1 ck_51'.1 ck_51'.2.1 sk_25.1, by unfold sg_24; rw [List.head?_append, ck_51'.2.2]; rfl, by unfold sg_24; rw [List.length_append, ck_51'.2.1, sk_25.2.2]⟩
def sg_23 : List Nat := ch_47 ++ sg_24
theorem sk_23 : chkE 7 0 2760 sg_23 = true ∧ sg_23.head? = some 74523478 ∧ sg_23.length = 2280 := ⟨chkE_app2 (c := 85079143) (by decide) sk_24.2.1 ck_47'.1 ck_47'.2.1 sk_24.1, by unfold sg_23; rw [List.head?_append, ck_47'.2.2]; rfl, by unfold sg_23; rw [List.length_append, ck_47'.2.1, sk_24.2.2]⟩
def sg_22 : List Nat := ch_46 ++ sg_23
theorem sk_22 : chkE 7 0 2640 sg_22 = true ∧ sg_22.head? = some 73474903 ∧ sg_22.length = 2400 := ⟨chkE_app2 (c := 74523478) (by decide) sk_23.2.1 ck_46'.1 ck_46'.2.1 sk_23.1, by unfold sg_22; rw [List.head?_append, ck_46'.2.2]; rfl, by unfold sg_22; rw [List.length_append, ck_46'.2.1, sk_23.2.2]⟩
def sg_21 : List Nat := ch_45 ++ sg_22
theorem sk_21 : chkE 7 0 2520 sg_21 = true ∧ sg_21.head? = some 72426343 ∧ sg_21.length = 2520 := ⟨chkE_app2 (c := 73474903) (by decide) sk_22.2.1 ck_45'.1 ck_45'.2.1 sk_22.1, by unfold sg_21; rw [List.head?_append, ck_45'.2.2]; rfl, by unfold sg_21; rw [List.length_append, ck_45'.2.1, sk_22.2.2]⟩
def sg_20 : List Nat := ch_43 ++ sg_21
theorem sk_20 : chkE 7 0 2400 sg_20 = true ∧ sg_20.head? = some 70329703 ∧ sg_20.length = 2640 := ⟨chkE_app2 (c := 72426343) (by decide) sk_21.2.1 ck_43'.1 ck_43'.2.1 sk_21.1, by unfold sg_20; rw [List.head?_append, ck_43'.2.2]; rfl, by unfold sg_20; rw [List.length_append, ck_43'.2.1, sk_21.2.2]⟩
def sg_19 : List Nat := ch_42 ++ sg_20
theorem sk_19 : chkE 7 0 2280 sg_19 = true ∧ sg_19.head? = some 69285223 ∧ sg_19.length = 2760 := ⟨chkE_app2 (c := 70329703) (by decide) sk_20.2.1 ck_42'.1 ck_42'.2.1 sk_20.1, by unfold sg_19; rw [List.head?_append, ck_42'.2.2]; rfl, by unfold sg_19; rw [List.length_append, ck_42'.2.1, sk_20.2.2]⟩
def sg_18 : List Nat := ch_41 ++ sg_19
theorem sk_18 : chkE 7 0 2160 sg_18 = true ∧ sg_18.head? = some 68302183 ∧ sg_18.length = 2880 := ⟨chkE_app2 (c := 69285223) (by decide) sk_19.2.1 ck_41'.1 ck_41'.2.1 sk_19.1, by unfold sg_18; rw [List.head?_append, ck_41'.2.2]; rfl, by unfold sg_18; rw [List.length_append, ck_41'.2.1, sk_19.2.2]⟩
def sg_17 : List Nat := ch_37 ++ sg_18
theorem sk_17 : chkE 7 0 2040 sg_17 = true ∧ sg_17.head? = some 57746518 ∧ sg_17.length = 3000 := ⟨chkE_app2 (c := 68302183) (by decide) sk_18.2.1 ck_37'.1 ck_37'.2.1 sk_18.1, by unfold sg_17; rw [List.head?_append, ck_37'.2.2]; rfl, by unfold sg_17; rw [List.length_append, ck_37'.2.1, sk_18.2.2]⟩
def sg_16 : List Nat := ch_36 ++ sg_17
theorem sk_16 : chkE 7 0 1920 sg_16 = true ∧ sg_16.head? = some 56697943 ∧ sg_16.length = 3120 := ⟨chkE_app2 (c := 57746518) (by decide) sk_17.2.1 ck_36'.1 ck_36'.2.1 sk_17.1, by unfold sg_16; rw [List.head?_append, ck_36'.2.2]; rfl, by unfold sg_16; rw [List.length_append, ck_36'.2.1, sk_17.2.2]⟩
def sg_15 : List Nat := ch_35 ++ sg_16
theorem sk_15 : chkE 7 0 1800 sg_15 = true ∧ sg_15.head? = some 55649383 ∧ sg_15.length = 3240 := ⟨chkE_app2 (c := 56697943) (by decide) sk_16.2.1 ck_35'.1 ck_35'.2.1 sk_16.1, by unfold sg_15; rw [List.head?_append, ck_35'.2.2]; rfl, by unfold sg_15; rw [List.length_append, ck_35'.2.1, sk_16.2.2]⟩
def sg_14 : List Nat := ch_34 ++ sg_15
theorem sk_14 : chkE 7 0 1680 sg_14 = true ∧ sg_14.head? = some 54601063 ∧ sg_14.length = 3360 := ⟨chkE_app2 (c := 55649383) (by decide) sk_15.2.1 ck_34'.1 ck_34'.2.1 sk_15.1, by unfold sg_14; rw [List.head?_append, ck_34'.2.2]; rfl, by unfold sg_14; rw [List.length_append, ck_34'.2.1, sk_15.2.2]⟩
def sg_13 : List Nat := ch_32 ++ sg_14
theorem sk_13 : chkE 7 0 1560 sg_13 = true ∧ sg_13.head? = some 52512103 ∧ sg_13.length = 3480 := ⟨chkE_app2 (c := 54601063) (by decide) sk_14.2.1 ck_32'.1 ck_32'.2.1 sk_14.1, by unfold sg_13; rw [List.head?_append, ck_32'.2.2]; rfl, by unfold sg_13; rw [List.length_append, ck_32'.2.1, sk_14.2.2]⟩
def sg_12 : List Nat := ch_31 ++ sg_13
theorem sk_12 : chkE 7 0 1440 sg_12 = true ∧ sg_12.head? = some 51529063 ∧ sg_12.length = 3600 := ⟨chkE_app2 (c := 52512103) (by decide) sk_13.2.1 ck_31'.1 ck_31'.2.1 sk_13.1, by unfold sg_12; rw [List.head?_append, ck_31'.2.2]; rfl, by unfold sg_12; rw [List.length_append, ck_31'.2.1, sk_13.2.2]⟩
def sg_11 : List Nat := ch_27 ++ sg_12
theorem sk_11 : chkE 7 0 1320 sg_11 = true ∧ sg_11.head? = some 40973398 ∧ sg_11.length = 3720 := ⟨chkE_app2 (c := 51529063) (by decide) sk_12.2.1 ck_27'.1 ck_27'.2.1 sk_12.1, by unfold sg_11; rw [List.head?_append, ck_27'.2.2]; rfl, by unfold sg_11; rw [List.length_append, ck_27'.2.1, sk_12.2.2]⟩
def sg_10 : List Nat := ch_26 ++ sg_11
theorem sk_10 : chkE 7 0 1200 sg_10 = true ∧ sg_10.head? = some 39924823 ∧ sg_10.length = 3840 := ⟨chkE_app2 (c := 40973398) (by decide) sk_11.2.1 ck_26'.1 ck_26'.2.1 sk_11.1, by unfold sg_10; rw [List.head?_append, ck_26'.2.2]; rfl, by unfold sg_10; rw [List.length_append, ck_26'.2.1, sk_11.2.2]⟩
def sg_9 : List Nat := ch_25 ++ sg_10
theorem sk_9 : chkE 7 0 1080 sg_9 = true ∧ sg_9.head? = some 38876263 ∧ sg_9.length = 3960 := ⟨chkE_app2 (c := 39924823) (by decide) sk_10.2.1 ck_25'.1 ck_25'.2.1 sk_10.1, by unfold sg_9; rw [List.head?_append, ck_25'.2.2]; rfl, by unfold sg_9; rw [List.length_append, ck_25'.2.1, sk_10.2.2]⟩
def sg_8 : List Nat := ch_24 ++ sg_9
theorem sk_8 : chkE 7 0 960 sg_8 = true ∧ sg_8.head? = some 37827943 ∧ sg_8.length = 4080 := ⟨chkE_app2 (c := 38876263) (by decide) sk_9.2.1 ck_24'.1 ck_24'.2.1 sk_9.1, by unfold sg_8; rw [List.head?_append, ck_24'.2.2]; rfl, by unfold sg_8; rw [List.length_append, ck_24'.2.1, sk_9.2.2]⟩
def sg_7 : List Nat := ch_23 ++ sg_8
theorem sk_7 : chkE 7 0 840 sg_7 = true ∧ sg_7.head? = some 36783463 ∧ sg_7.length = 4200 := ⟨chkE_app2 (c := 37827943) (by decide) sk_8.2.1 ck_23'.1 ck_23'.2.1 sk_8.1, by unfold sg_7; rw [List.head?_append, ck_23'.2.2]; rfl, by unfold sg_7; rw [List.length_append, ck_23'.2.1, sk_8.2.2]⟩
def sg_6 : List Nat := ch_21 ++ sg_7
theorem sk_6 : chkE 7 0 720 sg_6 = true ∧ sg_6.head? = some 34817383 ∧ sg_6.length = 4320 := ⟨chkE_app2 (c := 36783463) (by decide) sk_7.2.1 ck_21'.1 ck_21'.2.1 sk_7.1, by unfold sg_6; rw [List.head?_append, ck_21'.2.2]; rfl, by unfold sg_6; rw [List.length_append, ck_21'.2.1, sk_7.2.2]⟩
def sg_5 : List Nat := ch_17 ++ sg_6
theorem sk_5 : chkE 7 0 600 sg_5 = true ∧ sg_5.head? = some 24261718 ∧ sg_5.length = 4440 := ⟨chkE_app2 (c := 34817383) (by decide) sk_6.2.1 ck_17'.1 ck_17'.2.1 sk_6.1, by unfold sg_5; rw [List.head?_append, ck_17'.2.2]; rfl, by unfold sg_5; rw [List.length_append, ck_17'.2.1, sk_6.2.2]⟩
def sg_4 : List Nat := ch_16 ++ sg_5
theorem sk_4 : chkE 7 0 480 sg_4 = true ∧ sg_4.head? = some 23213143 ∧ sg_4.length = 4560 := ⟨chkE_app2 (c := 24261718) (by decide) sk_5.2.1 ck_16'.1 ck_16'.2.1 sk_5.1, by unfold sg_4; rw [List.head?_append, ck_16'.2.2]; rfl, by unfold sg_4; rw [List.length_append, ck_16'.2.1, sk_5.2.2]⟩
def sg_3 : List Nat := ch_15 ++ sg_4
theorem sk_3 : chkE 7 0 360 sg_3 = true ∧ sg_3.head? = some 22164583 ∧ sg_3.length = 4680 := ⟨chkE_app2 (c := 23213143) (by decide) sk_4.2.1 ck_15'.1 ck_15'.2.1 sk_4.1, by unfold sg_3; rw [List.head?_append, ck_15'.2.2]; rfl, by unfold sg_3; rw [List.length_append, ck_15'.2.1, sk_4.2.2]⟩
def sg_2 : List Nat := ch_14 ++ sg_3
theorem sk_2 : chkE 7 0 240 sg_2 = true ∧ sg_2.head? = some 21116263 ∧ sg_2.length = 4800 := ⟨chkE_app2 (c := 22164583) (by decide) sk_3.2.1 ck_14'.1 ck_14'.2.1 sk_3.1, by unfold sg_2; rw [List.head?_append, ck_14'.2.2]; rfl, by unfold sg_2; rw [List.length_append, ck_14'.2.1, sk_3.2.2]⟩
def sg_1 : List Nat := ch_13 ++ sg_2
theorem sk_1 : chkE 7 0 120 sg_1 = true ∧ sg_1.head? = some 20071783 ∧ sg_1.length = 4920 := ⟨chkE_app2 (c := 21116263) (by decide) sk_2.2.1 ck_13'.1 ck_13'.2.1 sk_2.1, by unfold sg_1; rw [List.head?_append, ck_13'.2.2]; rfl, by unfold sg_1; rw [List.length_append, ck_13'.2.1, sk_2.2.2]⟩
def sg_0 : List Nat := ch_12 ++ sg_1
theorem sk_0 : chkE 7 0 0 sg_0 = true ∧ sg_0.head? = some 19088743 ∧ sg_0.length = 5040 := ⟨chkE_app2 (c := 20071783) (by decide) sk_1.2.1 ck_12'.1 ck_12'.2.1 sk_1.1, by unfold sg_0; rw [List.head?_append, ck_12'.2.2]; rfl, by unfold sg_0; rw [List.length_append, ck_12'.2.1, sk_1.2.2]⟩
theorem pg_1 : permsGo 7 6 (andn 127 (bt 1)) (16 * 0 + 1) ++ sg_6 = sg_0 := by
  rw [permsGo_s, show dsel 7 (andn 127 (bt 1)) = [2, 3, 4, 5, 6, 7] from by decide +kernel]
  simp only [List.flatMap_cons, List.flatMap_nil, List.append_nil, List.append_assoc]
  unfold sg_0 sg_1 sg_2 sg_3 sg_4 sg_5 ch_12 ch_13 ch_14 ch_15 ch_16 ch_17
  rfl
theorem pg_2 : permsGo 7 6 (andn 127 (bt 2)) (16 * 0 + 2) ++ sg_12 = sg_6 := by
  rw [permsGo_s, show dsel 7 (andn 127 (bt 2)) = [1, 3, 4, 5, 6, 7] from by decide +kernel]
  simp only [List.flatMap_cons, List.flatMap_nil, List.append_nil, List.append_assoc]
  unfold sg_6 sg_7 sg_8 sg_9 sg_10 sg_11 ch_21 ch_23 ch_24 ch_25 ch_26 ch_27
  rfl
theorem pg_3 : permsGo 7 6 (andn 127 (bt 3)) (16 * 0 + 3) ++ sg_18 = sg_12 := by
  rw [permsGo_s, show dsel 7 (andn 127 (bt 3)) = [1, 2, 4, 5, 6, 7] from by decide +kernel]
  simp only [List.flatMap_cons, List.flatMap_nil, List.append_nil, List.append_assoc]
  unfold sg_12 sg_13 sg_14 sg_15 sg_16 sg_17 ch_31 ch_32 ch_34 ch_35 ch_36 ch_37
  rfl
theorem pg_4 : permsGo 7 6 (andn 127 (bt 4)) (16 * 0 + 4) ++ sg_24 = sg_18 := by
  rw [permsGo_s, show dsel 7 (andn 127 (bt 4)) = [1, 2, 3, 5, 6, 7] from by decide +kernel]
  simp only [List.flatMap_cons, List.flatMap_nil, List.append_nil, List.append_assoc]
  unfold sg_18 sg_19 sg_20 sg_21 sg_22 sg_23 ch_41 ch_42 ch_43 ch_45 ch_46 ch_47
  rfl
theorem pg_5 : permsGo 7 6 (andn 127 (bt 5)) (16 * 0 + 5) ++ sg_30 = sg_24 := by
  rw [permsGo_s, show dsel 7 (andn 127 (bt 5)) = [1, 2, 3, 4, 6, 7] from by decide +kernel]
  simp only [List.flatMap_cons, List.flatMap_nil, List.append_nil, List.append_assoc]
  unfold sg_24 sg_25 sg_26 sg_27 sg_28 sg_29 ch_51 ch_52 ch_53 ch_54 ch_56 ch_57
  rfl
theorem pg_6 : permsGo 7 6 (andn 127 (bt 6)) (16 * 0 + 6) ++ sg_36 = sg_30 := by
  rw [permsGo_s, show dsel 7 (andn 127 (bt 6)) = [1, 2, 3, 4, 5, 7] from by decide +kernel]
  simp only [List.flatMap_cons, List.flatMap_nil, List.append_nil, List.append_assoc]
  unfold sg_30 sg_31 sg_32 sg_33 sg_34 sg_35 ch_61 ch_62 ch_63 ch_64 ch_65 ch_67
  rfl
theorem pg_7 : permsGo 7 6 (andn 127 (bt 7)) (16 * 0 + 7) ++ [] = sg_36 := by
  rw [permsGo_s, show dsel 7 (andn 127 (bt 7)) = [1, 2, 3, 4, 5, 6] from by decide +kernel]
  simp only [List.flatMap_cons, List.flatMap_nil, List.append_nil, List.append_assoc]
  unfold sg_36 sg_37 sg_38 sg_39 sg_40 sg_41 ch_71 ch_72 ch_73 ch_74 ch_75 ch_76
  rfl
theorem ph7 : PH 7 = sg_0 := by
  unfold PH
  rw [show (fun c : Nat => c * 16 ^ (7 - 7) + hx (tl 7)) = id from by funext c; rw [show hx (tl 7) = 0 by decide +kernel]; simp, List.map_id, show full 7 = 127 from rfl, permsGo_s, show dsel 7 127 = [1, 2, 3, 4, 5, 6, 7] from by decide +kernel]
  simp only [List.flatMap_cons, List.flatMap_nil]
  rw [pg_7, pg_6, pg_5, pg_4, pg_3, pg_2, pg_1]
theorem ph_chk : ∀ n : Nat, n < 8 → 1 ≤ n → chkE n 0 0 (PH n) = true ∧ (PH n).length = facN n ∧ (PH n).getD 0 0 = hx pid := by
  intro n h1 h2
  rcases (show n = 1 ∨ n = 2 ∨ n = 3 ∨ n = 4 ∨ n = 5 ∨ n = 6 ∨ n = 7 by omega) with rfl | rfl | rfl | rfl | rfl | rfl | rfl
  · decide +kernel
  · decide +kernel
  · decide +kernel
  · decide +kernel
  · decide +kernel
  · decide +kernel
  · rw [ph7]
    refine ⟨sk_0.1, sk_0.2.2, ?_⟩
    rw [List.getD_eq_getElem?_getD, ← List.head?_eq_getElem?, sk_0.2.1]
    decide +kernel
theorem chkE_at {n e : Nat} : ∀ (L : List Nat) (i j : Nat), chkE n e i L = true → j < L.length → (pmB n (L.getD j 0) = true ∧ rankN (dg (L.getD j 0)) n = i + j) ∧ (j + 1 < L.length → L.getD j 0 < L.getD (j + 1) 0 ∧ hx (nextF (dg (L.getD j 0)) n) = L.getD (j + 1) 0) ∧ (e = 0 → 1 < n → j + 1 = L.length → nxA (dg (L.getD j 0)) (n - 1) = 0)
  | [], i, j, _, hj => by simp at hj
  | [c], i, j, h, hj => by
    have : j = 0 := by simpa using hj
    subst this
    simp only [chkE, Bool.and_eq_true, beq_iff_eq] at h
    refine ⟨⟨h.1, h.2.1⟩, fun q => by simp at q, fun he hn _ => ?_⟩
    have h3 := h.2.2
    rw [if_pos (by simpa using he), Bool.or_eq_true, beq_iff_eq, Nat.ble_eq] at h3
    rcases h3 with q | q
    · omega
    · exact q
  | c :: c2 :: cs, i, j, h, hj => by
    simp only [chkE, Bool.and_eq_true, beq_iff_eq] at h
    cases j with
    | zero =>
      refine ⟨⟨h.1, h.2.1⟩, fun _ => ⟨Nat.le_of_ble_eq_true h.2.2.1.1, h.2.2.1.2⟩, fun _ _ q => by simp at q⟩
    | succ j =>
      obtain ⟨a, b, d⟩ := chkE_at (c2 :: cs) (i + 1) j h.2.2.2 (by simpa using hj)
      simp only [List.getD_cons_succ]
      refine ⟨⟨a.1, by rw [a.2]; omega⟩, fun q => b (by simpa using q), fun p q r => d p q (by simpa using r)⟩
/-- the i-th permutation of n -/
def pn (n i : Nat) : Nat → Nat := dg ((PH n).getD i 0)
section PN
variable {n i j : Nat}
theorem pn_at (h1 : 1 ≤ n) (h7 : n ≤ 7) (hi : i < facN n) : Pm n (pn n i) ∧ rankN (pn n i) n = i := by
  obtain ⟨a, b, c⟩ := ph_chk n (by omega) h1
  have h := (chkE_at (PH n) 0 i a (by omega)).1
  exact ⟨pmB_ok h7 h.1, by unfold pn; rw [h.2]; omega⟩
theorem pn_hx (h1 : 1 ≤ n) (h7 : n ≤ 7) (hi : i < facN n) : hx (pn n i) = (PH n).getD i 0 := by
  obtain ⟨a, b, c⟩ := ph_chk n (by omega) h1
  have hm : (PH n).getD i 0 ∈ PH n := by
    rw [List.getD_eq_getElem?_getD, List.getElem?_eq_getElem (by omega)]
    exact List.getElem_mem _
  have hp := (pn_at h1 h7 hi).1
  unfold pn at hp ⊢
  generalize (PH n).getD i 0 = c at hm hp
  have : c < 16 ^ 7 := by
    unfold PH at hm
    rw [List.mem_map] at hm
    obtain ⟨q, hq, e⟩ := hm
    have key : ∀ k free c0 q, q ∈ permsGo n k free c0 → q < (c0 + 1) * 16 ^ k := by
      intro k
      induction k with
      | zero => intro free c0 q h; simp [permsGo] at h; omega
      | succ k ih =>
        intro free c0 q h
        rw [permsGo_s, List.mem_flatMap] at h
        obtain ⟨d, hd, h⟩ := h
        have := ih _ _ q h
        have hd7 := (dsel_mem.mp hd).1
        have e : (c0 + 1) * 16 ^ (k + 1) = (16 * c0 + 16) * 16 ^ k := by rw [Nat.pow_succ, Nat.mul_comm (16 ^ k) 16, ← Nat.mul_assoc]; congr 1; omega
        rw [e]
        exact Nat.lt_of_lt_of_le this (Nat.mul_le_mul_right _ (by omega))
    have h := key n (full n) 0 q hq
    have ht : hx (tl n) < 16 ^ (7 - n) := by
      rcases (show n = 1 ∨ n = 2 ∨ n = 3 ∨ n = 4 ∨ n = 5 ∨ n = 6 ∨ n = 7 by omega) with rfl | rfl | rfl | rfl | rfl | rfl | rfl <;> decide +kernel
    rw [← e]
    have h3 : (q + 1) * 16 ^ (7 - n) ≤ (0 + 1) * 16 ^ n * 16 ^ (7 - n) := Nat.mul_le_mul_right _ (by omega)
    have h4 : (0 + 1) * 16 ^ n * 16 ^ (7 - n) = 16 ^ 7 := by rw [Nat.zero_add, Nat.one_mul, ← Nat.pow_add]; congr 1; omega
    rw [Nat.add_mul] at h3
    omega
  rw [hx_eq]
  simp only [dg, Nat.reduceLeDiff, and_self, if_true, Nat.reduceSub, Nat.reducePow] at this ⊢
  omega
theorem pn_lt (h1 : 1 ≤ n) (h7 : n ≤ 7) (hj : j < facN n) : i < j → hx (pn n i) < hx (pn n j) := by
  obtain ⟨a, b, c⟩ := ph_chk n (by omega) h1
  intro h
  have key : ∀ d, i + d + 1 < facN n → hx (pn n i) < hx (pn n (i + d + 1)) := by
    intro d
    induction d with
    | zero =>
      intro hd
      rw [pn_hx h1 h7 (by omega), pn_hx h1 h7 hd]
      exact ((chkE_at (PH n) 0 i a (by omega)).2.1 (by omega)).1
    | succ d ih =>
      intro hd
      refine Nat.lt_trans (ih (by omega)) ?_
      rw [pn_hx h1 h7 (by omega), pn_hx h1 h7 hd]
      exact ((chkE_at (PH n) 0 (i + d + 1) a (by omega)).2.1 (by omega)).1
  have := key (j - i - 1) (by omega)
  rw [show i + (j - i - 1) + 1 = j by omega] at this
  exact this
theorem pn_inj (h1 : 1 ≤ n) (h7 : n ≤ 7) (hi : i < facN n) (hj : j < facN n) (e : pn n i = pn n j) : i = j := by
  rw [← (pn_at h1 h7 hi).2, ← (pn_at h1 h7 hj).2, e]
theorem pn_next (h1 : 1 ≤ n) (h7 : n ≤ 7) (hi : i + 1 < facN n) : hx (nextF (pn n i) n) = hx (pn n (i + 1)) := by
  obtain ⟨a, b, c⟩ := ph_chk n (by omega) h1
  rw [pn_hx h1 h7 hi]
  exact ((chkE_at (PH n) 0 i a (by omega)).2.1 (by omega)).2
theorem pn_last (h1 : 1 < n) (h7 : n ≤ 7) (hi : i + 1 = facN n) : nxA (pn n i) (n - 1) = 0 := by
  obtain ⟨a, b, c⟩ := ph_chk n (by omega) (by omega)
  exact (chkE_at (PH n) 0 i a (by omega)).2.2 rfl h1 (by omega)
theorem pn_first (h1 : 1 ≤ n) (h7 : n ≤ 7) : pn n 0 = pid := by
  unfold pn
  rw [(ph_chk n (by omega) h1).2.2, dg_hx (pm_id n) h7]
theorem pn_rank {f : Nat → Nat} (h1 : 1 ≤ n) (h7 : n ≤ 7) (hf : Pm n f) : rankN f n < facN n ∧ pn n (rankN f n) = f := by
  have hm := PH_mem hf h7
  obtain ⟨i, hi, e⟩ := List.mem_iff_getElem.mp hm
  have hl := (ph_chk n (by omega) h1).2.1
  have e2 : pn n i = f := by
    unfold pn
    rw [List.getD_eq_getElem?_getD, List.getElem?_eq_getElem hi, Option.getD_some, e, dg_hx hf h7]
  have h := pn_at h1 h7 (i := i) (by omega)
  rw [e2] at h
  rw [h.2]
  exact ⟨by omega, e2⟩
theorem rank_inj {f g : Nat → Nat} (h1 : 1 ≤ n) (h7 : n ≤ 7) (hf : Pm n f) (hg : Pm n g) (e : rankN f n = rankN g n) : f = g := by
  rw [← (pn_rank h1 h7 hf).2, ← (pn_rank h1 h7 hg).2, e]
/-- unlike permutations of n in a row are at most n! -/
theorem few {L : List (Nat → Nat)} (h1 : 1 ≤ n) (h7 : n ≤ 7) (hL : ∀ g, g ∈ L → Pm n g) (hd : L.Pairwise (fun a b => a ≠ b)) : L.length ≤ facN n := by
  have mem : ∀ k (hk : k < L.length), Pm n (L.getD k pid) := fun k hk => by
    rw [List.getD_eq_getElem?_getD, List.getElem?_eq_getElem hk, Option.getD_some]
    exact hL _ (List.getElem_mem hk)
  refine fb_holes (facN n) L.length (fun k => rankN (L.getD k pid) n) (fun k hk => (pn_rank h1 h7 (mem k hk)).1) (fun a b hab hb e => ?_)
  have e2 := rank_inj h1 h7 (mem a (by omega)) (mem b hb) e
  rw [List.getD_eq_getElem?_getD, List.getElem?_eq_getElem (by omega), List.getD_eq_getElem?_getD, List.getElem?_eq_getElem hb] at e2
  exact List.pairwise_iff_getElem.mp hd a b (by omega) hb hab e2
theorem fac_5040 (h1 : 1 ≤ n) (h7 : n ≤ 7) : facN n ≤ 5040 := (fac_le h1 h7).2
end PN

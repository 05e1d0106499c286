/-! the constructors of the class -/
abbrev za (G : Gx) (t N : Nat) : va_E := .inl (acls G t, N,   .inl (fun _ => iz 0))
abbrev zq (G : Gx) (N : Nat) (f : Nat → Option Nat) : va_E := .inl (G.2.2.2.2.2, N, .inr (.inr (.inr (.inr f))))
theorem ar_0 : Cond.arrayClass .int ∈ WS := ws_of (by decide +kernel) (by decide +kernel)
theorem ar_1 : Cond.arrayClass .byte ∈ WS := ws_of (by decide +kernel) (by decide +kernel)
theorem ar_2 : Cond.arrayClass .boolean ∈ WS := ws_of (by decide +kernel) (by decide +kernel)
theorem ol_RX0_3 : OLk RX0 3 := ⟨ws_of (List.mem_of_getElem? (i := 243) (by decide +kernel)) (by decide +kernel), ws_of (List.mem_of_getElem? (i := 114) (by decide +kernel)) (by decide +kernel), ws_of (by decide +kernel) (by decide +kernel)⟩
theorem pl_RX0_9 : PLk RX0 9 0 0 "<init>" (.array .int) := ⟨_, _, _, ck_0, by decide, ws_of (List.mem_of_getElem? (i := 244) (by decide +kernel)) (by decide +kernel), Or.inr ⟨rfl, rfl, rfl⟩, by decide +kernel⟩
theorem pl_RX1_15 : PLk RX1 15 1 1 "<init>" (.array .int) := ⟨_, _, _, ck_1, by decide, ws_of (List.mem_of_getElem? (i := 258) (by decide +kernel)) (by decide +kernel), Or.inr ⟨rfl, rfl, rfl⟩, by decide +kernel⟩
theorem pl_RX1_20 : PLk RX1 20 1 4 "<init>" (.array .int) := ⟨_, _, _, ck_1, by decide, ws_of (List.mem_of_getElem? (i := 261) (by decide +kernel)) (by decide +kernel), Or.inr ⟨rfl, rfl, rfl⟩, by decide +kernel⟩
theorem pl_RX1_23 : PLk RX1 23 1 5 "<init>" (.array .int) := ⟨_, _, _, ck_1, by decide, ws_of (List.mem_of_getElem? (i := 262) (by decide +kernel)) (by decide +kernel), Or.inr ⟨rfl, rfl, rfl⟩, by decide +kernel⟩
theorem pl_RX1_26 : PLk RX1 26 1 8 "<init>" (.array .boolean) := ⟨_, _, _, ck_1, by decide, ws_of (List.mem_of_getElem? (i := 265) (by decide +kernel)) (by decide +kernel), Or.inr ⟨rfl, rfl, rfl⟩, by decide +kernel⟩
theorem ol_RX1_3 : OLk RX1 3 := ⟨ws_of (List.mem_of_getElem? (i := 256) (by decide +kernel)) (by decide +kernel), ws_of (List.mem_of_getElem? (i := 114) (by decide +kernel)) (by decide +kernel), ws_of (by decide +kernel) (by decide +kernel)⟩
theorem pl_RX1_30 : PLk RX1 30 1 9 "<init>" (.array .int) := ⟨_, _, _, ck_1, by decide, ws_of (List.mem_of_getElem? (i := 266) (by decide +kernel)) (by decide +kernel), Or.inr ⟨rfl, rfl, rfl⟩, by decide +kernel⟩
theorem pl_RX1_33 : PLk RX1 33 1 10 "<init>" (.array .int) := ⟨_, _, _, ck_1, by decide, ws_of (List.mem_of_getElem? (i := 267) (by decide +kernel)) (by decide +kernel), Or.inr ⟨rfl, rfl, rfl⟩, by decide +kernel⟩
theorem pl_RX1_9 : PLk RX1 9 1 0 "<init>" (.array .int) := ⟨_, _, _, ck_1, by decide, ws_of (List.mem_of_getElem? (i := 257) (by decide +kernel)) (by decide +kernel), Or.inr ⟨rfl, rfl, rfl⟩, by decide +kernel⟩
theorem ol_RX10_1 : OLk RX10 1 := ⟨ws_of (List.mem_of_getElem? (i := 113) (by decide +kernel)) (by decide +kernel), ws_of (List.mem_of_getElem? (i := 114) (by decide +kernel)) (by decide +kernel), ws_of (by decide +kernel) (by decide +kernel)⟩
theorem nl_RX10_13 : NLk RX10 13 7 RX9 TX9 7 := ⟨rfl, fun u h => ws_of (inX9 u h).1 (inX9 u h).2, ws_of (List.mem_of_getElem? (i := 116) (by decide +kernel)) (by decide +kernel), ws_of (List.mem_of_getElem? (i := 117) (by decide +kernel)) (by decide +kernel), ws_of (List.mem_of_getElem? (i := 96) (by decide +kernel)) (by decide +kernel)⟩
theorem pl_RX10_16 : PLk RX10 16 8 3 "<init>" (.object "DrawnMaps$State") := ⟨_, _, _, ck_8, by decide, ws_of (List.mem_of_getElem? (i := 354) (by decide +kernel)) (by decide +kernel), Or.inr ⟨rfl, rfl, rfl⟩, by decide +kernel⟩
theorem pl_RX10_20 : PLk RX10 20 8 4 "<init>" (.array (.object "DrawnMaps$State")) := ⟨_, _, _, ck_8, by decide, ws_of (List.mem_of_getElem? (i := 355) (by decide +kernel)) (by decide +kernel), Or.inr ⟨rfl, rfl, rfl⟩, by decide +kernel⟩
theorem nl_RX10_24 : NLk RX10 24 6 RX8 TX8 10 := ⟨rfl, fun u h => ws_of (inX8 u h).1 (inX8 u h).2, ws_of (List.mem_of_getElem? (i := 154) (by decide +kernel)) (by decide +kernel), ws_of (List.mem_of_getElem? (i := 155) (by decide +kernel)) (by decide +kernel), ws_of (List.mem_of_getElem? (i := 97) (by decide +kernel)) (by decide +kernel)⟩
theorem pl_RX10_27 : PLk RX10 27 8 6 "<init>" (.object "DrawnMaps$Relabels") := ⟨_, _, _, ck_8, by decide, ws_of (List.mem_of_getElem? (i := 357) (by decide +kernel)) (by decide +kernel), Or.inr ⟨rfl, rfl, rfl⟩, by decide +kernel⟩
theorem nl_RX10_31 : NLk RX10 31 2 RX2 TX2 3 := ⟨rfl, fun u h => ws_of (inX2 u h).1 (inX2 u h).2, ws_of (List.mem_of_getElem? (i := 197) (by decide +kernel)) (by decide +kernel), ws_of (List.mem_of_getElem? (i := 198) (by decide +kernel)) (by decide +kernel), ws_of (List.mem_of_getElem? (i := 98) (by decide +kernel)) (by decide +kernel)⟩
theorem pl_RX10_34 : PLk RX10 34 8 7 "<init>" (.object "DrawnMaps$Chain") := ⟨_, _, _, ck_8, by decide, ws_of (List.mem_of_getElem? (i := 358) (by decide +kernel)) (by decide +kernel), Or.inr ⟨rfl, rfl, rfl⟩, by decide +kernel⟩
theorem nl_RX10_38 : NLk RX10 38 4 RX4 TX4 6 := ⟨rfl, fun u h => ws_of (inX4 u h).1 (inX4 u h).2, ws_of (List.mem_of_getElem? (i := 213) (by decide +kernel)) (by decide +kernel), ws_of (List.mem_of_getElem? (i := 214) (by decide +kernel)) (by decide +kernel), ws_of (List.mem_of_getElem? (i := 99) (by decide +kernel)) (by decide +kernel)⟩
theorem pl_RX10_41 : PLk RX10 41 8 8 "<init>" (.object "DrawnMaps$Group") := ⟨_, _, _, ck_8, by decide, ws_of (List.mem_of_getElem? (i := 359) (by decide +kernel)) (by decide +kernel), Or.inr ⟨rfl, rfl, rfl⟩, by decide +kernel⟩
theorem nl_RX10_45 : NLk RX10 45 0 RX0 TX0 2 := ⟨rfl, fun u h => ws_of (inX0 u h).1 (inX0 u h).2, ws_of (List.mem_of_getElem? (i := 238) (by decide +kernel)) (by decide +kernel), ws_of (List.mem_of_getElem? (i := 239) (by decide +kernel)) (by decide +kernel), ws_of (List.mem_of_getElem? (i := 100) (by decide +kernel)) (by decide +kernel)⟩
theorem pl_RX10_48 : PLk RX10 48 8 9 "<init>" (.object "DrawnMaps$Blocks") := ⟨_, _, _, ck_8, by decide, ws_of (List.mem_of_getElem? (i := 360) (by decide +kernel)) (by decide +kernel), Or.inr ⟨rfl, rfl, rfl⟩, by decide +kernel⟩
theorem nl_RX10_52 : NLk RX10 52 1 RX1 TX1 16 := ⟨rfl, fun u h => ws_of (inX1 u h).1 (inX1 u h).2, ws_of (List.mem_of_getElem? (i := 251) (by decide +kernel)) (by decide +kernel), ws_of (List.mem_of_getElem? (i := 252) (by decide +kernel)) (by decide +kernel), ws_of (List.mem_of_getElem? (i := 101) (by decide +kernel)) (by decide +kernel)⟩
theorem pl_RX10_55 : PLk RX10 55 8 10 "<init>" (.object "DrawnMaps$Census") := ⟨_, _, _, ck_8, by decide, ws_of (List.mem_of_getElem? (i := 361) (by decide +kernel)) (by decide +kernel), Or.inr ⟨rfl, rfl, rfl⟩, by decide +kernel⟩
theorem nl_RX10_59 : NLk RX10 59 3 RX3 TX3 3 := ⟨rfl, fun u h => ws_of (inX3 u h).1 (inX3 u h).2, ws_of (List.mem_of_getElem? (i := 309) (by decide +kernel)) (by decide +kernel), ws_of (List.mem_of_getElem? (i := 310) (by decide +kernel)) (by decide +kernel), ws_of (List.mem_of_getElem? (i := 102) (by decide +kernel)) (by decide +kernel)⟩
theorem pl_RX10_62 : PLk RX10 62 8 11 "<init>" (.object "DrawnMaps$Family") := ⟨_, _, _, ck_8, by decide, ws_of (List.mem_of_getElem? (i := 362) (by decide +kernel)) (by decide +kernel), Or.inr ⟨rfl, rfl, rfl⟩, by decide +kernel⟩
theorem nl_RX10_66 : NLk RX10 66 5 RX7 TX7 6 := ⟨rfl, fun u h => ws_of (inX7 u h).1 (inX7 u h).2, ws_of (List.mem_of_getElem? (i := 326) (by decide +kernel)) (by decide +kernel), ws_of (List.mem_of_getElem? (i := 327) (by decide +kernel)) (by decide +kernel), ws_of (List.mem_of_getElem? (i := 103) (by decide +kernel)) (by decide +kernel)⟩
theorem pl_RX10_69 : PLk RX10 69 8 12 "<init>" (.object "DrawnMaps$Reader") := ⟨_, _, _, ck_8, by decide, ws_of (List.mem_of_getElem? (i := 363) (by decide +kernel)) (by decide +kernel), Or.inr ⟨rfl, rfl, rfl⟩, by decide +kernel⟩
theorem pl_RX10_9 : PLk RX10 9 8 0 "<init>" (.array .int) := ⟨_, _, _, ck_8, by decide, ws_of (List.mem_of_getElem? (i := 351) (by decide +kernel)) (by decide +kernel), Or.inr ⟨rfl, rfl, rfl⟩, by decide +kernel⟩
theorem ol_RX2_1 : OLk RX2 1 := ⟨ws_of (List.mem_of_getElem? (i := 202) (by decide +kernel)) (by decide +kernel), ws_of (List.mem_of_getElem? (i := 114) (by decide +kernel)) (by decide +kernel), ws_of (by decide +kernel) (by decide +kernel)⟩
theorem pl_RX2_13 : PLk RX2 13 2 1 "<init>" (.array .int) := ⟨_, _, _, ck_2, by decide, ws_of (List.mem_of_getElem? (i := 204) (by decide +kernel)) (by decide +kernel), Or.inr ⟨rfl, rfl, rfl⟩, by decide +kernel⟩
theorem pl_RX2_9 : PLk RX2 9 2 0 "<init>" (.array .int) := ⟨_, _, _, ck_2, by decide, ws_of (List.mem_of_getElem? (i := 203) (by decide +kernel)) (by decide +kernel), Or.inr ⟨rfl, rfl, rfl⟩, by decide +kernel⟩
theorem pl_RX3_11 : PLk RX3 11 3 0 "<init>" (.array .int) := ⟨_, _, _, ck_3, by decide, ws_of (List.mem_of_getElem? (i := 315) (by decide +kernel)) (by decide +kernel), Or.inr ⟨rfl, rfl, rfl⟩, by decide +kernel⟩
theorem pl_RX3_15 : PLk RX3 15 3 1 "<init>" (.array .int) := ⟨_, _, _, ck_3, by decide, ws_of (List.mem_of_getElem? (i := 316) (by decide +kernel)) (by decide +kernel), Or.inr ⟨rfl, rfl, rfl⟩, by decide +kernel⟩
theorem ol_RX3_3 : OLk RX3 3 := ⟨ws_of (List.mem_of_getElem? (i := 314) (by decide +kernel)) (by decide +kernel), ws_of (List.mem_of_getElem? (i := 114) (by decide +kernel)) (by decide +kernel), ws_of (by decide +kernel) (by decide +kernel)⟩
theorem pl_RX4_15 : PLk RX4 15 4 1 "<init>" (.array .int) := ⟨_, _, _, ck_4, by decide, ws_of (List.mem_of_getElem? (i := 220) (by decide +kernel)) (by decide +kernel), Or.inr ⟨rfl, rfl, rfl⟩, by decide +kernel⟩
theorem ol_RX4_3 : OLk RX4 3 := ⟨ws_of (List.mem_of_getElem? (i := 218) (by decide +kernel)) (by decide +kernel), ws_of (List.mem_of_getElem? (i := 114) (by decide +kernel)) (by decide +kernel), ws_of (by decide +kernel) (by decide +kernel)⟩
theorem pl_RX4_9 : PLk RX4 9 4 0 "<init>" (.array .int) := ⟨_, _, _, ck_4, by decide, ws_of (List.mem_of_getElem? (i := 219) (by decide +kernel)) (by decide +kernel), Or.inr ⟨rfl, rfl, rfl⟩, by decide +kernel⟩
theorem ol_RX7_3 : OLk RX7 3 := ⟨ws_of (List.mem_of_getElem? (i := 331) (by decide +kernel)) (by decide +kernel), ws_of (List.mem_of_getElem? (i := 114) (by decide +kernel)) (by decide +kernel), ws_of (by decide +kernel) (by decide +kernel)⟩
theorem pl_RX8_15 : PLk RX8 15 6 1 "<init>" (.array .int) := ⟨_, _, _, ck_6, by decide, ws_of (List.mem_of_getElem? (i := 161) (by decide +kernel)) (by decide +kernel), Or.inr ⟨rfl, rfl, rfl⟩, by decide +kernel⟩
theorem pl_RX8_18 : PLk RX8 18 6 2 "<init>" (.array .int) := ⟨_, _, _, ck_6, by decide, ws_of (List.mem_of_getElem? (i := 162) (by decide +kernel)) (by decide +kernel), Or.inr ⟨rfl, rfl, rfl⟩, by decide +kernel⟩
theorem ol_RX8_3 : OLk RX8 3 := ⟨ws_of (List.mem_of_getElem? (i := 159) (by decide +kernel)) (by decide +kernel), ws_of (List.mem_of_getElem? (i := 114) (by decide +kernel)) (by decide +kernel), ws_of (by decide +kernel) (by decide +kernel)⟩
theorem pl_RX8_9 : PLk RX8 9 6 0 "<init>" (.array .int) := ⟨_, _, _, ck_6, by decide, ws_of (List.mem_of_getElem? (i := 160) (by decide +kernel)) (by decide +kernel), Or.inr ⟨rfl, rfl, rfl⟩, by decide +kernel⟩
theorem pl_RX9_18 : PLk RX9 18 7 1 "<init>" (.int) := ⟨_, _, _, ck_7, by decide, ws_of (List.mem_of_getElem? (i := 125) (by decide +kernel)) (by decide +kernel), Or.inl rfl, by decide +kernel⟩
theorem pl_RX9_21 : PLk RX9 21 7 2 "<init>" (.int) := ⟨_, _, _, ck_7, by decide, ws_of (List.mem_of_getElem? (i := 127) (by decide +kernel)) (by decide +kernel), Or.inl rfl, by decide +kernel⟩
theorem pl_RX9_24 : PLk RX9 24 7 4 "<init>" (.array .int) := ⟨_, _, _, ck_7, by decide, ws_of (List.mem_of_getElem? (i := 131) (by decide +kernel)) (by decide +kernel), Or.inr ⟨rfl, rfl, rfl⟩, by decide +kernel⟩
theorem pl_RX9_28 : PLk RX9 28 7 5 "<init>" (.array .int) := ⟨_, _, _, ck_7, by decide, ws_of (List.mem_of_getElem? (i := 133) (by decide +kernel)) (by decide +kernel), Or.inr ⟨rfl, rfl, rfl⟩, by decide +kernel⟩
theorem ol_RX9_3 : OLk RX9 3 := ⟨ws_of (List.mem_of_getElem? (i := 121) (by decide +kernel)) (by decide +kernel), ws_of (List.mem_of_getElem? (i := 114) (by decide +kernel)) (by decide +kernel), ws_of (by decide +kernel) (by decide +kernel)⟩
theorem pl_RX9_31 : PLk RX9 31 7 6 "<init>" (.array .int) := ⟨_, _, _, ck_7, by decide, ws_of (List.mem_of_getElem? (i := 135) (by decide +kernel)) (by decide +kernel), Or.inr ⟨rfl, rfl, rfl⟩, by decide +kernel⟩
theorem pl_RX9_9 : PLk RX9 9 7 0 "<init>" (.int) := ⟨_, _, _, ck_7, by decide, ws_of (List.mem_of_getElem? (i := 123) (by decide +kernel)) (by decide +kernel), Or.inl rfl, by decide +kernel⟩
theorem df_X0 : ∀ j, j < 2 → defaultValue (tyX0 j) = vp_V [.null, .int (iz 0)] j := by
  intro j hj
  rcases (show j = 0 ∨ j = 1 by omega) with rfl | rfl <;> rfl
theorem df_X1 : ∀ j, j < 16 → defaultValue (tyX1 j) = vp_V [.null, .null, .int (iz 0), .int (iz 0), .null, .null, .int (iz 0), .int (iz 0), .null, .null, .null, .int (iz 0), .int (iz 0), .int (iz 0), .int (iz 0), .int (iz 0)] j := by
  intro j hj
  rcases (show j = 0 ∨ j = 1 ∨ j = 2 ∨ j = 3 ∨ j = 4 ∨ j = 5 ∨ j = 6 ∨ j = 7 ∨ j = 8 ∨ j = 9 ∨ j = 10 ∨ j = 11 ∨ j = 12 ∨ j = 13 ∨ j = 14 ∨ j = 15 by omega) with rfl | rfl | rfl | rfl | rfl | rfl | rfl | rfl | rfl | rfl | rfl | rfl | rfl | rfl | rfl | rfl <;> rfl
theorem df_X2 : ∀ j, j < 3 → defaultValue (tyX2 j) = vp_V [.null, .null, .int (iz 0)] j := by
  intro j hj
  rcases (show j = 0 ∨ j = 1 ∨ j = 2 by omega) with rfl | rfl | rfl <;> rfl
theorem df_X3 : ∀ j, j < 3 → defaultValue (tyX3 j) = vp_V [.null, .null, .int (iz 0)] j := by
  intro j hj
  rcases (show j = 0 ∨ j = 1 ∨ j = 2 by omega) with rfl | rfl | rfl <;> rfl
theorem df_X4 : ∀ j, j < 6 → defaultValue (tyX4 j) = vp_V [.null, .null, .int (iz 0), .int (iz 0), .int (iz 0), .int (iz 0)] j := by
  intro j hj
  rcases (show j = 0 ∨ j = 1 ∨ j = 2 ∨ j = 3 ∨ j = 4 ∨ j = 5 by omega) with rfl | rfl | rfl | rfl | rfl | rfl <;> rfl
theorem df_X7 : ∀ j, j < 6 → defaultValue (tyX7 j) = vp_V [.int (iz 0), .int (iz 0), .int (iz 0), .int (iz 0), .int (iz 0), .int (iz 0)] j := by
  intro j hj
  rcases (show j = 0 ∨ j = 1 ∨ j = 2 ∨ j = 3 ∨ j = 4 ∨ j = 5 by omega) with rfl | rfl | rfl | rfl | rfl | rfl <;> rfl
theorem df_X8 : ∀ j, j < 10 → defaultValue (tyX8 j) = vp_V [.null, .null, .null, .int (iz 0), .int (iz 0), .int (iz 0), .int (iz 0), .int (iz 0), .int (iz 0), .int (iz 0)] j := by
  intro j hj
  rcases (show j = 0 ∨ j = 1 ∨ j = 2 ∨ j = 3 ∨ j = 4 ∨ j = 5 ∨ j = 6 ∨ j = 7 ∨ j = 8 ∨ j = 9 by omega) with rfl | rfl | rfl | rfl | rfl | rfl | rfl | rfl | rfl | rfl <;> rfl
theorem df_X9 : ∀ j, j < 7 → defaultValue (tyX9 j) = vp_V [.int (iz 0), .int (iz 0), .int (iz 0), .int (iz 0), .null, .null, .null] j := by
  intro j hj
  rcases (show j = 0 ∨ j = 1 ∨ j = 2 ∨ j = 3 ∨ j = 4 ∨ j = 5 ∨ j = 6 by omega) with rfl | rfl | rfl | rfl | rfl | rfl | rfl <;> rfl
theorem df_X10 : ∀ j, j < 13 → defaultValue (tyX10 j) = vp_V [.null, .int (iz 0), .int (iz 0), .null, .null, .int (iz 0), .null, .null, .null, .null, .null, .null, .null] j := by
  intro j hj
  rcases (show j = 0 ∨ j = 1 ∨ j = 2 ∨ j = 3 ∨ j = 4 ∨ j = 5 ∨ j = 6 ∨ j = 7 ∨ j = 8 ∨ j = 9 ∨ j = 10 ∨ j = 11 ∨ j = 12 by omega) with rfl | rfl | rfl | rfl | rfl | rfl | rfl | rfl | rfl | rfl | rfl | rfl | rfl <;> rfl
theorem df_X11 : ∀ j, j < 59 → defaultValue (tyX11 j) = vp_V [.int (iz 0), .int (iz 0), .int (iz 0), .int (iz 0), .int (iz 0), .null, .null, .null, .null, .null, .null, .null, .null, .null, .null, .null, .int (iz 0), .int (iz 0), .int (iz 0), .int (iz 0), .null, .int (iz 0), .int (iz 0), .int (iz 0), .int (iz 0), .int (iz 0), .null, .null, .null, .null, .null, .int (iz 0), .null, .int (iz 0), .int (iz 0), .int (iz 0), .null, .int (iz 0), .null, .null, .null, .null, .int (iz 0), .null, .null, .null, .int (iz 0), .null, .null, .null, .int (iz 0), .null, .int (iz 0), .int (iz 0), .null, .null, .null, .null, .null] j := by
  intro j hj
  rcases (show j = 0 ∨ j = 1 ∨ j = 2 ∨ j = 3 ∨ j = 4 ∨ j = 5 ∨ j = 6 ∨ j = 7 ∨ j = 8 ∨ j = 9 ∨ j = 10 ∨ j = 11 ∨ j = 12 ∨ j = 13 ∨ j = 14 ∨ j = 15 ∨ j = 16 ∨ j = 17 ∨ j = 18 ∨ j = 19 ∨ j = 20 ∨ j = 21 ∨ j = 22 ∨ j = 23 ∨ j = 24 ∨ j = 25 ∨ j = 26 ∨ j = 27 ∨ j = 28 ∨ j = 29 ∨ j = 30 ∨ j = 31 ∨ j = 32 ∨ j = 33 ∨ j = 34 ∨ j = 35 ∨ j = 36 ∨ j = 37 ∨ j = 38 ∨ j = 39 ∨ j = 40 ∨ j = 41 ∨ j = 42 ∨ j = 43 ∨ j = 44 ∨ j = 45 ∨ j = 46 ∨ j = 47 ∨ j = 48 ∨ j = 49 ∨ j = 50 ∨ j = 51 ∨ j = 52 ∨ j = 53 ∨ j = 54 ∨ j = 55 ∨ j = 56 ∨ j = 57 ∨ j = 58 by omega) with rfl | rfl | rfl | rfl | rfl | rfl | rfl | rfl | rfl | rfl | rfl | rfl | rfl | rfl | rfl | rfl | rfl | rfl | rfl | rfl | rfl | rfl | rfl | rfl | rfl | rfl | rfl | rfl | rfl | rfl | rfl | rfl | rfl | rfl | rfl | rfl | rfl | rfl | rfl | rfl | rfl | rfl | rfl | rfl | rfl | rfl | rfl | rfl | rfl | rfl | rfl | rfl | rfl | rfl | rfl | rfl | rfl | rfl | rfl <;> rfl
theorem nq_RX10 : Cond.classLink RX10 13 "DrawnMaps$State" ∈ WS := ws_of (List.mem_of_getElem? (i := 116) (by decide +kernel)) (by decide +kernel)
theorem mk_X9_init : MK mX9_init 0 := ⟨ws_of (List.mem_of_getElem? (i := 120) (by decide +kernel)) (by decide +kernel), ws_of (List.mem_of_getElem? (i := 96) (by decide +kernel)) (by decide +kernel), by decide +kernel, by decide +kernel⟩
theorem im_X9_init : Cond.instanceMethod yX9_init ∈ WS := ws_of (List.mem_of_getElem? (i := 119) (by decide +kernel)) (by decide +kernel)
theorem mk_X8_init : MK mX8_init 0 := ⟨ws_of (List.mem_of_getElem? (i := 158) (by decide +kernel)) (by decide +kernel), ws_of (List.mem_of_getElem? (i := 97) (by decide +kernel)) (by decide +kernel), by decide +kernel, by decide +kernel⟩
theorem im_X8_init : Cond.instanceMethod yX8_init ∈ WS := ws_of (List.mem_of_getElem? (i := 157) (by decide +kernel)) (by decide +kernel)
theorem mk_X2_init : MK mX2_init 0 := ⟨ws_of (List.mem_of_getElem? (i := 201) (by decide +kernel)) (by decide +kernel), ws_of (List.mem_of_getElem? (i := 98) (by decide +kernel)) (by decide +kernel), by decide +kernel, by decide +kernel⟩
theorem im_X2_init : Cond.instanceMethod yX2_init ∈ WS := ws_of (List.mem_of_getElem? (i := 200) (by decide +kernel)) (by decide +kernel)
theorem mk_X4_init : MK mX4_init 0 := ⟨ws_of (List.mem_of_getElem? (i := 217) (by decide +kernel)) (by decide +kernel), ws_of (List.mem_of_getElem? (i := 99) (by decide +kernel)) (by decide +kernel), by decide +kernel, by decide +kernel⟩
theorem im_X4_init : Cond.instanceMethod yX4_init ∈ WS := ws_of (List.mem_of_getElem? (i := 216) (by decide +kernel)) (by decide +kernel)
theorem mk_X0_init : MK mX0_init 0 := ⟨ws_of (List.mem_of_getElem? (i := 242) (by decide +kernel)) (by decide +kernel), ws_of (List.mem_of_getElem? (i := 100) (by decide +kernel)) (by decide +kernel), by decide +kernel, by decide +kernel⟩
theorem im_X0_init : Cond.instanceMethod yX0_init ∈ WS := ws_of (List.mem_of_getElem? (i := 241) (by decide +kernel)) (by decide +kernel)
theorem mk_X1_init : MK mX1_init 0 := ⟨ws_of (List.mem_of_getElem? (i := 255) (by decide +kernel)) (by decide +kernel), ws_of (List.mem_of_getElem? (i := 101) (by decide +kernel)) (by decide +kernel), by decide +kernel, by decide +kernel⟩
theorem im_X1_init : Cond.instanceMethod yX1_init ∈ WS := ws_of (List.mem_of_getElem? (i := 254) (by decide +kernel)) (by decide +kernel)
theorem mk_X3_init : MK mX3_init 0 := ⟨ws_of (List.mem_of_getElem? (i := 313) (by decide +kernel)) (by decide +kernel), ws_of (List.mem_of_getElem? (i := 102) (by decide +kernel)) (by decide +kernel), by decide +kernel, by decide +kernel⟩
theorem im_X3_init : Cond.instanceMethod yX3_init ∈ WS := ws_of (List.mem_of_getElem? (i := 312) (by decide +kernel)) (by decide +kernel)
theorem mk_X7_init : MK mX7_init 0 := ⟨ws_of (List.mem_of_getElem? (i := 330) (by decide +kernel)) (by decide +kernel), ws_of (List.mem_of_getElem? (i := 103) (by decide +kernel)) (by decide +kernel), by decide +kernel, by decide +kernel⟩
theorem im_X7_init : Cond.instanceMethod yX7_init ∈ WS := ws_of (List.mem_of_getElem? (i := 329) (by decide +kernel)) (by decide +kernel)
theorem mk_X10_init : MK mX10_init 0 := ⟨ws_of (List.mem_of_getElem? (i := 112) (by decide +kernel)) (by decide +kernel), ws_of (List.mem_of_getElem? (i := 95) (by decide +kernel)) (by decide +kernel), by decide +kernel, by decide +kernel⟩
theorem im_X10_init : Cond.instanceMethod yX10_init ∈ WS := ws_of (List.mem_of_getElem? (i := 111) (by decide +kernel)) (by decide +kernel)
theorem mk_X11_init : MK mX11_init 0 := ⟨ws_of (List.mem_of_getElem? (i := 1043) (by decide +kernel)) (by decide +kernel), ws_of (List.mem_of_getElem? (i := 104) (by decide +kernel)) (by decide +kernel), by decide +kernel, by decide +kernel⟩
theorem im_X11_init : Cond.instanceMethod yX11_init ∈ WS := ws_of (List.mem_of_getElem? (i := 1042) (by decide +kernel)) (by decide +kernel)
/-- what a DrawnMaps constructor needs of the tables beside the words that every method has -/
def XInit (s : State) : Prop := (Cond.arrayOver (.object "DrawnMaps$State")).before #[] s = true ∧ ∀ q ∈ ([(15, yX9_init), (26, yX8_init), (33, yX2_init), (40, yX4_init), (47, yX0_init), (54, yX1_init), (61, yX3_init), (68, yX7_init)] : List (Nat × MethodName)), va_Nw (.methodLinkNest RX10 q.1 q.2 "DrawnMaps") s
set_option maxHeartbeats 4000000 in
set_option maxRecDepth 100000 in
theorem c_X9_init (l : Launch) (G : Gx) (h sz : Nat) : Ct l G 1 3 36 mX9_init h sz (fun _ => True) [(h, .inr (7, [.int (iz 0), .int (iz 0), .int (iz 0), .int (iz 0), .null, .null, .null]))] [(h, .inr (7, [.int (iz (3)), .int (iz (19088743)), .int (iz (19088743)), .int (iz 0), .ref (sz + 0), .ref (sz + 1), .ref (sz + 2)])), (sz + 0, za G 0 12), (sz + 1, za G 0 12), (sz + 2, za G 0 12)] := by
  refine Ct_of RX9 rfl rfl rfl (by decide +kernel) (Nat.le_of_ble_eq_true rfl) ?_
  refine b_aload 0 (pc' := 1) rfl dX9_init_0 rfl rfl ?_
  refine b_obj (pc' := 4) rfl dX9_init_1 ol_RX9_3 (Nat.le_of_ble_eq_true rfl) (Nat.le_of_ble_eq_true rfl) ?_
  refine b_aload 0 (pc' := 5) rfl dX9_init_4 rfl rfl ?_
  refine b_iconst (v := iz (3)) (pc' := 6) rfl dX9_init_5 (by decide +kernel) ?_
  refine b_put (q0 := 0) (ws' := [(h, .inr (7, [.int (iz (3)), .int (iz 0), .int (iz 0), .int (iz 0), .null, .null, .null]))]) (pc' := 9) rfl dX9_init_6 pl_RX9_9 rfl rfl rfl rfl rfl ?_
  refine b_aload 0 (pc' := 10) rfl dX9_init_9 rfl rfl ?_
  refine b_ldc (pc' := 12) rfl dX9_init_10 kc_RX9_17 ?_
  refine b_put (q0 := 0) (ws' := [(h, .inr (7, [.int (iz (3)), .int (iz (19088743)), .int (iz 0), .int (iz 0), .null, .null, .null]))]) (pc' := 15) rfl dX9_init_12 pl_RX9_18 rfl rfl rfl rfl rfl ?_
  refine b_aload 0 (pc' := 16) rfl dX9_init_15 rfl rfl ?_
  refine b_ldc (pc' := 18) rfl dX9_init_16 kc_RX9_17 ?_
  refine b_put (q0 := 0) (ws' := [(h, .inr (7, [.int (iz (3)), .int (iz (19088743)), .int (iz (19088743)), .int (iz 0), .null, .null, .null]))]) (pc' := 21) rfl dX9_init_18 pl_RX9_21 rfl rfl rfl rfl rfl ?_
  refine b_aload 0 (pc' := 22) rfl dX9_init_21 rfl rfl ?_
  refine b_bipush (v := iz (12)) (pc' := 24) rfl dX9_init_22 (by decide +kernel) ?_
  refine b_newa (t := 0) (ty := .int) (N := 12) (ws' := [(h, .inr (7, [.int (iz (3)), .int (iz (19088743)), .int (iz (19088743)), .int (iz 0), .null, .null, .null])), (sz + 0, za G 0 12)]) (pc' := 26) rfl dX9_init_24 rfl ar_0 rfl (fun _ _ => rfl) (fun _ => rfl) (by decide +kernel) (by decide +kernel) (by decide +kernel) (Nat.le_of_ble_eq_true rfl) (Nat.le_of_ble_eq_true rfl) rfl ?_
  refine b_put (q0 := 0) (ws' := [(h, .inr (7, [.int (iz (3)), .int (iz (19088743)), .int (iz (19088743)), .int (iz 0), .ref (sz + 0), .null, .null])), (sz + 0, za G 0 12)]) (pc' := 29) rfl dX9_init_26 pl_RX9_24 rfl rfl rfl rfl rfl ?_
  refine b_aload 0 (pc' := 30) rfl dX9_init_29 rfl rfl ?_
  refine b_bipush (v := iz (12)) (pc' := 32) rfl dX9_init_30 (by decide +kernel) ?_
  refine b_newa (t := 0) (ty := .int) (N := 12) (ws' := [(h, .inr (7, [.int (iz (3)), .int (iz (19088743)), .int (iz (19088743)), .int (iz 0), .ref (sz + 0), .null, .null])), (sz + 0, za G 0 12), (sz + 1, za G 0 12)]) (pc' := 34) rfl dX9_init_32 rfl ar_0 rfl (fun _ _ => rfl) (fun _ => rfl) (by decide +kernel) (by decide +kernel) (by decide +kernel) (Nat.le_of_ble_eq_true rfl) (Nat.le_of_ble_eq_true rfl) rfl ?_
  refine b_put (q0 := 0) (ws' := [(h, .inr (7, [.int (iz (3)), .int (iz (19088743)), .int (iz (19088743)), .int (iz 0), .ref (sz + 0), .ref (sz + 1), .null])), (sz + 0, za G 0 12), (sz + 1, za G 0 12)]) (pc' := 37) rfl dX9_init_34 pl_RX9_28 rfl rfl rfl rfl rfl ?_
  refine b_aload 0 (pc' := 38) rfl dX9_init_37 rfl rfl ?_
  refine b_bipush (v := iz (12)) (pc' := 40) rfl dX9_init_38 (by decide +kernel) ?_
  refine b_newa (t := 0) (ty := .int) (N := 12) (ws' := [(h, .inr (7, [.int (iz (3)), .int (iz (19088743)), .int (iz (19088743)), .int (iz 0), .ref (sz + 0), .ref (sz + 1), .null])), (sz + 0, za G 0 12), (sz + 1, za G 0 12), (sz + 2, za G 0 12)]) (pc' := 42) rfl dX9_init_40 rfl ar_0 rfl (fun _ _ => rfl) (fun _ => rfl) (by decide +kernel) (by decide +kernel) (by decide +kernel) (Nat.le_of_ble_eq_true rfl) (Nat.le_of_ble_eq_true rfl) rfl ?_
  refine b_put (q0 := 0) (ws' := [(h, .inr (7, [.int (iz (3)), .int (iz (19088743)), .int (iz (19088743)), .int (iz 0), .ref (sz + 0), .ref (sz + 1), .ref (sz + 2)])), (sz + 0, za G 0 12), (sz + 1, za G 0 12), (sz + 2, za G 0 12)]) (pc' := 45) rfl dX9_init_42 pl_RX9_31 rfl rfl rfl rfl rfl ?_
  exact b_ret dX9_init_45
set_option maxHeartbeats 4000000 in
set_option maxRecDepth 100000 in
theorem c_X8_init (l : Launch) (G : Gx) (h sz : Nat) : Ct l G 1 3 5056 mX8_init h sz (fun _ => True) [(h, .inr (6, [.null, .null, .null, .int (iz 0), .int (iz 0), .int (iz 0), .int (iz 0), .int (iz 0), .int (iz 0), .int (iz 0)]))] [(h, .inr (6, [.ref (sz + 0), .ref (sz + 1), .ref (sz + 2), .int (iz 0), .int (iz 0), .int (iz 0), .int (iz 0), .int (iz 0), .int (iz 0), .int (iz 0)])), (sz + 0, za G 0 5040), (sz + 1, za G 0 8), (sz + 2, za G 0 8)] := by
  refine Ct_of RX8 rfl rfl rfl (by decide +kernel) (Nat.le_of_ble_eq_true rfl) ?_
  refine b_aload 0 (pc' := 1) rfl dX8_init_0 rfl rfl ?_
  refine b_obj (pc' := 4) rfl dX8_init_1 ol_RX8_3 (Nat.le_of_ble_eq_true rfl) (Nat.le_of_ble_eq_true rfl) ?_
  refine b_aload 0 (pc' := 5) rfl dX8_init_4 rfl rfl ?_
  refine b_sipush (v := iz (5040)) (pc' := 8) rfl dX8_init_5 (by decide +kernel) ?_
  refine b_newa (t := 0) (ty := .int) (N := 5040) (ws' := [(h, .inr (6, [.null, .null, .null, .int (iz 0), .int (iz 0), .int (iz 0), .int (iz 0), .int (iz 0), .int (iz 0), .int (iz 0)])), (sz + 0, za G 0 5040)]) (pc' := 10) rfl dX8_init_8 rfl ar_0 rfl (fun _ _ => rfl) (fun _ => rfl) (by decide +kernel) (by decide +kernel) (by decide +kernel) (Nat.le_of_ble_eq_true rfl) (Nat.le_of_ble_eq_true rfl) rfl ?_
  refine b_put (q0 := 0) (ws' := [(h, .inr (6, [.ref (sz + 0), .null, .null, .int (iz 0), .int (iz 0), .int (iz 0), .int (iz 0), .int (iz 0), .int (iz 0), .int (iz 0)])), (sz + 0, za G 0 5040)]) (pc' := 13) rfl dX8_init_10 pl_RX8_9 rfl rfl rfl rfl rfl ?_
  refine b_aload 0 (pc' := 14) rfl dX8_init_13 rfl rfl ?_
  refine b_bipush (v := iz (8)) (pc' := 16) rfl dX8_init_14 (by decide +kernel) ?_
  refine b_newa (t := 0) (ty := .int) (N := 8) (ws' := [(h, .inr (6, [.ref (sz + 0), .null, .null, .int (iz 0), .int (iz 0), .int (iz 0), .int (iz 0), .int (iz 0), .int (iz 0), .int (iz 0)])), (sz + 0, za G 0 5040), (sz + 1, za G 0 8)]) (pc' := 18) rfl dX8_init_16 rfl ar_0 rfl (fun _ _ => rfl) (fun _ => rfl) (by decide +kernel) (by decide +kernel) (by decide +kernel) (Nat.le_of_ble_eq_true rfl) (Nat.le_of_ble_eq_true rfl) rfl ?_
  refine b_put (q0 := 0) (ws' := [(h, .inr (6, [.ref (sz + 0), .ref (sz + 1), .null, .int (iz 0), .int (iz 0), .int (iz 0), .int (iz 0), .int (iz 0), .int (iz 0), .int (iz 0)])), (sz + 0, za G 0 5040), (sz + 1, za G 0 8)]) (pc' := 21) rfl dX8_init_18 pl_RX8_15 rfl rfl rfl rfl rfl ?_
  refine b_aload 0 (pc' := 22) rfl dX8_init_21 rfl rfl ?_
  refine b_bipush (v := iz (8)) (pc' := 24) rfl dX8_init_22 (by decide +kernel) ?_
  refine b_newa (t := 0) (ty := .int) (N := 8) (ws' := [(h, .inr (6, [.ref (sz + 0), .ref (sz + 1), .null, .int (iz 0), .int (iz 0), .int (iz 0), .int (iz 0), .int (iz 0), .int (iz 0), .int (iz 0)])), (sz + 0, za G 0 5040), (sz + 1, za G 0 8), (sz + 2, za G 0 8)]) (pc' := 26) rfl dX8_init_24 rfl ar_0 rfl (fun _ _ => rfl) (fun _ => rfl) (by decide +kernel) (by decide +kernel) (by decide +kernel) (Nat.le_of_ble_eq_true rfl) (Nat.le_of_ble_eq_true rfl) rfl ?_
  refine b_put (q0 := 0) (ws' := [(h, .inr (6, [.ref (sz + 0), .ref (sz + 1), .ref (sz + 2), .int (iz 0), .int (iz 0), .int (iz 0), .int (iz 0), .int (iz 0), .int (iz 0), .int (iz 0)])), (sz + 0, za G 0 5040), (sz + 1, za G 0 8), (sz + 2, za G 0 8)]) (pc' := 29) rfl dX8_init_26 pl_RX8_18 rfl rfl rfl rfl rfl ?_
  exact b_ret dX8_init_29
set_option maxHeartbeats 4000000 in
set_option maxRecDepth 100000 in
theorem c_X2_init (l : Launch) (G : Gx) (h sz : Nat) : Ct l G 1 2 85 mX2_init h sz (fun _ => True) [(h, .inr (2, [.null, .null, .int (iz 0)]))] [(h, .inr (2, [.ref (sz + 0), .ref (sz + 1), .int (iz 0)])), (sz + 0, za G 0 64), (sz + 1, za G 0 21)] := by
  refine Ct_of RX2 rfl rfl rfl (by decide +kernel) (Nat.le_of_ble_eq_true rfl) ?_
  refine b_aload 0 (pc' := 1) rfl dX2_init_0 rfl rfl ?_
  refine b_obj (pc' := 4) rfl dX2_init_1 ol_RX2_1 (Nat.le_of_ble_eq_true rfl) (Nat.le_of_ble_eq_true rfl) ?_
  refine b_aload 0 (pc' := 5) rfl dX2_init_4 rfl rfl ?_
  refine b_bipush (v := iz (64)) (pc' := 7) rfl dX2_init_5 (by decide +kernel) ?_
  refine b_newa (t := 0) (ty := .int) (N := 64) (ws' := [(h, .inr (2, [.null, .null, .int (iz 0)])), (sz + 0, za G 0 64)]) (pc' := 9) rfl dX2_init_7 rfl ar_0 rfl (fun _ _ => rfl) (fun _ => rfl) (by decide +kernel) (by decide +kernel) (by decide +kernel) (Nat.le_of_ble_eq_true rfl) (Nat.le_of_ble_eq_true rfl) rfl ?_
  refine b_put (q0 := 0) (ws' := [(h, .inr (2, [.ref (sz + 0), .null, .int (iz 0)])), (sz + 0, za G 0 64)]) (pc' := 12) rfl dX2_init_9 pl_RX2_9 rfl rfl rfl rfl rfl ?_
  refine b_aload 0 (pc' := 13) rfl dX2_init_12 rfl rfl ?_
  refine b_bipush (v := iz (21)) (pc' := 15) rfl dX2_init_13 (by decide +kernel) ?_
  refine b_newa (t := 0) (ty := .int) (N := 21) (ws' := [(h, .inr (2, [.ref (sz + 0), .null, .int (iz 0)])), (sz + 0, za G 0 64), (sz + 1, za G 0 21)]) (pc' := 17) rfl dX2_init_15 rfl ar_0 rfl (fun _ _ => rfl) (fun _ => rfl) (by decide +kernel) (by decide +kernel) (by decide +kernel) (Nat.le_of_ble_eq_true rfl) (Nat.le_of_ble_eq_true rfl) rfl ?_
  refine b_put (q0 := 0) (ws' := [(h, .inr (2, [.ref (sz + 0), .ref (sz + 1), .int (iz 0)])), (sz + 0, za G 0 64), (sz + 1, za G 0 21)]) (pc' := 20) rfl dX2_init_17 pl_RX2_13 rfl rfl rfl rfl rfl ?_
  exact b_ret dX2_init_20
set_option maxHeartbeats 4000000 in
set_option maxRecDepth 100000 in
theorem c_X4_init (l : Launch) (G : Gx) (h sz : Nat) : Ct l G 1 2 10080 mX4_init h sz (fun _ => True) [(h, .inr (4, [.null, .null, .int (iz 0), .int (iz 0), .int (iz 0), .int (iz 0)]))] [(h, .inr (4, [.ref (sz + 0), .ref (sz + 1), .int (iz 0), .int (iz 0), .int (iz 0), .int (iz 0)])), (sz + 0, za G 0 5040), (sz + 1, za G 0 5040)] := by
  refine Ct_of RX4 rfl rfl rfl (by decide +kernel) (Nat.le_of_ble_eq_true rfl) ?_
  refine b_aload 0 (pc' := 1) rfl dX4_init_0 rfl rfl ?_
  refine b_obj (pc' := 4) rfl dX4_init_1 ol_RX4_3 (Nat.le_of_ble_eq_true rfl) (Nat.le_of_ble_eq_true rfl) ?_
  refine b_aload 0 (pc' := 5) rfl dX4_init_4 rfl rfl ?_
  refine b_sipush (v := iz (5040)) (pc' := 8) rfl dX4_init_5 (by decide +kernel) ?_
  refine b_newa (t := 0) (ty := .int) (N := 5040) (ws' := [(h, .inr (4, [.null, .null, .int (iz 0), .int (iz 0), .int (iz 0), .int (iz 0)])), (sz + 0, za G 0 5040)]) (pc' := 10) rfl dX4_init_8 rfl ar_0 rfl (fun _ _ => rfl) (fun _ => rfl) (by decide +kernel) (by decide +kernel) (by decide +kernel) (Nat.le_of_ble_eq_true rfl) (Nat.le_of_ble_eq_true rfl) rfl ?_
  refine b_put (q0 := 0) (ws' := [(h, .inr (4, [.ref (sz + 0), .null, .int (iz 0), .int (iz 0), .int (iz 0), .int (iz 0)])), (sz + 0, za G 0 5040)]) (pc' := 13) rfl dX4_init_10 pl_RX4_9 rfl rfl rfl rfl rfl ?_
  refine b_aload 0 (pc' := 14) rfl dX4_init_13 rfl rfl ?_
  refine b_sipush (v := iz (5040)) (pc' := 17) rfl dX4_init_14 (by decide +kernel) ?_
  refine b_newa (t := 0) (ty := .int) (N := 5040) (ws' := [(h, .inr (4, [.ref (sz + 0), .null, .int (iz 0), .int (iz 0), .int (iz 0), .int (iz 0)])), (sz + 0, za G 0 5040), (sz + 1, za G 0 5040)]) (pc' := 19) rfl dX4_init_17 rfl ar_0 rfl (fun _ _ => rfl) (fun _ => rfl) (by decide +kernel) (by decide +kernel) (by decide +kernel) (Nat.le_of_ble_eq_true rfl) (Nat.le_of_ble_eq_true rfl) rfl ?_
  refine b_put (q0 := 0) (ws' := [(h, .inr (4, [.ref (sz + 0), .ref (sz + 1), .int (iz 0), .int (iz 0), .int (iz 0), .int (iz 0)])), (sz + 0, za G 0 5040), (sz + 1, za G 0 5040)]) (pc' := 22) rfl dX4_init_19 pl_RX4_15 rfl rfl rfl rfl rfl ?_
  exact b_ret dX4_init_22
set_option maxHeartbeats 4000000 in
set_option maxRecDepth 100000 in
theorem c_X0_init (l : Launch) (G : Gx) (h sz : Nat) : Ct l G 1 1 7 mX0_init h sz (fun _ => True) [(h, .inr (0, [.null, .int (iz 0)]))] [(h, .inr (0, [.ref (sz + 0), .int (iz 0)])), (sz + 0, za G 0 7)] := by
  refine Ct_of RX0 rfl rfl rfl (by decide +kernel) (Nat.le_of_ble_eq_true rfl) ?_
  refine b_aload 0 (pc' := 1) rfl dX0_init_0 rfl rfl ?_
  refine b_obj (pc' := 4) rfl dX0_init_1 ol_RX0_3 (Nat.le_of_ble_eq_true rfl) (Nat.le_of_ble_eq_true rfl) ?_
  refine b_aload 0 (pc' := 5) rfl dX0_init_4 rfl rfl ?_
  refine b_bipush (v := iz (7)) (pc' := 7) rfl dX0_init_5 (by decide +kernel) ?_
  refine b_newa (t := 0) (ty := .int) (N := 7) (ws' := [(h, .inr (0, [.null, .int (iz 0)])), (sz + 0, za G 0 7)]) (pc' := 9) rfl dX0_init_7 rfl ar_0 rfl (fun _ _ => rfl) (fun _ => rfl) (by decide +kernel) (by decide +kernel) (by decide +kernel) (Nat.le_of_ble_eq_true rfl) (Nat.le_of_ble_eq_true rfl) rfl ?_
  refine b_put (q0 := 0) (ws' := [(h, .inr (0, [.ref (sz + 0), .int (iz 0)])), (sz + 0, za G 0 7)]) (pc' := 12) rfl dX0_init_9 pl_RX0_9 rfl rfl rfl rfl rfl ?_
  exact b_ret dX0_init_12
set_option maxHeartbeats 4000000 in
set_option maxRecDepth 100000 in
theorem c_X1_init (l : Launch) (G : Gx) (h sz : Nat) : Ct l G 1 7 15278 mX1_init h sz (fun _ => True) [(h, .inr (1, [.null, .null, .int (iz 0), .int (iz 0), .null, .null, .int (iz 0), .int (iz 0), .null, .null, .null, .int (iz 0), .int (iz 0), .int (iz 0), .int (iz 0), .int (iz 0)]))] [(h, .inr (1, [.ref (sz + 0), .ref (sz + 1), .int (iz 0), .int (iz 0), .ref (sz + 2), .ref (sz + 3), .int (iz 0), .int (iz 0), .ref (sz + 4), .ref (sz + 5), .ref (sz + 6), .int (iz 0), .int (iz 0), .int (iz 0), .int (iz 0), .int (iz 0)])), (sz + 0, za G 0 5040), (sz + 1, za G 0 5040), (sz + 2, za G 0 15), (sz + 3, za G 0 15), (sz + 4, za G 2 5040), (sz + 5, za G 0 64), (sz + 6, za G 0 64)] := by
  refine Ct_of RX1 rfl rfl rfl (by decide +kernel) (Nat.le_of_ble_eq_true rfl) ?_
  refine b_aload 0 (pc' := 1) rfl dX1_init_0 rfl rfl ?_
  refine b_obj (pc' := 4) rfl dX1_init_1 ol_RX1_3 (Nat.le_of_ble_eq_true rfl) (Nat.le_of_ble_eq_true rfl) ?_
  refine b_aload 0 (pc' := 5) rfl dX1_init_4 rfl rfl ?_
  refine b_sipush (v := iz (5040)) (pc' := 8) rfl dX1_init_5 (by decide +kernel) ?_
  refine b_newa (t := 0) (ty := .int) (N := 5040) (ws' := [(h, .inr (1, [.null, .null, .int (iz 0), .int (iz 0), .null, .null, .int (iz 0), .int (iz 0), .null, .null, .null, .int (iz 0), .int (iz 0), .int (iz 0), .int (iz 0), .int (iz 0)])), (sz + 0, za G 0 5040)]) (pc' := 10) rfl dX1_init_8 rfl ar_0 rfl (fun _ _ => rfl) (fun _ => rfl) (by decide +kernel) (by decide +kernel) (by decide +kernel) (Nat.le_of_ble_eq_true rfl) (Nat.le_of_ble_eq_true rfl) rfl ?_
  refine b_put (q0 := 0) (ws' := [(h, .inr (1, [.ref (sz + 0), .null, .int (iz 0), .int (iz 0), .null, .null, .int (iz 0), .int (iz 0), .null, .null, .null, .int (iz 0), .int (iz 0), .int (iz 0), .int (iz 0), .int (iz 0)])), (sz + 0, za G 0 5040)]) (pc' := 13) rfl dX1_init_10 pl_RX1_9 rfl rfl rfl rfl rfl ?_
  refine b_aload 0 (pc' := 14) rfl dX1_init_13 rfl rfl ?_
  refine b_sipush (v := iz (5040)) (pc' := 17) rfl dX1_init_14 (by decide +kernel) ?_
  refine b_newa (t := 0) (ty := .int) (N := 5040) (ws' := [(h, .inr (1, [.ref (sz + 0), .null, .int (iz 0), .int (iz 0), .null, .null, .int (iz 0), .int (iz 0), .null, .null, .null, .int (iz 0), .int (iz 0), .int (iz 0), .int (iz 0), .int (iz 0)])), (sz + 0, za G 0 5040), (sz + 1, za G 0 5040)]) (pc' := 19) rfl dX1_init_17 rfl ar_0 rfl (fun _ _ => rfl) (fun _ => rfl) (by decide +kernel) (by decide +kernel) (by decide +kernel) (Nat.le_of_ble_eq_true rfl) (Nat.le_of_ble_eq_true rfl) rfl ?_
  refine b_put (q0 := 0) (ws' := [(h, .inr (1, [.ref (sz + 0), .ref (sz + 1), .int (iz 0), .int (iz 0), .null, .null, .int (iz 0), .int (iz 0), .null, .null, .null, .int (iz 0), .int (iz 0), .int (iz 0), .int (iz 0), .int (iz 0)])), (sz + 0, za G 0 5040), (sz + 1, za G 0 5040)]) (pc' := 22) rfl dX1_init_19 pl_RX1_15 rfl rfl rfl rfl rfl ?_
  refine b_aload 0 (pc' := 23) rfl dX1_init_22 rfl rfl ?_
  refine b_bipush (v := iz (15)) (pc' := 25) rfl dX1_init_23 (by decide +kernel) ?_
  refine b_newa (t := 0) (ty := .int) (N := 15) (ws' := [(h, .inr (1, [.ref (sz + 0), .ref (sz + 1), .int (iz 0), .int (iz 0), .null, .null, .int (iz 0), .int (iz 0), .null, .null, .null, .int (iz 0), .int (iz 0), .int (iz 0), .int (iz 0), .int (iz 0)])), (sz + 0, za G 0 5040), (sz + 1, za G 0 5040), (sz + 2, za G 0 15)]) (pc' := 27) rfl dX1_init_25 rfl ar_0 rfl (fun _ _ => rfl) (fun _ => rfl) (by decide +kernel) (by decide +kernel) (by decide +kernel) (Nat.le_of_ble_eq_true rfl) (Nat.le_of_ble_eq_true rfl) rfl ?_
  refine b_put (q0 := 0) (ws' := [(h, .inr (1, [.ref (sz + 0), .ref (sz + 1), .int (iz 0), .int (iz 0), .ref (sz + 2), .null, .int (iz 0), .int (iz 0), .null, .null, .null, .int (iz 0), .int (iz 0), .int (iz 0), .int (iz 0), .int (iz 0)])), (sz + 0, za G 0 5040), (sz + 1, za G 0 5040), (sz + 2, za G 0 15)]) (pc' := 30) rfl dX1_init_27 pl_RX1_20 rfl rfl rfl rfl rfl ?_
  refine b_aload 0 (pc' := 31) rfl dX1_init_30 rfl rfl ?_
  refine b_bipush (v := iz (15)) (pc' := 33) rfl dX1_init_31 (by decide +kernel) ?_
  refine b_newa (t := 0) (ty := .int) (N := 15) (ws' := [(h, .inr (1, [.ref (sz + 0), .ref (sz + 1), .int (iz 0), .int (iz 0), .ref (sz + 2), .null, .int (iz 0), .int (iz 0), .null, .null, .null, .int (iz 0), .int (iz 0), .int (iz 0), .int (iz 0), .int (iz 0)])), (sz + 0, za G 0 5040), (sz + 1, za G 0 5040), (sz + 2, za G 0 15), (sz + 3, za G 0 15)]) (pc' := 35) rfl dX1_init_33 rfl ar_0 rfl (fun _ _ => rfl) (fun _ => rfl) (by decide +kernel) (by decide +kernel) (by decide +kernel) (Nat.le_of_ble_eq_true rfl) (Nat.le_of_ble_eq_true rfl) rfl ?_
  refine b_put (q0 := 0) (ws' := [(h, .inr (1, [.ref (sz + 0), .ref (sz + 1), .int (iz 0), .int (iz 0), .ref (sz + 2), .ref (sz + 3), .int (iz 0), .int (iz 0), .null, .null, .null, .int (iz 0), .int (iz 0), .int (iz 0), .int (iz 0), .int (iz 0)])), (sz + 0, za G 0 5040), (sz + 1, za G 0 5040), (sz + 2, za G 0 15), (sz + 3, za G 0 15)]) (pc' := 38) rfl dX1_init_35 pl_RX1_23 rfl rfl rfl rfl rfl ?_
  refine b_aload 0 (pc' := 39) rfl dX1_init_38 rfl rfl ?_
  refine b_sipush (v := iz (5040)) (pc' := 42) rfl dX1_init_39 (by decide +kernel) ?_
  refine b_newa (t := 2) (ty := .boolean) (N := 5040) (ws' := [(h, .inr (1, [.ref (sz + 0), .ref (sz + 1), .int (iz 0), .int (iz 0), .ref (sz + 2), .ref (sz + 3), .int (iz 0), .int (iz 0), .null, .null, .null, .int (iz 0), .int (iz 0), .int (iz 0), .int (iz 0), .int (iz 0)])), (sz + 0, za G 0 5040), (sz + 1, za G 0 5040), (sz + 2, za G 0 15), (sz + 3, za G 0 15), (sz + 4, za G 2 5040)]) (pc' := 44) rfl dX1_init_42 rfl ar_2 rfl (fun _ _ => rfl) (fun _ => rfl) (by decide +kernel) (by decide +kernel) (by decide +kernel) (Nat.le_of_ble_eq_true rfl) (Nat.le_of_ble_eq_true rfl) rfl ?_
  refine b_put (q0 := 0) (ws' := [(h, .inr (1, [.ref (sz + 0), .ref (sz + 1), .int (iz 0), .int (iz 0), .ref (sz + 2), .ref (sz + 3), .int (iz 0), .int (iz 0), .ref (sz + 4), .null, .null, .int (iz 0), .int (iz 0), .int (iz 0), .int (iz 0), .int (iz 0)])), (sz + 0, za G 0 5040), (sz + 1, za G 0 5040), (sz + 2, za G 0 15), (sz + 3, za G 0 15), (sz + 4, za G 2 5040)]) (pc' := 47) rfl dX1_init_44 pl_RX1_26 rfl rfl rfl rfl rfl ?_
  refine b_aload 0 (pc' := 48) rfl dX1_init_47 rfl rfl ?_
  refine b_bipush (v := iz (64)) (pc' := 50) rfl dX1_init_48 (by decide +kernel) ?_
  refine b_newa (t := 0) (ty := .int) (N := 64) (ws' := [(h, .inr (1, [.ref (sz + 0), .ref (sz + 1), .int (iz 0), .int (iz 0), .ref (sz + 2), .ref (sz + 3), .int (iz 0), .int (iz 0), .ref (sz + 4), .null, .null, .int (iz 0), .int (iz 0), .int (iz 0), .int (iz 0), .int (iz 0)])), (sz + 0, za G 0 5040), (sz + 1, za G 0 5040), (sz + 2, za G 0 15), (sz + 3, za G 0 15), (sz + 4, za G 2 5040), (sz + 5, za G 0 64)]) (pc' := 52) rfl dX1_init_50 rfl ar_0 rfl (fun _ _ => rfl) (fun _ => rfl) (by decide +kernel) (by decide +kernel) (by decide +kernel) (Nat.le_of_ble_eq_true rfl) (Nat.le_of_ble_eq_true rfl) rfl ?_
  refine b_put (q0 := 0) (ws' := [(h, .inr (1, [.ref (sz + 0), .ref (sz + 1), .int (iz 0), .int (iz 0), .ref (sz + 2), .ref (sz + 3), .int (iz 0), .int (iz 0), .ref (sz + 4), .ref (sz + 5), .null, .int (iz 0), .int (iz 0), .int (iz 0), .int (iz 0), .int (iz 0)])), (sz + 0, za G 0 5040), (sz + 1, za G 0 5040), (sz + 2, za G 0 15), (sz + 3, za G 0 15), (sz + 4, za G 2 5040), (sz + 5, za G 0 64)]) (pc' := 55) rfl dX1_init_52 pl_RX1_30 rfl rfl rfl rfl rfl ?_
  refine b_aload 0 (pc' := 56) rfl dX1_init_55 rfl rfl ?_
  refine b_bipush (v := iz (64)) (pc' := 58) rfl dX1_init_56 (by decide +kernel) ?_
  refine b_newa (t := 0) (ty := .int) (N := 64) (ws' := [(h, .inr (1, [.ref (sz + 0), .ref (sz + 1), .int (iz 0), .int (iz 0), .ref (sz + 2), .ref (sz + 3), .int (iz 0), .int (iz 0), .ref (sz + 4), .ref (sz + 5), .null, .int (iz 0), .int (iz 0), .int (iz 0), .int (iz 0), .int (iz 0)])), (sz + 0, za G 0 5040), (sz + 1, za G 0 5040), (sz + 2, za G 0 15), (sz + 3, za G 0 15), (sz + 4, za G 2 5040), (sz + 5, za G 0 64), (sz + 6, za G 0 64)]) (pc' := 60) rfl dX1_init_58 rfl ar_0 rfl (fun _ _ => rfl) (fun _ => rfl) (by decide +kernel) (by decide +kernel) (by decide +kernel) (Nat.le_of_ble_eq_true rfl) (Nat.le_of_ble_eq_true rfl) rfl ?_
  refine b_put (q0 := 0) (ws' := [(h, .inr (1, [.ref (sz + 0), .ref (sz + 1), .int (iz 0), .int (iz 0), .ref (sz + 2), .ref (sz + 3), .int (iz 0), .int (iz 0), .ref (sz + 4), .ref (sz + 5), .ref (sz + 6), .int (iz 0), .int (iz 0), .int (iz 0), .int (iz 0), .int (iz 0)])), (sz + 0, za G 0 5040), (sz + 1, za G 0 5040), (sz + 2, za G 0 15), (sz + 3, za G 0 15), (sz + 4, za G 2 5040), (sz + 5, za G 0 64), (sz + 6, za G 0 64)]) (pc' := 63) rfl dX1_init_60 pl_RX1_33 rfl rfl rfl rfl rfl ?_
  exact b_ret dX1_init_63
set_option maxHeartbeats 4000000 in
set_option maxRecDepth 100000 in
theorem c_X3_init (l : Launch) (G : Gx) (h sz : Nat) : Ct l G 1 2 24 mX3_init h sz (fun _ => True) [(h, .inr (3, [.null, .null, .int (iz 0)]))] [(h, .inr (3, [.ref (sz + 0), .ref (sz + 1), .int (iz 0)])), (sz + 0, za G 0 12), (sz + 1, za G 0 12)] := by
  refine Ct_of RX3 rfl rfl rfl (by decide +kernel) (Nat.le_of_ble_eq_true rfl) ?_
  refine b_aload 0 (pc' := 1) rfl dX3_init_0 rfl rfl ?_
  refine b_obj (pc' := 4) rfl dX3_init_1 ol_RX3_3 (Nat.le_of_ble_eq_true rfl) (Nat.le_of_ble_eq_true rfl) ?_
  refine b_aload 0 (pc' := 5) rfl dX3_init_4 rfl rfl ?_
  refine b_bipush (v := iz (12)) (pc' := 7) rfl dX3_init_5 (by decide +kernel) ?_
  refine b_newa (t := 0) (ty := .int) (N := 12) (ws' := [(h, .inr (3, [.null, .null, .int (iz 0)])), (sz + 0, za G 0 12)]) (pc' := 9) rfl dX3_init_7 rfl ar_0 rfl (fun _ _ => rfl) (fun _ => rfl) (by decide +kernel) (by decide +kernel) (by decide +kernel) (Nat.le_of_ble_eq_true rfl) (Nat.le_of_ble_eq_true rfl) rfl ?_
  refine b_put (q0 := 0) (ws' := [(h, .inr (3, [.ref (sz + 0), .null, .int (iz 0)])), (sz + 0, za G 0 12)]) (pc' := 12) rfl dX3_init_9 pl_RX3_11 rfl rfl rfl rfl rfl ?_
  refine b_aload 0 (pc' := 13) rfl dX3_init_12 rfl rfl ?_
  refine b_bipush (v := iz (12)) (pc' := 15) rfl dX3_init_13 (by decide +kernel) ?_
  refine b_newa (t := 0) (ty := .int) (N := 12) (ws' := [(h, .inr (3, [.ref (sz + 0), .null, .int (iz 0)])), (sz + 0, za G 0 12), (sz + 1, za G 0 12)]) (pc' := 17) rfl dX3_init_15 rfl ar_0 rfl (fun _ _ => rfl) (fun _ => rfl) (by decide +kernel) (by decide +kernel) (by decide +kernel) (Nat.le_of_ble_eq_true rfl) (Nat.le_of_ble_eq_true rfl) rfl ?_
  refine b_put (q0 := 0) (ws' := [(h, .inr (3, [.ref (sz + 0), .ref (sz + 1), .int (iz 0)])), (sz + 0, za G 0 12), (sz + 1, za G 0 12)]) (pc' := 20) rfl dX3_init_17 pl_RX3_15 rfl rfl rfl rfl rfl ?_
  exact b_ret dX3_init_20
set_option maxHeartbeats 4000000 in
set_option maxRecDepth 100000 in
theorem c_X7_init (l : Launch) (G : Gx) (h sz : Nat) : Ct l G 1 0 0 mX7_init h sz (fun _ => True) [(h, .inr (5, [.int (iz 0), .int (iz 0), .int (iz 0), .int (iz 0), .int (iz 0), .int (iz 0)]))] [(h, .inr (5, [.int (iz 0), .int (iz 0), .int (iz 0), .int (iz 0), .int (iz 0), .int (iz 0)]))] := by
  refine Ct_of RX7 rfl rfl rfl (by decide +kernel) (Nat.le_of_ble_eq_true rfl) ?_
  refine b_aload 0 (pc' := 1) rfl dX7_init_0 rfl rfl ?_
  refine b_obj (pc' := 4) rfl dX7_init_1 ol_RX7_3 (Nat.le_of_ble_eq_true rfl) (Nat.le_of_ble_eq_true rfl) ?_
  exact b_ret dX7_init_4

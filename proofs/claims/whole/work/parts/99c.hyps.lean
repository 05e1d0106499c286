/-! what is owed of the numbers -/
theorem hyp_OP64 : OP64 := sorry
theorem hyp_OPSZ : OPSZ := sorry
theorem hyp_ORD : ORD := sorry
theorem hyp_MAS : MAS := sorry
theorem hyp_SETC : SETC := sorry
theorem hyp_GENH : GENH := sorry
theorem hyp_FAM12 : FAM12 := sorry
theorem hyp_BLKD : BLKD := sorry
theorem hyp_GCON : GCON := sorry
theorem hyp_CYCE : CYCE := sorry
theorem hyp_BLKE : BLKE := sorry
theorem hyp_FAME : FAME := sorry
theorem hyp_WAYE : WAYE := sorry
theorem hyp_MADE : MADE := sorry

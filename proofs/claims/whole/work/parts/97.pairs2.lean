/-! the calls that change nothing that is told, pair by pair -/
def CYCE : Prop := ∀ (n : Nat) (f : Nat → Nat) (what : Int), 1 ≤ n → n ≤ 7 → Pm n f → cycM f n what = cycI f n what
def BLKE : Prop := ∀ (n : Nat) (s a : Nat → Nat) (i what z z' : Int), MapV n s a → BlkP n s a i what z → BlkM n s a i what z' → z' = z
def FAME : Prop := ∀ (n : Nat) (s a : Nat → Nat) (i what z z' : Int), MapV n s a → FamP n s a i what z → FamM n s a i what z' → z' = z
def WAYE : Prop := ∀ (n : Nat) (s a : Nat → Nat) (d e : Int), MapV n s a → 1 ≤ d → d ≤ n → 1 ≤ e → e ≤ n → wayM n s a d.toNat e.toNat = wayL s a e.toNat n 0 (bt d.toNat)
theorem Pm.tr {n : Nat} {s a : Nat → Nat} (hV : MapV n s a) {wh : Int} : Pm n (trF s a wh) := by
  unfold trF
  split
  · exact hV.2.1
  · split
    · exact hV.2.2
    · exact hV.2.1.face hV.1.2 hV.2.2
set_option maxHeartbeats 1000000 in
theorem pr_code (l : Launch) (G : Gx) {x0 : Int} (hx0 : rg x0) {w : Wd} (hI : Inv w) : Pair l G 4 4 mX10_code mX11_code [aI x0] w := by
  obtain ⟨q, b, T, KL, hI⟩ := hI
  exact pair_ro q b T KL (Sp.mono (c_code l G hx0  hI.V w hI.M) (fun z w' h => ⟨by rw [h.2]; exact hI, h.1⟩)) (fun w' hI' => Sp.mono (c_codeM l G hx0  hI'.V w' hI'.RM hI'.RT) (fun z w'' h => ⟨h.1, h.2⟩)) (fun z z' e1 e2 => e2.trans e1.symm)
set_option maxHeartbeats 1000000 in
theorem pr_type (l : Launch) (G : Gx) {x0 : Int} (hx0 : rg x0) {w : Wd} (hI : Inv w) : Pair l G 4 4 mX10_type mX11_type [aI x0] w := by
  obtain ⟨q, b, T, KL, hI⟩ := hI
  exact pair_ro q b T KL (Sp.mono (c_type l G hx0  hI.V w hI.M) (fun z w' h => ⟨by rw [h.2]; exact hI, h.1⟩)) (fun w' hI' => Sp.mono (c_typeM l G hx0  hI'.V w' hI'.RM hI'.RT) (fun z w'' h => ⟨h.1, h.2⟩)) (fun z z' e1 e2 => e2.trans e1.symm)
set_option maxHeartbeats 1000000 in
theorem pr_cycles (l : Launch) (G : Gx) {x0 : Int} (hx0 : rg x0) {x1 : Int} (hx1 : rg x1) (hce : CYCE) {w : Wd} (hI : Inv w) : Pair l G 4 4 mX10_cycles mX11_cycles [aI x0, aI x1] w := by
  obtain ⟨q, b, T, KL, hI⟩ := hI
  exact pair_ro q b T KL (Sp.mono (c_cycles l G hx0 hx1  hI.V w hI.M) (fun z w' h => ⟨by rw [h.2]; exact hI, h.1⟩)) (fun w' hI' => Sp.mono (c_cyclesM l G hx0 hx1  hI'.V w' hI'.RM hI'.RT) (fun z w'' h => ⟨h.1, h.2⟩)) (fun z z' e1 e2 => by rw [e1, e2]; split <;> first | rfl | exact hce _ _ _ hI.V.1.1 hI.V.1.2 (by first | exact Pm.tr hI.V))
set_option maxHeartbeats 1000000 in
theorem pr_along (l : Launch) (G : Gx) {x0 : Int} (hx0 : rg x0) {x1 : Int} (hx1 : rg x1) {x2 : Int} (hx2 : rg x2) {w : Wd} (hI : Inv w) : Pair l G 4 4 mX10_along mX11_along [aI x0, aI x1, aI x2] w := by
  obtain ⟨q, b, T, KL, hI⟩ := hI
  exact pair_ro q b T KL (Sp.mono (c_along l G hx0 hx1 hx2  hI.V w hI.M) (fun z w' h => ⟨by rw [h.2]; exact hI, h.1⟩)) (fun w' hI' => Sp.mono (c_alongM l G hx0 hx1 hx2  hI'.V w' hI'.RM hI'.RT) (fun z w'' h => ⟨h.1, h.2⟩)) (fun z z' e1 e2 => e2.trans e1.symm)
set_option maxHeartbeats 1000000 in
theorem pr_part (l : Launch) (G : Gx) {x0 : Int} (hx0 : rg x0) {x1 : Int} (hx1 : rg x1) {w : Wd} (hI : Inv w) : Pair l G 4 4 mX10_part mX11_part [aI x0, aI x1] w := by
  obtain ⟨q, b, T, KL, hI⟩ := hI
  exact pair_ro q b T KL (Sp.mono (c_part l G hx0 hx1  hI.V w hI.M) (fun z w' h => ⟨by rw [h.2]; exact hI, h.1⟩)) (fun w' hI' => Sp.mono (c_partM l G hx0 hx1  hI'.V w' hI'.RM hI'.RT) (fun z w'' h => ⟨h.1, h.2⟩)) (fun z z' e1 e2 => e2.trans e1.symm)
set_option maxHeartbeats 1000000 in
theorem pr_canon (l : Launch) (G : Gx) {x0 : Int} (hx0 : rg x0) {w : Wd} (hI : Inv w) : Pair l G 11 3 mX10_canon mX11_canon [aI x0] w := by
  obtain ⟨q, b, T, KL, hI⟩ := hI
  exact pair_ro q b T KL (Sp.mono (c_canon l G hx0  hI.V w hI.M) (fun z w' h => ⟨hI.frC h.1 (by decide) (hI.G.kp (fun o u1 u2 j => h.1 o j (by simp; omega))) (hI.C.frs h.1 (by decide)), h.2⟩)) (fun w' hI' => Sp.mono (c_canonM l G hx0  hI'.V w' hI'.RM hI'.RT) (fun z w'' h => ⟨h.1, h.2⟩)) (fun z z' e1 e2 => e2.trans e1.symm)
set_option maxHeartbeats 1000000 in
theorem pr_point (l : Launch) (G : Gx) {x0 : Int} (hx0 : rg x0) {x1 : Int} (hx1 : rg x1) {x2 : Int} (hx2 : rg x2) {w : Wd} (hI : Inv w) : Pair l G 4 4 mX10_point mX11_point [aI x0, aI x1, aI x2] w := by
  obtain ⟨q, b, T, KL, hI⟩ := hI
  exact pair_ro q b T KL (Sp.mono (c_point l G hx0 hx1 hx2  hI.V w hI.M) (fun z w' h => ⟨by rw [h.2]; exact hI, h.1⟩)) (fun w' hI' => Sp.mono (c_pointM l G hx0 hx1 hx2  hI'.V w' hI'.RM hI'.RT) (fun z w'' h => ⟨h.1, h.2⟩)) (fun z z' e1 e2 => e2.trans e1.symm)
set_option maxHeartbeats 1000000 in
theorem pr_same (l : Launch) (G : Gx) {x0 : Int} (hx0 : rg x0) {x1 : Int} (hx1 : rg x1) {w : Wd} (hI : Inv w) : Pair l G 11 3 mX10_same mX11_same [aI x0, aI x1] w := by
  obtain ⟨q, b, T, KL, hI⟩ := hI
  exact pair_ro q b T KL (Sp.mono (c_same l G hx0 hx1  hI.V w hI.M) (fun z w' h => ⟨hI.frC h.1 (by decide) (hI.G.kp (fun o u1 u2 j => h.1 o j (by simp; omega))) (hI.C.frs h.1 (by decide)), h.2⟩)) (fun w' hI' => Sp.mono (c_sameM l G hx0 hx1  hI'.V w' hI'.RM hI'.RT) (fun z w'' h => ⟨h.1, h.2⟩)) (fun z z' e1 e2 => SamP_fun hI.V.1.2 e1 e2)
set_option maxHeartbeats 1000000 in
theorem pr_label (l : Launch) (G : Gx) {x0 : Int} (hx0 : rg x0) {x1 : Int} (hx1 : rg x1) {w : Wd} (hI : Inv w) : Pair l G 11 3 mX10_label mX11_label [aI x0, aI x1] w := by
  obtain ⟨q, b, T, KL, hI⟩ := hI
  exact pair_ro q b T KL (Sp.mono (c_label l G hx0 hx1  hI.V w hI.M) (fun z w' h => ⟨hI.frC h.1 (by decide) (hI.G.kp (fun o u1 u2 j => h.1 o j (by simp; omega))) (hI.C.frs h.1 (by decide)), h.2⟩)) (fun w' hI' => Sp.mono (c_labelM l G hx0 hx1  hI'.V w' hI'.RM hI'.RT) (fun z w'' h => ⟨h.1, h.2⟩)) (fun z z' e1 e2 => LabP_fun hI.V.1.2 e1 e2)
set_option maxHeartbeats 1000000 in
theorem pr_ofType (l : Launch) (G : Gx) {x0 : Int} (hx0 : rg x0) {w : Wd} (hI : Inv w) : Pair l G 4 3 mX10_ofType mX11_ofType [aI x0] w := by
  obtain ⟨q, b, T, KL, hI⟩ := hI
  exact pair_ro q b T KL (Sp.mono (c_ofType l G hx0  hI.V w hI.M hI.G) (fun z w' h => ⟨hI.frC h.1 (by decide) h.2.1 (hI.C.frs h.1 (by decide)), h.2.2⟩)) (fun w' hI' => Sp.mono (c_ofTypeM l G hx0  hI'.V w' hI'.RM hI'.RT) (fun z w'' h => ⟨h.1, h.2⟩)) (fun z z' e1 e2 => e2.trans e1.symm)
set_option maxHeartbeats 1000000 in
theorem pr_elements (l : Launch) (G : Gx) {x0 : Int} (hx0 : rg x0) {w : Wd} (hI : Inv w) : Pair l G 4 3 mX10_elements mX11_elements [aI x0] w := by
  obtain ⟨q, b, T, KL, hI⟩ := hI
  exact pair_ro q b T KL (Sp.mono (c_elements l G hx0  hI.V w hI.M hI.G) (fun z w' h => ⟨hI.frC h.1 (by decide) h.2.1 (hI.C.frs h.1 (by decide)), h.2.2⟩)) (fun w' hI' => Sp.mono (c_elementsM l G hx0  hI'.V w' hI'.RM hI'.RT) (fun z w'' h => ⟨h.1, h.2⟩)) (fun z z' e1 e2 => e2.trans e1.symm)
set_option maxHeartbeats 1000000 in
theorem pr_length (l : Launch) (G : Gx) {x0 : Int} (hx0 : rg x0) {w : Wd} (hI : Inv w) : Pair l G 4 4 mX10_length mX11_length [aI x0] w := by
  obtain ⟨q, b, T, KL, hI⟩ := hI
  exact pair_ro q b T KL (Sp.mono (c_length l G hx0  hI.V w hI.M hI.G) (fun z w' h => ⟨hI.frC h.1 (by decide) h.2.1 (hI.C.frs h.1 (by decide)), h.2.2⟩)) (fun w' hI' => Sp.mono (c_lengthM l G hx0  hI'.V w' hI'.RM hI'.RT) (fun z w'' h => ⟨h.1, h.2⟩)) (fun z z' e1 e2 => LenP_fun hI.V.1.2 e1 e2)
set_option maxHeartbeats 1000000 in
theorem pr_block (l : Launch) (G : Gx) {x0 : Int} (hx0 : rg x0) {x1 : Int} (hx1 : rg x1) (hblk : BLKD) (hbe : BLKE) {w : Wd} (hI : Inv w) : Pair l G 5 5 mX10_block mX11_block [aI x0, aI x1] w := by
  obtain ⟨q, b, T, KL, hI⟩ := hI
  exact pair_ro q b T KL (Sp.mono (c_block l G hx0 hx1  hI.V w hI.M) (fun z w' h => ⟨hI.frC h.1 (by decide) (hI.G.kp (fun o u1 u2 j => h.1 o j (by simp; omega))) (hI.C.frs h.1 (by decide)), h.2⟩)) (fun w' hI' => Sp.mono (c_blockM l G hx0 hx1 hblk hI'.V w' hI'.RM) (fun z w'' h => ⟨h.1, h.2⟩)) (fun z z' e1 e2 => hbe _ _ _ _ _ _ _ hI.V e1 e2)
set_option maxHeartbeats 1000000 in
theorem pr_kinds (l : Launch) (G : Gx) {x0 : Int} (hx0 : rg x0) {w : Wd} (hI : Inv w) : Pair l G 2 0 mX10_kinds mX11_kinds [aI x0] w := by
  obtain ⟨q, b, T, KL, hI⟩ := hI
  exact pair_ro q b T KL (Sp.mono (c_kinds l G hx0  hI.V w hI.M) (fun z w' h => ⟨by rw [h.2]; exact hI, h.1⟩)) (fun w' hI' => Sp.mono (c_kindsM l G hx0  hI'.V w' hI'.RM hI'.RT) (fun z w'' h => ⟨by rw [h.2]; exact Scr.rf' _, h.1⟩)) (fun z z' e1 e2 => e2.trans e1.symm)
set_option maxHeartbeats 1000000 in
theorem pr_size (l : Launch) (G : Gx) {x0 : Int} (hx0 : rg x0) (hsz : OPSZ) {w : Wd} (hI : Inv w) : Pair l G 4 1 mX10_size mX11_size [aI x0] w := by
  obtain ⟨q, b, T, KL, hI⟩ := hI
  exact pair_ro q b T KL (Sp.mono (c_size l G hx0  hI.V w hI.M) (fun z w' h => ⟨by rw [h.2]; exact hI, h.1⟩)) (fun w' hI' => Sp.mono (c_sizeM l G hx0 hsz hI'.V w' hI'.RM hI'.RT) (fun z w'' h => ⟨by rw [h.2]; exact Scr.rf' _, h.1⟩)) (fun z z' e1 e2 => e2.trans e1.symm)
set_option maxHeartbeats 1000000 in
theorem pr_character (l : Launch) (G : Gx) {x0 : Int} (hx0 : rg x0) {x1 : Int} (hx1 : rg x1) {w : Wd} (hI : Inv w) : Pair l G 9 3 mX10_character mX11_character [aI x0, aI x1] w := by
  obtain ⟨q, b, T, KL, hI⟩ := hI
  exact pair_ro q b T KL (Sp.mono (c_character l G hx0 hx1  hI.V w hI.M) (fun z w' h => ⟨by rw [h.2]; exact hI, h.1⟩)) (fun w' hI' => Sp.mono (c_characterM l G hx0 hx1  hI'.V w' hI'.RM hI'.RT) (fun z w'' h => ⟨h.1, h.2⟩)) (fun z z' e1 e2 => e2.trans e1.symm)
set_option maxHeartbeats 1000000 in
theorem pr_triples (l : Launch) (G : Gx) {x0 : Int} (hx0 : rg x0) {x1 : Int} (hx1 : rg x1) {x2 : Int} (hx2 : rg x2) {x3 : Int} (hx3 : rg x3) (hsz : OPSZ) {w : Wd} (hI : Inv w) : Pair l G 10 4 mX10_triples mX11_triples [aI x0, aI x1, aI x2, aI x3] w := by
  obtain ⟨q, b, T, KL, hI⟩ := hI
  exact pair_ro q b T KL (Sp.mono (c_triples l G hx0 hx1 hx2 hx3  hI.V w hI.M hI.C) (fun z w' h => ⟨hI.frC h.1 (by decide) (hI.G.kp (fun o u1 u2 j => h.1 o j (by simp; omega))) h.2.1, h.2.2⟩)) (fun w' hI' => Sp.mono (c_triplesM l G hx0 hx1 hx2 hx3 hsz hI'.V w' hI'.RM hI'.RT) (fun z w'' h => ⟨h.1, h.2⟩)) (fun z z' e1 e2 => TriP_fun hI.V.1.2 e1 e2)
set_option maxHeartbeats 1000000 in
theorem pr_classes (l : Launch) (G : Gx) {x0 : Int} (hx0 : rg x0) {x1 : Int} (hx1 : rg x1) {x2 : Int} (hx2 : rg x2) {x3 : Int} (hx3 : rg x3) {x4 : Int} (hx4 : rg x4) (h64 : OP64) (hord : ORD) {w : Wd} (hI : Inv w) : Pair l G 13 5 mX10_classes mX11_classes [aI x0, aI x1, aI x2, aI x3, aI x4] w := by
  obtain ⟨q, b, T, KL, hI⟩ := hI
  exact pair_ro q b T KL (Sp.mono (c_classes l G hx0 hx1 hx2 hx3 hx4 h64 hI.V w hI.M hI.C) (fun z w' h => ⟨hI.frC h.1 (by decide) (hI.G.kp (fun o u1 u2 j => h.1 o j (by simp; omega))) h.2.1, h.2.2⟩)) (fun w' hI' => Sp.mono (c_classesM l G hx0 hx1 hx2 hx3 hx4 h64 hord hI'.V w' hI'.RM hI'.RT) (fun z w'' h => ⟨h.1, h.2⟩)) (fun z z' e1 e2 => ClsP_fun hI.V.1.2 e1 e2)
set_option maxHeartbeats 1000000 in
theorem pr_mass (l : Launch) (G : Gx) {x0 : Int} (hx0 : rg x0) {x1 : Int} (hx1 : rg x1) {x2 : Int} (hx2 : rg x2) {x3 : Int} (hx3 : rg x3) (h64 : OP64) (hmas : MAS) {w : Wd} (hI : Inv w) : Pair l G 7 4 mX10_mass mX11_mass [aI x0, aI x1, aI x2, aI x3] w := by
  obtain ⟨q, b, T, KL, hI⟩ := hI
  exact pair_ro q b T KL (Sp.mono (c_mass l G hx0 hx1 hx2 hx3  hI.V w hI.M hI.C) (fun z w' h => ⟨hI.frC h.1 (by decide) (hI.G.kp (fun o u1 u2 j => h.1 o j (by simp; omega))) h.2.1, h.2.2⟩)) (fun w' hI' => Sp.mono (c_massM l G hx0 hx1 hx2 hx3 h64 hmas hI'.V w' hI'.RM hI'.RT) (fun z w'' h => ⟨h.1, h.2⟩)) (fun z z' e1 e2 => MasP_fun hI.V.1.2 e1 e2)
set_option maxHeartbeats 1000000 in
theorem pr_genera (l : Launch) (G : Gx) {x0 : Int} (hx0 : rg x0) {x1 : Int} (hx1 : rg x1) {x2 : Int} (hx2 : rg x2) (hsz : OPSZ) (hgen : GENH) {w : Wd} (hI : Inv w) : Pair l G 6 4 mX10_genera mX11_genera [aI x0, aI x1, aI x2] w := by
  obtain ⟨q, b, T, KL, hI⟩ := hI
  exact pair_ro q b T KL (Sp.mono (c_genera l G hx0 hx1 hx2  hI.V w hI.M hI.C) (fun z w' h => ⟨hI.frC h.1 (by decide) (hI.G.kp (fun o u1 u2 j => h.1 o j (by simp; omega))) h.2.1, h.2.2⟩)) (fun w' hI' => Sp.mono (c_generaM l G hx0 hx1 hx2 hsz hgen hI'.V w' hI'.RM hI'.RT) (fun z w'' h => ⟨h.1, h.2⟩)) (fun z z' e1 e2 => GenP_fun hI.V.1.2 e1 e2)
set_option maxHeartbeats 1000000 in
theorem pr_thirds (l : Launch) (G : Gx) {x0 : Int} (hx0 : rg x0) {x1 : Int} (hx1 : rg x1) {x2 : Int} (hx2 : rg x2) {w : Wd} (hI : Inv w) : Pair l G 6 3 mX10_thirds mX11_thirds [aI x0, aI x1, aI x2] w := by
  obtain ⟨q, b, T, KL, hI⟩ := hI
  exact pair_ro q b T KL (Sp.mono (c_thirds l G hx0 hx1 hx2  hI.V w hI.M hI.C) (fun z w' h => ⟨hI.frC h.1 (by decide) (hI.G.kp (fun o u1 u2 j => h.1 o j (by simp; omega))) h.2.1, h.2.2⟩)) (fun w' hI' => Sp.mono (c_thirdsM l G hx0 hx1 hx2  hI'.V w' hI'.RM hI'.RT) (fun z w'' h => ⟨h.1, h.2⟩)) (fun z z' e1 e2 => ThrP_fun hI.V.1.2 e1 e2)
set_option maxHeartbeats 1000000 in
theorem pr_family (l : Launch) (G : Gx) {x0 : Int} (hx0 : rg x0) {x1 : Int} (hx1 : rg x1) (h12 : FAM12) (hfe : FAME) {w : Wd} (hI : Inv w) : Pair l G 12 4 mX10_family mX11_family [aI x0, aI x1] w := by
  obtain ⟨q, b, T, KL, hI⟩ := hI
  exact pair_ro q b T KL (Sp.mono (c_family l G hx0 hx1  hI.V w hI.M) (fun z w' h => ⟨hI.frC h.1 (by decide) (hI.G.kp (fun o u1 u2 j => h.1 o j (by simp; omega))) (hI.C.frs h.1 (by decide)), h.2⟩)) (fun w' hI' => Sp.mono (c_familyM l G hx0 hx1 h12 hI'.V w' hI'.RM hI'.RT) (fun z w'' h => ⟨h.1, h.2⟩)) (fun z z' e1 e2 => hfe _ _ _ _ _ _ _ hI.V e1 e2)
set_option maxHeartbeats 1000000 in
theorem pr_power (l : Launch) (G : Gx) {x0 : Int} (hx0 : rg x0) {x1 : Int} (hx1 : rg x1) {w : Wd} (hI : Inv w) : Pair l G 4 4 mX10_power mX11_power [aI x0, aI x1] w := by
  obtain ⟨q, b, T, KL, hI⟩ := hI
  exact pair_ro q b T KL (Sp.mono (c_power l G hx0 hx1  hI.V w hI.M) (fun z w' h => ⟨by rw [h.2]; exact hI, h.1⟩)) (fun w' hI' => Sp.mono (c_powerM l G hx0 hx1  hI'.V w' hI'.RM hI'.RT) (fun z w'' h => ⟨h.1, h.2⟩)) (fun z z' e1 e2 => e2.trans e1.symm)
set_option maxHeartbeats 1000000 in
theorem pr_roots (l : Launch) (G : Gx) {x0 : Int} (hx0 : rg x0) {x1 : Int} (hx1 : rg x1) {x2 : Int} (hx2 : rg x2) {w : Wd} (hI : Inv w) : Pair l G 4 4 mX10_roots mX11_roots [aI x0, aI x1, aI x2] w := by
  obtain ⟨q, b, T, KL, hI⟩ := hI
  exact pair_ro q b T KL (Sp.mono (c_roots l G hx0 hx1 hx2  hI.V w hI.M hI.C) (fun z w' h => ⟨hI.frC h.1 (by decide) (hI.G.kp (fun o u1 u2 j => h.1 o j (by simp; omega))) h.2.1, h.2.2⟩)) (fun w' hI' => Sp.mono (c_rootsM l G hx0 hx1 hx2  hI'.V w' hI'.RM hI'.RT) (fun z w'' h => ⟨h.1, h.2⟩)) (fun z z' e1 e2 => RotP_fun e1 e2)
set_option maxHeartbeats 1000000 in
theorem pr_reckon (l : Launch) (G : Gx) {x0 : Int} (hx0 : rg x0) {x1 : Int} (hx1 : rg x1) {x2 : Int} (hx2 : rg x2) {w : Wd} (hI : Inv w) : Pair l G 3 3 mX10_reckon mX11_reckon [aI x0, aI x1, aI x2] w := by
  obtain ⟨q, b, T, KL, hI⟩ := hI
  exact pair_ro q b T KL (Sp.mono (c_reckon l G hx0 hx1 hx2  hI.V w hI.M) (fun z w' h => ⟨by rw [h.2]; exact hI, h.1⟩)) (fun w' hI' => Sp.mono (c_reckonM l G hx0 hx1 hx2  hI'.V w' hI'.RM hI'.RT) (fun z w'' h => ⟨h.1, h.2⟩)) (fun z z' e1 e2 => RK_fun hI.V.1.2 e1 e2)
set_option maxHeartbeats 1000000 in
theorem pr_way (l : Launch) (G : Gx) {x0 : Int} (hx0 : rg x0) {x1 : Int} (hx1 : rg x1) (hwe : WAYE) {w : Wd} (hI : Inv w) : Pair l G 2 2 mX10_way mX11_way [aI x0, aI x1] w := by
  obtain ⟨q, b, T, KL, hI⟩ := hI
  exact pair_ro q b T KL (Sp.mono (c_way l G hx0 hx1  hI.V w hI.M) (fun z w' h => ⟨by rw [h.2]; exact hI, h.1⟩)) (fun w' hI' => Sp.mono (c_wayM l G hx0 hx1  hI'.V w' hI'.RM) (fun z w'' h => ⟨h.1, h.2⟩)) (fun z z' e1 e2 => by rw [e1, e2]; split <;> first | rfl | (rename_i hd; exact hwe _ _ _ _ _ hI.V (by omega) (by omega) (by omega) (by omega)))
set_option maxHeartbeats 1000000 in
theorem pr_meet (l : Launch) (G : Gx) {x0 : Int} (hx0 : rg x0) {x1 : Int} (hx1 : rg x1) {x2 : Int} (hx2 : rg x2) {x3 : Int} (hx3 : rg x3) {w : Wd} (hI : Inv w) : Pair l G 4 5 mX10_meet mX11_meet [aI x0, aI x1, aI x2, aI x3] w := by
  obtain ⟨q, b, T, KL, hI⟩ := hI
  exact pair_ro q b T KL (Sp.mono (c_meet l G hx0 hx1 hx2 hx3  hI.V w hI.M) (fun z w' h => ⟨by rw [h.2]; exact hI, h.1⟩)) (fun w' hI' => Sp.mono (c_meetM l G hx0 hx1 hx2 hx3  hI'.V w' hI'.RM hI'.RT) (fun z w'' h => ⟨h.1, h.2⟩)) (fun z z' e1 e2 => e2.trans e1.symm)
set_option maxHeartbeats 1000000 in
theorem pr_piece (l : Launch) (G : Gx) {x0 : Int} (hx0 : rg x0) {x1 : Int} (hx1 : rg x1) {w : Wd} (hI : Inv w) : Pair l G 4 1 mX10_piece mX11_piece [aI x0, aI x1] w := by
  obtain ⟨q, b, T, KL, hI⟩ := hI
  exact pair_ro q b T KL (Sp.mono (c_piece l G hx0 hx1  hI.AV w hI.AW) (fun z w' h => ⟨by rw [h.2]; exact hI, h.1⟩)) (fun w' hI' => Sp.mono (c_pieceM l G hx0 hx1  hI'.AV w' hI'.AM) (fun z w'' h => ⟨by rw [h.2]; exact Scr.rf' _, h.1⟩)) (fun z z' e1 e2 => e2.trans e1.symm)
set_option maxHeartbeats 1000000 in
theorem pr_count (l : Launch) (G : Gx) {x0 : Int} (hx0 : rg x0) (h64 : OP64) (hord : ORD) (hset : SETC) (hblk : BLKD) {w : Wd} (hI : Inv w) : Pair l G 12 5 mX10_count mX11_count [aI x0] w := by
  obtain ⟨q, b, T, KL, hI⟩ := hI
  exact pair_ro q b T KL (Sp.mono (c_count l G hx0 h64 hI.V w hI.M hI.C hI.B hI.K.2.1 hI.AW.1) (fun z w' h => ⟨hI.frC h.1 (by decide) (hI.G.kp (fun o u1 u2 j => h.1 o j (by simp; omega))) h.2.1, h.2.2⟩)) (fun w' hI' => Sp.mono (c_countM l G hx0 h64 hord hset hblk hI'.V w' hI'.RM hI'.RT hI'.AM.1 hI'.RB hI'.K.2.2.1) (fun z w'' h => ⟨h.1, h.2⟩)) (fun z z' e1 e2 => CntP_fun hI.V.1.2 e1 e2)

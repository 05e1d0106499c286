/-! ===== types, least ones, orders: looked at for every permutation ===== -/
def sumN (h : Nat → Nat) : Nat → Nat
  | 0 => 0
  | k + 1 => sumN h k + h (k + 1)
def cntR (f : Nat → Nat) (n k : Nat) : Nat := sumN (fun x => if popc (ringN f x) = k then 1 else 0) n
def lstC (f : Nat → Nat) (n k : Nat) : Nat := sumN (fun x => if leastB f x then (if popc (ringN f x) = k then 1 else 0) else 0) n
def lstN (f : Nat → Nat) (n : Nat) : Nat := sumN (fun x => if leastB f x then 1 else 0) n
def evnN (f : Nat → Nat) (n : Nat) : Nat := sumN (fun x => if leastB f x then (if popc (ringN f x) % 2 = 0 then 1 else 0) else 0) n
def seven : List Nat := [1, 2, 3, 4, 5, 6, 7]
def ordB (f : Nat → Nat) (m : Nat) : Bool := Nat.ble 1 m && (Nat.ble m 12 && (seven.all (fun x => pstep f m x == x) && (List.range m).all (fun j => j == 0 || seven.any (fun x => !(pstep f j x == x)))))
def RSl (n : Nat) : List Nat := [[], [], [34817383], [34817383, 52512103, 20071783], [34817383, 52512103, 20071783, 69408103, 21177703, 19150183], [34817383, 52512103, 20071783, 69408103, 21177703, 19150183, 86196583, 22233703, 19219303, 19092583, 54858343], [34817383, 52512103, 20071783, 69408103, 21177703, 19150183, 86196583, 22233703, 19219303, 19092583, 102974743, 23282983, 19285303, 19096903, 19088983, 21324343, 54878503], [34817383, 52512103, 20071783, 69408103, 21177703, 19150183, 86196583, 22233703, 19219303, 19092583, 102974743, 23282983, 19285303, 19096903, 19088983, 119752033, 24331618, 19350883, 19101028, 19089253, 19088758, 19228468, 21325603, 90640948, 72773923, 54880018]].getD n []
def kchk (n c : Nat) : Bool :=
  (kindN (dg c) n == typL (fun k => cntR (dg c) n k / k) n 0) && ((List.range (kmany n)).any (fun i => kT n i == kindN (dg c) n) && ((hx (leastF (kindN (dg c) n) n) == c || (RSl n).any (fun r => Nat.blt (hx (pconj (dg c) (dg r))) c)) && ((kindN (dg c) n == typL (fun k => lstC (dg c) n k) n 0) && (ordB (dg c) (orderN (dg c) n) && ((n - lstN (dg c) n) % 2 == evnN (dg c) n % 2)))))
theorem kq_12 : ch_12.all (kchk 7) = true := by decide +kernel
theorem kq_13 : ch_13.all (kchk 7) = true := by decide +kernel
theorem kq_14 : ch_14.all (kchk 7) = true := by decide +kernel
theorem kq_15 : ch_15.all (kchk 7) = true := by decide +kernel
theorem kq_16 : ch_16.all (kchk 7) = true := by decide +kernel
theorem kq_17 : ch_17.all (kchk 7) = true := by decide +kernel
theorem kq_21 : ch_21.all (kchk 7) = true := by decide +kernel
theorem kq_23 : ch_23.all (kchk 7) = true := by decide +kernel
theorem kq_24 : ch_24.all (kchk 7) = true := by decide +kernel
theorem kq_25 : ch_25.all (kchk 7) = true := by decide +kernel
theorem kq_26 : ch_26.all (kchk 7) = true := by decide +kernel
theorem kq_27 : ch_27.all (kchk 7) = true := by decide +kernel
theorem kq_31 : ch_31.all (kchk 7) = true := by decide +kernel
theorem kq_32 : ch_32.all (kchk 7) = true := by decide +kernel
theorem kq_34 : ch_34.all (kchk 7) = true := by decide +kernel
theorem kq_35 : ch_35.all (kchk 7) = true := by decide +kernel
theorem kq_36 : ch_36.all (kchk 7) = true := by decide +kernel
theorem kq_37 : ch_37.all (kchk 7) = true := by decide +kernel
theorem kq_41 : ch_41.all (kchk 7) = true := by decide +kernel
theorem kq_42 : ch_42.all (kchk 7) = true := by decide +kernel
theorem kq_43 : ch_43.all (kchk 7) = true := by decide +kernel
theorem kq_45 : ch_45.all (kchk 7) = true := by decide +kernel
theorem kq_46 : ch_46.all (kchk 7) = true := by decide +kernel
theorem kq_47 : ch_47.all (kchk 7) = true := by decide +kernel
theorem kq_51 : ch_51.all (kchk 7) = true := by decide +kernel
theorem kq_52 : ch_52.all (kchk 7) = true := by decide +kernel
theorem kq_53 : ch_53.all (kchk 7) = true := by decide +kernel
theorem kq_54 : ch_54.all (kchk 7) = true := by decide +kernel
theorem kq_56 : ch_56.all (kchk 7) = true := by decide +kernel
theorem kq_57 : ch_57.all (kchk 7) = true := by decide +kernel
theorem kq_61 : ch_61.all (kchk 7) = true := by decide +kernel
theorem kq_62 : ch_62.all (kchk 7) = true := by decide +kernel
theorem kq_63 : ch_63.all (kchk 7) = true := by decide +kernel
theorem kq_64 : ch_64.all (kchk 7) = true := by decide +kernel
theorem kq_65 : ch_65.all (kchk 7) = true := by decide +kernel
theorem kq_67 : ch_67.all (kchk 7) = true := by decide +kernel
theorem kq_71 : ch_71.all (kchk 7) = true := by decide +kernel
theorem kq_72 : ch_72.all (kchk 7) = true := by decide +kernel
theorem kq_73 : ch_73.all (kchk 7) = true := by decide +kernel
theorem kq_74 : ch_74.all (kchk 7) = true := by decide +kernel
theorem kq_75 : ch_75.all (kchk 7) = true := by decide +kernel
theorem kq_76 : ch_76.all (kchk 7) = true := by decide +kernel

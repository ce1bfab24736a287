/-! Nets: the list is gone through. -/
def all3 (a b : Nat) : Bool := (List.range (7 - a - b)).all fun c => (List.range (7 - a - b - c)).all fun d => (List.range (7 - a - b - c - d)).all fun e => (List.range (7 - a - b - c - d - e)).all fun f => okNet 3 a b c d e f
def all2 : Bool := (List.range 7).all fun a => (List.range (7 - a)).all fun b => (List.range (7 - a - b)).all fun d => okNet 2 a b 0 d 0 0
def all1 : Bool := (List.range 7).all fun a => okNet 1 a 0 0 0 0 0
theorem n3_00 : all3 0 0 = true := by decide +kernel
theorem n3_01 : all3 0 1 = true := by decide +kernel
theorem n3_02 : all3 0 2 = true := by decide +kernel
theorem n3_03 : all3 0 3 = true := by decide +kernel
theorem n3_04 : all3 0 4 = true := by decide +kernel
theorem n3_05 : all3 0 5 = true := by decide +kernel
theorem n3_06 : all3 0 6 = true := by decide +kernel
theorem n3_10 : all3 1 0 = true := by decide +kernel
theorem n3_11 : all3 1 1 = true := by decide +kernel
theorem n3_12 : all3 1 2 = true := by decide +kernel
theorem n3_13 : all3 1 3 = true := by decide +kernel
theorem n3_14 : all3 1 4 = true := by decide +kernel
theorem n3_15 : all3 1 5 = true := by decide +kernel
theorem n3_20 : all3 2 0 = true := by decide +kernel
theorem n3_21 : all3 2 1 = true := by decide +kernel
theorem n3_22 : all3 2 2 = true := by decide +kernel
theorem n3_23 : all3 2 3 = true := by decide +kernel
theorem n3_24 : all3 2 4 = true := by decide +kernel
theorem n3_30 : all3 3 0 = true := by decide +kernel
theorem n3_31 : all3 3 1 = true := by decide +kernel
theorem n3_32 : all3 3 2 = true := by decide +kernel
theorem n3_33 : all3 3 3 = true := by decide +kernel
theorem n3_40 : all3 4 0 = true := by decide +kernel
theorem n3_41 : all3 4 1 = true := by decide +kernel
theorem n3_42 : all3 4 2 = true := by decide +kernel
theorem n3_50 : all3 5 0 = true := by decide +kernel
theorem n3_51 : all3 5 1 = true := by decide +kernel
theorem n3_60 : all3 6 0 = true := by decide +kernel
theorem n2_a : all2 = true := by decide +kernel
theorem n1_a : all1 = true := by decide +kernel
def lc4 (S : List Nat) : Bool := S.all fun a => S.all fun b => fN (Nat.lcm a b) fun x => S.all fun c => fN (Nat.lcm x c) fun y => S.all fun d => fN (Nat.lcm y d) fun z => Nat.ble z 15000000 && !Nat.beq (z % 128) 0
theorem lc4_a : S5.all lc4 = true := by decide +kernel

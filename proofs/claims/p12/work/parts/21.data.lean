/-! The classes, the methods, the Strings. -/
def SSX : SS := ([("GridPrices", 76, "the text would be too long"), ("GridPrices", 341, "no such number"), ("GridPrices", 351, "there is no outage"), ("GridPrices", 343, "the value is out of range"), ("GridPrices", 349, "the other lines do not connect all nodes"), ("GridPrices", 117, "what is out of range"), ("GridPrices", 415, "the interval is infeasible"), ("GridPrices", 292, "all demands are 0"), ("GridPrices", 427, "the node has no price"), ("GridPrices", 216, "the nodes are the same"), ("GridPrices", 87, "no such length"), ("GridPrices", 187, "no change can be undone"), ("GridPrices$Reader", 138, "generator"), ("GridPrices$Reader", 140, "demand"), ("GridPrices$Reader", 142, "right"), ("GridPrices$Reader", 144, "outage"), ("GridPrices$Reader", 112, "line"), ("GridPrices$Reader", 132, "emergency"), ("GridPrices$Reader", 94, "nodes"), ("GridPrices$Reader", 105, "intervals"), ("GridPrices$Reader", 89, "the text has an error")], [("java/lang/IllegalStateException", "java/lang/IndexOutOfBoundsException"), ("java/lang/IllegalStateException", "java/lang/IllegalArgumentException"), ("java/lang/IllegalArgumentException", "java/lang/IndexOutOfBoundsException"), ("java/util/NoSuchElementException", "java/lang/IndexOutOfBoundsException"), ("java/util/NoSuchElementException", "java/lang/IllegalStateException"), ("java/util/NoSuchElementException", "java/lang/IllegalArgumentException")])
def F_0 : List (String × String × String × Bool) := [("GridPrices", "reader", "LGridPrices$Reader;", true), ("GridPrices", "problem", "LGridPrices$Problem;", true), ("GridPrices", "factors", "LGridPrices$Factors;", true), ("GridPrices", "factorsAfter", "LGridPrices$Factors;", true), ("GridPrices", "changes", "Ljava/util/ArrayList;", true), ("GridPrices", "dispatches", "[LGridPrices$Dispatch;", true), ("GridPrices", "grid", "LGridPrices$Grid;", false)]
def Y_0 : List FieldType := [(.object "GridPrices$Reader"), (.object "GridPrices$Problem"), (.object "GridPrices$Factors"), (.object "GridPrices$Factors"), (.object "java/util/ArrayList"), (.array (.object "GridPrices$Dispatch")), (.object "GridPrices$Grid")]
def K_0 : List Nat := [3, 3, 3, 3, 3, 3, 3]
def C_0 : vw_C := ("GridPrices", fun k => F_0.getD k ("", "", "", false), 7)
def F_1 : List (String × String × String × Bool) := [("GridPrices$Factors", "trees", "J", false), ("GridPrices$Factors", "scaled", "[[J", true), ("GridPrices$Factors", "laplacian", "[[J", true), ("GridPrices$Factors", "angle", "[[J", true)]
def Y_1 : List FieldType := [.long, (.array (.array .long)), (.array (.array .long)), (.array (.array .long))]
def K_1 : List Nat := [2, 3, 3, 3]
def C_1 : vw_C := ("GridPrices$Factors", fun k => F_1.getD k ("", "", "", false), 4)
def F_2 : List (String × String × String × Bool) := [("GridPrices$Fraction", "numerator", "J", true), ("GridPrices$Fraction", "denominator", "J", true)]
def Y_2 : List FieldType := [.long, .long]
def K_2 : List Nat := [2, 2]
def C_2 : vw_C := ("GridPrices$Fraction", fun k => F_2.getD k ("", "", "", false), 2)
def F_3 : List (String × String × String × Bool) := [("GridPrices$Dispatch", "interval", "I", true), ("GridPrices$Dispatch", "hasAnswer", "Z", true), ("GridPrices$Dispatch", "cost", "LGridPrices$Fraction;", true), ("GridPrices$Dispatch", "outputs", "[LGridPrices$Fraction;", true), ("GridPrices$Dispatch", "isPriced", "[Z", true), ("GridPrices$Dispatch", "prices", "[LGridPrices$Fraction;", true)]
def Y_3 : List FieldType := [.int, .boolean, (.object "GridPrices$Fraction"), (.array (.object "GridPrices$Fraction")), (.array .boolean), (.array (.object "GridPrices$Fraction"))]
def K_3 : List Nat := [0, 1, 3, 3, 3, 3]
def C_3 : vw_C := ("GridPrices$Dispatch", fun k => F_3.getD k ("", "", "", false), 6)
def F_4 : List (String × String × String × Bool) := [("GridPrices$Grid", "nodes", "I", false), ("GridPrices$Grid", "intervals", "I", false), ("GridPrices$Grid", "lines", "I", false), ("GridPrices$Grid", "generators", "I", false), ("GridPrices$Grid", "rights", "I", false), ("GridPrices$Grid", "outage", "I", false), ("GridPrices$Grid", "lineFrom", "[I", true), ("GridPrices$Grid", "lineTo", "[I", true), ("GridPrices$Grid", "limit", "[I", true), ("GridPrices$Grid", "emergency", "[I", true), ("GridPrices$Grid", "generatorNode", "[I", true), ("GridPrices$Grid", "cost", "[I", true), ("GridPrices$Grid", "capacity", "[I", true), ("GridPrices$Grid", "demands", "[[I", true), ("GridPrices$Grid", "holder", "[I", true), ("GridPrices$Grid", "rightFrom", "[I", true), ("GridPrices$Grid", "rightTo", "[I", true), ("GridPrices$Grid", "quantity", "[I", true)]
def Y_4 : List FieldType := [.int, .int, .int, .int, .int, .int, (.array .int), (.array .int), (.array .int), (.array .int), (.array .int), (.array .int), (.array .int), (.array (.array .int)), (.array .int), (.array .int), (.array .int), (.array .int)]
def K_4 : List Nat := [0, 0, 0, 0, 0, 0, 3, 3, 3, 3, 3, 3, 3, 3, 3, 3, 3, 3]
def C_4 : vw_C := ("GridPrices$Grid", fun k => F_4.getD k ("", "", "", false), 18)
def F_5 : List (String × String × String × Bool) := [("GridPrices$Reader", "length", "I", false), ("GridPrices$Reader", "errorCode", "I", false), ("GridPrices$Reader", "errorPosition", "I", false), ("GridPrices$Reader", "text", "[B", true), ("GridPrices$Reader", "factors", "LGridPrices$Factors;", true), ("GridPrices$Reader", "grid", "LGridPrices$Grid;", false), ("GridPrices$Reader", "end", "I", false), ("GridPrices$Reader", "kind", "I", false), ("GridPrices$Reader", "start", "I", false), ("GridPrices$Reader", "stop", "I", false), ("GridPrices$Reader", "previousStart", "I", false)]
def Y_5 : List FieldType := [.int, .int, .int, (.array .byte), (.object "GridPrices$Factors"), (.object "GridPrices$Grid"), .int, .int, .int, .int, .int]
def K_5 : List Nat := [0, 0, 0, 3, 3, 3, 0, 0, 0, 0, 0]
def C_5 : vw_C := ("GridPrices$Reader", fun k => F_5.getD k ("", "", "", false), 11)
def F_6 : List (String × String × String × Bool) := [("GridPrices$Problem", "demand", "[I", true), ("GridPrices$Problem", "limit", "[I", true), ("GridPrices$Problem", "emergency", "[I", true), ("GridPrices$Problem", "outage", "I", false), ("GridPrices$Problem", "hasLimits", "Z", false), ("GridPrices$Problem", "grid", "LGridPrices$Grid;", false), ("GridPrices$Problem", "factors", "LGridPrices$Factors;", true), ("GridPrices$Problem", "factorsAfter", "LGridPrices$Factors;", true), ("GridPrices$Problem", "program", "LGridPrices$Program;", true), ("GridPrices$Problem", "terms", "[J", true)]
def Y_6 : List FieldType := [(.array .int), (.array .int), (.array .int), .int, .boolean, (.object "GridPrices$Grid"), (.object "GridPrices$Factors"), (.object "GridPrices$Factors"), (.object "GridPrices$Program"), (.array .long)]
def K_6 : List Nat := [3, 3, 3, 0, 1, 3, 3, 3, 3, 3]
def C_6 : vw_C := ("GridPrices$Problem", fun k => F_6.getD k ("", "", "", false), 10)
def F_7 : List (String × String × String × Bool) := [("GridPrices$Program", "table", "[[J", true), ("GridPrices$Program", "divisor", "J", false), ("GridPrices$Program", "variables", "I", false), ("GridPrices$Program", "rows", "I", false), ("GridPrices$Program", "row", "[[J", true), ("GridPrices$Program", "entering", "[J", true)]
def Y_7 : List FieldType := [(.array (.array .long)), .long, .int, .int, (.array (.array .long)), (.array .long)]
def K_7 : List Nat := [3, 2, 0, 0, 3, 3]
def C_7 : vw_C := ("GridPrices$Program", fun k => F_7.getD k ("", "", "", false), 6)
def F_8 : List (String × String × String × Bool) := [("GridPrices$Change", "kind", "I", true), ("GridPrices$Change", "place", "I", true), ("GridPrices$Change", "node", "I", true), ("GridPrices$Change", "before", "I", true), ("GridPrices$Change", "emergencyBefore", "I", true)]
def Y_8 : List FieldType := [.int, .int, .int, .int, .int]
def K_8 : List Nat := [0, 0, 0, 0, 0]
def C_8 : vw_C := ("GridPrices$Change", fun k => F_8.getD k ("", "", "", false), 5)
def F_9 : List (String × String × String × Bool) := [("GridPricesModel", "raised", "I", false), ("GridPricesModel", "told", "[I", true), ("GridPricesModel", "fresh", "[I", true), ("GridPricesModel", "w", "[I", true), ("GridPricesModel", "freshW", "[I", true), ("GridPricesModel", "past", "[I", true), ("GridPricesModel", "pasts", "I", false), ("GridPricesModel", "top", "J", false), ("GridPricesModel", "low", "J", false), ("GridPricesModel", "text", "[I", true), ("GridPricesModel", "length", "I", false), ("GridPricesModel", "at", "I", false), ("GridPricesModel", "errorCode", "I", false), ("GridPricesModel", "errorPosition", "I", false), ("GridPricesModel", "isBad", "Z", false), ("GridPricesModel", "numberAt", "I", false), ("GridPricesModel", "factorTop", "[J", true), ("GridPricesModel", "factorLow", "[J", true), ("GridPricesModel", "eqTop", "[J", true), ("GridPricesModel", "eqLow", "[J", true), ("GridPricesModel", "demands", "[I", true), ("GridPricesModel", "limits", "[I", true), ("GridPricesModel", "emergencies", "[I", true), ("GridPricesModel", "capacities", "[I", true), ("GridPricesModel", "out", "I", false), ("GridPricesModel", "cellTop", "[J", true), ("GridPricesModel", "cellLow", "[J", true), ("GridPricesModel", "basis", "[I", true), ("GridPricesModel", "rows", "I", false), ("GridPricesModel", "costTop", "J", false), ("GridPricesModel", "costLow", "J", false), ("GridPricesModel", "outputTop", "[J", true), ("GridPricesModel", "outputLow", "[J", true), ("GridPricesModel", "priceTop", "[J", true), ("GridPricesModel", "priceLow", "[J", true), ("GridPricesModel", "sumTop", "J", false), ("GridPricesModel", "sumLow", "J", false), ("GridPricesModel", "ratioTop", "J", false), ("GridPricesModel", "ratioLow", "J", false)]
def Y_9 : List FieldType := [.int, (.array .int), (.array .int), (.array .int), (.array .int), (.array .int), .int, .long, .long, (.array .int), .int, .int, .int, .int, .boolean, .int, (.array .long), (.array .long), (.array .long), (.array .long), (.array .int), (.array .int), (.array .int), (.array .int), .int, (.array .long), (.array .long), (.array .int), .int, .long, .long, (.array .long), (.array .long), (.array .long), (.array .long), .long, .long, .long, .long]
def K_9 : List Nat := [0, 3, 3, 3, 3, 3, 0, 2, 2, 3, 0, 0, 0, 0, 1, 0, 3, 3, 3, 3, 3, 3, 3, 3, 0, 3, 3, 3, 0, 2, 2, 3, 3, 3, 3, 2, 2, 2, 2]
def C_9 : vw_C := ("GridPricesModel", fun k => F_9.getD k ("", "", "", false), 39)
def F_10 : List (String × String × String × Bool) := [("java/util/ArrayList", "elementData", "[Ljava/lang/Object;", false), ("java/util/ArrayList", "size", "I", false), ("java/util/AbstractList", "modCount", "I", false)]
def Y_10 : List FieldType := [(.array (.object "java/lang/Object")), .int, .int]
def K_10 : List Nat := [3, 0, 0]
def C_10 : vw_C := ("java/util/ArrayList", fun k => F_10.getD k ("", "", "", false), 3)
def CLS : List vw_C := [C_0, C_1, C_2, C_3, C_4, C_5, C_6, C_7, C_8, C_9, C_10]
def tyX (c k : Nat) : FieldType := (([Y_0, Y_1, Y_2, Y_3, Y_4, Y_5, Y_6, Y_7, Y_8, Y_9, Y_10] : List (List FieldType)).getD c []).getD k .int
def ftX (c k : Nat) : Nat := (([K_0, K_1, K_2, K_3, K_4, K_5, K_6, K_7, K_8, K_9, K_10] : List (List Nat)).getD c []).getD k 0
def allw : List Cond → List Nat → Bool
  | [], _ => true
  | w :: t, i :: l => isw i w && allw t l
  | _ :: _, [] => false
theorem allw_t : ∀ {ws : List Cond} {l : List Nat}, allw ws l = true → ∀ w ∈ ws, w ∈ TBL
  | [], _, _ => fun _ h => by cases h
  | w :: t, i :: l, h => fun x hx => by
    simp only [allw, Bool.and_eq_true] at h
    rcases List.mem_cons.mp hx with rfl | hx
    · exact isw_t h.1
    · exact allw_t h.2 x hx
  | _ :: _, [], h => by simp [allw] at h
def k_cls (c : Nat) (r : vw_C) (l : List Nat) : Bool := allw (u_ws r.1 r.2.1 r.2.2) l && (List.range r.2.2).all (fun k => decide (parseFieldDescriptor (r.2.1 k).2.2.1 = some (tyX c k))) && (List.range r.2.2).all (fun a => (List.range r.2.2).all (fun b => Nat.beq a b || decide ((r.2.1 a).2.1 ≠ (r.2.1 b).2.1))) && (List.range r.2.2).all (fun j => tyk (ftX c j) (tyX c j) || (decide (ftX c j = 6) && decide (tyX c j = .double)))
theorem kt_cls {c : Nat} {r : vw_C} {l : List Nat} (h : k_cls c r l = true) : (∀ x ∈ u_ws r.1 r.2.1 r.2.2, x ∈ TBL) ∧ (∀ k, k < r.2.2 → parseFieldDescriptor (r.2.1 k).2.2.1 = some (tyX c k)) ∧ (∀ a, a < r.2.2 → ∀ b, b < r.2.2 → a ≠ b → (r.2.1 a).2.1 ≠ (r.2.1 b).2.1) ∧ (∀ j, j < r.2.2 → defaultValue (tyX c j) = dv (ftX c j)) := by
  unfold k_cls at h
  simp only [Bool.and_eq_true, List.all_eq_true, List.mem_range] at h
  obtain ⟨⟨⟨h1, h2⟩, h3⟩, h4⟩ := h
  refine ⟨allw_t h1, fun k hk => of_decide_eq_true (h2 k hk), fun a ha b hb hne => ?_, fun j hj => ?_⟩
  · have := h3 a ha b hb
    simp only [Bool.or_eq_true, decide_eq_true_eq] at this
    exact this.elim (fun q => absurd (Nat.eq_of_beq_eq_true q) hne) id
  · have := h4 j hj
    simp only [Bool.or_eq_true, Bool.and_eq_true, decide_eq_true_eq] at this
    rcases this with q | ⟨q1, q2⟩
    · rcases tyk_t q with ⟨a, b⟩ | ⟨a, b⟩ | ⟨a, b⟩ | ⟨a, b⟩
      · rw [a, b]; rfl
      · rw [a, b]; rfl
      · rw [a, b]; rfl
      · rw [a]
        generalize tyX c j = t9 at b
        cases t9 <;> first | rfl | (exfalso; revert b; decide)
    · rw [q1, q2]; rfl
theorem oc_0 : k_cls 0 C_0 [470, 472, 474, 476, 478, 480, 482] = true := by decide +kernel
theorem oc_1 : k_cls 1 C_1 [182, 184, 186, 188] = true := by decide +kernel
theorem oc_2 : k_cls 2 C_2 [1042, 1044] = true := by decide +kernel
theorem oc_3 : k_cls 3 C_3 [1188, 1190, 1192, 1194, 1196, 1198] = true := by decide +kernel
theorem oc_4 : k_cls 4 C_4 [283, 285, 287, 289, 291, 293, 295, 297, 299, 301, 303, 305, 307, 309, 311, 313, 315, 317] = true := by decide +kernel
theorem oc_5 : k_cls 5 C_5 [347, 349, 351, 353, 355, 357, 359, 361, 363, 365, 367] = true := by decide +kernel
theorem oc_6 : k_cls 6 C_6 [418, 420, 422, 424, 426, 428, 430, 432, 434, 436] = true := by decide +kernel
theorem oc_7 : k_cls 7 C_7 [392, 394, 396, 398, 400, 402] = true := by decide +kernel
theorem oc_8 : k_cls 8 C_8 [870, 872, 874, 876, 878] = true := by decide +kernel
theorem oc_9 : k_cls 9 C_9 [1485, 1487, 1489, 1491, 1493, 1495, 1497, 1499, 1501, 1503, 1505, 1507, 1509, 1511, 1513, 1515, 1517, 1519, 1521, 1523, 1525, 1527, 1529, 1531, 1533, 1535, 1537, 1539, 1541, 1543, 1545, 1547, 1549, 1551, 1553, 1555, 1557, 1559, 1561] = true := by decide +kernel
theorem oc_10 : k_cls 10 C_10 [211, 213, 215] = true := by decide +kernel
theorem clok : CLok CLS tyX ftX := fun c r h => by
  match c, h with
  | 0, h => obtain rfl : C_0 = r := Option.some.inj h; exact kt_cls oc_0
  | 1, h => obtain rfl : C_1 = r := Option.some.inj h; exact kt_cls oc_1
  | 2, h => obtain rfl : C_2 = r := Option.some.inj h; exact kt_cls oc_2
  | 3, h => obtain rfl : C_3 = r := Option.some.inj h; exact kt_cls oc_3
  | 4, h => obtain rfl : C_4 = r := Option.some.inj h; exact kt_cls oc_4
  | 5, h => obtain rfl : C_5 = r := Option.some.inj h; exact kt_cls oc_5
  | 6, h => obtain rfl : C_6 = r := Option.some.inj h; exact kt_cls oc_6
  | 7, h => obtain rfl : C_7 = r := Option.some.inj h; exact kt_cls oc_7
  | 8, h => obtain rfl : C_8 = r := Option.some.inj h; exact kt_cls oc_8
  | 9, h => obtain rfl : C_9 = r := Option.some.inj h; exact kt_cls oc_9
  | 10, h => obtain rfl : C_10 = r := Option.some.inj h; exact kt_cls oc_10
  | n + 11, h => exact absurd h (by simp [CLS])
def D_0 : MD := (⟨"GridPricesLaw", "law", "([I)Z"⟩, code, 9, (some .boolean), [])
def D_1 : MD := (⟨"GridPrices", "<init>", "()V"⟩, prog_1_method_1_code, 1, none, [])
def D_2 : MD := (⟨"GridPrices", "append", "(IIIII)I"⟩, prog_1_method_2_code, 6, (some .int), [])
def D_3 : MD := (⟨"GridPrices", "areRightsFeasible", "()Z"⟩, prog_1_method_35_code, 2, (some .boolean), [])
def D_4 : MD := (⟨"GridPrices", "binding", "(IZ)I"⟩, prog_1_method_27_code, 4, (some .int), [])
def D_5 : MD := (⟨"GridPrices", "bitsOf", "(F)I"⟩, prog_1_method_59_code, 4, (some .int), [])
def D_6 : MD := (⟨"GridPrices", "canServe", "(III)Z"⟩, prog_1_method_63_code, 4, (some .boolean), [])
def D_7 : MD := (⟨"GridPrices", "checkGenerator", "(I)V"⟩, prog_1_method_45_code, 2, none, [])
def D_8 : MD := (⟨"GridPrices", "checkIndex", "(II)V"⟩, prog_1_method_42_code, 2, none, [])
def D_9 : MD := (⟨"GridPrices", "checkInterval", "(I)V"⟩, prog_1_method_46_code, 2, none, [])
def D_10 : MD := (⟨"GridPrices", "checkLine", "(I)V"⟩, prog_1_method_43_code, 2, none, [])
def D_11 : MD := (⟨"GridPrices", "checkNode", "(I)V"⟩, prog_1_method_44_code, 2, none, [])
def D_12 : MD := (⟨"GridPrices", "checkOutage", "()V"⟩, prog_1_method_50_code, 1, none, [])
def D_13 : MD := (⟨"GridPrices", "checkPart", "(I)V"⟩, prog_1_method_48_code, 1, none, [])
def D_14 : MD := (⟨"GridPrices", "checkRange", "(III)V"⟩, prog_1_method_47_code, 3, none, [])
def D_15 : MD := (⟨"GridPrices", "checkSpare", "(I)V"⟩, prog_1_method_49_code, 2, none, [])
def D_16 : MD := (⟨"GridPrices", "computeFactors", "()V"⟩, prog_1_method_54_code, 1, none, [])
def D_17 : MD := (⟨"GridPrices", "congestionCost", "(II)J"⟩, prog_1_method_23_code, 4, (some .long), [])
def D_18 : MD := (⟨"GridPrices", "costOfProblem", "()LGridPrices$Fraction;"⟩, prog_1_method_62_code, 1, (some (.object "GridPrices$Fraction")), [])
def D_19 : MD := (⟨"GridPrices", "count", "(I)I"⟩, prog_1_method_7_code, 2, (some .int), [])
def D_20 : MD := (⟨"GridPrices", "dearestNode", "(I)I"⟩, prog_1_method_31_code, 5, (some .int), [])
def D_21 : MD := (⟨"GridPrices", "demand", "(II)I"⟩, prog_1_method_10_code, 3, (some .int), [])
def D_22 : MD := (⟨"GridPrices", "dispatchOf", "(I)LGridPrices$Dispatch;"⟩, prog_1_method_60_code, 4, (some (.object "GridPrices$Dispatch")), [])
def D_23 : MD := (⟨"GridPrices", "errorCode", "()I"⟩, prog_1_method_5_code, 1, (some .int), [])
def D_24 : MD := (⟨"GridPrices", "errorPosition", "()I"⟩, prog_1_method_6_code, 1, (some .int), [])
def D_25 : MD := (⟨"GridPrices", "factor", "(III)J"⟩, prog_1_method_18_code, 4, (some .long), [])
def D_26 : MD := (⟨"GridPrices", "feasibleDispatch", "(I)LGridPrices$Dispatch;"⟩, prog_1_method_61_code, 3, (some (.object "GridPrices$Dispatch")), [])
def D_27 : MD := (⟨"GridPrices", "flow", "(III)J"⟩, prog_1_method_25_code, 4, (some .long), [])
def D_28 : MD := (⟨"GridPrices", "flowAfter", "(III)J"⟩, prog_1_method_26_code, 4, (some .long), [])
def D_29 : MD := (⟨"GridPrices", "flowOf", "(LGridPrices$Dispatch;LGridPrices$Factors;I)LGridPrices$Fraction;"⟩, prog_1_method_57_code, 9, (some (.object "GridPrices$Fraction")), [])
def D_30 : MD := (⟨"GridPrices", "forgetDispatches", "()V"⟩, prog_1_method_52_code, 2, none, [])
def D_31 : MD := (⟨"GridPrices", "fundingRatio", "(II)J"⟩, prog_1_method_37_code, 4, (some .long), [])
def D_32 : MD := (⟨"GridPrices", "generator", "(II)I"⟩, prog_1_method_9_code, 3, (some .int), [])
def D_33 : MD := (⟨"GridPrices", "greatestTransfer", "(II)LGridPrices$Fraction;"⟩, prog_1_method_55_code, 9, (some (.object "GridPrices$Fraction")), [])
def D_34 : MD := (⟨"GridPrices", "isFeasible", "(I)Z"⟩, prog_1_method_21_code, 2, (some .boolean), [])
def D_35 : MD := (⟨"GridPrices", "leastCost", "(II)J"⟩, prog_1_method_22_code, 3, (some .long), [])
def D_36 : MD := (⟨"GridPrices", "line", "(II)I"⟩, prog_1_method_8_code, 3, (some .int), [])
def D_37 : MD := (⟨"GridPrices", "lineValue", "(III)J"⟩, prog_1_method_39_code, 5, (some .long), [])
def D_38 : MD := (⟨"GridPrices", "linesAtLimit", "(LGridPrices$Dispatch;LGridPrices$Factors;[I)I"⟩, prog_1_method_58_code, 6, (some .int), [])
def D_39 : MD := (⟨"GridPrices", "load", "()I"⟩, prog_1_method_4_code, 1, (some .int), [])
def D_40 : MD := (⟨"GridPrices", "loadBits", "(II)I"⟩, prog_1_method_28_code, 4, (some .int), [])
def D_41 : MD := (⟨"GridPrices", "meanPrice", "(I)D"⟩, prog_1_method_30_code, 7, (some .double), [])
def D_42 : MD := (⟨"GridPrices", "outage", "()I"⟩, prog_1_method_11_code, 1, (some .int), [])
def D_43 : MD := (⟨"GridPrices", "outageFactor", "(III)J"⟩, prog_1_method_19_code, 4, (some .long), [])
def D_44 : MD := (⟨"GridPrices", "output", "(III)J"⟩, prog_1_method_24_code, 4, (some .long), [])
def D_45 : MD := (⟨"GridPrices", "paid", "(III)J"⟩, prog_1_method_38_code, 10, (some .long), [])
def D_46 : MD := (⟨"GridPrices", "price", "(III)J"⟩, prog_1_method_29_code, 4, (some .long), [])
def D_47 : MD := (⟨"GridPrices", "priceAt", "(LGridPrices$Dispatch;I)LGridPrices$Fraction;"⟩, prog_1_method_64_code, 4, (some (.object "GridPrices$Fraction")), [])
def D_48 : MD := (⟨"GridPrices", "producedAt", "(LGridPrices$Dispatch;I)LGridPrices$Fraction;"⟩, prog_1_method_66_code, 5, (some (.object "GridPrices$Fraction")), [])
def D_49 : MD := (⟨"GridPrices", "profit", "(III)J"⟩, prog_1_method_32_code, 7, (some .long), [])
def D_50 : MD := (⟨"GridPrices", "ratioOf", "(LGridPrices$Dispatch;LGridPrices$Fraction;)LGridPrices$Fraction;"⟩, prog_1_method_68_code, 7, (some (.object "GridPrices$Fraction")), [])
def D_51 : MD := (⟨"GridPrices", "remember", "(LGridPrices$Change;)V"⟩, prog_1_method_51_code, 2, none, [])
def D_52 : MD := (⟨"GridPrices", "rent", "(III)J"⟩, prog_1_method_33_code, 6, (some .long), [])
def D_53 : MD := (⟨"GridPrices", "reserve", "(II)I"⟩, prog_1_method_40_code, 5, (some .int), [])
def D_54 : MD := (⟨"GridPrices", "scaledFlowOfRights", "(I)J"⟩, prog_1_method_56_code, 7, (some .long), [])
def D_55 : MD := (⟨"GridPrices", "securityCost", "(II)J"⟩, prog_1_method_41_code, 4, (some .long), [])
def D_56 : MD := (⟨"GridPrices", "setCapacity", "(II)I"⟩, prog_1_method_14_code, 4, (some .int), [])
def D_57 : MD := (⟨"GridPrices", "setCost", "(II)I"⟩, prog_1_method_13_code, 4, (some .int), [])
def D_58 : MD := (⟨"GridPrices", "setDemand", "(III)I"⟩, prog_1_method_15_code, 5, (some .int), [])
def D_59 : MD := (⟨"GridPrices", "setLimit", "(II)I"⟩, prog_1_method_12_code, 4, (some .int), [])
def D_60 : MD := (⟨"GridPrices", "setOutage", "(I)I"⟩, prog_1_method_16_code, 3, (some .int), [])
def D_61 : MD := (⟨"GridPrices", "surplus", "(II)J"⟩, prog_1_method_34_code, 3, (some .long), [])
def D_62 : MD := (⟨"GridPrices", "surplusOf", "(LGridPrices$Dispatch;)LGridPrices$Fraction;"⟩, prog_1_method_65_code, 6, (some (.object "GridPrices$Fraction")), [])
def D_63 : MD := (⟨"GridPrices", "takeBack", "(LGridPrices$Change;)V"⟩, prog_1_method_53_code, 2, none, [])
def D_64 : MD := (⟨"GridPrices", "target", "(III)J"⟩, prog_1_method_36_code, 4, (some .long), [])
def D_65 : MD := (⟨"GridPrices", "targetOf", "(LGridPrices$Dispatch;I)LGridPrices$Fraction;"⟩, prog_1_method_67_code, 4, (some (.object "GridPrices$Fraction")), [])
def D_66 : MD := (⟨"GridPrices", "transferLimit", "(III)J"⟩, prog_1_method_20_code, 4, (some .long), [])
def D_67 : MD := (⟨"GridPrices", "truncate", "(I)I"⟩, prog_1_method_3_code, 2, (some .int), [])
def D_68 : MD := (⟨"GridPrices", "undo", "()I"⟩, prog_1_method_17_code, 1, (some .int), [])
def D_69 : MD := (⟨"GridPrices$Change", "<init>", "(IIIII)V"⟩, prog_2_method_1_code, 6, none, [])
def D_70 : MD := (⟨"GridPrices$Dispatch", "<init>", "(IZLGridPrices$Fraction;[LGridPrices$Fraction;)V"⟩, prog_3_method_1_code, 5, none, [])
def D_71 : MD := (⟨"GridPrices$Factors", "<init>", "()V"⟩, prog_4_method_1_code, 1, none, [])
def D_72 : MD := (⟨"GridPrices$Factors", "addToLaplacian", "(II)V"⟩, prog_4_method_5_code, 3, none, [])
def D_73 : MD := (⟨"GridPrices$Factors", "clearLaplacian", "(I)V"⟩, prog_4_method_4_code, 4, none, [])
def D_74 : MD := (⟨"GridPrices$Factors", "cofactor", "(II)J"⟩, prog_4_method_7_code, 7, (some .long), [])
def D_75 : MD := (⟨"GridPrices$Factors", "compute", "(LGridPrices$Grid;I)V"⟩, prog_4_method_3_code, 7, none, [])
def D_76 : MD := (⟨"GridPrices$Factors", "computeAngles", "()V"⟩, prog_4_method_6_code, 3, none, [])
def D_77 : MD := (⟨"GridPrices$Factors", "of", "(II)LGridPrices$Fraction;"⟩, prog_4_method_2_code, 3, (some (.object "GridPrices$Fraction")), [])
def D_78 : MD := (⟨"GridPrices$Fraction", "<init>", "(JJ)V"⟩, prog_5_method_1_code, 5, none, [])
def D_79 : MD := (⟨"GridPrices$Fraction", "absolute", "()LGridPrices$Fraction;"⟩, prog_5_method_14_code, 1, (some (.object "GridPrices$Fraction")), [])
def D_80 : MD := (⟨"GridPrices$Fraction", "commonDivisor", "(JJ)J"⟩, prog_5_method_4_code, 11, (some .long), [])
def D_81 : MD := (⟨"GridPrices$Fraction", "isLess", "(LGridPrices$Fraction;)Z"⟩, prog_5_method_15_code, 2, (some .boolean), [])
def D_82 : MD := (⟨"GridPrices$Fraction", "isWhole", "(J)Z"⟩, prog_5_method_16_code, 3, (some .boolean), [])
def D_83 : MD := (⟨"GridPrices$Fraction", "minus", "(LGridPrices$Fraction;)LGridPrices$Fraction;"⟩, prog_5_method_7_code, 8, (some (.object "GridPrices$Fraction")), [])
def D_84 : MD := (⟨"GridPrices$Fraction", "of", "(JJ)LGridPrices$Fraction;"⟩, prog_5_method_3_code, 8, (some (.object "GridPrices$Fraction")), [])
def D_85 : MD := (⟨"GridPrices$Fraction", "over", "(LGridPrices$Fraction;)LGridPrices$Fraction;"⟩, prog_5_method_13_code, 2, (some (.object "GridPrices$Fraction")), [])
def D_86 : MD := (⟨"GridPrices$Fraction", "part", "(I)J"⟩, prog_5_method_5_code, 2, (some .long), [])
def D_87 : MD := (⟨"GridPrices$Fraction", "plus", "(LGridPrices$Fraction;)LGridPrices$Fraction;"⟩, prog_5_method_6_code, 8, (some (.object "GridPrices$Fraction")), [])
def D_88 : MD := (⟨"GridPrices$Fraction", "quotient", "(JJJ)J"⟩, prog_5_method_11_code, 6, (some .long), [])
def D_89 : MD := (⟨"GridPrices$Fraction", "rest", "(JJJ)J"⟩, prog_5_method_12_code, 6, (some .long), [])
def D_90 : MD := (⟨"GridPrices$Fraction", "times", "(J)LGridPrices$Fraction;"⟩, prog_5_method_9_code, 3, (some (.object "GridPrices$Fraction")), [])
def D_91 : MD := (⟨"GridPrices$Fraction", "times", "(LGridPrices$Fraction;)LGridPrices$Fraction;"⟩, prog_5_method_8_code, 6, (some (.object "GridPrices$Fraction")), [])
def D_92 : MD := (⟨"GridPrices$Fraction", "timesPlus", "(LGridPrices$Fraction;LGridPrices$Fraction;)LGridPrices$Fraction;"⟩, prog_5_method_10_code, 25, (some (.object "GridPrices$Fraction")), [])
def D_93 : MD := (⟨"GridPrices$Fraction", "whole", "(J)LGridPrices$Fraction;"⟩, prog_5_method_2_code, 2, (some (.object "GridPrices$Fraction")), [])
def D_94 : MD := (⟨"GridPrices$Grid", "<init>", "()V"⟩, prog_6_method_1_code, 1, none, [])
def D_95 : MD := (⟨"GridPrices$Grid", "addGenerator", "(III)V"⟩, prog_6_method_3_code, 4, none, [])
def D_96 : MD := (⟨"GridPrices$Grid", "addLine", "(IIII)V"⟩, prog_6_method_2_code, 5, none, [])
def D_97 : MD := (⟨"GridPrices$Grid", "addRight", "(IIII)V"⟩, prog_6_method_4_code, 5, none, [])
def D_98 : MD := (⟨"GridPrices$Problem", "<init>", "(LGridPrices$Grid;LGridPrices$Factors;LGridPrices$Factors;)V"⟩, prog_7_method_1_code, 4, none, [])
def D_99 : MD := (⟨"GridPrices$Problem", "addBalance", "()V"⟩, prog_7_method_7_code, 4, none, [])
def D_100 : MD := (⟨"GridPrices$Problem", "addLines", "(LGridPrices$Factors;[I)V"⟩, prog_7_method_9_code, 9, none, [])
def D_101 : MD := (⟨"GridPrices$Problem", "addRanges", "()V"⟩, prog_7_method_8_code, 3, none, [])
def D_102 : MD := (⟨"GridPrices$Problem", "costFound", "()LGridPrices$Fraction;"⟩, prog_7_method_5_code, 1, (some (.object "GridPrices$Fraction")), [])
def D_103 : MD := (⟨"GridPrices$Problem", "drawnFlow", "([J)J"⟩, prog_7_method_10_code, 5, (some .long), [])
def D_104 : MD := (⟨"GridPrices$Problem", "outputsFound", "()[LGridPrices$Fraction;"⟩, prog_7_method_6_code, 5, (some (.array (.object "GridPrices$Fraction"))), [])
def D_105 : MD := (⟨"GridPrices$Problem", "raiseLimit", "(I)V"⟩, prog_7_method_3_code, 2, none, [])
def D_106 : MD := (⟨"GridPrices$Problem", "solve", "()Z"⟩, prog_7_method_4_code, 1, (some .boolean), [])
def D_107 : MD := (⟨"GridPrices$Problem", "take", "(LGridPrices$Grid;I)V"⟩, prog_7_method_2_code, 4, none, [])
def D_108 : MD := (⟨"GridPrices$Program", "<init>", "()V"⟩, prog_8_method_1_code, 1, none, [])
def D_109 : MD := (⟨"GridPrices$Program", "addRow", "([JI)V"⟩, prog_8_method_3_code, 4, none, [])
def D_110 : MD := (⟨"GridPrices$Program", "begin", "([II)V"⟩, prog_8_method_2_code, 5, none, [])
def D_111 : MD := (⟨"GridPrices$Program", "cheapestColumn", "()I"⟩, prog_8_method_7_code, 3, (some .int), [])
def D_112 : MD := (⟨"GridPrices$Program", "exchange", "(I)V"⟩, prog_8_method_9_code, 10, none, [])
def D_113 : MD := (⟨"GridPrices$Program", "expand", "(I)V"⟩, prog_8_method_6_code, 6, none, [])
def D_114 : MD := (⟨"GridPrices$Program", "isCheaper", "(II)Z"⟩, prog_8_method_8_code, 8, (some .boolean), [])
def D_115 : MD := (⟨"GridPrices$Program", "minimize", "()Z"⟩, prog_8_method_4_code, 4, (some .boolean), [])
def D_116 : MD := (⟨"GridPrices$Program", "negativeRow", "()I"⟩, prog_8_method_5_code, 5, (some .int), [])
def D_117 : MD := (⟨"GridPrices$Reader", "<init>", "(LGridPrices$Grid;)V"⟩, prog_9_method_1_code, 2, none, [])
def D_118 : MD := (⟨"GridPrices$Reader", "addBytes", "(I)V"⟩, prog_9_method_2_code, 3, none, [])
def D_119 : MD := (⟨"GridPrices$Reader", "advance", "()V"⟩, prog_9_method_20_code, 2, none, [])
def D_120 : MD := (⟨"GridPrices$Reader", "checkConnection", "()V"⟩, prog_9_method_8_code, 2, none, [])
def D_121 : MD := (⟨"GridPrices$Reader", "checkRoom", "(II)V"⟩, prog_9_method_13_code, 3, none, [])
def D_122 : MD := (⟨"GridPrices$Reader", "isConnected", "(LGridPrices$Grid;I)Z"⟩, prog_9_method_4_code, 3, (some .boolean), [])
def D_123 : MD := (⟨"GridPrices$Reader", "isWord", "(Ljava/lang/String;)Z"⟩, prog_9_method_19_code, 3, (some .boolean), [])
def D_124 : MD := (⟨"GridPrices$Reader", "readDemands", "()V"⟩, prog_9_method_10_code, 4, none, [])
def D_125 : MD := (⟨"GridPrices$Reader", "readGenerators", "()V"⟩, prog_9_method_9_code, 5, none, [])
def D_126 : MD := (⟨"GridPrices$Reader", "readLines", "()V"⟩, prog_9_method_7_code, 6, none, [])
def D_127 : MD := (⟨"GridPrices$Reader", "readNode", "()I"⟩, prog_9_method_17_code, 1, (some .int), [])
def D_128 : MD := (⟨"GridPrices$Reader", "readNumber", "(II)I"⟩, prog_9_method_16_code, 4, (some .int), [])
def D_129 : MD := (⟨"GridPrices$Reader", "readOtherNode", "(I)I"⟩, prog_9_method_18_code, 3, (some .int), [])
def D_130 : MD := (⟨"GridPrices$Reader", "readOutage", "()V"⟩, prog_9_method_12_code, 1, none, [])
def D_131 : MD := (⟨"GridPrices$Reader", "readRights", "()V"⟩, prog_9_method_11_code, 6, none, [])
def D_132 : MD := (⟨"GridPrices$Reader", "readSemicolon", "()V"⟩, prog_9_method_15_code, 1, none, [])
def D_133 : MD := (⟨"GridPrices$Reader", "readSizes", "()V"⟩, prog_9_method_6_code, 1, none, [])
def D_134 : MD := (⟨"GridPrices$Reader", "readText", "()LGridPrices$Grid;"⟩, prog_9_method_3_code, 1, (some (.object "GridPrices$Grid")), [])
def D_135 : MD := (⟨"GridPrices$Reader", "readWord", "(Ljava/lang/String;)V"⟩, prog_9_method_14_code, 2, none, [])
def D_136 : MD := (⟨"GridPrices$Reader", "refuse", "(II)V"⟩, prog_9_method_5_code, 3, none, [])
def D_137 : MD := (⟨"GridPrices$Reader", "takeRun", "(CC)V"⟩, prog_9_method_21_code, 3, none, [])
def D_138 : MD := (⟨"GridPrices$Reader", "valueOfToken", "()I"⟩, prog_9_method_22_code, 3, (some .int), [])
def D_139 : MD := (⟨"GridPricesLaw", "append", "(LGridPrices;IIIII[J)I"⟩, method_3_code, 8, (some .int), [(0, 16, 19, 13)])
def D_140 : MD := (⟨"GridPricesLaw", "binding", "(LGridPrices;IZ[J)I"⟩, method_25_code, 5, (some .int), [(0, 10, 13, 19), (0, 10, 17, 13)])
def D_141 : MD := (⟨"GridPricesLaw", "congestionCost", "(LGridPrices;II[J)I"⟩, method_21_code, 5, (some .int), [(0, 9, 12, 19), (0, 9, 16, 25), (0, 9, 20, 13)])
def D_142 : MD := (⟨"GridPricesLaw", "count", "(LGridPrices;I[J)I"⟩, method_6_code, 4, (some .int), [(0, 9, 12, 25)])
def D_143 : MD := (⟨"GridPricesLaw", "dearestNode", "(LGridPrices;I[J)I"⟩, method_29_code, 4, (some .int), [(0, 9, 12, 19), (0, 9, 15, 13), (0, 9, 18, 99)])
def D_144 : MD := (⟨"GridPricesLaw", "demand", "(LGridPrices;II[J)I"⟩, method_9_code, 5, (some .int), [(0, 10, 13, 19)])
def D_145 : MD := (⟨"GridPricesLaw", "factor", "(LGridPrices;III[J)I"⟩, method_16_code, 6, (some .int), [(0, 11, 14, 19), (0, 11, 18, 25)])
def D_146 : MD := (⟨"GridPricesLaw", "flow", "(LGridPrices;III[J)I"⟩, method_23_code, 6, (some .int), [(0, 11, 14, 19), (0, 11, 18, 25), (0, 11, 22, 13)])
def D_147 : MD := (⟨"GridPricesLaw", "flowAfter", "(LGridPrices;III[J)I"⟩, method_24_code, 6, (some .int), [(0, 11, 14, 19), (0, 11, 18, 25), (0, 11, 22, 13)])
def D_148 : MD := (⟨"GridPricesLaw", "fundingRatio", "(LGridPrices;II[J)I"⟩, method_34_code, 5, (some .int), [(0, 9, 12, 19), (0, 9, 16, 25), (0, 9, 20, 13), (0, 9, 24, 99)])
def D_149 : MD := (⟨"GridPricesLaw", "generator", "(LGridPrices;II[J)I"⟩, method_8_code, 5, (some .int), [(0, 10, 13, 19), (0, 10, 17, 25)])
def D_150 : MD := (⟨"GridPricesLaw", "isFeasible", "(LGridPrices;I[J)I"⟩, method_19_code, 4, (some .int), [(0, 16, 19, 19)])
def D_151 : MD := (⟨"GridPricesLaw", "leastCost", "(LGridPrices;II[J)I"⟩, method_20_code, 5, (some .int), [(0, 9, 12, 19), (0, 9, 16, 25), (0, 9, 20, 13)])
def D_152 : MD := (⟨"GridPricesLaw", "line", "(LGridPrices;II[J)I"⟩, method_7_code, 5, (some .int), [(0, 10, 13, 19), (0, 10, 17, 25)])
def D_153 : MD := (⟨"GridPricesLaw", "lineValue", "(LGridPrices;III[J)I"⟩, method_36_code, 6, (some .int), [(0, 11, 14, 19), (0, 11, 18, 25), (0, 11, 22, 13)])
def D_154 : MD := (⟨"GridPricesLaw", "load", "(LGridPrices;[J)I"⟩, method_5_code, 3, (some .int), [(0, 8, 11, 25)])
def D_155 : MD := (⟨"GridPricesLaw", "loadBits", "(LGridPrices;II[J)I"⟩, method_26_code, 5, (some .int), [(0, 10, 13, 19), (0, 10, 17, 13)])
def D_156 : MD := (⟨"GridPricesLaw", "meanPrice", "(LGridPrices;I[D)I"⟩, method_28_code, 4, (some .int), [(0, 8, 11, 19), (0, 8, 14, 13), (0, 8, 17, 99)])
def D_157 : MD := (⟨"GridPricesLaw", "outageFactor", "(LGridPrices;III[J)I"⟩, method_17_code, 6, (some .int), [(0, 11, 14, 19), (0, 11, 18, 25), (0, 11, 22, 13)])
def D_158 : MD := (⟨"GridPricesLaw", "output", "(LGridPrices;III[J)I"⟩, method_22_code, 6, (some .int), [(0, 11, 14, 19), (0, 11, 18, 25), (0, 11, 22, 13)])
def D_159 : MD := (⟨"GridPricesLaw", "paid", "(LGridPrices;III[J)I"⟩, method_35_code, 6, (some .int), [(0, 11, 14, 19), (0, 11, 18, 25), (0, 11, 22, 13), (0, 11, 26, 99)])
def D_160 : MD := (⟨"GridPricesLaw", "price", "(LGridPrices;III[J)I"⟩, method_27_code, 6, (some .int), [(0, 11, 14, 19), (0, 11, 18, 25), (0, 11, 22, 13), (0, 11, 26, 99)])
def D_161 : MD := (⟨"GridPricesLaw", "profit", "(LGridPrices;III[J)I"⟩, method_30_code, 6, (some .int), [(0, 11, 14, 19), (0, 11, 18, 25), (0, 11, 22, 13), (0, 11, 26, 99)])
def D_162 : MD := (⟨"GridPricesLaw", "rent", "(LGridPrices;III[J)I"⟩, method_31_code, 6, (some .int), [(0, 11, 14, 19), (0, 11, 18, 25), (0, 11, 22, 13), (0, 11, 26, 99)])
def D_163 : MD := (⟨"GridPricesLaw", "reserve", "(LGridPrices;II[J)I"⟩, method_37_code, 5, (some .int), [(0, 10, 13, 19), (0, 10, 17, 13)])
def D_164 : MD := (⟨"GridPricesLaw", "securityCost", "(LGridPrices;II[J)I"⟩, method_38_code, 5, (some .int), [(0, 9, 12, 19), (0, 9, 16, 25), (0, 9, 20, 13)])
def D_165 : MD := (⟨"GridPricesLaw", "setCapacity", "(LGridPrices;II[J)I"⟩, method_12_code, 5, (some .int), [(0, 10, 13, 19), (0, 10, 17, 25)])
def D_166 : MD := (⟨"GridPricesLaw", "setCost", "(LGridPrices;II[J)I"⟩, method_11_code, 5, (some .int), [(0, 10, 13, 19), (0, 10, 17, 25)])
def D_167 : MD := (⟨"GridPricesLaw", "setDemand", "(LGridPrices;III[J)I"⟩, method_13_code, 6, (some .int), [(0, 12, 15, 19), (0, 12, 19, 25)])
def D_168 : MD := (⟨"GridPricesLaw", "setLimit", "(LGridPrices;II[J)I"⟩, method_10_code, 5, (some .int), [(0, 10, 13, 19), (0, 10, 17, 25)])
def D_169 : MD := (⟨"GridPricesLaw", "setOutage", "(LGridPrices;I[J)I"⟩, method_14_code, 4, (some .int), [(0, 9, 12, 19), (0, 9, 15, 25)])
def D_170 : MD := (⟨"GridPricesLaw", "surplus", "(LGridPrices;II[J)I"⟩, method_32_code, 5, (some .int), [(0, 9, 12, 19), (0, 9, 16, 25), (0, 9, 20, 13), (0, 9, 24, 99)])
def D_171 : MD := (⟨"GridPricesLaw", "target", "(LGridPrices;III[J)I"⟩, method_33_code, 6, (some .int), [(0, 11, 14, 19), (0, 11, 18, 25), (0, 11, 22, 13), (0, 11, 26, 99)])
def D_172 : MD := (⟨"GridPricesLaw", "transferLimit", "(LGridPrices;III[J)I"⟩, method_18_code, 6, (some .int), [(0, 11, 14, 19), (0, 11, 18, 25)])
def D_173 : MD := (⟨"GridPricesLaw", "truncate", "(LGridPrices;I[J)I"⟩, method_4_code, 4, (some .int), [(0, 9, 12, 19)])
def D_174 : MD := (⟨"GridPricesLaw", "undo", "(LGridPrices;[J)I"⟩, method_15_code, 3, (some .int), [(0, 8, 11, 13)])
def D_175 : MD := (⟨"GridPricesModel", "<init>", "()V"⟩, prog_11_method_1_code, 1, none, [])
def D_176 : MD := (⟨"GridPricesModel", "adds", "(JII)Z"⟩, prog_11_method_24_code, 5, (some .boolean), [])
def D_177 : MD := (⟨"GridPricesModel", "addsTo", "(IIJJ)V"⟩, prog_11_method_66_code, 8, none, [])
def D_178 : MD := (⟨"GridPricesModel", "allNodes", "()I"⟩, prog_11_method_94_code, 1, (some .int), [])
def D_179 : MD := (⟨"GridPricesModel", "angle", "(I)V"⟩, prog_11_method_57_code, 2, none, [])
def D_180 : MD := (⟨"GridPricesModel", "append", "(IIIII)I"⟩, prog_11_method_12_code, 6, (some .int), [])
def D_181 : MD := (⟨"GridPricesModel", "areRightsFeasible", "()Z"⟩, prog_11_method_109_code, 5, (some .boolean), [])
def D_182 : MD := (⟨"GridPricesModel", "asks", "(I)V"⟩, prog_11_method_64_code, 3, none, [])
def D_183 : MD := (⟨"GridPricesModel", "begins", "()V"⟩, prog_11_method_96_code, 1, none, [])
def D_184 : MD := (⟨"GridPricesModel", "binding", "(IZ)I"⟩, prog_11_method_89_code, 6, (some .int), [])
def D_185 : MD := (⟨"GridPricesModel", "bitsOf", "(F)I"⟩, prog_11_method_90_code, 3, (some .int), [])
def D_186 : MD := (⟨"GridPricesModel", "brings", "(III)V"⟩, prog_11_method_62_code, 4, none, [])
def D_187 : MD := (⟨"GridPricesModel", "changes", "(II)I"⟩, prog_11_method_49_code, 4, (some .int), [])
def D_188 : MD := (⟨"GridPricesModel", "clears", "(II)V"⟩, prog_11_method_56_code, 13, none, [])
def D_189 : MD := (⟨"GridPricesModel", "closes", "(Z)V"⟩, prog_11_method_67_code, 5, none, [])
def D_190 : MD := (⟨"GridPricesModel", "comes", "()I"⟩, prog_11_method_71_code, 2, (some .int), [])
def D_191 : MD := (⟨"GridPricesModel", "common", "(JJ)J"⟩, prog_11_method_5_code, 10, (some .long), [])
def D_192 : MD := (⟨"GridPricesModel", "congestionCost", "(II)J"⟩, prog_11_method_82_code, 4, (some .long), [])
def D_193 : MD := (⟨"GridPricesModel", "connects", "([II)Z"⟩, prog_11_method_29_code, 6, (some .boolean), [])
def D_194 : MD := (⟨"GridPricesModel", "costsLess", "(I)J"⟩, prog_11_method_81_code, 7, (some .long), [])
def D_195 : MD := (⟨"GridPricesModel", "count", "(I)I"⟩, prog_11_method_41_code, 2, (some .int), [])
def D_196 : MD := (⟨"GridPricesModel", "dearer", "(II)V"⟩, prog_11_method_104_code, 3, none, [])
def D_197 : MD := (⟨"GridPricesModel", "dearestNode", "(I)I"⟩, prog_11_method_102_code, 4, (some .int), [])
def D_198 : MD := (⟨"GridPricesModel", "demand", "(II)I"⟩, prog_11_method_45_code, 3, (some .int), [])
def D_199 : MD := (⟨"GridPricesModel", "demandAll", "()I"⟩, prog_11_method_100_code, 3, (some .int), [])
def D_200 : MD := (⟨"GridPricesModel", "demandOf", "(II)I"⟩, prog_11_method_44_code, 3, (some .int), [])
def D_201 : MD := (⟨"GridPricesModel", "end", "()V"⟩, prog_11_method_23_code, 1, none, [])
def D_202 : MD := (⟨"GridPricesModel", "errorCode", "()I"⟩, prog_11_method_34_code, 1, (some .int), [])
def D_203 : MD := (⟨"GridPricesModel", "errorPosition", "()I"⟩, prog_11_method_35_code, 1, (some .int), [])
def D_204 : MD := (⟨"GridPricesModel", "factor", "(III)J"⟩, prog_11_method_60_code, 4, (some .long), [])
def D_205 : MD := (⟨"GridPricesModel", "fails", "(I)I"⟩, prog_11_method_4_code, 2, (some .int), [])
def D_206 : MD := (⟨"GridPricesModel", "finds", "()Z"⟩, prog_11_method_76_code, 2, (some .boolean), [])
def D_207 : MD := (⟨"GridPricesModel", "flow", "(III)J"⟩, prog_11_method_87_code, 4, (some .long), [])
def D_208 : MD := (⟨"GridPricesModel", "flowAfter", "(III)J"⟩, prog_11_method_88_code, 4, (some .long), [])
def D_209 : MD := (⟨"GridPricesModel", "flows", "(II)V"⟩, prog_11_method_86_code, 9, none, [])
def D_210 : MD := (⟨"GridPricesModel", "four", "(I)V"⟩, prog_11_method_11_code, 3, none, [])
def D_211 : MD := (⟨"GridPricesModel", "fundingRatio", "(II)J"⟩, prog_11_method_113_code, 3, (some .long), [])
def D_212 : MD := (⟨"GridPricesModel", "funds", "()V"⟩, prog_11_method_112_code, 6, none, [])
def D_213 : MD := (⟨"GridPricesModel", "generator", "(II)I"⟩, prog_11_method_43_code, 3, (some .int), [])
def D_214 : MD := (⟨"GridPricesModel", "goes", "(I)I"⟩, prog_11_method_72_code, 10, (some .int), [])
def D_215 : MD := (⟨"GridPricesModel", "helps", "(I)Z"⟩, prog_11_method_70_code, 5, (some .boolean), [])
def D_216 : MD := (⟨"GridPricesModel", "here", "()I"⟩, prog_11_method_14_code, 1, (some .int), [])
def D_217 : MD := (⟨"GridPricesModel", "in", "(III)Z"⟩, prog_11_method_3_code, 3, (some .boolean), [])
def D_218 : MD := (⟨"GridPricesModel", "is", "(JJ)V"⟩, prog_11_method_6_code, 7, none, [])
def D_219 : MD := (⟨"GridPricesModel", "isBehind", "()Z"⟩, prog_11_method_31_code, 3, (some .boolean), [])
def D_220 : MD := (⟨"GridPricesModel", "isFeasible", "(I)Z"⟩, prog_11_method_78_code, 2, (some .boolean), [])
def D_221 : MD := (⟨"GridPricesModel", "isFound", "(I)Z"⟩, prog_11_method_77_code, 2, (some .boolean), [])
def D_222 : MD := (⟨"GridPricesModel", "isGenerator", "(I)Z"⟩, prog_11_method_39_code, 2, (some .boolean), [])
def D_223 : MD := (⟨"GridPricesModel", "isGood", "(ZII)Z"⟩, prog_11_method_79_code, 4, (some .boolean), [])
def D_224 : MD := (⟨"GridPricesModel", "isInterval", "(I)Z"⟩, prog_11_method_37_code, 2, (some .boolean), [])
def D_225 : MD := (⟨"GridPricesModel", "isLess", "(JJJJ)Z"⟩, prog_11_method_9_code, 10, (some .boolean), [])
def D_226 : MD := (⟨"GridPricesModel", "isLine", "(I)Z"⟩, prog_11_method_38_code, 2, (some .boolean), [])
def D_227 : MD := (⟨"GridPricesModel", "isNode", "(I)Z"⟩, prog_11_method_36_code, 2, (some .boolean), [])
def D_228 : MD := (⟨"GridPricesModel", "isPriced", "(ZIII)Z"⟩, prog_11_method_93_code, 5, (some .boolean), [])
def D_229 : MD := (⟨"GridPricesModel", "isRight", "(I)Z"⟩, prog_11_method_40_code, 2, (some .boolean), [])
def D_230 : MD := (⟨"GridPricesModel", "keeps", "()V"⟩, prog_11_method_47_code, 2, none, [])
def D_231 : MD := (⟨"GridPricesModel", "laysAllFactors", "(I)V"⟩, prog_11_method_59_code, 2, none, [])
def D_232 : MD := (⟨"GridPricesModel", "laysEquations", "(II)V"⟩, prog_11_method_55_code, 6, none, [])
def D_233 : MD := (⟨"GridPricesModel", "laysFactors", "(II)V"⟩, prog_11_method_58_code, 10, none, [])
def D_234 : MD := (⟨"GridPricesModel", "laysRows", "()V"⟩, prog_11_method_69_code, 4, none, [])
def D_235 : MD := (⟨"GridPricesModel", "leastCost", "(II)J"⟩, prog_11_method_80_code, 3, (some .long), [])
def D_236 : MD := (⟨"GridPricesModel", "limitsFlow", "(IIIJ)V"⟩, prog_11_method_68_code, 8, none, [])
def D_237 : MD := (⟨"GridPricesModel", "line", "(II)I"⟩, prog_11_method_42_code, 3, (some .int), [])
def D_238 : MD := (⟨"GridPricesModel", "lineValue", "(III)J"⟩, prog_11_method_84_code, 4, (some .long), [])
def D_239 : MD := (⟨"GridPricesModel", "load", "()I"⟩, prog_11_method_33_code, 2, (some .int), [])
def D_240 : MD := (⟨"GridPricesModel", "loadBits", "(II)I"⟩, prog_11_method_91_code, 5, (some .int), [])
def D_241 : MD := (⟨"GridPricesModel", "meanPrice", "(I)D"⟩, prog_11_method_101_code, 2, (some .double), [])
def D_242 : MD := (⟨"GridPricesModel", "mustTake", "(J)V"⟩, prog_11_method_19_code, 3, none, [])
def D_243 : MD := (⟨"GridPricesModel", "node", "()I"⟩, prog_11_method_21_code, 1, (some .int), [])
def D_244 : MD := (⟨"GridPricesModel", "number", "(II)I"⟩, prog_11_method_20_code, 6, (some .int), [])
def D_245 : MD := (⟨"GridPricesModel", "other", "(I)I"⟩, prog_11_method_22_code, 3, (some .int), [])
def D_246 : MD := (⟨"GridPricesModel", "outage", "()I"⟩, prog_11_method_46_code, 1, (some .int), [])
def D_247 : MD := (⟨"GridPricesModel", "outageFactor", "(III)J"⟩, prog_11_method_61_code, 4, (some .long), [])
def D_248 : MD := (⟨"GridPricesModel", "output", "(III)J"⟩, prog_11_method_85_code, 4, (some .long), [])
def D_249 : MD := (⟨"GridPricesModel", "paid", "(III)J"⟩, prog_11_method_114_code, 6, (some .long), [])
def D_250 : MD := (⟨"GridPricesModel", "part", "(I)J"⟩, prog_11_method_10_code, 2, (some .long), [])
def D_251 : MD := (⟨"GridPricesModel", "payments", "()V"⟩, prog_11_method_99_code, 2, none, [])
def D_252 : MD := (⟨"GridPricesModel", "plus", "(JJJJ)V"⟩, prog_11_method_8_code, 11, none, [])
def D_253 : MD := (⟨"GridPricesModel", "price", "(III)J"⟩, prog_11_method_95_code, 4, (some .long), [])
def D_254 : MD := (⟨"GridPricesModel", "prices", "(I)Z"⟩, prog_11_method_92_code, 8, (some .boolean), [])
def D_255 : MD := (⟨"GridPricesModel", "profit", "(III)J"⟩, prog_11_method_103_code, 5, (some .long), [])
def D_256 : MD := (⟨"GridPricesModel", "puts", "(IIJJ)V"⟩, prog_11_method_65_code, 7, none, [])
def D_257 : MD := (⟨"GridPricesModel", "readDemands", "()V"⟩, prog_11_method_27_code, 3, none, [])
def D_258 : MD := (⟨"GridPricesModel", "readGenerators", "()V"⟩, prog_11_method_26_code, 2, none, [])
def D_259 : MD := (⟨"GridPricesModel", "readGrid", "()V"⟩, prog_11_method_32_code, 1, none, [])
def D_260 : MD := (⟨"GridPricesModel", "readLines", "()V"⟩, prog_11_method_25_code, 2, none, [])
def D_261 : MD := (⟨"GridPricesModel", "readOutage", "()V"⟩, prog_11_method_30_code, 2, none, [])
def D_262 : MD := (⟨"GridPricesModel", "readRights", "()V"⟩, prog_11_method_28_code, 2, none, [])
def D_263 : MD := (⟨"GridPricesModel", "rent", "(III)J"⟩, prog_11_method_105_code, 10, (some .long), [])
def D_264 : MD := (⟨"GridPricesModel", "reserve", "(II)I"⟩, prog_11_method_115_code, 5, (some .int), [])
def D_265 : MD := (⟨"GridPricesModel", "right", "(II)I"⟩, prog_11_method_108_code, 3, (some .int), [])
def D_266 : MD := (⟨"GridPricesModel", "scales", "(II)V"⟩, prog_11_method_73_code, 8, none, [])
def D_267 : MD := (⟨"GridPricesModel", "securityCost", "(II)J"⟩, prog_11_method_83_code, 3, (some .long), [])
def D_268 : MD := (⟨"GridPricesModel", "setCapacity", "(II)I"⟩, prog_11_method_52_code, 3, (some .int), [])
def D_269 : MD := (⟨"GridPricesModel", "setCost", "(II)I"⟩, prog_11_method_51_code, 3, (some .int), [])
def D_270 : MD := (⟨"GridPricesModel", "setDemand", "(III)I"⟩, prog_11_method_53_code, 4, (some .int), [])
def D_271 : MD := (⟨"GridPricesModel", "setLimit", "(II)I"⟩, prog_11_method_50_code, 4, (some .int), [])
def D_272 : MD := (⟨"GridPricesModel", "setOutage", "(I)I"⟩, prog_11_method_54_code, 2, (some .int), [])
def D_273 : MD := (⟨"GridPricesModel", "sum", "(I)J"⟩, prog_11_method_98_code, 2, (some .long), [])
def D_274 : MD := (⟨"GridPricesModel", "sums", "(JJJJ)V"⟩, prog_11_method_97_code, 9, none, [])
def D_275 : MD := (⟨"GridPricesModel", "surplus", "(II)J"⟩, prog_11_method_107_code, 3, (some .long), [])
def D_276 : MD := (⟨"GridPricesModel", "surpluses", "()V"⟩, prog_11_method_106_code, 3, none, [])
def D_277 : MD := (⟨"GridPricesModel", "takes", "(J)Z"⟩, prog_11_method_18_code, 3, (some .boolean), [])
def D_278 : MD := (⟨"GridPricesModel", "takesAway", "(III)V"⟩, prog_11_method_74_code, 10, none, [])
def D_279 : MD := (⟨"GridPricesModel", "target", "(III)J"⟩, prog_11_method_111_code, 5, (some .long), [])
def D_280 : MD := (⟨"GridPricesModel", "targets", "(I)V"⟩, prog_11_method_110_code, 2, none, [])
def D_281 : MD := (⟨"GridPricesModel", "thrown", "()I"⟩, prog_11_method_2_code, 1, (some .int), [])
def D_282 : MD := (⟨"GridPricesModel", "times", "(JJJJ)V"⟩, prog_11_method_7_code, 13, none, [])
def D_283 : MD := (⟨"GridPricesModel", "transferLimit", "(III)J"⟩, prog_11_method_63_code, 9, (some .long), [])
def D_284 : MD := (⟨"GridPricesModel", "truncate", "(I)I"⟩, prog_11_method_13_code, 2, (some .int), [])
def D_285 : MD := (⟨"GridPricesModel", "turns", "(II)V"⟩, prog_11_method_75_code, 4, none, [])
def D_286 : MD := (⟨"GridPricesModel", "undo", "()I"⟩, prog_11_method_48_code, 2, (some .int), [])
def D_287 : MD := (⟨"GridPricesModel", "word", "()J"⟩, prog_11_method_17_code, 5, (some .long), [])
def D_288 : MD := (⟨"GridPricesModel", "wordEnd", "()I"⟩, prog_11_method_16_code, 2, (some .int), [])
def D_289 : MD := (⟨"GridPricesModel", "wrong", "(II)V"⟩, prog_11_method_15_code, 3, none, [])
def D_290 : MD := (⟨"java/util/AbstractCollection", "<init>", "()V"⟩, prog_30_method_1_code, 1, none, [])
def D_291 : MD := (⟨"java/util/AbstractList", "<init>", "()V"⟩, prog_31_method_1_code, 1, none, [])
def D_292 : MD := (⟨"java/util/ArrayList", "<init>", "()V"⟩, prog_32_method_2_code, 1, none, [])
def D_293 : MD := (⟨"java/util/ArrayList", "add", "(Ljava/lang/Object;)Z"⟩, prog_32_method_25_code, 2, (some .boolean), [])
def D_294 : MD := (⟨"java/util/ArrayList", "add", "(Ljava/lang/Object;[Ljava/lang/Object;I)V"⟩, prog_32_method_24_code, 4, none, [])
def D_295 : MD := (⟨"java/util/ArrayList", "clear", "()V"⟩, prog_32_method_40_code, 4, none, [])
def D_296 : MD := (⟨"java/util/ArrayList", "fastRemove", "([Ljava/lang/Object;I)V"⟩, prog_32_method_39_code, 4, none, [])
def D_297 : MD := (⟨"java/util/ArrayList", "grow", "()[Ljava/lang/Object;"⟩, prog_32_method_7_code, 1, (some (.array (.object "java/lang/Object"))), [])
def D_298 : MD := (⟨"java/util/ArrayList", "grow", "(I)[Ljava/lang/Object;"⟩, prog_32_method_6_code, 4, (some (.array (.object "java/lang/Object"))), [])
def D_299 : MD := (⟨"java/util/ArrayList", "isEmpty", "()Z"⟩, prog_32_method_9_code, 1, (some .boolean), [])
def D_300 : MD := (⟨"java/util/ArrayList", "remove", "(I)Ljava/lang/Object;"⟩, prog_32_method_29_code, 4, (some (.object "java/lang/Object")), [])
def D_301 : MD := (⟨"java/util/ArrayList", "size", "()I"⟩, prog_32_method_8_code, 1, (some .int), [])
def D_302 : MD := (⟨"java/util/Objects", "checkIndex", "(II)I"⟩, prog_37_method_17_code, 2, (some .int), [])
def D_303 : MD := (⟨"jdk/internal/util/Preconditions", "checkIndex", "(IILjava/util/function/BiFunction;)I"⟩, prog_41_method_11_code, 3, (some .int), [])
def MDX : List MD := [D_1, D_2, D_3, D_4, D_5, D_6, D_7, D_8, D_9, D_10, D_11, D_12, D_13, D_14, D_15, D_16, D_17, D_18, D_19, D_20, D_21, D_22, D_23, D_24, D_25, D_26, D_27, D_28, D_29, D_30, D_31, D_32, D_33, D_34, D_35, D_36, D_37, D_38, D_39, D_40, D_41, D_42, D_43, D_44, D_45, D_46, D_47, D_48, D_49, D_50, D_51, D_52, D_53, D_54, D_55, D_56, D_57, D_58, D_59, D_60, D_61, D_62, D_63, D_64, D_65, D_66, D_67, D_68, D_69, D_70, D_71, D_72, D_73, D_74, D_75, D_76, D_77, D_78, D_79, D_80, D_81, D_82, D_83, D_84, D_85, D_86, D_87, D_88, D_89, D_90, D_91, D_92, D_93, D_94, D_95, D_96, D_97, D_98, D_99, D_100, D_101, D_102, D_103, D_104, D_105, D_106, D_107, D_108, D_109, D_110, D_111, D_112, D_113, D_114, D_115, D_116, D_117, D_118, D_119, D_120, D_121, D_122, D_123, D_124, D_125, D_126, D_127, D_128, D_129, D_130, D_131, D_132, D_133, D_134, D_135, D_136, D_137, D_138, D_139, D_140, D_141, D_142, D_143, D_144, D_145, D_146, D_147, D_148, D_149, D_150, D_151, D_152, D_153, D_154, D_155, D_156, D_157, D_158, D_159, D_160, D_161, D_162, D_163, D_164, D_165, D_166, D_167, D_168, D_169, D_170, D_171, D_172, D_173, D_174, D_175, D_176, D_177, D_178, D_179, D_180, D_181, D_182, D_183, D_184, D_185, D_186, D_187, D_188, D_189, D_190, D_191, D_192, D_193, D_194, D_195, D_196, D_197, D_198, D_199, D_200, D_201, D_202, D_203, D_204, D_205, D_206, D_207, D_208, D_209, D_210, D_211, D_212, D_213, D_214, D_215, D_216, D_217, D_218, D_219, D_220, D_221, D_222, D_223, D_224, D_225, D_226, D_227, D_228, D_229, D_230, D_231, D_232, D_233, D_234, D_235, D_236, D_237, D_238, D_239, D_240, D_241, D_242, D_243, D_244, D_245, D_246, D_247, D_248, D_249, D_250, D_251, D_252, D_253, D_254, D_255, D_256, D_257, D_258, D_259, D_260, D_261, D_262, D_263, D_264, D_265, D_266, D_267, D_268, D_269, D_270, D_271, D_272, D_273, D_274, D_275, D_276, D_277, D_278, D_279, D_280, D_281, D_282, D_283, D_284, D_285, D_286, D_287, D_288, D_289, D_290, D_291, D_292, D_293, D_294, D_295, D_296, D_297, D_298, D_299, D_300, D_301, D_302, D_303]
def mdx (u : Nat) : Option MD := match u with
  | 0 => none
  | n + 1 => MDX[n]?
def k_met (d' : MD) (j : Nat) : Bool := plainName d'.1.cls && isw j (.initialized d'.1.cls) && decide (d'.1.cls ≠ "java/lang/invoke/MethodHandle") && decide (d'.1.cls ≠ "java/lang/invoke/VarHandle") && pres (cdw d')
theorem kt_met {d' : MD} {i j : Nat} (h0 : lw_tbl[i]? = some (cdw d')) (h : k_met d' j = true) : Mok d' := by
  unfold k_met at h
  simp only [Bool.and_eq_true, decide_eq_true_eq] at h
  exact ⟨h.1.1.1.1, tb_t h0 h.2, isw_t h.1.1.1.2, h.1.1.2, h.1.2⟩

/-! The world at the law's entry. -/
def R_law : String := "GridPricesLaw"
/-- what holds at the law's entry -/
def lw_At (p : Program) (s : State) (m : MethodId) (meth : Method) (c : Code) (b L : Nat) (xs : Nat → Int32) : Prop :=
  p.tables.exec = Jvm.exec ∧ c.code = code ∧ meth.sig.returnType = ret ∧ c.maxLocals = 9 ∧ s.vm.findClass R_law = some m.cls ∧ (∀ w ∈ lw_tbl, w.before #[Value.ref b] s = true) ∧ va_X b L xs s s.heap ∧ b < s.heap.size ∧ meth.locks = false ∧ (Jvm.Cond.and given_1 narrow_1).before #[Value.ref b] s = true ∧ meth.name = "law" ∧ c.exceptionTable.toList = []
theorem k_of_prim {args : Array Value} {s : State} {t : FieldType} (h : (Cond.arrayClass t).before args s = true) (hn : ∀ C, t ≠ .object C) : ∃ cA : ClassId, ArrOfT s cA t ∧ va_RA s cA t := by
  obtain ⟨c, k, comp, h1, h2, h3⟩ := Cond.arrayClass_spec h
  refine ⟨c, fun N z => ⟨(fun k h => by cases h), k, h2, comp, h3⟩, ?_⟩
  cases t <;> first | exact h1 | exact absurd rfl (hn _)
theorem k_of_arr {args : Array Value} {s : State} {t : FieldType} (h : (Cond.arrayOver (.array t)).before args s = true) : ∃ cA : ClassId, ArrOfT s cA (.array t) ∧ va_RA s cA (.array t) := by
  obtain ⟨comp, c, k, -, -, h2, h3, h1⟩ := ao_spec h
  exact ⟨c, fun N z => ⟨(fun k h => by cases h), k, h2, comp, h3⟩, h1⟩
theorem k_of_obj {args : Array Value} {s : State} {C : String} (h : (Cond.arrayOver (.object C)).before args s = true) : ∃ cA : ClassId, ArrOfT s cA (.object C) ∧ va_RA s cA (.object C) := by
  obtain ⟨comp, c, k, h0, -, h2, h3, h1⟩ := Cond.arrayOver_spec h
  exact ⟨c, fun N z => ⟨(fun k h => by cases h), k, h2, comp, h3⟩, k, comp, h2, h3, h0, h1⟩
theorem k_of_cls {args : Array Value} {s : State} (hts : ∀ w ∈ TBL, w.before args s = true) : ∃ D : va_G, ∀ (c : Nat) (q : vw_C), CLS[c]? = some q → u_Kn s q.1 q.2.1 q.2.2 (D.1 c) (D.2 c) := by
  have h : ∀ c : Nat, ∃ (cC : ClassId) (iS : Nat → Nat), ∀ q : vw_C, CLS[c]? = some q → u_Kn s q.1 q.2.1 q.2.2 cC iS := by
    intro c
    match c with
    | 0 =>
      obtain ⟨cC, iS, hk⟩ := u_known (C := C_0.1) (T := C_0.2.1) (N := C_0.2.2) hts (clok 0 C_0 rfl).1 (hts (.instantiable "GridPrices" 7) (isw_t (i := 158) (by decide +kernel)))
      exact ⟨cC, iS, fun q hq => by obtain rfl : C_0 = q := Option.some.inj hq; exact hk⟩
    | 1 =>
      obtain ⟨cC, iS, hk⟩ := u_known (C := C_1.1) (T := C_1.2.1) (N := C_1.2.2) hts (clok 1 C_1 rfl).1 (hts (.instantiable "GridPrices$Factors" 4) (isw_t (i := 166) (by decide +kernel)))
      exact ⟨cC, iS, fun q hq => by obtain rfl : C_1 = q := Option.some.inj hq; exact hk⟩
    | 2 =>
      obtain ⟨cC, iS, hk⟩ := u_known (C := C_2.1) (T := C_2.2.1) (N := C_2.2.2) hts (clok 2 C_2 rfl).1 (hts (.instantiable "GridPrices$Fraction" 2) (isw_t (i := 1033) (by decide +kernel)))
      exact ⟨cC, iS, fun q hq => by obtain rfl : C_2 = q := Option.some.inj hq; exact hk⟩
    | 3 =>
      obtain ⟨cC, iS, hk⟩ := u_known (C := C_3.1) (T := C_3.2.1) (N := C_3.2.2) hts (clok 3 C_3 rfl).1 (hts (.instantiable "GridPrices$Dispatch" 6) (isw_t (i := 1159) (by decide +kernel)))
      exact ⟨cC, iS, fun q hq => by obtain rfl : C_3 = q := Option.some.inj hq; exact hk⟩
    | 4 =>
      obtain ⟨cC, iS, hk⟩ := u_known (C := C_4.1) (T := C_4.2.1) (N := C_4.2.2) hts (clok 4 C_4 rfl).1 (hts (.instantiable "GridPrices$Grid" 18) (isw_t (i := 221) (by decide +kernel)))
      exact ⟨cC, iS, fun q hq => by obtain rfl : C_4 = q := Option.some.inj hq; exact hk⟩
    | 5 =>
      obtain ⟨cC, iS, hk⟩ := u_known (C := C_5.1) (T := C_5.2.1) (N := C_5.2.2) hts (clok 5 C_5 rfl).1 (hts (.instantiable "GridPrices$Reader" 11) (isw_t (i := 326) (by decide +kernel)))
      exact ⟨cC, iS, fun q hq => by obtain rfl : C_5 = q := Option.some.inj hq; exact hk⟩
    | 6 =>
      obtain ⟨cC, iS, hk⟩ := u_known (C := C_6.1) (T := C_6.2.1) (N := C_6.2.2) hts (clok 6 C_6 rfl).1 (hts (.instantiable "GridPrices$Problem" 10) (isw_t (i := 372) (by decide +kernel)))
      exact ⟨cC, iS, fun q hq => by obtain rfl : C_6 = q := Option.some.inj hq; exact hk⟩
    | 7 =>
      obtain ⟨cC, iS, hk⟩ := u_known (C := C_7.1) (T := C_7.2.1) (N := C_7.2.2) hts (clok 7 C_7 rfl).1 (hts (.instantiable "GridPrices$Program" 6) (isw_t (i := 378) (by decide +kernel)))
      exact ⟨cC, iS, fun q hq => by obtain rfl : C_7 = q := Option.some.inj hq; exact hk⟩
    | 8 =>
      obtain ⟨cC, iS, hk⟩ := u_known (C := C_8.1) (T := C_8.2.1) (N := C_8.2.2) hts (clok 8 C_8 rfl).1 (hts (.instantiable "GridPrices$Change" 5) (isw_t (i := 855) (by decide +kernel)))
      exact ⟨cC, iS, fun q hq => by obtain rfl : C_8 = q := Option.some.inj hq; exact hk⟩
    | 9 =>
      obtain ⟨cC, iS, hk⟩ := u_known (C := C_9.1) (T := C_9.2.1) (N := C_9.2.2) hts (clok 9 C_9 rfl).1 (hts (.instantiable "GridPricesModel" 39) (isw_t (i := 1441) (by decide +kernel)))
      exact ⟨cC, iS, fun q hq => by obtain rfl : C_9 = q := Option.some.inj hq; exact hk⟩
    | 10 =>
      obtain ⟨cC, iS, hk⟩ := u_known (C := C_10.1) (T := C_10.2.1) (N := C_10.2.2) hts (clok 10 C_10 rfl).1 (hts (.instantiable "java/util/ArrayList" 3) (isw_t (i := 193) (by decide +kernel)))
      exact ⟨cC, iS, fun q hq => by obtain rfl : C_10 = q := Option.some.inj hq; exact hk⟩
    | k + 11 => exact ⟨0, fun _ => 0, fun q hq => absurd hq (by simp [CLS])⟩
  exact ⟨(fun c => (h c).choose, fun c => (h c).choose_spec.choose), fun c q hq => (h c).choose_spec.choose_spec q hq⟩
theorem k_of {args : Array Value} {s : State} (hts : ∀ w ∈ TBL, w.before args s = true) : ∃ (D : va_G) (tys : List (ClassId × FieldType)), va_K D CLS tys s ∧ ∀ c : Nat, 32 ≤ c → c ≤ 41 → ∃ cA : ClassId, tys[c - 32]? = some (cA, aty c) := by
  obtain ⟨D, hD⟩ := k_of_cls hts
  obtain ⟨a0, x0⟩ := k_of_prim (hts (.arrayClass .int) (isw_t (i := 320) (by decide +kernel))) (fun C h => by cases h)
  obtain ⟨a1, x1⟩ := k_of_prim (hts (.arrayClass .long) (isw_t (i := 191) (by decide +kernel))) (fun C h => by cases h)
  obtain ⟨a2, x2⟩ := k_of_prim (hts (.arrayClass .byte) (isw_t (i := 370) (by decide +kernel))) (fun C h => by cases h)
  obtain ⟨a3, x3⟩ := k_of_prim (hts (.arrayClass .boolean) (isw_t (i := 1201) (by decide +kernel))) (fun C h => by cases h)
  obtain ⟨a4, x4⟩ := k_of_prim (hts (.arrayClass .double) (isw_t (i := 2028) (by decide +kernel))) (fun C h => by cases h)
  obtain ⟨a5, x5⟩ := k_of_arr (hts (.arrayOver (.array .int)) (isw_t (i := 227) (by decide +kernel)))
  obtain ⟨a6, x6⟩ := k_of_arr (hts (.arrayOver (.array .long)) (isw_t (i := 172) (by decide +kernel)))
  obtain ⟨a7, x7⟩ := k_of_obj (hts (.arrayOver (.object "java/lang/Object")) (isw_t (i := 956) (by decide +kernel)))
  obtain ⟨a8, x8⟩ := k_of_obj (hts (.arrayOver (.object "GridPrices$Dispatch")) (isw_t (i := 219) (by decide +kernel)))
  obtain ⟨a9, x9⟩ := k_of_obj (hts (.arrayOver (.object "GridPrices$Fraction")) (isw_t (i := 1170) (by decide +kernel)))
  refine ⟨D, [(a0, .int), (a1, .long), (a2, .byte), (a3, .boolean), (a4, .double), (a5, (.array .int)), (a6, (.array .long)), (a7, (.object "java/lang/Object")), (a8, (.object "GridPrices$Dispatch")), (a9, (.object "GridPrices$Fraction"))], ⟨hD, fun k q hk => ?_⟩, fun c h1 h2 => ?_⟩
  · match k, hk with
    | 0, hk => obtain rfl := Option.some.inj hk; exact x0
    | 1, hk => obtain rfl := Option.some.inj hk; exact x1
    | 2, hk => obtain rfl := Option.some.inj hk; exact x2
    | 3, hk => obtain rfl := Option.some.inj hk; exact x3
    | 4, hk => obtain rfl := Option.some.inj hk; exact x4
    | 5, hk => obtain rfl := Option.some.inj hk; exact x5
    | 6, hk => obtain rfl := Option.some.inj hk; exact x6
    | 7, hk => obtain rfl := Option.some.inj hk; exact x7
    | 8, hk => obtain rfl := Option.some.inj hk; exact x8
    | 9, hk => obtain rfl := Option.some.inj hk; exact x9
    | k + 10, hk => exact absurd hk (by simp)
  · rcases (show c = 32 ∨ c = 33 ∨ c = 34 ∨ c = 35 ∨ c = 36 ∨ c = 37 ∨ c = 38 ∨ c = 39 ∨ c = 40 ∨ c = 41 by omega) with rfl | rfl | rfl | rfl | rfl | rfl | rfl | rfl | rfl | rfl
    · exact ⟨a0, rfl⟩
    · exact ⟨a1, rfl⟩
    · exact ⟨a2, rfl⟩
    · exact ⟨a3, rfl⟩
    · exact ⟨a4, rfl⟩
    · exact ⟨a5, rfl⟩
    · exact ⟨a6, rfl⟩
    · exact ⟨a7, rfl⟩
    · exact ⟨a8, rfl⟩
    · exact ⟨a9, rfl⟩

/-! What is known of the outside at the law's entry. -/
theorem vk_ex {A : Array Value} {U : State} {own tx : String} {k : Nat} (h : (Cond.stringRef own k tx).before A U = true) : ∃ sa : Nat, vk_R own k tx sa U := by
  cases hc : U.vm.findClass own with
  | none => simp [Cond.before, Cond.holds, Cond.value, hc] at h
  | some cur =>
    obtain ⟨k9, cf, i, a, -, -, -, -, -, he⟩ := Cond.stringRef_spec hc h
    exact ⟨a, vk_R.of h he⟩
theorem emp_len {A : Array Value} {s : State} {t : Term} {a : Nat} {cell : Cell} (hv : t.eval A s none [] s = some (.ref a)) (hc : s.heap[a]? = some cell) (hl : (Cond.eq (.length t) (.int 0)).before A s = true) : cell.slots.size = 0 := by
  cases hr : s.arrayAt? a with
  | none => simp [Cond.before, Cond.holds, Cond.value, Term.eval, hv, hr] at hl
  | some cell' =>
    obtain ⟨hc', -⟩ := State.arrayAt?_spec hr
    obtain rfl : cell = cell' := Option.some.inj (hc.symm.trans hc')
    by_cases hn : cell.slots.size < 2 ^ 31
    · have he : (Term.length t).eval A s none [] s = some (.int cell.slots.size.toInt32) := by
        simp [Term.eval, hv, hr, hn]
      have h9 := Cond.eq_ints he (show (Term.int 0).eval A s none [] s = some (.int 0) from rfl)
      have h8 : cell.slots.size.toInt32 = 0 := by simpa [Cond.before, Cond.holds, h9] using hl
      have h7 : Int32.ofNat cell.slots.size ≤ Int32.ofNat 0 := by
        show cell.slots.size.toInt32 ≤ 0
        rw [h8]; decide
      have := (Int32.ofNat_le_ofNat hn (by decide)).mp h7
      omega
    · exfalso
      have he : (Term.length t).eval A s none [] s = none := by
        simp [Term.eval, hv, hr, hn]
      simp [Cond.before, Cond.holds, Cond.value, he] at hl
theorem at_tbl {i : Nat} {w : Cond} (h : lw_tbl[i]? = some w) : w ∈ lw_tbl := List.mem_of_getElem? h
theorem ext_str {A : Array Value} {s : State} (hts : ∀ w ∈ lw_tbl, w.before A s = true) : ∀ q ∈ SSX.1, ∃ sa : Nat, vk_R q.1 q.2.1 q.2.2 sa s := by
  show ∀ q ∈ [("GridPrices", 341, "no such number"), ("GridPrices", 351, "there is no outage"), ("GridPrices", 343, "the value is out of range"), ("GridPrices", 349, "the other lines do not connect all nodes"), ("GridPrices", 117, "what is out of range"), ("GridPrices", 427, "the node has no price"), ("GridPrices", 216, "the nodes are the same"), ("GridPrices", 87, "no such length"), ("GridPrices", 187, "no change can be undone"), ("GridPrices$Reader", 94, "nodes"), ("GridPrices$Reader", 89, "the text has an error")], ∃ sa : Nat, vk_R q.1 q.2.1 q.2.2 sa s
  exact List.forall_mem_cons.mpr ⟨vk_ex (hts _ (at_tbl (i := 816) (w := .stringRef "GridPrices" 341 "no such number") (by decide +kernel))), List.forall_mem_cons.mpr ⟨vk_ex (hts _ (at_tbl (i := 1065) (w := .stringRef "GridPrices" 351 "there is no outage") (by decide +kernel))), List.forall_mem_cons.mpr ⟨vk_ex (hts _ (at_tbl (i := 853) (w := .stringRef "GridPrices" 343 "the value is out of range") (by decide +kernel))), List.forall_mem_cons.mpr ⟨vk_ex (hts _ (at_tbl (i := 998) (w := .stringRef "GridPrices" 349 "the other lines do not connect all nodes") (by decide +kernel))), List.forall_mem_cons.mpr ⟨vk_ex (hts _ (at_tbl (i := 800) (w := .stringRef "GridPrices" 117 "what is out of range") (by decide +kernel))), List.forall_mem_cons.mpr ⟨vk_ex (hts _ (at_tbl (i := 1319) (w := .stringRef "GridPrices" 427 "the node has no price") (by decide +kernel))), List.forall_mem_cons.mpr ⟨vk_ex (hts _ (at_tbl (i := 1073) (w := .stringRef "GridPrices" 216 "the nodes are the same") (by decide +kernel))), List.forall_mem_cons.mpr ⟨vk_ex (hts _ (at_tbl (i := 605) (w := .stringRef "GridPrices" 87 "no such length") (by decide +kernel))), List.forall_mem_cons.mpr ⟨vk_ex (hts _ (at_tbl (i := 1010) (w := .stringRef "GridPrices" 187 "no change can be undone") (by decide +kernel))), List.forall_mem_cons.mpr ⟨vk_ex (hts _ (at_tbl (i := 638) (w := .stringRef "GridPrices$Reader" 94 "nodes") (by decide +kernel))), List.forall_mem_cons.mpr ⟨vk_ex (hts _ (at_tbl (i := 708) (w := .stringRef "GridPrices$Reader" 89 "the text has an error") (by decide +kernel))), (fun _ h => absurd h List.not_mem_nil)⟩⟩⟩⟩⟩⟩⟩⟩⟩⟩⟩
theorem ext_cast {A : Array Value} {s : State} (hg : (Jvm.Cond.and given_1 narrow_1).before A s = true) : ∀ q ∈ SSX.2, va_Nc q.1 q.2 s := by
  have hs := flat_of_before _ hg
  show ∀ q ∈ [("java/lang/IllegalStateException", "java/lang/IndexOutOfBoundsException"), ("java/lang/IllegalStateException", "java/lang/IllegalArgumentException"), ("java/lang/IllegalArgumentException", "java/lang/IndexOutOfBoundsException"), ("java/util/NoSuchElementException", "java/lang/IndexOutOfBoundsException"), ("java/util/NoSuchElementException", "java/lang/IllegalStateException"), ("java/util/NoSuchElementException", "java/lang/IllegalArgumentException")], va_Nc q.1 q.2 s
  exact List.forall_mem_cons.mpr ⟨va_Nc.of (hs (.not (.castable "java/lang/IllegalStateException" "java/lang/IndexOutOfBoundsException")) (by decide +kernel)), List.forall_mem_cons.mpr ⟨va_Nc.of (hs (.not (.castable "java/lang/IllegalStateException" "java/lang/IllegalArgumentException")) (by decide +kernel)), List.forall_mem_cons.mpr ⟨va_Nc.of (hs (.not (.castable "java/lang/IllegalArgumentException" "java/lang/IndexOutOfBoundsException")) (by decide +kernel)), List.forall_mem_cons.mpr ⟨va_Nc.of (hs (.not (.castable "java/util/NoSuchElementException" "java/lang/IndexOutOfBoundsException")) (by decide +kernel)), List.forall_mem_cons.mpr ⟨va_Nc.of (hs (.not (.castable "java/util/NoSuchElementException" "java/lang/IllegalStateException")) (by decide +kernel)), List.forall_mem_cons.mpr ⟨va_Nc.of (hs (.not (.castable "java/util/NoSuchElementException" "java/lang/IllegalArgumentException")) (by decide +kernel)), (fun _ h => absurd h List.not_mem_nil)⟩⟩⟩⟩⟩⟩
theorem ext_emp {A : Array Value} {s : State} (hg : (Jvm.Cond.and given_1 narrow_1).before A s = true) : ∃ (x1 : Nat) (cell : Cell), (Term.static "java/util/ArrayList" "DEFAULTCAPACITY_EMPTY_ELEMENTDATA" "[Ljava/lang/Object;").eval A s none [] s = some (.ref x1) ∧ s.heap[x1]? = some cell ∧ s.isArrayOf cell (.object "java/lang/Object") ∧ cell.slots.size = 0 := by
  have hs := flat_of_before _ hg
  have ha : (Cond.arrayOf (.static "java/util/ArrayList" "DEFAULTCAPACITY_EMPTY_ELEMENTDATA" "[Ljava/lang/Object;") (.object "java/lang/Object")).before A s = true := hs _ (by decide +kernel)
  have hl : (Cond.eq (.length (.static "java/util/ArrayList" "DEFAULTCAPACITY_EMPTY_ELEMENTDATA" "[Ljava/lang/Object;")) (.int 0)).before A s = true := hs _ (by decide +kernel)
  cases hv : (Term.static "java/util/ArrayList" "DEFAULTCAPACITY_EMPTY_ELEMENTDATA" "[Ljava/lang/Object;").eval A s none [] s with
  | none => simp [Cond.before, Cond.holds, Cond.value, hv] at ha
  | some w =>
    cases w with
    | ref a =>
      cases hc : s.heap[a]? with
      | none => simp [Cond.before, Cond.holds, Cond.value, hv, hc] at ha
      | some cell =>
        refine ⟨a, cell, rfl, hc, (Cond.arrayOf_spec ha hv hc).1, ?_⟩
        exact emp_len hv hc hl
    | _ => simp [Cond.before, Cond.holds, Cond.value, hv] at ha
theorem ext_of {s : State} {b L : Nat} {xs : Nat → Int32} (hts : ∀ w ∈ lw_tbl, w.before #[Value.ref b] s = true) (hX : va_X b L xs s s.heap) (hb : b < s.heap.size) (hg : (Jvm.Cond.and given_1 narrow_1).before #[Value.ref b] s = true) (hL : L ≤ 6) (D : va_G) (tys : List (ClassId × FieldType)) : ∃ x1 : Nat, Ext SSX (D, tys, x1, b, s.heap.size, []) L xs s s.heap := by
  have hs := flat_of_before _ hg
  obtain ⟨x1, cell, e1, e2, e3, e4⟩ := ext_emp hg
  have hA : ∀ (z : GG) (a : Nat), z.2.2.2.2.1 = s.heap.size → a < s.heap.size → ¬ AA z a := fun z a hz ha hq => by
    have hq : z.2.2.2.2.1 ≤ a := hq
    omega
  have hx1 : x1 < s.heap.size := (Array.getElem?_eq_some_iff.mp e2).1
  exact ⟨x1, vx_Zqof (hts _ (at_tbl (i := 543) (by decide +kernel))) (hts _ (at_tbl (i := 138) (by decide +kernel))) (hs _ (by decide +kernel)) (fun a ha => hA _ a rfl ha), vx_Zqof (hts _ (at_tbl (i := 545) (by decide +kernel))) (hts _ (at_tbl (i := 138) (by decide +kernel))) (hs _ (by decide +kernel)) (fun a ha => hA _ a rfl ha),
    va_Zof (hts _ (at_tbl (i := 205) (by decide +kernel))) (hts _ (at_tbl (i := 132) (by decide +kernel))) e1 (fun a ha => hA _ a rfl ha), ⟨cell, _, e2, e3, e4, hA _ x1 rfl hx1⟩, ext_str hts, ext_cast hg, hX, hb, hA _ b rfl hb, by omega, Nat.le_refl _⟩

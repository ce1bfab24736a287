/-! What is known of the outside at the law's entry. -/
theorem vk_ex {A : Array Value} {U : State} {own tx : String} {k : Nat} (h : (Cond.stringRef own k tx).before A U = true) : ∃ sa : Nat, vk_R own k tx sa U := by
  cases hc : U.vm.findClass own with
  | none => simp [Cond.before, Cond.holds, Cond.value, hc] at h
  | some cur =>
    obtain ⟨k9, cf, i, a, -, -, -, -, -, he⟩ := Cond.stringRef_spec hc h
    exact ⟨a, vk_R.of h he⟩
theorem emp_len {A : Array Value} {s : State} {t : Term} {a : Nat} {cell : Cell} (hv : t.eval A s none [] s = some (.ref a)) (hc : s.heap[a]? = some cell) (hl : (Cond.eq (.length t) (.int 0)).before A s = true) : cell.slots.size = 0 := by
  cases hr : s.arrayAt? a with
  | none => simp [Cond.before, Cond.holds, Cond.value, Term.eval, hv, hr] at hl
  | some cell' =>
    obtain ⟨hc', -⟩ := State.arrayAt?_spec hr
    obtain rfl : cell = cell' := Option.some.inj (hc.symm.trans hc')
    by_cases hn : cell.slots.size < 2 ^ 31
    · have he : (Term.length t).eval A s none [] s = some (.int cell.slots.size.toInt32) := by
        simp [Term.eval, hv, hr, hn]
      have h9 := Cond.eq_ints he (show (Term.int 0).eval A s none [] s = some (.int 0) from rfl)
      have h8 : cell.slots.size.toInt32 = 0 := by simpa [Cond.before, Cond.holds, h9] using hl
      have h7 : Int32.ofNat cell.slots.size ≤ Int32.ofNat 0 := by
        show cell.slots.size.toInt32 ≤ 0
        rw [h8]; decide
      have := (Int32.ofNat_le_ofNat hn (by decide)).mp h7
      omega
    · exfalso
      have he : (Term.length t).eval A s none [] s = none := by
        simp [Term.eval, hv, hr, hn]
      simp [Cond.before, Cond.holds, Cond.value, he] at hl
theorem at_tbl {i : Nat} {w : Cond} (h : lw_tbl[i]? = some w) : w ∈ lw_tbl := List.mem_of_getElem? h
theorem ext_cast {A : Array Value} {s : State} (hg : (Jvm.Cond.and given_1 narrow_1).before A s = true) : ∀ q ∈ SSX.2, va_Nc q.1 q.2 s := by
  have hs := flat_of_before _ hg
  show ∀ q ∈ [("java/lang/IllegalStateException", "java/lang/IndexOutOfBoundsException"), ("java/lang/IllegalStateException", "java/lang/IllegalArgumentException"), ("java/lang/IllegalArgumentException", "java/lang/IndexOutOfBoundsException"), ("java/util/NoSuchElementException", "java/lang/IndexOutOfBoundsException"), ("java/util/NoSuchElementException", "java/lang/IllegalStateException"), ("java/util/NoSuchElementException", "java/lang/IllegalArgumentException")], va_Nc q.1 q.2 s
  exact List.forall_mem_cons.mpr ⟨va_Nc.of (hs (.not (.castable "java/lang/IllegalStateException" "java/lang/IndexOutOfBoundsException")) (by decide +kernel)), List.forall_mem_cons.mpr ⟨va_Nc.of (hs (.not (.castable "java/lang/IllegalStateException" "java/lang/IllegalArgumentException")) (by decide +kernel)), List.forall_mem_cons.mpr ⟨va_Nc.of (hs (.not (.castable "java/lang/IllegalArgumentException" "java/lang/IndexOutOfBoundsException")) (by decide +kernel)), List.forall_mem_cons.mpr ⟨va_Nc.of (hs (.not (.castable "java/util/NoSuchElementException" "java/lang/IndexOutOfBoundsException")) (by decide +kernel)), List.forall_mem_cons.mpr ⟨va_Nc.of (hs (.not (.castable "java/util/NoSuchElementException" "java/lang/IllegalStateException")) (by decide +kernel)), List.forall_mem_cons.mpr ⟨va_Nc.of (hs (.not (.castable "java/util/NoSuchElementException" "java/lang/IllegalArgumentException")) (by decide +kernel)), (fun _ h => absurd h List.not_mem_nil)⟩⟩⟩⟩⟩⟩
theorem ext_emp {A : Array Value} {s : State} (hg : (Jvm.Cond.and given_1 narrow_1).before A s = true) : ∃ (x1 : Nat) (cell : Cell), (Term.static "java/util/ArrayList" "DEFAULTCAPACITY_EMPTY_ELEMENTDATA" "[Ljava/lang/Object;").eval A s none [] s = some (.ref x1) ∧ s.heap[x1]? = some cell ∧ s.isArrayOf cell (.object "java/lang/Object") ∧ cell.slots.size = 0 := by
  have hs := flat_of_before _ hg
  have ha : (Cond.arrayOf (.static "java/util/ArrayList" "DEFAULTCAPACITY_EMPTY_ELEMENTDATA" "[Ljava/lang/Object;") (.object "java/lang/Object")).before A s = true := hs _ (by decide +kernel)
  have hl : (Cond.eq (.length (.static "java/util/ArrayList" "DEFAULTCAPACITY_EMPTY_ELEMENTDATA" "[Ljava/lang/Object;")) (.int 0)).before A s = true := hs _ (by decide +kernel)
  cases hv : (Term.static "java/util/ArrayList" "DEFAULTCAPACITY_EMPTY_ELEMENTDATA" "[Ljava/lang/Object;").eval A s none [] s with
  | none => simp [Cond.before, Cond.holds, Cond.value, hv] at ha
  | some w =>
    cases w with
    | ref a =>
      cases hc : s.heap[a]? with
      | none => simp [Cond.before, Cond.holds, Cond.value, hv, hc] at ha
      | some cell =>
        refine ⟨a, cell, rfl, hc, (Cond.arrayOf_spec ha hv hc).1, ?_⟩
        exact emp_len hv hc hl
    | _ => simp [Cond.before, Cond.holds, Cond.value, hv] at ha
/-- what the statement says of a literal -/
def litCs (own : String) (k : Nat) (by9 : List Int32) : List Cond := [.exactly (.string own k) "java/lang/String", .eq (.field (.string own k) "java/lang/String" "coder" "B") (.int 0), .arrayOf (.field (.string own k) "java/lang/String" "value" "[B") .byte, .eq (.length (.field (.string own k) "java/lang/String" "value" "[B")) (.int (Int32.ofNat by9.length))] ++ (List.range by9.length).map (fun j => .eq (.elem (.field (.string own k) "java/lang/String" "value" "[B") (.int (Int32.ofNat j))) (.int (by9.getD j 0)))
theorem lit_of {A : Array Value} {s : State} {own tx : String} {k : Nat} {by9 : List Int32} {Q : Nat → Prop} (hr : (Cond.stringRef own k tx).before A s = true) (hN : by9.length < 2 ^ 31) (hc : ∀ w ∈ litCs own k by9, w.before A s = true) (hcs : va_Z "java/lang/String" "COMPACT_STRINGS" "Z" (.int 1) Q s s.heap) (hfm : ∃ fm : Value, fm.isRef = true ∧ va_Z "jdk/internal/util/Preconditions" "SIOOBE_FORMATTER" "Ljava/util/function/BiFunction;" fm Q s s.heap) (hQ : ∀ a : Nat, a < s.heap.size → ¬ Q a) : ∃ sa : Nat, vk_R own k tx sa s ∧ LitA by9 sa Q s s.heap := by
  have hex : (Cond.exactly (.string own k) "java/lang/String").before A s = true := hc _ (List.mem_append_left _ (List.mem_cons_self))
  have hco : (Cond.eq (.field (.string own k) "java/lang/String" "coder" "B") (.int 0)).before A s = true := hc _ (List.mem_append_left _ (List.mem_cons_of_mem _ List.mem_cons_self))
  have har : (Cond.arrayOf (.field (.string own k) "java/lang/String" "value" "[B") .byte).before A s = true := hc _ (List.mem_append_left _ (List.mem_cons_of_mem _ (List.mem_cons_of_mem _ List.mem_cons_self)))
  have hle : (Cond.eq (.length (.field (.string own k) "java/lang/String" "value" "[B")) (.int (Int32.ofNat by9.length))).before A s = true := hc _ (List.mem_append_left _ (List.mem_cons_of_mem _ (List.mem_cons_of_mem _ (List.mem_cons_of_mem _ List.mem_cons_self))))
  have hel : ∀ j : Nat, j < by9.length → (Cond.eq (.elem (.field (.string own k) "java/lang/String" "value" "[B") (.int (Int32.ofNat j))) (.int (by9.getD j 0))).before A s = true := fun j hj => hc _ (List.mem_append_right _ (List.mem_map.mpr ⟨j, List.mem_range.mpr hj, rfl⟩))
  obtain ⟨a, c, cA, kA, q1, q2, q3, q4, q5, q6, -⟩ := Cond.exactly_spec (args := A) (first := s) (o := none) (s := s) (idx := []) (t := .string own k) (cls := "java/lang/String") hex
  obtain ⟨t, ht, hT⟩ := va_Tof (f := fun j => .int (by9.getD j 0)) (A := Q) hN har (va_eqt hle) (fun j hj => va_eqt (hel j hj)) hQ
  have hv := va_eqt hco
  rw [va_fe q1] at ht hv
  refine ⟨a, vk_R.of hr q1, ⟨va_Oof hex q1 hQ, ?_⟩, ⟨t, ht, hT⟩, hv, hcs, hfm⟩
  have h1 : (Term.arg 0).eval #[.ref a] s none [] s = some (.ref a) := rfl
  show (Cond.exactly (.arg 0) "java/lang/String").before #[.ref a] s = true
  simp only [Cond.before, Cond.holds, Cond.value, q1, h1] at hex ⊢
  exact hex
theorem ext_lit_0 {A : Array Value} {s : State} {Q : Nat → Prop} (hts : ∀ w ∈ lw_tbl, w.before A s = true) (hg : (Jvm.Cond.and given_1 narrow_1).before A s = true) (hcs : va_Z "java/lang/String" "COMPACT_STRINGS" "Z" (.int 1) Q s s.heap) (hfm : ∃ fm : Value, fm.isRef = true ∧ va_Z "jdk/internal/util/Preconditions" "SIOOBE_FORMATTER" "Ljava/util/function/BiFunction;" fm Q s s.heap) (hQ : ∀ a : Nat, a < s.heap.size → ¬ Q a) : ∃ sa : Nat, vk_R "GridPrices" 76 "the text would be too long" sa s ∧ LitA (LBT.getD 0 []) sa Q s s.heap := by
  have hs := flat_of_before _ hg
  have hm : ∀ w ∈ litCs "GridPrices" 76 (LBT.getD 0 []), w ∈ flatC (Jvm.Cond.and given_1 narrow_1) := by decide +kernel
  exact lit_of (hts _ (at_tbl (i := 558) (w := .stringRef "GridPrices" 76 "the text would be too long") (by decide +kernel))) (by decide +kernel) (fun w hw => hs w (hm w hw)) hcs hfm hQ
theorem ext_lit_1 {A : Array Value} {s : State} {Q : Nat → Prop} (hts : ∀ w ∈ lw_tbl, w.before A s = true) (hg : (Jvm.Cond.and given_1 narrow_1).before A s = true) (hcs : va_Z "java/lang/String" "COMPACT_STRINGS" "Z" (.int 1) Q s s.heap) (hfm : ∃ fm : Value, fm.isRef = true ∧ va_Z "jdk/internal/util/Preconditions" "SIOOBE_FORMATTER" "Ljava/util/function/BiFunction;" fm Q s s.heap) (hQ : ∀ a : Nat, a < s.heap.size → ¬ Q a) : ∃ sa : Nat, vk_R "GridPrices" 341 "no such number" sa s ∧ LitA (LBT.getD 1 []) sa Q s s.heap := by
  have hs := flat_of_before _ hg
  have hm : ∀ w ∈ litCs "GridPrices" 341 (LBT.getD 1 []), w ∈ flatC (Jvm.Cond.and given_1 narrow_1) := by decide +kernel
  exact lit_of (hts _ (at_tbl (i := 816) (w := .stringRef "GridPrices" 341 "no such number") (by decide +kernel))) (by decide +kernel) (fun w hw => hs w (hm w hw)) hcs hfm hQ
theorem ext_lit_2 {A : Array Value} {s : State} {Q : Nat → Prop} (hts : ∀ w ∈ lw_tbl, w.before A s = true) (hg : (Jvm.Cond.and given_1 narrow_1).before A s = true) (hcs : va_Z "java/lang/String" "COMPACT_STRINGS" "Z" (.int 1) Q s s.heap) (hfm : ∃ fm : Value, fm.isRef = true ∧ va_Z "jdk/internal/util/Preconditions" "SIOOBE_FORMATTER" "Ljava/util/function/BiFunction;" fm Q s s.heap) (hQ : ∀ a : Nat, a < s.heap.size → ¬ Q a) : ∃ sa : Nat, vk_R "GridPrices" 351 "there is no outage" sa s ∧ LitA (LBT.getD 2 []) sa Q s s.heap := by
  have hs := flat_of_before _ hg
  have hm : ∀ w ∈ litCs "GridPrices" 351 (LBT.getD 2 []), w ∈ flatC (Jvm.Cond.and given_1 narrow_1) := by decide +kernel
  exact lit_of (hts _ (at_tbl (i := 1065) (w := .stringRef "GridPrices" 351 "there is no outage") (by decide +kernel))) (by decide +kernel) (fun w hw => hs w (hm w hw)) hcs hfm hQ
theorem ext_lit_3 {A : Array Value} {s : State} {Q : Nat → Prop} (hts : ∀ w ∈ lw_tbl, w.before A s = true) (hg : (Jvm.Cond.and given_1 narrow_1).before A s = true) (hcs : va_Z "java/lang/String" "COMPACT_STRINGS" "Z" (.int 1) Q s s.heap) (hfm : ∃ fm : Value, fm.isRef = true ∧ va_Z "jdk/internal/util/Preconditions" "SIOOBE_FORMATTER" "Ljava/util/function/BiFunction;" fm Q s s.heap) (hQ : ∀ a : Nat, a < s.heap.size → ¬ Q a) : ∃ sa : Nat, vk_R "GridPrices" 343 "the value is out of range" sa s ∧ LitA (LBT.getD 3 []) sa Q s s.heap := by
  have hs := flat_of_before _ hg
  have hm : ∀ w ∈ litCs "GridPrices" 343 (LBT.getD 3 []), w ∈ flatC (Jvm.Cond.and given_1 narrow_1) := by decide +kernel
  exact lit_of (hts _ (at_tbl (i := 853) (w := .stringRef "GridPrices" 343 "the value is out of range") (by decide +kernel))) (by decide +kernel) (fun w hw => hs w (hm w hw)) hcs hfm hQ
theorem ext_lit_4 {A : Array Value} {s : State} {Q : Nat → Prop} (hts : ∀ w ∈ lw_tbl, w.before A s = true) (hg : (Jvm.Cond.and given_1 narrow_1).before A s = true) (hcs : va_Z "java/lang/String" "COMPACT_STRINGS" "Z" (.int 1) Q s s.heap) (hfm : ∃ fm : Value, fm.isRef = true ∧ va_Z "jdk/internal/util/Preconditions" "SIOOBE_FORMATTER" "Ljava/util/function/BiFunction;" fm Q s s.heap) (hQ : ∀ a : Nat, a < s.heap.size → ¬ Q a) : ∃ sa : Nat, vk_R "GridPrices" 349 "the other lines do not connect all nodes" sa s ∧ LitA (LBT.getD 4 []) sa Q s s.heap := by
  have hs := flat_of_before _ hg
  have hm : ∀ w ∈ litCs "GridPrices" 349 (LBT.getD 4 []), w ∈ flatC (Jvm.Cond.and given_1 narrow_1) := by decide +kernel
  exact lit_of (hts _ (at_tbl (i := 998) (w := .stringRef "GridPrices" 349 "the other lines do not connect all nodes") (by decide +kernel))) (by decide +kernel) (fun w hw => hs w (hm w hw)) hcs hfm hQ
theorem ext_lit_5 {A : Array Value} {s : State} {Q : Nat → Prop} (hts : ∀ w ∈ lw_tbl, w.before A s = true) (hg : (Jvm.Cond.and given_1 narrow_1).before A s = true) (hcs : va_Z "java/lang/String" "COMPACT_STRINGS" "Z" (.int 1) Q s s.heap) (hfm : ∃ fm : Value, fm.isRef = true ∧ va_Z "jdk/internal/util/Preconditions" "SIOOBE_FORMATTER" "Ljava/util/function/BiFunction;" fm Q s s.heap) (hQ : ∀ a : Nat, a < s.heap.size → ¬ Q a) : ∃ sa : Nat, vk_R "GridPrices" 117 "what is out of range" sa s ∧ LitA (LBT.getD 5 []) sa Q s s.heap := by
  have hs := flat_of_before _ hg
  have hm : ∀ w ∈ litCs "GridPrices" 117 (LBT.getD 5 []), w ∈ flatC (Jvm.Cond.and given_1 narrow_1) := by decide +kernel
  exact lit_of (hts _ (at_tbl (i := 800) (w := .stringRef "GridPrices" 117 "what is out of range") (by decide +kernel))) (by decide +kernel) (fun w hw => hs w (hm w hw)) hcs hfm hQ
theorem ext_lit_6 {A : Array Value} {s : State} {Q : Nat → Prop} (hts : ∀ w ∈ lw_tbl, w.before A s = true) (hg : (Jvm.Cond.and given_1 narrow_1).before A s = true) (hcs : va_Z "java/lang/String" "COMPACT_STRINGS" "Z" (.int 1) Q s s.heap) (hfm : ∃ fm : Value, fm.isRef = true ∧ va_Z "jdk/internal/util/Preconditions" "SIOOBE_FORMATTER" "Ljava/util/function/BiFunction;" fm Q s s.heap) (hQ : ∀ a : Nat, a < s.heap.size → ¬ Q a) : ∃ sa : Nat, vk_R "GridPrices" 415 "the interval is infeasible" sa s ∧ LitA (LBT.getD 6 []) sa Q s s.heap := by
  have hs := flat_of_before _ hg
  have hm : ∀ w ∈ litCs "GridPrices" 415 (LBT.getD 6 []), w ∈ flatC (Jvm.Cond.and given_1 narrow_1) := by decide +kernel
  exact lit_of (hts _ (at_tbl (i := 1213) (w := .stringRef "GridPrices" 415 "the interval is infeasible") (by decide +kernel))) (by decide +kernel) (fun w hw => hs w (hm w hw)) hcs hfm hQ
theorem ext_lit_7 {A : Array Value} {s : State} {Q : Nat → Prop} (hts : ∀ w ∈ lw_tbl, w.before A s = true) (hg : (Jvm.Cond.and given_1 narrow_1).before A s = true) (hcs : va_Z "java/lang/String" "COMPACT_STRINGS" "Z" (.int 1) Q s s.heap) (hfm : ∃ fm : Value, fm.isRef = true ∧ va_Z "jdk/internal/util/Preconditions" "SIOOBE_FORMATTER" "Ljava/util/function/BiFunction;" fm Q s s.heap) (hQ : ∀ a : Nat, a < s.heap.size → ¬ Q a) : ∃ sa : Nat, vk_R "GridPrices" 292 "all demands are 0" sa s ∧ LitA (LBT.getD 7 []) sa Q s s.heap := by
  have hs := flat_of_before _ hg
  have hm : ∀ w ∈ litCs "GridPrices" 292 (LBT.getD 7 []), w ∈ flatC (Jvm.Cond.and given_1 narrow_1) := by decide +kernel
  exact lit_of (hts _ (at_tbl (i := 1333) (w := .stringRef "GridPrices" 292 "all demands are 0") (by decide +kernel))) (by decide +kernel) (fun w hw => hs w (hm w hw)) hcs hfm hQ
theorem ext_lit_8 {A : Array Value} {s : State} {Q : Nat → Prop} (hts : ∀ w ∈ lw_tbl, w.before A s = true) (hg : (Jvm.Cond.and given_1 narrow_1).before A s = true) (hcs : va_Z "java/lang/String" "COMPACT_STRINGS" "Z" (.int 1) Q s s.heap) (hfm : ∃ fm : Value, fm.isRef = true ∧ va_Z "jdk/internal/util/Preconditions" "SIOOBE_FORMATTER" "Ljava/util/function/BiFunction;" fm Q s s.heap) (hQ : ∀ a : Nat, a < s.heap.size → ¬ Q a) : ∃ sa : Nat, vk_R "GridPrices" 427 "the node has no price" sa s ∧ LitA (LBT.getD 8 []) sa Q s s.heap := by
  have hs := flat_of_before _ hg
  have hm : ∀ w ∈ litCs "GridPrices" 427 (LBT.getD 8 []), w ∈ flatC (Jvm.Cond.and given_1 narrow_1) := by decide +kernel
  exact lit_of (hts _ (at_tbl (i := 1319) (w := .stringRef "GridPrices" 427 "the node has no price") (by decide +kernel))) (by decide +kernel) (fun w hw => hs w (hm w hw)) hcs hfm hQ
theorem ext_lit_9 {A : Array Value} {s : State} {Q : Nat → Prop} (hts : ∀ w ∈ lw_tbl, w.before A s = true) (hg : (Jvm.Cond.and given_1 narrow_1).before A s = true) (hcs : va_Z "java/lang/String" "COMPACT_STRINGS" "Z" (.int 1) Q s s.heap) (hfm : ∃ fm : Value, fm.isRef = true ∧ va_Z "jdk/internal/util/Preconditions" "SIOOBE_FORMATTER" "Ljava/util/function/BiFunction;" fm Q s s.heap) (hQ : ∀ a : Nat, a < s.heap.size → ¬ Q a) : ∃ sa : Nat, vk_R "GridPrices" 216 "the nodes are the same" sa s ∧ LitA (LBT.getD 9 []) sa Q s s.heap := by
  have hs := flat_of_before _ hg
  have hm : ∀ w ∈ litCs "GridPrices" 216 (LBT.getD 9 []), w ∈ flatC (Jvm.Cond.and given_1 narrow_1) := by decide +kernel
  exact lit_of (hts _ (at_tbl (i := 1073) (w := .stringRef "GridPrices" 216 "the nodes are the same") (by decide +kernel))) (by decide +kernel) (fun w hw => hs w (hm w hw)) hcs hfm hQ
theorem ext_lit_10 {A : Array Value} {s : State} {Q : Nat → Prop} (hts : ∀ w ∈ lw_tbl, w.before A s = true) (hg : (Jvm.Cond.and given_1 narrow_1).before A s = true) (hcs : va_Z "java/lang/String" "COMPACT_STRINGS" "Z" (.int 1) Q s s.heap) (hfm : ∃ fm : Value, fm.isRef = true ∧ va_Z "jdk/internal/util/Preconditions" "SIOOBE_FORMATTER" "Ljava/util/function/BiFunction;" fm Q s s.heap) (hQ : ∀ a : Nat, a < s.heap.size → ¬ Q a) : ∃ sa : Nat, vk_R "GridPrices" 87 "no such length" sa s ∧ LitA (LBT.getD 10 []) sa Q s s.heap := by
  have hs := flat_of_before _ hg
  have hm : ∀ w ∈ litCs "GridPrices" 87 (LBT.getD 10 []), w ∈ flatC (Jvm.Cond.and given_1 narrow_1) := by decide +kernel
  exact lit_of (hts _ (at_tbl (i := 605) (w := .stringRef "GridPrices" 87 "no such length") (by decide +kernel))) (by decide +kernel) (fun w hw => hs w (hm w hw)) hcs hfm hQ
theorem ext_lit_11 {A : Array Value} {s : State} {Q : Nat → Prop} (hts : ∀ w ∈ lw_tbl, w.before A s = true) (hg : (Jvm.Cond.and given_1 narrow_1).before A s = true) (hcs : va_Z "java/lang/String" "COMPACT_STRINGS" "Z" (.int 1) Q s s.heap) (hfm : ∃ fm : Value, fm.isRef = true ∧ va_Z "jdk/internal/util/Preconditions" "SIOOBE_FORMATTER" "Ljava/util/function/BiFunction;" fm Q s s.heap) (hQ : ∀ a : Nat, a < s.heap.size → ¬ Q a) : ∃ sa : Nat, vk_R "GridPrices" 187 "no change can be undone" sa s ∧ LitA (LBT.getD 11 []) sa Q s s.heap := by
  have hs := flat_of_before _ hg
  have hm : ∀ w ∈ litCs "GridPrices" 187 (LBT.getD 11 []), w ∈ flatC (Jvm.Cond.and given_1 narrow_1) := by decide +kernel
  exact lit_of (hts _ (at_tbl (i := 1010) (w := .stringRef "GridPrices" 187 "no change can be undone") (by decide +kernel))) (by decide +kernel) (fun w hw => hs w (hm w hw)) hcs hfm hQ
theorem ext_lit_12 {A : Array Value} {s : State} {Q : Nat → Prop} (hts : ∀ w ∈ lw_tbl, w.before A s = true) (hg : (Jvm.Cond.and given_1 narrow_1).before A s = true) (hcs : va_Z "java/lang/String" "COMPACT_STRINGS" "Z" (.int 1) Q s s.heap) (hfm : ∃ fm : Value, fm.isRef = true ∧ va_Z "jdk/internal/util/Preconditions" "SIOOBE_FORMATTER" "Ljava/util/function/BiFunction;" fm Q s s.heap) (hQ : ∀ a : Nat, a < s.heap.size → ¬ Q a) : ∃ sa : Nat, vk_R "GridPrices$Reader" 138 "generator" sa s ∧ LitA (LBT.getD 12 []) sa Q s s.heap := by
  have hs := flat_of_before _ hg
  have hm : ∀ w ∈ litCs "GridPrices$Reader" 138 (LBT.getD 12 []), w ∈ flatC (Jvm.Cond.and given_1 narrow_1) := by decide +kernel
  exact lit_of (hts _ (at_tbl (i := 751) (w := .stringRef "GridPrices$Reader" 138 "generator") (by decide +kernel))) (by decide +kernel) (fun w hw => hs w (hm w hw)) hcs hfm hQ
theorem ext_lit_13 {A : Array Value} {s : State} {Q : Nat → Prop} (hts : ∀ w ∈ lw_tbl, w.before A s = true) (hg : (Jvm.Cond.and given_1 narrow_1).before A s = true) (hcs : va_Z "java/lang/String" "COMPACT_STRINGS" "Z" (.int 1) Q s s.heap) (hfm : ∃ fm : Value, fm.isRef = true ∧ va_Z "jdk/internal/util/Preconditions" "SIOOBE_FORMATTER" "Ljava/util/function/BiFunction;" fm Q s s.heap) (hQ : ∀ a : Nat, a < s.heap.size → ¬ Q a) : ∃ sa : Nat, vk_R "GridPrices$Reader" 140 "demand" sa s ∧ LitA (LBT.getD 13 []) sa Q s s.heap := by
  have hs := flat_of_before _ hg
  have hm : ∀ w ∈ litCs "GridPrices$Reader" 140 (LBT.getD 13 []), w ∈ flatC (Jvm.Cond.and given_1 narrow_1) := by decide +kernel
  exact lit_of (hts _ (at_tbl (i := 752) (w := .stringRef "GridPrices$Reader" 140 "demand") (by decide +kernel))) (by decide +kernel) (fun w hw => hs w (hm w hw)) hcs hfm hQ
theorem ext_lit_14 {A : Array Value} {s : State} {Q : Nat → Prop} (hts : ∀ w ∈ lw_tbl, w.before A s = true) (hg : (Jvm.Cond.and given_1 narrow_1).before A s = true) (hcs : va_Z "java/lang/String" "COMPACT_STRINGS" "Z" (.int 1) Q s s.heap) (hfm : ∃ fm : Value, fm.isRef = true ∧ va_Z "jdk/internal/util/Preconditions" "SIOOBE_FORMATTER" "Ljava/util/function/BiFunction;" fm Q s s.heap) (hQ : ∀ a : Nat, a < s.heap.size → ¬ Q a) : ∃ sa : Nat, vk_R "GridPrices$Reader" 142 "right" sa s ∧ LitA (LBT.getD 14 []) sa Q s s.heap := by
  have hs := flat_of_before _ hg
  have hm : ∀ w ∈ litCs "GridPrices$Reader" 142 (LBT.getD 14 []), w ∈ flatC (Jvm.Cond.and given_1 narrow_1) := by decide +kernel
  exact lit_of (hts _ (at_tbl (i := 753) (w := .stringRef "GridPrices$Reader" 142 "right") (by decide +kernel))) (by decide +kernel) (fun w hw => hs w (hm w hw)) hcs hfm hQ
theorem ext_lit_15 {A : Array Value} {s : State} {Q : Nat → Prop} (hts : ∀ w ∈ lw_tbl, w.before A s = true) (hg : (Jvm.Cond.and given_1 narrow_1).before A s = true) (hcs : va_Z "java/lang/String" "COMPACT_STRINGS" "Z" (.int 1) Q s s.heap) (hfm : ∃ fm : Value, fm.isRef = true ∧ va_Z "jdk/internal/util/Preconditions" "SIOOBE_FORMATTER" "Ljava/util/function/BiFunction;" fm Q s s.heap) (hQ : ∀ a : Nat, a < s.heap.size → ¬ Q a) : ∃ sa : Nat, vk_R "GridPrices$Reader" 144 "outage" sa s ∧ LitA (LBT.getD 15 []) sa Q s s.heap := by
  have hs := flat_of_before _ hg
  have hm : ∀ w ∈ litCs "GridPrices$Reader" 144 (LBT.getD 15 []), w ∈ flatC (Jvm.Cond.and given_1 narrow_1) := by decide +kernel
  exact lit_of (hts _ (at_tbl (i := 754) (w := .stringRef "GridPrices$Reader" 144 "outage") (by decide +kernel))) (by decide +kernel) (fun w hw => hs w (hm w hw)) hcs hfm hQ
theorem ext_lit_16 {A : Array Value} {s : State} {Q : Nat → Prop} (hts : ∀ w ∈ lw_tbl, w.before A s = true) (hg : (Jvm.Cond.and given_1 narrow_1).before A s = true) (hcs : va_Z "java/lang/String" "COMPACT_STRINGS" "Z" (.int 1) Q s s.heap) (hfm : ∃ fm : Value, fm.isRef = true ∧ va_Z "jdk/internal/util/Preconditions" "SIOOBE_FORMATTER" "Ljava/util/function/BiFunction;" fm Q s s.heap) (hQ : ∀ a : Nat, a < s.heap.size → ¬ Q a) : ∃ sa : Nat, vk_R "GridPrices$Reader" 112 "line" sa s ∧ LitA (LBT.getD 16 []) sa Q s s.heap := by
  have hs := flat_of_before _ hg
  have hm : ∀ w ∈ litCs "GridPrices$Reader" 112 (LBT.getD 16 []), w ∈ flatC (Jvm.Cond.and given_1 narrow_1) := by decide +kernel
  exact lit_of (hts _ (at_tbl (i := 732) (w := .stringRef "GridPrices$Reader" 112 "line") (by decide +kernel))) (by decide +kernel) (fun w hw => hs w (hm w hw)) hcs hfm hQ
theorem ext_lit_17 {A : Array Value} {s : State} {Q : Nat → Prop} (hts : ∀ w ∈ lw_tbl, w.before A s = true) (hg : (Jvm.Cond.and given_1 narrow_1).before A s = true) (hcs : va_Z "java/lang/String" "COMPACT_STRINGS" "Z" (.int 1) Q s s.heap) (hfm : ∃ fm : Value, fm.isRef = true ∧ va_Z "jdk/internal/util/Preconditions" "SIOOBE_FORMATTER" "Ljava/util/function/BiFunction;" fm Q s s.heap) (hQ : ∀ a : Nat, a < s.heap.size → ¬ Q a) : ∃ sa : Nat, vk_R "GridPrices$Reader" 132 "emergency" sa s ∧ LitA (LBT.getD 17 []) sa Q s s.heap := by
  have hs := flat_of_before _ hg
  have hm : ∀ w ∈ litCs "GridPrices$Reader" 132 (LBT.getD 17 []), w ∈ flatC (Jvm.Cond.and given_1 narrow_1) := by decide +kernel
  exact lit_of (hts _ (at_tbl (i := 745) (w := .stringRef "GridPrices$Reader" 132 "emergency") (by decide +kernel))) (by decide +kernel) (fun w hw => hs w (hm w hw)) hcs hfm hQ
theorem ext_lit_18 {A : Array Value} {s : State} {Q : Nat → Prop} (hts : ∀ w ∈ lw_tbl, w.before A s = true) (hg : (Jvm.Cond.and given_1 narrow_1).before A s = true) (hcs : va_Z "java/lang/String" "COMPACT_STRINGS" "Z" (.int 1) Q s s.heap) (hfm : ∃ fm : Value, fm.isRef = true ∧ va_Z "jdk/internal/util/Preconditions" "SIOOBE_FORMATTER" "Ljava/util/function/BiFunction;" fm Q s s.heap) (hQ : ∀ a : Nat, a < s.heap.size → ¬ Q a) : ∃ sa : Nat, vk_R "GridPrices$Reader" 94 "nodes" sa s ∧ LitA (LBT.getD 18 []) sa Q s s.heap := by
  have hs := flat_of_before _ hg
  have hm : ∀ w ∈ litCs "GridPrices$Reader" 94 (LBT.getD 18 []), w ∈ flatC (Jvm.Cond.and given_1 narrow_1) := by decide +kernel
  exact lit_of (hts _ (at_tbl (i := 638) (w := .stringRef "GridPrices$Reader" 94 "nodes") (by decide +kernel))) (by decide +kernel) (fun w hw => hs w (hm w hw)) hcs hfm hQ
theorem ext_lit_19 {A : Array Value} {s : State} {Q : Nat → Prop} (hts : ∀ w ∈ lw_tbl, w.before A s = true) (hg : (Jvm.Cond.and given_1 narrow_1).before A s = true) (hcs : va_Z "java/lang/String" "COMPACT_STRINGS" "Z" (.int 1) Q s s.heap) (hfm : ∃ fm : Value, fm.isRef = true ∧ va_Z "jdk/internal/util/Preconditions" "SIOOBE_FORMATTER" "Ljava/util/function/BiFunction;" fm Q s s.heap) (hQ : ∀ a : Nat, a < s.heap.size → ¬ Q a) : ∃ sa : Nat, vk_R "GridPrices$Reader" 105 "intervals" sa s ∧ LitA (LBT.getD 19 []) sa Q s s.heap := by
  have hs := flat_of_before _ hg
  have hm : ∀ w ∈ litCs "GridPrices$Reader" 105 (LBT.getD 19 []), w ∈ flatC (Jvm.Cond.and given_1 narrow_1) := by decide +kernel
  exact lit_of (hts _ (at_tbl (i := 723) (w := .stringRef "GridPrices$Reader" 105 "intervals") (by decide +kernel))) (by decide +kernel) (fun w hw => hs w (hm w hw)) hcs hfm hQ
theorem ext_lit_20 {A : Array Value} {s : State} {Q : Nat → Prop} (hts : ∀ w ∈ lw_tbl, w.before A s = true) (hg : (Jvm.Cond.and given_1 narrow_1).before A s = true) (hcs : va_Z "java/lang/String" "COMPACT_STRINGS" "Z" (.int 1) Q s s.heap) (hfm : ∃ fm : Value, fm.isRef = true ∧ va_Z "jdk/internal/util/Preconditions" "SIOOBE_FORMATTER" "Ljava/util/function/BiFunction;" fm Q s s.heap) (hQ : ∀ a : Nat, a < s.heap.size → ¬ Q a) : ∃ sa : Nat, vk_R "GridPrices$Reader" 89 "the text has an error" sa s ∧ LitA (LBT.getD 20 []) sa Q s s.heap := by
  have hs := flat_of_before _ hg
  have hm : ∀ w ∈ litCs "GridPrices$Reader" 89 (LBT.getD 20 []), w ∈ flatC (Jvm.Cond.and given_1 narrow_1) := by decide +kernel
  exact lit_of (hts _ (at_tbl (i := 708) (w := .stringRef "GridPrices$Reader" 89 "the text has an error") (by decide +kernel))) (by decide +kernel) (fun w hw => hs w (hm w hw)) hcs hfm hQ
theorem ext_lits {A : Array Value} {s : State} {Q : Nat → Prop} (hts : ∀ w ∈ lw_tbl, w.before A s = true) (hg : (Jvm.Cond.and given_1 narrow_1).before A s = true) (hQ : ∀ a : Nat, a < s.heap.size → ¬ Q a) : ∃ ad : Nat → Nat, ∀ (i : Nat) (q : String × Nat × String), SSX.1[i]? = some q → vk_R q.1 q.2.1 q.2.2 (ad i) s ∧ LitA (LBT.getD i []) (ad i) Q s s.heap := by
  have hs := flat_of_before _ hg
  have hcs : va_Z "java/lang/String" "COMPACT_STRINGS" "Z" (.int 1) Q s s.heap := va_Zof (hts _ (at_tbl (i := 656) (by decide +kernel))) (hts _ (at_tbl (i := 143) (by decide +kernel))) (va_eqt (hs (Cond.eq (.static "java/lang/String" "COMPACT_STRINGS" "Z") (.int 1)) (by decide +kernel))) hQ
  have hfm : ∃ fm : Value, fm.isRef = true ∧ va_Z "jdk/internal/util/Preconditions" "SIOOBE_FORMATTER" "Ljava/util/function/BiFunction;" fm Q s s.heap := by
    have h := hs (Cond.isRef (.static "jdk/internal/util/Preconditions" "SIOOBE_FORMATTER" "Ljava/util/function/BiFunction;")) (by decide +kernel)
    obtain ⟨v, hv, hr⟩ := Cond.isRef_spec (args := A) (first := s) (o := none) (s := s) (idx := []) h
    exact ⟨v, hr, va_Zof (hts _ (at_tbl (i := 672) (by decide +kernel))) (hts _ (at_tbl (i := 145) (by decide +kernel))) hv hQ⟩
  have h0 : ∀ i : Nat, ∃ sa : Nat, ∀ q : String × Nat × String, SSX.1[i]? = some q → vk_R q.1 q.2.1 q.2.2 sa s ∧ LitA (LBT.getD i []) sa Q s s.heap := by
    intro i
    match i with
    | 0 => obtain ⟨sa, h1, h2⟩ := ext_lit_0 hts hg hcs hfm hQ; exact ⟨sa, fun q hq => by obtain rfl := Option.some.inj hq; exact ⟨h1, h2⟩⟩
    | 1 => obtain ⟨sa, h1, h2⟩ := ext_lit_1 hts hg hcs hfm hQ; exact ⟨sa, fun q hq => by obtain rfl := Option.some.inj hq; exact ⟨h1, h2⟩⟩
    | 2 => obtain ⟨sa, h1, h2⟩ := ext_lit_2 hts hg hcs hfm hQ; exact ⟨sa, fun q hq => by obtain rfl := Option.some.inj hq; exact ⟨h1, h2⟩⟩
    | 3 => obtain ⟨sa, h1, h2⟩ := ext_lit_3 hts hg hcs hfm hQ; exact ⟨sa, fun q hq => by obtain rfl := Option.some.inj hq; exact ⟨h1, h2⟩⟩
    | 4 => obtain ⟨sa, h1, h2⟩ := ext_lit_4 hts hg hcs hfm hQ; exact ⟨sa, fun q hq => by obtain rfl := Option.some.inj hq; exact ⟨h1, h2⟩⟩
    | 5 => obtain ⟨sa, h1, h2⟩ := ext_lit_5 hts hg hcs hfm hQ; exact ⟨sa, fun q hq => by obtain rfl := Option.some.inj hq; exact ⟨h1, h2⟩⟩
    | 6 => obtain ⟨sa, h1, h2⟩ := ext_lit_6 hts hg hcs hfm hQ; exact ⟨sa, fun q hq => by obtain rfl := Option.some.inj hq; exact ⟨h1, h2⟩⟩
    | 7 => obtain ⟨sa, h1, h2⟩ := ext_lit_7 hts hg hcs hfm hQ; exact ⟨sa, fun q hq => by obtain rfl := Option.some.inj hq; exact ⟨h1, h2⟩⟩
    | 8 => obtain ⟨sa, h1, h2⟩ := ext_lit_8 hts hg hcs hfm hQ; exact ⟨sa, fun q hq => by obtain rfl := Option.some.inj hq; exact ⟨h1, h2⟩⟩
    | 9 => obtain ⟨sa, h1, h2⟩ := ext_lit_9 hts hg hcs hfm hQ; exact ⟨sa, fun q hq => by obtain rfl := Option.some.inj hq; exact ⟨h1, h2⟩⟩
    | 10 => obtain ⟨sa, h1, h2⟩ := ext_lit_10 hts hg hcs hfm hQ; exact ⟨sa, fun q hq => by obtain rfl := Option.some.inj hq; exact ⟨h1, h2⟩⟩
    | 11 => obtain ⟨sa, h1, h2⟩ := ext_lit_11 hts hg hcs hfm hQ; exact ⟨sa, fun q hq => by obtain rfl := Option.some.inj hq; exact ⟨h1, h2⟩⟩
    | 12 => obtain ⟨sa, h1, h2⟩ := ext_lit_12 hts hg hcs hfm hQ; exact ⟨sa, fun q hq => by obtain rfl := Option.some.inj hq; exact ⟨h1, h2⟩⟩
    | 13 => obtain ⟨sa, h1, h2⟩ := ext_lit_13 hts hg hcs hfm hQ; exact ⟨sa, fun q hq => by obtain rfl := Option.some.inj hq; exact ⟨h1, h2⟩⟩
    | 14 => obtain ⟨sa, h1, h2⟩ := ext_lit_14 hts hg hcs hfm hQ; exact ⟨sa, fun q hq => by obtain rfl := Option.some.inj hq; exact ⟨h1, h2⟩⟩
    | 15 => obtain ⟨sa, h1, h2⟩ := ext_lit_15 hts hg hcs hfm hQ; exact ⟨sa, fun q hq => by obtain rfl := Option.some.inj hq; exact ⟨h1, h2⟩⟩
    | 16 => obtain ⟨sa, h1, h2⟩ := ext_lit_16 hts hg hcs hfm hQ; exact ⟨sa, fun q hq => by obtain rfl := Option.some.inj hq; exact ⟨h1, h2⟩⟩
    | 17 => obtain ⟨sa, h1, h2⟩ := ext_lit_17 hts hg hcs hfm hQ; exact ⟨sa, fun q hq => by obtain rfl := Option.some.inj hq; exact ⟨h1, h2⟩⟩
    | 18 => obtain ⟨sa, h1, h2⟩ := ext_lit_18 hts hg hcs hfm hQ; exact ⟨sa, fun q hq => by obtain rfl := Option.some.inj hq; exact ⟨h1, h2⟩⟩
    | 19 => obtain ⟨sa, h1, h2⟩ := ext_lit_19 hts hg hcs hfm hQ; exact ⟨sa, fun q hq => by obtain rfl := Option.some.inj hq; exact ⟨h1, h2⟩⟩
    | 20 => obtain ⟨sa, h1, h2⟩ := ext_lit_20 hts hg hcs hfm hQ; exact ⟨sa, fun q hq => by obtain rfl := Option.some.inj hq; exact ⟨h1, h2⟩⟩
    | n + 21 => exact ⟨0, fun q hq => by cases hq⟩
  obtain ⟨ad, had⟩ := Classical.axiomOfChoice h0
  exact ⟨ad, had⟩
theorem va_K_ad {D : va_G} {tys : List (ClassId × FieldType)} {s : State} (h : va_K D CLS tys s) (ad : Nat → Nat) : va_K (D.1, fun c => if c = 1000 then ad else D.2 c) CLS tys s := ⟨fun c q hq => by
  have hc : c ≠ 1000 := fun z => by subst z; cases hq
  show u_Kn s q.1 q.2.1 q.2.2 (D.1 c) (if c = 1000 then ad else D.2 c)
  rw [if_neg hc]
  exact h.1 c q hq, h.2⟩
theorem ext_of {s : State} {b L : Nat} {xs : Nat → Int32} (hts : ∀ w ∈ lw_tbl, w.before #[Value.ref b] s = true) (hX : va_X b L xs s s.heap) (hb : b < s.heap.size) (hg : (Jvm.Cond.and given_1 narrow_1).before #[Value.ref b] s = true) (hL : L ≤ 3072) (D : va_G) (tys : List (ClassId × FieldType)) : ∃ (x1 : Nat) (ad : Nat → Nat), Ext SSX ((D.1, fun c => if c = 1000 then ad else D.2 c), tys, x1, b, s.heap.size, []) L xs s s.heap := by
  have hs := flat_of_before _ hg
  obtain ⟨x1, cell, e1, e2, e3, e4⟩ := ext_emp hg
  have hA : ∀ (z : GG) (a : Nat), z.2.2.2.2.1 = s.heap.size → a < s.heap.size → ¬ AA z a := fun z a hz ha hq => by
    have hq : z.2.2.2.2.1 ≤ a := hq
    omega
  have hx1 : x1 < s.heap.size := (Array.getElem?_eq_some_iff.mp e2).1
  obtain ⟨ad, had⟩ := ext_lits (Q := fun a => s.heap.size ≤ a) hts hg (fun a ha hq => by omega)
  exact ⟨x1, ad, vx_Zqof (hts _ (at_tbl (i := 543) (by decide +kernel))) (hts _ (at_tbl (i := 138) (by decide +kernel))) (hs _ (by decide +kernel)) (fun a ha => hA _ a rfl ha), vx_Zqof (hts _ (at_tbl (i := 545) (by decide +kernel))) (hts _ (at_tbl (i := 138) (by decide +kernel))) (hs _ (by decide +kernel)) (fun a ha => hA _ a rfl ha),
    va_Zof (hts _ (at_tbl (i := 205) (by decide +kernel))) (hts _ (at_tbl (i := 132) (by decide +kernel))) e1 (fun a ha => hA _ a rfl ha), ⟨cell, _, e2, e3, e4, hA _ x1 rfl hx1⟩, fun i q hq => had i q hq, ext_cast hg, hX, hb, hA _ b rfl hb, by omega, Nat.le_refl _⟩

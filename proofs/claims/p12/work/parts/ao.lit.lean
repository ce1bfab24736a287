/-! String literals: length and charAt of the library over them. -/
theorem tw_143 : (Cond.initialized "java/lang/String") ∈ TBL := isw_t (i := 143) (by decide +kernel)
theorem tw_144 : (Cond.initialized "java/lang/StringLatin1") ∈ TBL := isw_t (i := 144) (by decide +kernel)
theorem tw_145 : (Cond.initialized "jdk/internal/util/Preconditions") ∈ TBL := isw_t (i := 145) (by decide +kernel)
theorem tw_648 : (Cond.instanceMethod Lib.Str.length.name) ∈ TBL := isw_t (i := 648) (by decide +kernel)
theorem tw_649 : (Cond.selects "java/lang/String" Lib.Str.length.name Lib.Str.length.name) ∈ TBL := isw_t (i := 649) (by decide +kernel)
theorem tw_650 : (Cond.code Lib.Str.length.name Lib.String.length.code 1 (some .int)) ∈ TBL := isw_t (i := 650) (by decide +kernel)
theorem tw_651 : (Cond.methodLink "java/lang/String" 335 Lib.String.coder.name) ∈ TBL := isw_t (i := 651) (by decide +kernel)
theorem tw_652 : (Cond.instanceMethod Lib.String.coder.name) ∈ TBL := isw_t (i := 652) (by decide +kernel)
theorem tw_653 : (Cond.selects "java/lang/String" Lib.String.coder.name Lib.String.coder.name) ∈ TBL := isw_t (i := 653) (by decide +kernel)
theorem tw_654 : (Cond.code Lib.String.coder.name Lib.String.coder.code 1 (some .byte)) ∈ TBL := isw_t (i := 654) (by decide +kernel)
theorem tw_655 : (Cond.fieldLink "java/lang/String" 38 "java/lang/String" "COMPACT_STRINGS" "Z") ∈ TBL := isw_t (i := 655) (by decide +kernel)
theorem tw_658 : (Cond.instanceMethod Lib.Str.charAt.name) ∈ TBL := isw_t (i := 658) (by decide +kernel)
theorem tw_659 : (Cond.selects "java/lang/String" Lib.Str.charAt.name Lib.Str.charAt.name) ∈ TBL := isw_t (i := 659) (by decide +kernel)
theorem tw_660 : (Cond.code Lib.Str.charAt.name Lib.Str.charAt.code 2 (some .char)) ∈ TBL := isw_t (i := 660) (by decide +kernel)
theorem tw_661 : (Cond.methodLink "java/lang/String" 492 Lib.Str.isLatin1.name) ∈ TBL := isw_t (i := 661) (by decide +kernel)
theorem tw_662 : (Cond.instanceMethod Lib.Str.isLatin1.name) ∈ TBL := isw_t (i := 662) (by decide +kernel)
theorem tw_663 : (Cond.selects "java/lang/String" Lib.Str.isLatin1.name Lib.Str.isLatin1.name) ∈ TBL := isw_t (i := 663) (by decide +kernel)
theorem tw_664 : (Cond.code Lib.Str.isLatin1.name Lib.String.isLatin1.code 1 (some .boolean)) ∈ TBL := isw_t (i := 664) (by decide +kernel)
theorem tw_665 : (Cond.methodLink "java/lang/String" 495 Lib.SL1.charAt.name) ∈ TBL := isw_t (i := 665) (by decide +kernel)
theorem tw_666 : (Cond.static Lib.SL1.charAt.name) ∈ TBL := isw_t (i := 666) (by decide +kernel)
theorem tw_667 : (Cond.code Lib.SL1.charAt.name Lib.SL1.charAt.code 2 (some .char)) ∈ TBL := isw_t (i := 667) (by decide +kernel)
theorem tw_668 : (Cond.methodLink "java/lang/StringLatin1" 9 Lib.Str.checkIndex.name) ∈ TBL := isw_t (i := 668) (by decide +kernel)
theorem tw_669 : (Cond.static Lib.Str.checkIndex.name) ∈ TBL := isw_t (i := 669) (by decide +kernel)
theorem tw_670 : (Cond.code Lib.Str.checkIndex.name Lib.Str.checkIndex.code 2 none) ∈ TBL := isw_t (i := 670) (by decide +kernel)
theorem tw_671 : (Cond.fieldLink "java/lang/String" 1053 "jdk/internal/util/Preconditions" "SIOOBE_FORMATTER" "Ljava/util/function/BiFunction;") ∈ TBL := isw_t (i := 671) (by decide +kernel)
theorem tw_673 : (Cond.methodLink "java/lang/String" 1059 Lib.Preconditions.checkIndex.name) ∈ TBL := isw_t (i := 673) (by decide +kernel)
theorem tw_674 : (Cond.static Lib.Preconditions.checkIndex.name) ∈ TBL := isw_t (i := 674) (by decide +kernel)
theorem tw_675 : (Cond.code Lib.Preconditions.checkIndex.name Lib.Preconditions.checkIndex.code 3 (some .int)) ∈ TBL := isw_t (i := 675) (by decide +kernel)
theorem tw_2060 : (Cond.fieldLink "java/lang/String" 9 "java/lang/String" "value" "[B") ∈ TBL := isw_t (i := 2060) (by decide +kernel)
theorem tw_2061 : (Cond.fieldLink "java/lang/String" 15 "java/lang/String" "coder" "B") ∈ TBL := isw_t (i := 2061) (by decide +kernel)
theorem tw_647 : (Cond.methodLink "GridPrices$Reader" 175 Lib.Str.length.name) ∈ TBL := isw_t (i := 647) (by decide +kernel)
theorem tw_657 : (Cond.methodLink "GridPrices$Reader" 179 Lib.Str.charAt.name) ∈ TBL := isw_t (i := 657) (by decide +kernel)
theorem sig_of {y : MethodName} {by9 : ByteArray} {ml : Nat} {rt : Option FieldType} {s : State} {args : Array Value} (h : (Cond.code y by9 ml rt).before args s = true) : Lib.Cold.Sig s y := by
  obtain ⟨mk, hn⟩ := Cond.code_named h
  obtain ⟨m', c', hm', -, -, -, -, -, -, hs⟩ := Cond.code_spec hn h
  exact ⟨mk, m', hn, hm', hs⟩
theorem dec_of {y : MethodName} {by9 : ByteArray} {ml : Nat} {rt : Option FieldType} {s : State} {args args' : Array Value} (h : (Cond.code y by9 ml rt).before args s = true) (hi : (Cond.instanceMethod y).before args s = true) : (Cond.declares y).before args' s = true := by
  obtain ⟨mk, meth, hn, hm, hst, -⟩ := Cond.instanceMethod_spec hi
  obtain ⟨m', c', hm', -, -, -, -, -, -, hs⟩ := Cond.code_spec hn h
  cases hm.symm.trans hm'
  simp [Cond.before, Cond.holds, Cond.value, hn, hm, hst, hs]
theorem stat_of {s : State} {C n d : String} {v : Value} {A : Nat → Prop} (h : va_Z C n d v A s s.heap) : Lib.Cold.StaticIs s C n d v := by
  obtain ⟨cf, kf, fi, f, a, cell, h1, h2, h3, h4, h5, h6, h7, -⟩ := h
  exact ⟨cf, fi, kf, f, a, cell, h1, h2, h3, h4, h5, (fun z => by rw [z] at h6; cases h6), h7⟩
/-- what a literal's cells hold, at V -/
theorem lit_val {by9 : List Int32} {a : Nat} {A : Nat → Prop} {V : State} (h : LitA by9 a A V V.heap) (as : List Value) : ∃ (d : Nat) (arr : Cell), (Term.field (.arg 0) "java/lang/String" "value" "[B").eval (Value.ref a :: as).toArray V none [] V = some (.ref d) ∧ (Term.field (.arg 0) "java/lang/String" "coder" "B").eval (Value.ref a :: as).toArray V none [] V = some (.int 0) ∧
    V.heap[d]? = some arr ∧ V.isArrayOf arr .byte ∧ arr.vm ≠ .unknown ∧ by9.length ≤ arr.slots.size ∧ arr.slots.size.toInt32 = Int32.ofNat by9.length ∧ ∀ j : Nat, j < by9.length → arr.slots[j]? = some (.int (by9.getD j 0)) := by
  obtain ⟨-, ⟨v, h3, cell, q1, q2, q3, q4, q5, q6, -⟩, h4, -⟩ := h
  refine ⟨v, cell, ?_, ?_, q1, q2, q3, q4, q5, q6⟩
  · rw [va_fe (a := a) (by simp [Term.eval])]; exact h3
  · rw [va_fe (a := a) (by simp [Term.eval])]; exact h4
theorem lit_cod {by9 : List Int32} {a : Nat} {A : Nat → Prop} {V : State} (h : LitA by9 a A V V.heap) : (Term.field (.arg 0) "java/lang/String" "coder" "B").eval #[.ref a] V none [] V = some (.int 0) := by
  rw [va_fe (a := a) (by simp [Term.eval])]; exact h.2.2.1
theorem ex_args {a : Nat} {as : List Value} {C : String} {V : State} : (Cond.exactly (.arg 0) C).before (Value.ref a :: as).toArray V = (Cond.exactly (.arg 0) C).before #[.ref a] V := by
  simp [Cond.before, Cond.holds, Cond.value, Term.eval]
theorem sb_heap {s t : State} (h : s.sameBut ({ t with vm := s.vm } : State) []) : t.heap = s.heap := by
  obtain ⟨-, h2, h3⟩ := h
  have h2 : t.heap.size = s.heap.size := h2
  apply Array.ext_getElem?
  intro i
  cases hc : s.heap[i]? with
  | none =>
    have := Array.getElem?_eq_none_iff.mp hc
    exact Array.getElem?_eq_none_iff.mpr (by omega)
  | some c =>
    obtain ⟨c', e1, e2, e3, e4⟩ := h3 i c hc
    have e1 : t.heap[i]? = some c' := e1
    rw [e1]
    have : c'.slots = c.slots := Array.ext_getElem? fun j => e4 j (by simp)
    rw [this] at e2
    rw [e2]
section LITB
variable {l : Launch} {R : Room} {p : Program} {e : Env} {below : List Frame} {s : State} {sargs : Array Value} {W ad : Nat} {by9 : List Int32} {A9 : Nat → Prop}
def LPre (R : Room) (by9 : List Int32) (ad : Nat) (A9 : Nat → Prop) (a9 : Array Value) : Free.Pt → Array Value → Prop := fun A a => A.cells ≤ R.cells ∧ A.slots ≤ R.slots ∧ a = a9 ∧ LitA by9 ad A9 A.U A.U.heap
def LPost (x : Int32) : Free.Pt → Array Value → Option Value → Free.Pt → Prop := fun A _ v B => v = some (.int x) ∧ B.U.heap = A.U.heap ∧ B.locs = A.locs ∧ B.cells = A.cells ∧ B.slots = A.slots
theorem bk_len (hts : ∀ w ∈ TBL, w.before sargs s = true) (hframes : 2 ≤ R.frames) (hlocals : W + 36 ≤ R.locals) : Free.Back l R p e below s sargs Lib.Str.length.name 3 W (LPre R by9 ad A9 #[.ref ad]) (LPost (Int32.ofNat by9.length)) := by
  refine Free.Back.of_free (S := Lib.Cold.length.spec) (bytes := Lib.String.length.code) (maxL := 1) (ret := some .int) (E := fun _ first _ t L k n => L = [] ∧ k = 0 ∧ n = 0 ∧ t.heap = first.heap) (Free.MetFree.ex (G := Nat × Cell) fun q => Lib.Cold.length.met l ad q.1 1 q.2) hframes (by show W + (1 + 11) + 24 ≤ _; omega) ?_ ?_ (fun _ _ _ _ _ _ _ _ _ => trivial) ?_ ?_
  · intro m meth c A a X hq
    obtain ⟨h1, h2, rfl, h4⟩ := hq
    have hw : ∀ w ∈ TBL, ∀ a', w.before a' A.U = true := fun w hw a' => pres_warm (tb_pres w hw) X.warmed (hts w hw)
    refine ⟨?_, hw _ tw_650 _, hw _ tw_143 _, (by show A.cells + 0 ≤ _; omega), (by show A.slots + 0 ≤ _; omega)⟩
    simp only [Lib.Cold.length.spec, Cond.before_and, Bool.and_eq_true]
    exact ⟨hw _ tw_650 _, rfl, h4.1.2, hw _ tw_2060 _, hw _ tw_651 _, dec_of (hw _ tw_654 #[]) (hw _ tw_652 #[]), hw _ tw_653 _, hw _ tw_652 _, hw _ tw_143 _⟩
  · intro m meth c A a g mk X hq
    obtain ⟨h1, h2, rfl, h4⟩ := hq
    have h5 : LitA by9 ad A9 (A.U.calling g mk #[.ref ad]) (A.U.calling g mk #[.ref ad]).heap := h4.next (Vm.Alike.refl _) (fun _ _ _ => rfl)
    have hw : ∀ w ∈ TBL, ∀ a', w.before a' (A.U.calling g mk #[.ref ad]) = true := fun w hw a' => pres_warm (U := A.U.calling g mk #[.ref ad]) (tb_pres w hw) X.warmed (hts w hw)
    obtain ⟨d, arr, e1, e2, e3, e4, e5, e6, e7, e8⟩ := lit_val h5 []
    refine ⟨(d, arr), rfl, e1, e3, e4, ?_, rfl, stat_of h5.2.2.2.1, by decide, e2⟩
    simp only [Lib.Cold.coder.spec, Cond.before_and, Bool.and_eq_true]
    exact ⟨hw _ tw_654 _, rfl, hw _ tw_655 _, hw _ tw_2061 _⟩
  · intro a first o t hq
    obtain ⟨q, -, ⟨hr, hwm, hsb⟩, -⟩ := hq
    exact ⟨[], 0, 0, ⟨hr, hwm, hsb.sameButNew 0 0⟩, rfl, rfl, rfl, sb_heap hsb⟩
  · intro m meth c A a g mk v t L k n X hq hQ hF hE
    obtain ⟨h1, h2, rfl, h4⟩ := hq
    obtain ⟨rfl, rfl, rfl, ht⟩ := hE
    obtain ⟨⟨d, arr⟩, hP, -, hr⟩ := hQ
    have h5 : LitA by9 ad A9 (A.U.calling g mk #[.ref ad]) (A.U.calling g mk #[.ref ad]).heap := h4.next (Vm.Alike.refl _) (fun _ _ _ => rfl)
    obtain ⟨d', arr', e1, e2, e3, e4, e5, e6, e7, e8⟩ := lit_val h5 []
    have q1 := hP.2.1
    have q2 := hP.2.2.1
    cases Option.some.inj (q1.symm.trans e1)
    cases Option.some.inj (q2.symm.trans e3)
    cases hr
    exact ⟨by rw [e7], ht, List.append_nil _, rfl, rfl⟩
/-- the character at place k -/
def litC (by9 : List Int32) (k : Nat) : Int32 := (by9.getD k 0 &&& 255).toUInt32.toUInt16.toUInt32.toInt32
theorem bk_chr {x : Int32} {k : Nat} (hxk : x.toInt = (k : Int)) (hk : k < by9.length) (hlen : by9.length < 2147483648) (hts : ∀ w ∈ TBL, w.before sargs s = true) (hframes : 4 ≤ R.frames) (hlocals : W + 85 ≤ R.locals) : Free.Back l R p e below s sargs Lib.Str.charAt.name 3 W (LPre R by9 ad A9 #[.ref ad, .int x]) (LPost (litC by9 k)) := by
  have x0 : ¬ x < 0 := by rw [Int32.lt_iff_toInt_lt]; rw [hxk]; show ¬ (k : Int) < 0; omega
  have x0' : (0 : Int32) ≤ x := Int32.not_lt.mp x0
  have xk : x.toNatClampNeg = k := by show x.toInt.toNat = k; rw [hxk]; rfl
  have xn : x < Int32.ofNat by9.length := by
    rw [Int32.lt_iff_toInt_lt, hxk, Int32.toInt_ofNat_of_lt (by omega)]
    omega
  refine Free.Back.of_free (S := Lib.Cold.charAt.spec) (bytes := Lib.Str.charAt.code) (maxL := 2) (ret := some .char) (E := fun _ first _ t L k n => L = [] ∧ k = 0 ∧ n = 0 ∧ t.heap = first.heap) (Free.MetFree.ex (G := Nat × Int32 × Value × Cell) fun q => Lib.Cold.charAt.met l ad q.1 x q.2.1 1 q.2.2.1 q.2.2.2) hframes (by show W + (2 + 11) + 72 ≤ _; omega) ?_ ?_ (fun _ _ _ _ _ _ _ _ _ => trivial) ?_ ?_
  · intro m meth c A a X hq
    obtain ⟨h1, h2, rfl, h4⟩ := hq
    have hw : ∀ w ∈ TBL, ∀ a', w.before a' A.U = true := fun w hw a' => pres_warm (tb_pres w hw) X.warmed (hts w hw)
    refine ⟨?_, hw _ tw_660 _, hw _ tw_143 _, (by show A.cells + 0 ≤ _; omega), (by show A.slots + 0 ≤ _; omega)⟩
    simp only [Lib.Cold.charAt.spec, Cond.before_and, Bool.and_eq_true]
    exact ⟨hw _ tw_660 _, rfl, (by rw [ex_args]; exact h4.1.2), hw _ tw_661 _, dec_of (hw _ tw_664 #[]) (hw _ tw_662 #[]), hw _ tw_663 _, hw _ tw_662 _, hw _ tw_2060 _, hw _ tw_665 _, hw _ tw_666 _, hw _ tw_144 _, hw _ tw_143 _⟩
  · intro m meth c A a g mk X hq
    obtain ⟨h1, h2, rfl, h4⟩ := hq
    have h5 : LitA by9 ad A9 (A.U.calling g mk #[.ref ad, .int x]) (A.U.calling g mk #[.ref ad, .int x]).heap := h4.next (Vm.Alike.refl _) (fun _ _ _ => rfl)
    have hw : ∀ w ∈ TBL, ∀ a', w.before a' (A.U.calling g mk #[.ref ad, .int x]) = true := fun w hw a' => pres_warm (U := A.U.calling g mk #[.ref ad, .int x]) (tb_pres w hw) X.warmed (hts w hw)
    obtain ⟨d, arr, e1, -, e3, e4, e5, e6, e7, e8⟩ := lit_val h5 [.int x]
    obtain ⟨fm, hfi, hfm⟩ := h5.2.2.2.2
    refine ⟨(d, by9.getD k 0, fm, arr), rfl, e1, sig_of (hw _ tw_667 #[]), ?_, ⟨rfl, stat_of h5.2.2.2.1, by decide, lit_cod h5⟩, ?_, rfl, e3, e4, e5, ?_, ?_, sig_of (hw _ tw_670 #[]), ?_, rfl, stat_of hfm, sig_of (hw _ tw_675 #[]), ?_⟩
    · simp only [Lib.Cold.isLatin1.spec, Cond.before_and, Bool.and_eq_true]
      exact ⟨hw _ tw_664 _, rfl, hw _ tw_655 _, hw _ tw_2061 _⟩
    · simp only [Lib.Cold.latin1.spec, Cond.before_and, Bool.and_eq_true]
      exact ⟨hw _ tw_667 _, rfl, hw _ tw_668 _, hw _ tw_669 _, hw _ tw_143 _⟩
    · rintro (q | q)
      · exact x0 q
      · have q : arr.slots.size ≤ x.toNatClampNeg := q
        rw [xk] at q
        omega
    · rw [xk]; exact e8 k hk
    · simp only [Lib.Cold.checkIndex.spec, Cond.before_and, Bool.and_eq_true]
      exact ⟨hw _ tw_670 _, rfl, hw _ tw_671 _, hw _ tw_673 _, hw _ tw_674 _, hw _ tw_145 _⟩
    · simp only [Lib.Preconditions.checkIndex.spec, Cond.before_and, Bool.and_eq_true]
      rw [e7]
      refine ⟨hw _ tw_675 _, rfl, rfl, rfl, (by cases fm <;> first | rfl | cases hfi), ?_, ?_⟩
      · simp [Cond.before, Cond.holds, Cond.value, Term.eval, x0']
      · simp [Cond.before, Cond.holds, Cond.value, Term.eval, xn]
  · intro a first o t hq
    obtain ⟨q, -, ⟨hr, hwm, hsb⟩, -⟩ := hq
    exact ⟨[], 0, 0, ⟨hr, hwm, hsb.sameButNew 0 0⟩, rfl, rfl, rfl, sb_heap hsb⟩
  · intro m meth c A a g mk v t L k9 n X hq hQ hF hE
    obtain ⟨h1, h2, rfl, h4⟩ := hq
    obtain ⟨rfl, rfl, rfl, ht⟩ := hE
    obtain ⟨⟨d, b, fm, arr⟩, hP, -, hr⟩ := hQ
    have h5 : LitA by9 ad A9 (A.U.calling g mk #[.ref ad, .int x]) (A.U.calling g mk #[.ref ad, .int x]).heap := h4.next (Vm.Alike.refl _) (fun _ _ _ => rfl)
    obtain ⟨d', arr', e1, e2, e3, e4, e5, e6, e7, e8⟩ := lit_val h5 [.int x]
    have q1 := hP.2.1
    cases Option.some.inj (q1.symm.trans e1)
    have q2 := hP.2.2.2.2.2.2.2.1
    cases Option.some.inj (q2.symm.trans e3)
    have q3 := hP.2.2.2.2.2.2.2.2.2.2.2.1
    have q3 : arr.slots[x.toNatClampNeg]? = some (.int b) := q3
    rw [xk, e8 k hk] at q3
    cases Option.some.inj q3
    cases hr
    exact ⟨rfl, ht, List.append_nil _, rfl, rfl⟩
end LITB
theorem vn_lit {g : GG} {ws : va_W} {hc : List CE} (hH : HNR g ws hc) {i : Nat} {v : Value} (h0 : VN g ws (.ref (litK i)) v) : v = .ref (g.1.2 1000 i) := by
  rcases h0 with ⟨a, e1, h1, -⟩ | ⟨q, -⟩ | ⟨q, -⟩ | ⟨-, q⟩
  · have := (List.getElem?_eq_some_iff.mp h1).1
    have h2 := hH.1
    have h3 := hH.2.1
    unfold litK at this
    omega
  · have q : litK i = 7000000000001 := q
    unfold litK at q
    omega
  · have q : litK i = 7000000000002 := q
    unfold litK at q
    omega
  · have h2 : ¬ litK i = 7000000000003 := by unfold litK; omega
    have h3 : litK i - 7000000000010 = i := by unfold litK; omega
    rw [if_neg h2, h3] at q
    exact q
section LITC
variable {ss : SS} {g : GG} {cl : List vw_C} {bl : Nat} {xs : Nat → Int32} {d : MD} {p : Program} {l : Launch} {e : Env} {R : Room} {s : State} {m : MethodId} {args : Array Value} {below : List Frame} {meth : Method} {c : Code} {Q : State → Prop} {kc0 ks0 pc n w : Nat} {L : LN} {h : HN} {S : List Value}
theorem n_strlen (act : Act ss TBL g cl bl xs d p l s m args meth c) {ix i : Nat} {q : String × Nat × String} (hq : ss.1[i]? = some q) (hd : decode d.2.1 pc = .ok (.invokevirtual ix, 3)) (hlk : Cond.methodLink d.1.cls ix Lib.Str.length.name ∈ TBL) (hf : 2 ≤ R.frames) (hl : 44 ≤ R.locals) (hcat : (S.map fun v => v.category).sum ≤ 8) (hc : h.2.1 ≤ R.cells + kc0) (hs : h.2.2 ≤ R.slots + ks0) (hn : pc + 3 = n)
    (K : WpN g cl p l e R s m args below meth c Q d.2.2.1 kc0 ks0 n L h (.int (Int32.ofNat (LBT.getD i []).length) :: S)) : WpN g cl p l e R s m args below meth c Q d.2.2.1 kc0 ks0 pc L h (.ref (litK i) :: S) := by
  obtain ⟨hx, hb, hr, hml, hown, hts, hK, hE, hlocks, hnm, htab, htr⟩ := act
  subst hn
  intro ls st H locs cells slots r
  obtain ⟨ws, hL, ⟨v0, st0, rfl, h0, hS⟩, hH, hP, hD, hSS, hc1, hc2⟩ := r
  have h0 := vn_lit hH h0
  subst h0
  have hlit : LitA _ _ (AA g) s H := (hE.2.2.2.2.1 i q hq).2.next (Vm.Alike.refl _) hSS.2.1
  have hcat9 := hS.cats
  intro T hT X
  obtain ⟨cell, c1, c2, c3, -⟩ := hlit.1.1
  obtain ⟨v, vm1, ⟨U', l2, k2, s2⟩, hW1, X', ⟨rfl, e1, e2, e3, e4⟩, st1⟩ := callV X hx hown (hts _ hlk) (hts _ tw_648) (hts _ tw_649) (hts _ tw_650) (by decide) (bk_len (by9 := LBT.getD i []) (ad := g.1.2 1000 i) (A9 := AA g) (W := 8) hts hf (by omega)) (by rw [hT]; exact c1) c2 c3 (g := F0 m pc ls (.ref (g.1.2 1000 i) :: st0)) rfl (hL.size.trans hml.symm) (argsL := []) (rest := st0) (fun sig hs9 => by cases hs9; rfl) rfl (by show 2 * 0 + _ ≤ _; omega) (by rw [hb]; exact hd) (fun vm2 hw2 => ⟨by show cells ≤ _; omega, by show slots ≤ _; omega, rfl, by
    refine hlit.next (show s.vm.Alike vm2 from hw2.alike) (fun a9 _ _ => ?_)
    show T.heap[a9]? = H[a9]?
    rw [hT]⟩)
  dsimp only [Free.Pt.U, Free.Pt.locs, Free.Pt.cells, Free.Pt.slots] at e1 e2 e3 e4 X' st1
  subst e2 e3 e4
  obtain ⟨t, a1, b1⟩ := K _ _ _ _ _ _ ⟨ws, hL, SRN.push hS (show VN g ws (.int _) _ from rfl), hH, hP, hD, hSS, hc1, hc2⟩ U' (e1.trans hT) X'
  exact ⟨t, st1 t a1, b1⟩
theorem n_strchr (act : Act ss TBL g cl bl xs d p l s m args meth c) {ix i k : Nat} {x : Int32} {q : String × Nat × String} (hq : ss.1[i]? = some q) (hxk : x.toInt = (k : Int)) (hk : k < (LBT.getD i []).length) (hlen : (LBT.getD i []).length < 2147483648) (hd : decode d.2.1 pc = .ok (.invokevirtual ix, 3)) (hlk : Cond.methodLink d.1.cls ix Lib.Str.charAt.name ∈ TBL) (hf : 4 ≤ R.frames) (hl : 93 ≤ R.locals) (hcat : (S.map fun v => v.category).sum ≤ 8) (hc : h.2.1 ≤ R.cells + kc0) (hs : h.2.2 ≤ R.slots + ks0) (hn : pc + 3 = n)
    (K : WpN g cl p l e R s m args below meth c Q d.2.2.1 kc0 ks0 n L h (.int (litC (LBT.getD i []) k) :: S)) : WpN g cl p l e R s m args below meth c Q d.2.2.1 kc0 ks0 pc L h (.int x :: .ref (litK i) :: S) := by
  obtain ⟨hx, hb, hr, hml, hown, hts, hK, hE, hlocks, hnm, htab, htr⟩ := act
  subst hn
  intro ls st H locs cells slots r
  obtain ⟨ws, hL, ⟨v1, st1, rfl, h1, v0, st0, rfl, h0, hS⟩, hH, hP, hD, hSS, hc1, hc2⟩ := r
  have h0 := vn_lit hH h0
  subst h0
  have h1 : v1 = .int x := h1
  subst h1
  have hlit : LitA _ _ (AA g) s H := (hE.2.2.2.2.1 i q hq).2.next (Vm.Alike.refl _) hSS.2.1
  have hcat9 := hS.cats
  intro T hT X
  obtain ⟨cell, c1, c2, c3, -⟩ := hlit.1.1
  obtain ⟨v, vm1, ⟨U', l2, k2, s2⟩, hW1, X', ⟨rfl, e1, e2, e3, e4⟩, st1⟩ := callV X hx hown (hts _ hlk) (hts _ tw_658) (hts _ tw_659) (hts _ tw_660) (by decide) (bk_chr (by9 := LBT.getD i []) (ad := g.1.2 1000 i) (A9 := AA g) (W := 8) hxk hk hlen hts hf (by omega)) (by rw [hT]; exact c1) c2 c3 (g := F0 m pc ls (.int x :: .ref (g.1.2 1000 i) :: st0)) rfl (hL.size.trans hml.symm) (argsL := [.int x]) (rest := st0) (fun sig hs9 => by cases hs9; rfl) rfl (by show 2 * 0 + _ ≤ _; omega) (by rw [hb]; exact hd) (fun vm2 hw2 => ⟨by show cells ≤ _; omega, by show slots ≤ _; omega, rfl, by
    refine hlit.next (show s.vm.Alike vm2 from hw2.alike) (fun a9 _ _ => ?_)
    show T.heap[a9]? = H[a9]?
    rw [hT]⟩)
  dsimp only [Free.Pt.U, Free.Pt.locs, Free.Pt.cells, Free.Pt.slots] at e1 e2 e3 e4 X' st1
  subst e2 e3 e4
  obtain ⟨t, a1, b1⟩ := K _ _ _ _ _ _ ⟨ws, hL, SRN.push hS (show VN g ws (.int _) _ from rfl), hH, hP, hD, hSS, hc1, hc2⟩ U' (e1.trans hT) X'
  exact ⟨t, st1 t a1, b1⟩
end LITC

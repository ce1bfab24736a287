/-! Words that last over a call; what is known of the world outside. -/
theorem ao_spec {args : Array Value} {s : State} {t : FieldType} (h : (Cond.arrayOver (.array t)).before args s = true) : ∃ comp c k, s.vm.findClass (FieldType.array t).toString = some comp ∧ (s.vm.classes.findIdx? fun (x : Class) => match x.kind with | .array component _ => component == comp | _ => false) = some c ∧ s.vm.classes[c]? = some k ∧ k.kind = .array comp (.array t) ∧ s.vm.findClass ("[" ++ (FieldType.array t).toString) = some c := by
  simp only [Cond.before, Cond.holds, Cond.value, beq_iff_eq] at h
  cases hc : s.vm.findClass (FieldType.array t).toString with
  | none => simp [hc] at h
  | some comp =>
    simp only [hc, Option.bind_some, Option.bind_eq_some_iff, Option.map_eq_some_iff] at h
    obtain ⟨c, hi, k, hk, hb⟩ := h
    obtain ⟨hlt, hp, -⟩ := Array.findIdx?_eq_some_iff_getElem.mp hi
    have hkk : s.vm.classes[c] = k := (Array.getElem?_eq_some_iff.mp hk).2
    rw [hkk] at hp
    cases hkind : k.kind with
    | array component ty =>
      rw [hkind] at hb hp
      simp at hb hp
      exact ⟨comp, c, k, rfl, hi, hk, by rw [hkind, hp, hb.1], hb.2⟩
    | _ => rw [hkind] at hb; simp at hb
theorem ao_moved {ty : FieldType} {u U : State} (hvm : u.vm.Alike U.vm) (h : va_AOA ty u) : va_AOA ty U := by
  obtain ⟨comp, c, k, h1, h2, h3, h4, h5⟩ := ao_spec (args := #[]) h
  obtain ⟨k', hk', he⟩ := hvm.2.2 _ _ h3
  have hi : (U.vm.classes.findIdx? fun (x : Class) => match x.kind with | .array component _ => component == comp | _ => false) = some c := by
    refine Eq.trans (va_idx_bare U.vm comp).symm ?_
    first | rw [hvm.bare_eq] | rw [← hvm.bare_eq]
    exact (va_idx_bare u.vm comp).trans h2
  have hkind : k'.kind = .array comp (.array ty) := by rw [he]; exact h4
  have f1 : U.vm.findClass (FieldType.array ty).toString = some comp := by rw [hvm.findClass]; exact h1
  have f2 : U.vm.findClass ("[" ++ (FieldType.array ty).toString) = some c := by rw [hvm.findClass]; exact h5
  unfold va_AOA Cond.before Cond.holds
  simp only [Cond.value]
  rw [f1, Option.bind_some]
  refine (congrArg (fun o : Option Nat => (o.bind (fun c => (U.vm.classes[c]?).map fun (k : Class) => match k.kind with | .array _ ty2 => decide (ty2 = FieldType.array ty) && decide (U.vm.findClass ("[" ++ (FieldType.array ty).toString) = some c) | _ => false) == some true)) hi).trans ?_
  simp [hk', hkind, f2]
def pres (w : Cond) : Bool := match w with
  | .castable _ _ => true
  | .methodLinkNest _ _ _ _ => true
  | .declares _ => true
  | .arrayOver (.object _) => true
  | .arrayOver (.array _) => true
  | w => goodWord w
theorem pres_warm {w : Cond} {args a' : Array Value} {s U : State} (hp : pres w = true) (hW : s.WarmedH U.vm) (h : w.before args s = true) : w.before a' U = true := by
  by_cases hg : goodWord w = true
  · exact word_at hW (good_of_word hg) h
  · unfold pres at hp
    split at hp
    · exact va_Nw.use rfl (va_Nw.warmC hW (va_Nw.of rfl h))
    · exact va_Nw.use rfl (va_Nw.warmM hW (va_Nw.of rfl h))
    · exact va_Nw.use rfl (va_Nw.warmD hW (va_Nw.of rfl h))
    · exact va_AO.use (va_AO.moved hW.alike (va_AO.of h))
    · exact va_AOA.use (ao_moved hW.alike h)
    · exact absurd hp hg
/-- a method: its name, code, locals, what it returns, its handlers -/
abbrev MD : Type := MethodName × ByteArray × Nat × Option FieldType × List (Nat × Nat × Nat × Nat)
def cdw (d : MD) : Cond := match d.2.2.2.2 with
  | [] => .code d.1 d.2.1 d.2.2.1 d.2.2.2.1
  | hh => .codeWith d.1 d.2.1 d.2.2.1 d.2.2.2.1 hh
/-- the String constants, and pairs of classes of which the first is not the second -/
abbrev SS : Type := List (String × Nat × String) × List (String × String)
/-- the literals' bytes, in the order of SSX -/
def LBT : List (List Int32) := [[116, 104, 101, 32, 116, 101, 120, 116, 32, 119, 111, 117, 108, 100, 32, 98, 101, 32, 116, 111, 111, 32, 108, 111, 110, 103], [110, 111, 32, 115, 117, 99, 104, 32, 110, 117, 109, 98, 101, 114], [116, 104, 101, 114, 101, 32, 105, 115, 32, 110, 111, 32, 111, 117, 116, 97, 103, 101], [116, 104, 101, 32, 118, 97, 108, 117, 101, 32, 105, 115, 32, 111, 117, 116, 32, 111, 102, 32, 114, 97, 110, 103, 101], [116, 104, 101, 32, 111, 116, 104, 101, 114, 32, 108, 105, 110, 101, 115, 32, 100, 111, 32, 110, 111, 116, 32, 99, 111, 110, 110, 101, 99, 116, 32, 97, 108, 108, 32, 110, 111, 100, 101, 115], [119, 104, 97, 116, 32, 105, 115, 32, 111, 117, 116, 32, 111, 102, 32, 114, 97, 110, 103, 101], [116, 104, 101, 32, 105, 110, 116, 101, 114, 118, 97, 108, 32, 105, 115, 32, 105, 110, 102, 101, 97, 115, 105, 98, 108, 101], [97, 108, 108, 32, 100, 101, 109, 97, 110, 100, 115, 32, 97, 114, 101, 32, 48], [116, 104, 101, 32, 110, 111, 100, 101, 32, 104, 97, 115, 32, 110, 111, 32, 112, 114, 105, 99, 101], [116, 104, 101, 32, 110, 111, 100, 101, 115, 32, 97, 114, 101, 32, 116, 104, 101, 32, 115, 97, 109, 101], [110, 111, 32, 115, 117, 99, 104, 32, 108, 101, 110, 103, 116, 104], [110, 111, 32, 99, 104, 97, 110, 103, 101, 32, 99, 97, 110, 32, 98, 101, 32, 117, 110, 100, 111, 110, 101], [103, 101, 110, 101, 114, 97, 116, 111, 114], [100, 101, 109, 97, 110, 100], [114, 105, 103, 104, 116], [111, 117, 116, 97, 103, 101], [108, 105, 110, 101], [101, 109, 101, 114, 103, 101, 110, 99, 121], [110, 111, 100, 101, 115], [105, 110, 116, 101, 114, 118, 97, 108, 115], [116, 104, 101, 32, 116, 101, 120, 116, 32, 104, 97, 115, 32, 97, 110, 32, 101, 114, 114, 111, 114]]
theorem fo_next {u U : State} {H H1 : Heap} {a : Nat} {C n d : String} (hvm : u.vm.Alike U.vm) (hc : H1[a]? = H[a]?) : ({ U with heap := H1 } : State).fieldOf? a C n d = ({ u with heap := H } : State).fieldOf? a C n d := by
  have h1 := State.fieldOf?_setVm (s := ({ u with heap := H } : State)) (vm' := U.vm) hvm a C n d
  rw [← h1]
  unfold State.fieldOf?
  show (do let cell ← H1[a]?; _) = (do let cell ← H[a]?; _)
  rw [hc]
  rfl
theorem ex_next {u U : State} {H H1 : Heap} {a : Nat} {c : Cell} {C : String} (hvm : u.vm.Alike U.vm) (h1 : H[a]? = some c) (h2 : H1[a]? = some c) (h : (Cond.exactly (.arg 0) C).before #[.ref a] ({ u with heap := H } : State) = true) : (Cond.exactly (.arg 0) C).before #[.ref a] ({ U with heap := H1 } : State) = true := by
  rw [← Cond.exactly_arg_setVm (s := ({ u with heap := H } : State)) (vm' := U.vm) hvm 0 C] at h
  have e : (Cond.exactly (.arg 0) C).before #[.ref a] ({ U with heap := H1 } : State) = (Cond.exactly (.arg 0) C).before #[.ref a] (({ u with heap := H } : State).setVm U.vm) := by
    cases hf : U.vm.findClass C <;> simp [Cond.before, Cond.holds, Cond.value, Term.eval, hf, h1, h2, State.setVm]
  rw [e]
  exact h
/-- the literal of these bytes at a; its address of place i is g.1.2 1000 i -/
def LitA (by9 : List Int32) (a : Nat) (A : Nat → Prop) (U : State) (H : Heap) : Prop :=
  (va_O "java/lang/String" a A U H ∧ (Cond.exactly (.arg 0) "java/lang/String").before #[.ref a] ({ U with heap := H } : State) = true) ∧ (∃ v : Nat, ({ U with heap := H } : State).fieldOf? a "java/lang/String" "value" "[B" = some (.ref v) ∧ va_T .byte v by9.length (fun j => .int (by9.getD j 0)) A U H) ∧ ({ U with heap := H } : State).fieldOf? a "java/lang/String" "coder" "B" = some (.int 0) ∧
  va_Z "java/lang/String" "COMPACT_STRINGS" "Z" (.int 1) A U H ∧ ∃ fm : Value, fm.isRef = true ∧ va_Z "jdk/internal/util/Preconditions" "SIOOBE_FORMATTER" "Ljava/util/function/BiFunction;" fm A U H
theorem LitA.next {by9 : List Int32} {a : Nat} {A : Nat → Prop} {u U : State} {H H1 : Heap} (h : LitA by9 a A u H) (hvm : u.vm.Alike U.vm) (hq : ∀ a : Nat, a < H.size → ¬ A a → H1[a]? = H[a]?) : LitA by9 a A U H1 := by
  obtain ⟨⟨h1, h0⟩, ⟨v, h3, h4⟩, h2, h5, fm, hr6, h6⟩ := h
  have hc : H1[a]? = H[a]? := by
    obtain ⟨cell, c1, -, -, c2⟩ := h1
    exact hq a (Array.getElem?_eq_some_iff.mp c1).1 c2
  have h0' : (Cond.exactly (.arg 0) "java/lang/String").before #[.ref a] ({ U with heap := H1 } : State) = true := by
    obtain ⟨cell, c1, -, -, -⟩ := h1
    exact ex_next hvm c1 (hc.trans c1) h0
  exact ⟨⟨(h1.moved hvm).kept hq, h0'⟩, ⟨v, by rw [fo_next hvm hc]; exact h3, (h4.moved hvm).kept hq⟩, by rw [fo_next hvm hc]; exact h2, (h5.moved hvm).kept hq, fm, hr6, (h6.moved hvm).kept hq⟩
def Ext (ss : SS) (g : GG) (bl : Nat) (xs : Nat → Int32) (U : State) (H : Heap) : Prop :=
  vx_Zq Bundle.tN "UNASSIGNED_STACK" Bundle.steD (AA g) U H ∧ vx_Zq Bundle.tN "SUPPRESSED_SENTINEL" Bundle.listD (AA g) U H ∧
  va_Z "java/util/ArrayList" "DEFAULTCAPACITY_EMPTY_ELEMENTDATA" "[Ljava/lang/Object;" (.ref g.2.2.1) (AA g) U H ∧
  (∃ (cell : Cell) (ty : FieldType), H[g.2.2.1]? = some cell ∧ U.isArrayOf cell ty ∧ cell.slots.size = 0 ∧ ¬ AA g g.2.2.1) ∧
  (∀ (i : Nat) (q : String × Nat × String), ss.1[i]? = some q → vk_R q.1 q.2.1 q.2.2 (g.1.2 1000 i) U ∧ LitA (LBT.getD i []) (g.1.2 1000 i) (AA g) U H) ∧ (∀ q ∈ ss.2, va_Nc q.1 q.2 U) ∧ va_X g.2.2.2.1 bl xs U H ∧ g.2.2.2.1 < H.size ∧ ¬ AA g g.2.2.2.1 ∧ bl < 65536 ∧ g.2.2.2.2.1 ≤ H.size
theorem Ext.str {ss : SS} {g : GG} {bl : Nat} {xs : Nat → Int32} {U : State} {H : Heap} (h : Ext ss g bl xs U H) (q : String × Nat × String) (hq : q ∈ ss.1) : ∃ sa : Nat, vk_R q.1 q.2.1 q.2.2 sa U := by
  obtain ⟨i, hi⟩ := List.mem_iff_getElem?.mp hq
  exact ⟨_, (h.2.2.2.2.1 i q hi).1⟩
theorem Ext.next {ss : SS} {g : GG} {bl : Nat} {xs : Nat → Int32} {u U : State} {H H1 : Heap} (h : Ext ss g bl xs u H) (hW : u.WarmedH U.vm) (hz : H.size ≤ H1.size) (hq : ∀ a : Nat, a < H.size → ¬ AA g a → H1[a]? = H[a]?) : Ext ss g bl xs U H1 := by
  obtain ⟨h1, h2, h3, ⟨cell, ty, c1, c2, c3, c4⟩, h5, h6, h7, h8, h9, h10, h11⟩ := h
  have hvm := hW.alike
  refine ⟨(h1.moved hvm).kept hq, (h2.moved hvm).kept hq, (h3.moved hvm).kept hq, ⟨cell, ty, ?_, State.isArrayOf_alike hvm c2, c3, c4⟩, fun i q hm => ?_, fun q hm => (h6 q hm).moved hvm, (h7.moved hvm).kept (hq _ h8 h9), by omega, h9, h10, by omega⟩
  · rw [hq _ (Array.getElem?_eq_some_iff.mp c1).1 c4]; exact c1
  · obtain ⟨ha, hb⟩ := h5 i q hm
    exact ⟨ha.warm hW, hb.next hvm hq⟩
/-- what a frame of method d stands on -/
def Act (ss : SS) (TBL : List Cond) (g : GG) (cl : List vw_C) (bl : Nat) (xs : Nat → Int32) (d : MD) (p : Program) (l : Launch) (s : State) (m : MethodId) (args : Array Value) (meth : Method) (c : Code) : Prop :=
  p.tables.exec = Jvm.exec ∧ c.code = d.2.1 ∧ meth.sig.returnType = d.2.2.2.1 ∧ c.maxLocals = d.2.2.1 ∧ s.vm.findClass d.1.cls = some m.cls ∧ (∀ w ∈ TBL, w.before args s = true) ∧ va_K g.1 cl g.2.1 s ∧ Ext ss g bl xs s s.heap ∧ meth.locks = false ∧ meth.name = d.1.name ∧ c.exceptionTable.toList = tableOf d.2.2.2.2 ∧ l.stackTraces = false

/-! A checker of the programs' words against the bytes and the tables' words. -/
def TBL : List Cond := lw_tbl.filter pres
def isw (i : Nat) (w : Cond) : Bool := decide (lw_tbl[i]? = some w) && pres w
theorem isw_t {i : Nat} {w : Cond} (h : isw i w = true) : w ∈ TBL := by
  unfold isw at h
  simp only [Bool.and_eq_true, decide_eq_true_eq] at h
  exact List.mem_filter.mpr ⟨List.mem_of_getElem? h.1, h.2⟩
theorem tb_t {i : Nat} {w : Cond} (h : lw_tbl[i]? = some w) (hp : pres w = true) : w ∈ TBL := List.mem_filter.mpr ⟨List.mem_of_getElem? h, hp⟩
theorem tb_pres : ∀ w ∈ TBL, pres w = true := fun _ h => (List.mem_filter.mp h).2
abbrev HT : Type := List Nat × List (Nat × Nat × Nat × List (Nat × Nat))
def hn (h : HT) (i : Nat) : Nat := h.1.getD i 0
def hi (h : HT) (i : Nat) : Int := (hn h i : Int) - 32768
def isrr (r : Option FieldType) : Bool := match r with
  | some (.object _) => true
  | some (.array _) => true
  | _ => false
theorem isrr_t {r : Option FieldType} (h : isrr r = true) : ∃ rt : FieldType, r = some rt ∧ ((∃ n, rt = .object n) ∨ ∃ t, rt = .array t) := by
  unfold isrr at h
  split at h
  · exact ⟨_, rfl, Or.inl ⟨_, rfl⟩⟩
  · exact ⟨_, rfl, Or.inr ⟨_, rfl⟩⟩
  · cases h
/-- what is known of the classes -/
def CLok (cl : List vw_C) (tyf : Nat → Nat → FieldType) (ft : Nat → Nat → Nat) : Prop := ∀ (c : Nat) (r : vw_C), cl[c]? = some r → (∀ x ∈ u_ws r.1 r.2.1 r.2.2, x ∈ TBL) ∧ (∀ k, k < r.2.2 → parseFieldDescriptor (r.2.1 k).2.2.1 = some (tyf c k)) ∧ (∀ a, a < r.2.2 → ∀ b, b < r.2.2 → a ≠ b → (r.2.1 a).2.1 ≠ (r.2.1 b).2.1) ∧ (∀ j, j < r.2.2 → defaultValue (tyf c j) = dv (ft c j))
/-- what is known of a method that is called -/
def Mok (d' : MD) : Prop := plainName d'.1.cls = true ∧ cdw d' ∈ TBL ∧ Cond.initialized d'.1.cls ∈ TBL ∧ d'.1.cls ≠ "java/lang/invoke/MethodHandle" ∧ d'.1.cls ≠ "java/lang/invoke/VarHandle"
def HB (cl : List vw_C) (tyf : Nat → Nat → FieldType) (ft : Nat → Nat → Nat) (mdl : Nat → Option MD) : Prop := CLok cl tyf ft ∧ ∀ (u : Nat) (d' : MD), mdl u = some d' → Mok d'
def k_const0 (ss : SS) (cl : List vw_C) (tyf : Nat → Nat → FieldType) (ft : Nat → Nat → Nat) (mdl : Nat → Option MD) (h : HT) (d : MD) (pc w : Nat) : Bool := decide (decode d.2.1 pc = .ok (.iconst (hi h 1), 1)) && decide (nxt w = pc + 1) && decide (fb w = mkI (iEx (Int32.ofInt (hi h 1))))
def k_const1 (ss : SS) (cl : List vw_C) (tyf : Nat → Nat → FieldType) (ft : Nat → Nat → Nat) (mdl : Nat → Option MD) (h : HT) (d : MD) (pc w : Nat) : Bool := decide (decode d.2.1 pc = .ok (.bipush (hi h 1), 2)) && decide (nxt w = pc + 2) && decide (fb w = mkI (iEx (Int8.ofInt (hi h 1)).toInt32))
def k_const2 (ss : SS) (cl : List vw_C) (tyf : Nat → Nat → FieldType) (ft : Nat → Nat → Nat) (mdl : Nat → Option MD) (h : HT) (d : MD) (pc w : Nat) : Bool := decide (decode d.2.1 pc = .ok (.sipush (hi h 1), 3)) && decide (nxt w = pc + 3) && decide (fb w = mkI (iEx (Int16.ofInt (hi h 1)).toInt32))
def k_const3 (ss : SS) (cl : List vw_C) (tyf : Nat → Nat → FieldType) (ft : Nat → Nat → Nat) (mdl : Nat → Option MD) (h : HT) (d : MD) (pc w : Nat) : Bool := decide (decode d.2.1 pc = .ok (.lconst (Fin.ofNat 2 (hn h 1)), 1)) && decide (nxt w = pc + 1) && decide (fb w = mkL (lEx (Int64.ofNat ((Fin.ofNat 2 (hn h 1) : Fin 2) : Nat))))
def k_const4 (ss : SS) (cl : List vw_C) (tyf : Nat → Nat → FieldType) (ft : Nat → Nat → Nat) (mdl : Nat → Option MD) (h : HT) (d : MD) (pc w : Nat) : Bool := decide (decode d.2.1 pc = .ok (.aconst_null, 1)) && decide (nxt w = pc + 1) && decide (fb w = 4)
def k_const5 (ss : SS) (cl : List vw_C) (tyf : Nat → Nat → FieldType) (ft : Nat → Nat → Nat) (mdl : Nat → Option MD) (h : HT) (d : MD) (pc w : Nat) : Bool := decide (decode d.2.1 pc = .ok (.fconst 0, 1)) && decide (nxt w = pc + 1) && decide (fb w = 5)
def k_const6 (ss : SS) (cl : List vw_C) (tyf : Nat → Nat → FieldType) (ft : Nat → Nat → Nat) (mdl : Nat → Option MD) (h : HT) (d : MD) (pc w : Nat) : Bool := decide (decode d.2.1 pc = .ok (.dconst 0, 1)) && decide (nxt w = pc + 1) && decide (fb w = 6)
def k_const7 (ss : SS) (cl : List vw_C) (tyf : Nat → Nat → FieldType) (ft : Nat → Nat → Nat) (mdl : Nat → Option MD) (h : HT) (d : MD) (pc w : Nat) : Bool := decide (decode d.2.1 pc = .ok (.ldc (hn h 1), 2)) && decide (nxt w = pc + 2) && (match lw_tbl[hn h 2]? with | some (.constant a b v) => decide (a = d.1.cls) && decide (b = hn h 1) && decide (fb w = mkI (iEx v)) | _ => false)
def k_const8 (ss : SS) (cl : List vw_C) (tyf : Nat → Nat → FieldType) (ft : Nat → Nat → Nat) (mdl : Nat → Option MD) (h : HT) (d : MD) (pc w : Nat) : Bool := decide (decode d.2.1 pc = .ok (.ldc_w (hn h 1), 3)) && decide (nxt w = pc + 3) && (match lw_tbl[hn h 2]? with | some (.constant a b v) => decide (a = d.1.cls) && decide (b = hn h 1) && decide (fb w = mkI (iEx v)) | _ => false)
def k_const9 (ss : SS) (cl : List vw_C) (tyf : Nat → Nat → FieldType) (ft : Nat → Nat → Nat) (mdl : Nat → Option MD) (h : HT) (d : MD) (pc w : Nat) : Bool := decide (decode d.2.1 pc = .ok (.ldc2_w (hn h 1), 3)) && decide (nxt w = pc + 3) && (match lw_tbl[hn h 2]? with | some (.constantLong a b v) => decide (a = d.1.cls) && decide (b = hn h 1) && decide (fb w = mkL (lEx v)) | _ => false)
def k_const10 (ss : SS) (cl : List vw_C) (tyf : Nat → Nat → FieldType) (ft : Nat → Nat → Nat) (mdl : Nat → Option MD) (h : HT) (d : MD) (pc w : Nat) : Bool := decide (decode d.2.1 pc = .ok (.ldc (hn h 1), 2)) && decide (nxt w = pc + 2) && decide (fb w = 7) && (match ss.1[hn h 2]? with | some q => decide (q.1 = d.1.cls) && decide (q.2.1 = hn h 1) | none => false)
def k_const11 (ss : SS) (cl : List vw_C) (tyf : Nat → Nat → FieldType) (ft : Nat → Nat → Nat) (mdl : Nat → Option MD) (h : HT) (d : MD) (pc w : Nat) : Bool := decide (decode d.2.1 pc = .ok (.getstatic (hn h 1), 3)) && decide (nxt w = pc + 3) && isw (hn h 2) (.fieldLink d.1.cls (hn h 1) "java/util/ArrayList" "DEFAULTCAPACITY_EMPTY_ELEMENTDATA" "[Ljava/lang/Object;") && decide (fb w = 15)
theorem kt_const0 {ss : SS} {cl : List vw_C} {tyf : Nat → Nat → FieldType} {ft : Nat → Nat → Nat} {mdl : Nat → Option MD} {h : HT} {d : MD} {pc w : Nat} (h1 : k_const0 ss cl tyf ft mdl h d pc w = true) : G_const ss TBL cl ft mdl d pc w := by
  unfold k_const0 at h1
  simp only [Bool.and_eq_true, decide_eq_true_eq] at h1
  exact Or.inl (⟨_, h1.1.1, h1.1.2, h1.2⟩)
theorem kt_const1 {ss : SS} {cl : List vw_C} {tyf : Nat → Nat → FieldType} {ft : Nat → Nat → Nat} {mdl : Nat → Option MD} {h : HT} {d : MD} {pc w : Nat} (h1 : k_const1 ss cl tyf ft mdl h d pc w = true) : G_const ss TBL cl ft mdl d pc w := by
  unfold k_const1 at h1
  simp only [Bool.and_eq_true, decide_eq_true_eq] at h1
  exact Or.inr (Or.inl (⟨_, h1.1.1, h1.1.2, h1.2⟩))
theorem kt_const2 {ss : SS} {cl : List vw_C} {tyf : Nat → Nat → FieldType} {ft : Nat → Nat → Nat} {mdl : Nat → Option MD} {h : HT} {d : MD} {pc w : Nat} (h1 : k_const2 ss cl tyf ft mdl h d pc w = true) : G_const ss TBL cl ft mdl d pc w := by
  unfold k_const2 at h1
  simp only [Bool.and_eq_true, decide_eq_true_eq] at h1
  exact Or.inr (Or.inr (Or.inl (⟨_, h1.1.1, h1.1.2, h1.2⟩)))
theorem kt_const3 {ss : SS} {cl : List vw_C} {tyf : Nat → Nat → FieldType} {ft : Nat → Nat → Nat} {mdl : Nat → Option MD} {h : HT} {d : MD} {pc w : Nat} (h1 : k_const3 ss cl tyf ft mdl h d pc w = true) : G_const ss TBL cl ft mdl d pc w := by
  unfold k_const3 at h1
  simp only [Bool.and_eq_true, decide_eq_true_eq] at h1
  exact Or.inr (Or.inr (Or.inr (Or.inl (⟨_, h1.1.1, h1.1.2, h1.2⟩))))
theorem kt_const4 {ss : SS} {cl : List vw_C} {tyf : Nat → Nat → FieldType} {ft : Nat → Nat → Nat} {mdl : Nat → Option MD} {h : HT} {d : MD} {pc w : Nat} (h1 : k_const4 ss cl tyf ft mdl h d pc w = true) : G_const ss TBL cl ft mdl d pc w := by
  unfold k_const4 at h1
  simp only [Bool.and_eq_true, decide_eq_true_eq] at h1
  exact Or.inr (Or.inr (Or.inr (Or.inr (Or.inl (⟨h1.1.1, h1.1.2, h1.2⟩)))))
theorem kt_const5 {ss : SS} {cl : List vw_C} {tyf : Nat → Nat → FieldType} {ft : Nat → Nat → Nat} {mdl : Nat → Option MD} {h : HT} {d : MD} {pc w : Nat} (h1 : k_const5 ss cl tyf ft mdl h d pc w = true) : G_const ss TBL cl ft mdl d pc w := by
  unfold k_const5 at h1
  simp only [Bool.and_eq_true, decide_eq_true_eq] at h1
  exact Or.inr (Or.inr (Or.inr (Or.inr (Or.inr (Or.inl (⟨h1.1.1, h1.1.2, h1.2⟩))))))
theorem kt_const6 {ss : SS} {cl : List vw_C} {tyf : Nat → Nat → FieldType} {ft : Nat → Nat → Nat} {mdl : Nat → Option MD} {h : HT} {d : MD} {pc w : Nat} (h1 : k_const6 ss cl tyf ft mdl h d pc w = true) : G_const ss TBL cl ft mdl d pc w := by
  unfold k_const6 at h1
  simp only [Bool.and_eq_true, decide_eq_true_eq] at h1
  exact Or.inr (Or.inr (Or.inr (Or.inr (Or.inr (Or.inr (Or.inl (⟨h1.1.1, h1.1.2, h1.2⟩)))))))
theorem kt_const7 {ss : SS} {cl : List vw_C} {tyf : Nat → Nat → FieldType} {ft : Nat → Nat → Nat} {mdl : Nat → Option MD} {h : HT} {d : MD} {pc w : Nat} (h1 : k_const7 ss cl tyf ft mdl h d pc w = true) : G_const ss TBL cl ft mdl d pc w := by
  unfold k_const7 at h1
  simp only [Bool.and_eq_true, decide_eq_true_eq] at h1
  obtain ⟨⟨a1, a2⟩, c⟩ := h1
  split at c
  · rename_i a b v e
    simp only [Bool.and_eq_true, decide_eq_true_eq] at c
    obtain ⟨⟨rfl, rfl⟩, c3⟩ := c
    exact Or.inr (Or.inr (Or.inr (Or.inr (Or.inr (Or.inr (Or.inr (Or.inl (⟨_, v, a1, a2, tb_t e rfl, c3⟩))))))))
  · cases c
theorem kt_const8 {ss : SS} {cl : List vw_C} {tyf : Nat → Nat → FieldType} {ft : Nat → Nat → Nat} {mdl : Nat → Option MD} {h : HT} {d : MD} {pc w : Nat} (h1 : k_const8 ss cl tyf ft mdl h d pc w = true) : G_const ss TBL cl ft mdl d pc w := by
  unfold k_const8 at h1
  simp only [Bool.and_eq_true, decide_eq_true_eq] at h1
  obtain ⟨⟨a1, a2⟩, c⟩ := h1
  split at c
  · rename_i a b v e
    simp only [Bool.and_eq_true, decide_eq_true_eq] at c
    obtain ⟨⟨rfl, rfl⟩, c3⟩ := c
    exact Or.inr (Or.inr (Or.inr (Or.inr (Or.inr (Or.inr (Or.inr (Or.inr (Or.inl (⟨_, v, a1, a2, tb_t e rfl, c3⟩)))))))))
  · cases c
theorem kt_const9 {ss : SS} {cl : List vw_C} {tyf : Nat → Nat → FieldType} {ft : Nat → Nat → Nat} {mdl : Nat → Option MD} {h : HT} {d : MD} {pc w : Nat} (h1 : k_const9 ss cl tyf ft mdl h d pc w = true) : G_const ss TBL cl ft mdl d pc w := by
  unfold k_const9 at h1
  simp only [Bool.and_eq_true, decide_eq_true_eq] at h1
  obtain ⟨⟨a1, a2⟩, c⟩ := h1
  split at c
  · rename_i a b v e
    simp only [Bool.and_eq_true, decide_eq_true_eq] at c
    obtain ⟨⟨rfl, rfl⟩, c3⟩ := c
    exact Or.inr (Or.inr (Or.inr (Or.inr (Or.inr (Or.inr (Or.inr (Or.inr (Or.inr (Or.inl (⟨_, v, a1, a2, tb_t e rfl, c3⟩))))))))))
  · cases c
theorem kt_const10 {ss : SS} {cl : List vw_C} {tyf : Nat → Nat → FieldType} {ft : Nat → Nat → Nat} {mdl : Nat → Option MD} {h : HT} {d : MD} {pc w : Nat} (h1 : k_const10 ss cl tyf ft mdl h d pc w = true) : G_const ss TBL cl ft mdl d pc w := by
  unfold k_const10 at h1
  simp only [Bool.and_eq_true, decide_eq_true_eq] at h1
  obtain ⟨⟨⟨a1, a2⟩, a3⟩, c⟩ := h1
  split at c
  · rename_i q e
    simp only [Bool.and_eq_true, decide_eq_true_eq] at c
    exact Or.inr (Or.inr (Or.inr (Or.inr (Or.inr (Or.inr (Or.inr (Or.inr (Or.inr (Or.inr (Or.inl (⟨_, q.2.2, a1, a2, by rw [← c.1, ← c.2]; exact List.mem_of_getElem? e, a3⟩)))))))))))
  · cases c
theorem kt_const11 {ss : SS} {cl : List vw_C} {tyf : Nat → Nat → FieldType} {ft : Nat → Nat → Nat} {mdl : Nat → Option MD} {h : HT} {d : MD} {pc w : Nat} (h1 : k_const11 ss cl tyf ft mdl h d pc w = true) : G_const ss TBL cl ft mdl d pc w := by
  unfold k_const11 at h1
  simp only [Bool.and_eq_true, decide_eq_true_eq] at h1
  exact Or.inr (Or.inr (Or.inr (Or.inr (Or.inr (Or.inr (Or.inr (Or.inr (Or.inr (Or.inr (Or.inr (⟨_, h1.1.1.1, h1.1.1.2, isw_t h1.1.2, h1.2⟩)))))))))))
def tyk (b : Nat) (t : FieldType) : Bool := (decide (b = 0) && decide (t = .int)) || ((decide (b = 1) && decide (t = .boolean)) || ((decide (b = 2) && decide (t = .long)) || (decide (b = 3) && t.isReference)))
theorem tyk_t {b : Nat} {t : FieldType} (h : tyk b t = true) : (b = 0 ∧ t = .int) ∨ (b = 1 ∧ t = .boolean) ∨ (b = 2 ∧ t = .long) ∨ (b = 3 ∧ t.isReference = true) := by
  unfold tyk at h
  simpa only [Bool.and_eq_true, Bool.or_eq_true, decide_eq_true_eq] using h
def atn (k : Nat) : ArrayType := match k with
  | 0 => .boolean
  | 1 => .byte
  | 2 => .int
  | 3 => .long
  | _ => .double
def mty (k : Nat) : FieldType := if k = 37 then .int else .long
noncomputable def swo (pc b : Nat) : Array Int := ((List.range (swn b)).map (fun j => ((Nat.mod (Nat.shiftRight b (Nat.add 48 (Nat.mul 16 j))) 65536 : Nat) : Int) - (pc : Int))).toArray
theorem swo_t {pc b j : Nat} (h : j < swn b) : ∃ off : Int, (swo pc b)[j]? = some off ∧ (pc : Int) + off = ((Nat.mod (Nat.shiftRight b (Nat.add 48 (Nat.mul 16 j))) 65536 : Nat) : Int) := by
  refine ⟨((Nat.mod (Nat.shiftRight b (Nat.add 48 (Nat.mul 16 j))) 65536 : Nat) : Int) - (pc : Int), ?_, by omega⟩
  unfold swo
  rw [List.getElem?_toArray, List.getElem?_map, List.getElem?_range h]
  rfl
def alls : List Cond → List Nat → Bool
  | [], _ => true
  | w :: t, i :: l => isw i w && vx_ot w && alls t l
  | _ :: _, [] => false
theorem alls_t : ∀ {ws : List Cond} {l : List Nat}, alls ws l = true → ∀ w ∈ ws, w ∈ TBL ∧ vx_ot w = true
  | [], _, _ => fun _ h => by cases h
  | w :: t, i :: l, h => fun x hx => by
    simp only [alls, Bool.and_eq_true] at h
    rcases List.mem_cons.mp hx with rfl | hx
    · exact ⟨isw_t h.1.1, h.1.2⟩
    · exact alls_t h.2 x hx
  | _ :: _, [], h => by simp [alls] at h
def thk (k : Nat) : Nat := if k = 3 then 13 else 7
def thb (k : Nat) : ByteArray := if k = 3 then ⟨#[0x2a, 0x2b, 0xb7, 0x00, 0x0d, 0xb1]⟩ else Bundle.six
def thx (k : Nat) : Bool := decide (decode (thb k) 0 = .ok (.aload_n 0, 1)) && decide (decode (thb k) 1 = .ok (.aload_n 1, 1)) && decide (decode (thb k) 2 = .ok (.invokespecial (thk k), 3)) && decide (decode (thb k) 5 = .ok (.return_, 1))
theorem thx_t {k : Nat} (h : thx k = true) : vz_by (thk k) (thb k) := by
  unfold thx at h
  simp only [Bool.and_eq_true, decide_eq_true_eq] at h
  exact ⟨h.1.1.1, h.1.1.2, h.1.2, h.2⟩
def prm (s : String) (n : Nat) : Bool := match parseMethodDescriptor s with
  | some sig => decide (n = sig.parameters.length)
  | none => true
theorem prm_t {s : String} {n : Nat} (h : prm s n = true) : ∀ sig, parseMethodDescriptor s = some sig → n = sig.parameters.length := fun sig e => by
  unfold prm at h
  rw [e] at h
  exact of_decide_eq_true h
def prm1 (s : String) (n : Nat) : Bool := match parseMethodDescriptor s with
  | some sig => decide (n = sig.parameters.length + 1)
  | none => true
theorem prm1_t {s : String} {n : Nat} (h : prm1 s n = true) : ∀ sig, parseMethodDescriptor s = some sig → n = sig.parameters.length + 1 := fun sig e => by
  unfold prm1 at h
  rw [e] at h
  exact of_decide_eq_true h
/-- hints: kind, index, code, initialized, link, static or instance, selects -/
def k_link (cl : List vw_C) (h : HT) (d d' : MD) (pc b : Nat) : Bool := (match hn h 0 with
  | 0 => decide (decode d.2.1 pc = .ok (.invokestatic (hn h 1), 3)) && isw (hn h 4) (.methodLink d.1.cls (hn h 1) d'.1) && isw (hn h 5) (.static d'.1) && prm d'.1.desc (b % 16)
  | 1 => decide (decode d.2.1 pc = .ok (.invokevirtual (hn h 1), 3)) && decide (d'.2.2.2.2 = []) && isw (hn h 4) (.methodLink d.1.cls (hn h 1) d'.1) && isw (hn h 5) (.instanceMethod d'.1) && isw (hn h 6) (.selects d'.1.cls d'.1 d'.1) && prm1 d'.1.desc (b % 16) && decide (b / 524288 % 2 = 1) && decide (b >>> 68 = hn h 7 + 1) && decide (hn h 7 < 32) && (match cl[hn h 7]? with | some r => decide (r.1 = d'.1.cls) | none => false)
  | 2 => decide (decode d.2.1 pc = .ok (.invokespecial (hn h 1), 3)) && decide (d'.2.2.2.2 = []) && decide (d'.2.2.2.1 = none) && decide (d'.1.name = "<init>") && isw (hn h 4) (.methodLink d.1.cls (hn h 1) d'.1) && isw (hn h 5) (.instanceMethod d'.1) && prm1 d'.1.desc (b % 16) && decide (b / 524288 % 2 = 1)
  | _ => decide (decode d.2.1 pc = .ok (.invokespecial (hn h 1), 3)) && decide (d'.2.2.2.2 = []) && decide (d'.2.2.2.1 = none) && decide (d'.1.name = "<init>") && isw (hn h 4) (.methodLinkNest d.1.cls (hn h 1) d'.1 "GridPrices") && isw (hn h 5) (.instanceMethod d'.1) && prm1 d'.1.desc (b % 16) && decide (b / 524288 % 2 = 1))
theorem kt_link {cl : List vw_C} {h : HT} {d d' : MD} {pc b : Nat} (hM : Mok d') (h1 : k_link cl h d d' pc b = true) : LinkOK TBL cl d d' pc b := by
  unfold k_link at h1
  obtain ⟨a1, a2, a3, a4, a5⟩ := hM
  refine ⟨a1, a2, a3, ⟨a4, a5⟩, ?_⟩
  have c := h1
  split at c
  · simp only [Bool.and_eq_true, decide_eq_true_eq] at c
    obtain ⟨⟨⟨b1, b2⟩, b3⟩, b4⟩ := c
    exact Or.inl ⟨_, b1, isw_t b2, isw_t b3, prm_t b4⟩
  · simp only [Bool.and_eq_true, decide_eq_true_eq] at c
    obtain ⟨⟨⟨⟨⟨⟨⟨⟨⟨b1, b2⟩, b3⟩, b4⟩, b5⟩, b6⟩, b7⟩, b8⟩, b9⟩, c⟩ := c
    split at c
    · rename_i r e
      exact Or.inr (Or.inl ⟨_, _, r, b1, b2, isw_t b3, isw_t b4, isw_t b5, prm1_t b6, b7, b8, b9, e, of_decide_eq_true c⟩)
    · cases c
  · simp only [Bool.and_eq_true, decide_eq_true_eq] at c
    obtain ⟨⟨⟨⟨⟨⟨⟨b1, b2⟩, b3⟩, b4⟩, b5⟩, b6⟩, b7⟩, b8⟩ := c
    exact Or.inr (Or.inr (Or.inl ⟨_, b1, b2, b3, b4, isw_t b5, isw_t b6, prm1_t b7, b8⟩))
  · simp only [Bool.and_eq_true, decide_eq_true_eq] at c
    obtain ⟨⟨⟨⟨⟨⟨⟨b1, b2⟩, b3⟩, b4⟩, b5⟩, b6⟩, b7⟩, b8⟩ := c
    exact Or.inr (Or.inr (Or.inr ⟨_, _, b1, b2, b3, b4, isw_t b5, isw_t b6, prm1_t b7, b8⟩))
def k_pre (ss : SS) (d : MD) (pc : Nat) (cls : String) : List ExceptionTableEntry → List (Nat × Nat) → Bool
  | [], _ => true
  | z :: t, q :: l => (!(covers z pc) || (decide (z.catchType ≠ 0) && (match ss.2[q.2]? with | some r => decide (r.1 = cls) && isw q.1 (.classLink d.1.cls z.catchType r.2) | none => false))) && k_pre ss d pc cls t l
  | _ :: _, [] => false
theorem kt_pre {ss : SS} {d : MD} {pc : Nat} {cls : String} : ∀ {pre : List ExceptionTableEntry} {l : List (Nat × Nat)}, k_pre ss d pc cls pre l = true → ∀ z ∈ pre, covers z pc = false ∨ (z.catchType ≠ 0 ∧ ∃ nm : String, Cond.classLink d.1.cls z.catchType nm ∈ TBL ∧ (cls, nm) ∈ ss.2)
  | [], _, _ => fun _ h => by cases h
  | z :: t, q :: l, h => fun x hx => by
    simp only [k_pre, Bool.and_eq_true, Bool.or_eq_true, Bool.not_eq_true', decide_eq_true_eq] at h
    obtain ⟨h0, h2⟩ := h
    rcases List.mem_cons.mp hx with rfl | hx
    · rcases h0 with h0 | ⟨h0, c⟩
      · exact Or.inl h0
      · split at c
        · rename_i r e
          simp only [Bool.and_eq_true, decide_eq_true_eq] at c
          exact Or.inr ⟨h0, r.2, isw_t c.2, by rw [← c.1]; exact List.mem_of_getElem? e⟩
        · cases c
    · exact kt_pre h2 x hx
  | _ :: _, [], h => by simp [k_pre] at h
def k_hnd (ss : SS) (d : MD) (pc : Nat) (cls : String) (hd : Nat) (q : Nat × Nat × Nat × List (Nat × Nat)) : Bool := match (tableOf d.2.2.2.2).drop q.1, lw_tbl[q.2.1]? with
  | x :: _, some (.classLink a b nm) => decide (x.handlerPc = hd) && covers x pc && decide (x.catchType ≠ 0) && decide (a = d.1.cls) && decide (b = x.catchType) && isw q.2.2.1 (.castable cls nm) && k_pre ss d pc cls ((tableOf d.2.2.2.2).take q.1) q.2.2.2
  | _, _ => false
theorem kt_hnd {ss : SS} {d : MD} {pc : Nat} {cls : String} {hd : Nat} {q : Nat × Nat × Nat × List (Nat × Nat)} (h : k_hnd ss d pc cls hd q = true) : HndOK ss TBL d pc cls hd := by
  unfold k_hnd at h
  split at h
  · rename_i x l9 a b nm e1 e2
    simp only [Bool.and_eq_true, decide_eq_true_eq] at h
    obtain ⟨⟨⟨⟨⟨⟨b1, b2⟩, b3⟩, b4⟩, b5⟩, b6⟩, b7⟩ := h
    subst b4 b5
    exact ⟨(tableOf d.2.2.2.2).take q.1, x, l9, nm, by rw [← e1, List.take_append_drop], b1, by simpa [covers] using b2, b3, tb_t e2 rfl, isw_t b6, kt_pre b7⟩
  · cases h
def k_hx (ss : SS) (h : HT) (d : MD) (pc b e : Nat) : Bool := decide ((b >>> (20 + 12 * e)) % 4096 = 0) || (match h.2[e]? with | some q => k_hnd ss d pc (excN e) ((b >>> (20 + 12 * e)) % 4096) q | none => false)
theorem kt_hx {ss : SS} {h : HT} {d : MD} {pc b e : Nat} (h1 : k_hx ss h d pc b e = true) : (b >>> (20 + 12 * e)) % 4096 ≠ 0 → HndOK ss TBL d pc (excN e) ((b >>> (20 + 12 * e)) % 4096) := fun hne => by
  unfold k_hx at h1
  simp only [Bool.or_eq_true, decide_eq_true_eq] at h1
  rcases h1 with h1 | c
  · exact absurd h1 hne
  · split at c
    · exact kt_hnd c
    · cases c
def k_const (ss : SS) (cl : List vw_C) (tyf : Nat → Nat → FieldType) (ft : Nat → Nat → Nat) (mdl : Nat → Option MD) (h : HT) (d : MD) (pc w : Nat) : Bool := (match hn h 0 with | 0 => k_const0 ss cl tyf ft mdl h d pc w | 1 => k_const1 ss cl tyf ft mdl h d pc w | 2 => k_const2 ss cl tyf ft mdl h d pc w | 3 => k_const3 ss cl tyf ft mdl h d pc w | 4 => k_const4 ss cl tyf ft mdl h d pc w | 5 => k_const5 ss cl tyf ft mdl h d pc w | 6 => k_const6 ss cl tyf ft mdl h d pc w | 7 => k_const7 ss cl tyf ft mdl h d pc w | 8 => k_const8 ss cl tyf ft mdl h d pc w | 9 => k_const9 ss cl tyf ft mdl h d pc w | 10 => k_const10 ss cl tyf ft mdl h d pc w | _ => k_const11 ss cl tyf ft mdl h d pc w)
theorem kt_const {ss : SS} {cl : List vw_C} {tyf : Nat → Nat → FieldType} {ft : Nat → Nat → Nat} {mdl : Nat → Option MD} {h : HT} {d : MD} {pc w : Nat} (hC : HB cl tyf ft mdl) (h1 : k_const ss cl tyf ft mdl h d pc w = true) : G_const ss TBL cl ft mdl d pc w := by
  unfold k_const at h1
  split at h1
  · exact kt_const0 h1
  · exact kt_const1 h1
  · exact kt_const2 h1
  · exact kt_const3 h1
  · exact kt_const4 h1
  · exact kt_const5 h1
  · exact kt_const6 h1
  · exact kt_const7 h1
  · exact kt_const8 h1
  · exact kt_const9 h1
  · exact kt_const10 h1
  · exact kt_const11 h1
def k_loadI (ss : SS) (cl : List vw_C) (tyf : Nat → Nat → FieldType) (ft : Nat → Nat → Nat) (mdl : Nat → Option MD) (h : HT) (d : MD) (pc w : Nat) : Bool := (decide (decode d.2.1 pc = .ok (.iload_n (Fin.ofNat 4 (fa w)), 1)) && decide ((Fin.ofNat 4 (fa w) : Nat) = fa w) && decide (nxt w = pc + 1)) || (decide (decode d.2.1 pc = .ok (.iload (fa w), 2)) && decide (nxt w = pc + 2))
theorem kt_loadI {ss : SS} {cl : List vw_C} {tyf : Nat → Nat → FieldType} {ft : Nat → Nat → Nat} {mdl : Nat → Option MD} {h : HT} {d : MD} {pc w : Nat} (hC : HB cl tyf ft mdl) (h1 : k_loadI ss cl tyf ft mdl h d pc w = true) : G_loadI ss TBL cl ft mdl d pc w := by
  unfold k_loadI at h1
  simp only [Bool.or_eq_true, Bool.and_eq_true, decide_eq_true_eq] at h1
  exact h1.elim (fun q => Or.inl ⟨_, q.1.1, q.1.2, q.2⟩) Or.inr
def k_loadA (ss : SS) (cl : List vw_C) (tyf : Nat → Nat → FieldType) (ft : Nat → Nat → Nat) (mdl : Nat → Option MD) (h : HT) (d : MD) (pc w : Nat) : Bool := (decide (decode d.2.1 pc = .ok (.aload_n (Fin.ofNat 4 (fa w)), 1)) && decide ((Fin.ofNat 4 (fa w) : Nat) = fa w) && decide (nxt w = pc + 1)) || (decide (decode d.2.1 pc = .ok (.aload (fa w), 2)) && decide (nxt w = pc + 2))
theorem kt_loadA {ss : SS} {cl : List vw_C} {tyf : Nat → Nat → FieldType} {ft : Nat → Nat → Nat} {mdl : Nat → Option MD} {h : HT} {d : MD} {pc w : Nat} (hC : HB cl tyf ft mdl) (h1 : k_loadA ss cl tyf ft mdl h d pc w = true) : G_loadA ss TBL cl ft mdl d pc w := by
  unfold k_loadA at h1
  simp only [Bool.or_eq_true, Bool.and_eq_true, decide_eq_true_eq] at h1
  exact h1.elim (fun q => Or.inl ⟨_, q.1.1, q.1.2, q.2⟩) Or.inr
def k_getf (ss : SS) (cl : List vw_C) (tyf : Nat → Nat → FieldType) (ft : Nat → Nat → Nat) (mdl : Nat → Option MD) (h : HT) (d : MD) (pc w : Nat) : Bool := decide (decode d.2.1 pc = .ok (.getfield (hn h 0), 3)) && decide (nxt w = pc + 3) && decide (fa w % 64 < 32) && (match cl[fa w % 64]? with | some r => decide (fa w / 64 < r.2.2) && decide (ft (fa w % 64) (fa w / 64) = fb w) && (isw (hn h 1) (.fieldLink d.1.cls (hn h 0) (r.2.1 (fa w / 64)).1 (r.2.1 (fa w / 64)).2.1 (r.2.1 (fa w / 64)).2.2.1) || (isw (hn h 1) (.fieldLink d.1.cls (hn h 0) "java/util/ArrayList" (r.2.1 (fa w / 64)).2.1 (r.2.1 (fa w / 64)).2.2.1) && isw (hn h 2) (.sameField "java/util/ArrayList" (r.2.1 (fa w / 64)).1 (r.2.1 (fa w / 64)).2.1 (r.2.1 (fa w / 64)).2.2.1))) | none => false)
theorem kt_getf {ss : SS} {cl : List vw_C} {tyf : Nat → Nat → FieldType} {ft : Nat → Nat → Nat} {mdl : Nat → Option MD} {h : HT} {d : MD} {pc w : Nat} (hC : HB cl tyf ft mdl) (h1 : k_getf ss cl tyf ft mdl h d pc w = true) : G_getf ss TBL cl ft mdl d pc w := by
  unfold k_getf at h1
  simp only [Bool.and_eq_true, decide_eq_true_eq] at h1
  obtain ⟨⟨⟨a1, a2⟩, a3⟩, c⟩ := h1
  split at c
  · rename_i r e
    obtain ⟨C, T9, N⟩ := r
    simp only [Bool.and_eq_true, Bool.or_eq_true, decide_eq_true_eq] at c
    obtain ⟨u1, u2, u3, u4⟩ := hC.1 _ _ e
    obtain ⟨⟨c1, c2⟩, c3 | ⟨c3, c4⟩⟩ := c
    · exact ⟨C, _, T9, N, _, a1, a2, e, a3, c1, c2, u1, isw_t c3, Or.inl rfl⟩
    · exact ⟨C, _, T9, N, _, a1, a2, e, a3, c1, c2, u1, isw_t c3, Or.inr (isw_t c4)⟩
  · cases c
def k_last (ss : SS) (cl : List vw_C) (tyf : Nat → Nat → FieldType) (ft : Nat → Nat → Nat) (mdl : Nat → Option MD) (h : HT) (d : MD) (pc w : Nat) : Bool := decide (decode d.2.1 pc = .ok (.lastore, 1)) && decide (nxt w = pc + 1)
theorem kt_last {ss : SS} {cl : List vw_C} {tyf : Nat → Nat → FieldType} {ft : Nat → Nat → Nat} {mdl : Nat → Option MD} {h : HT} {d : MD} {pc w : Nat} (hC : HB cl tyf ft mdl) (h1 : k_last ss cl tyf ft mdl h d pc w = true) : G_last ss TBL cl ft mdl d pc w := by
  unfold k_last at h1
  simp only [Bool.and_eq_true, decide_eq_true_eq] at h1
  exact h1
def k_loadL (ss : SS) (cl : List vw_C) (tyf : Nat → Nat → FieldType) (ft : Nat → Nat → Nat) (mdl : Nat → Option MD) (h : HT) (d : MD) (pc w : Nat) : Bool := (decide (decode d.2.1 pc = .ok (.lload_n (Fin.ofNat 4 (fa w)), 1)) && decide ((Fin.ofNat 4 (fa w) : Nat) = fa w) && decide (nxt w = pc + 1)) || (decide (decode d.2.1 pc = .ok (.lload (fa w), 2)) && decide (nxt w = pc + 2))
theorem kt_loadL {ss : SS} {cl : List vw_C} {tyf : Nat → Nat → FieldType} {ft : Nat → Nat → Nat} {mdl : Nat → Option MD} {h : HT} {d : MD} {pc w : Nat} (hC : HB cl tyf ft mdl) (h1 : k_loadL ss cl tyf ft mdl h d pc w = true) : G_loadL ss TBL cl ft mdl d pc w := by
  unfold k_loadL at h1
  simp only [Bool.or_eq_true, Bool.and_eq_true, decide_eq_true_eq] at h1
  exact h1.elim (fun q => Or.inl ⟨_, q.1.1, q.1.2, q.2⟩) Or.inr
def k_goto (ss : SS) (cl : List vw_C) (tyf : Nat → Nat → FieldType) (ft : Nat → Nat → Nat) (mdl : Nat → Option MD) (h : HT) (d : MD) (pc w : Nat) : Bool := decide (decode d.2.1 pc = .ok (.goto ((nxt w : Int) - (pc : Int)), 3))
theorem kt_goto {ss : SS} {cl : List vw_C} {tyf : Nat → Nat → FieldType} {ft : Nat → Nat → Nat} {mdl : Nat → Option MD} {h : HT} {d : MD} {pc w : Nat} (hC : HB cl tyf ft mdl) (h1 : k_goto ss cl tyf ft mdl h d pc w = true) : G_goto ss TBL cl ft mdl d pc w := by
  unfold k_goto at h1
  exact ⟨_, of_decide_eq_true h1, by omega⟩
def k_icmpGe (ss : SS) (cl : List vw_C) (tyf : Nat → Nat → FieldType) (ft : Nat → Nat → Nat) (mdl : Nat → Option MD) (h : HT) (d : MD) (pc w : Nat) : Bool := decide (decode d.2.1 pc = .ok (.if_icmp .ge ((fa w : Int) - (pc : Int)), 3)) && decide (nxt w = pc + 3)
theorem kt_icmpGe {ss : SS} {cl : List vw_C} {tyf : Nat → Nat → FieldType} {ft : Nat → Nat → Nat} {mdl : Nat → Option MD} {h : HT} {d : MD} {pc w : Nat} (hC : HB cl tyf ft mdl) (h1 : k_icmpGe ss cl tyf ft mdl h d pc w = true) : G_icmpGe ss TBL cl ft mdl d pc w := by
  unfold k_icmpGe at h1
  simp only [Bool.and_eq_true, decide_eq_true_eq] at h1
  exact ⟨_, h1.1, h1.2, by omega⟩
def k_iinc (ss : SS) (cl : List vw_C) (tyf : Nat → Nat → FieldType) (ft : Nat → Nat → Nat) (mdl : Nat → Option MD) (h : HT) (d : MD) (pc w : Nat) : Bool := decide (fa w < d.2.2.1) && decide (decode d.2.1 pc = .ok (.iinc (fa w) (hi h 0), 3)) && decide (nxt w = pc + 3) && decide (fb w = iEx (Int32.ofInt (hi h 0)))
theorem kt_iinc {ss : SS} {cl : List vw_C} {tyf : Nat → Nat → FieldType} {ft : Nat → Nat → Nat} {mdl : Nat → Option MD} {h : HT} {d : MD} {pc w : Nat} (hC : HB cl tyf ft mdl) (h1 : k_iinc ss cl tyf ft mdl h d pc w = true) : G_iinc ss TBL cl ft mdl d pc w := by
  unfold k_iinc at h1
  simp only [Bool.and_eq_true, decide_eq_true_eq] at h1
  exact ⟨h1.1.1.1, _, h1.1.1.2, h1.1.2, h1.2⟩
def k_iadd (ss : SS) (cl : List vw_C) (tyf : Nat → Nat → FieldType) (ft : Nat → Nat → Nat) (mdl : Nat → Option MD) (h : HT) (d : MD) (pc w : Nat) : Bool := decide (decode d.2.1 pc = .ok (.iadd, 1)) && decide (nxt w = pc + 1)
theorem kt_iadd {ss : SS} {cl : List vw_C} {tyf : Nat → Nat → FieldType} {ft : Nat → Nat → Nat} {mdl : Nat → Option MD} {h : HT} {d : MD} {pc w : Nat} (hC : HB cl tyf ft mdl) (h1 : k_iadd ss cl tyf ft mdl h d pc w = true) : G_iadd ss TBL cl ft mdl d pc w := by
  unfold k_iadd at h1
  simp only [Bool.and_eq_true, decide_eq_true_eq] at h1
  exact h1
def k_storeL (ss : SS) (cl : List vw_C) (tyf : Nat → Nat → FieldType) (ft : Nat → Nat → Nat) (mdl : Nat → Option MD) (h : HT) (d : MD) (pc w : Nat) : Bool := decide (fa w + 1 < d.2.2.1) && ((decide (decode d.2.1 pc = .ok (.lstore_n (Fin.ofNat 4 (fa w)), 1)) && decide ((Fin.ofNat 4 (fa w) : Nat) = fa w) && decide (nxt w = pc + 1)) || (decide (decode d.2.1 pc = .ok (.lstore (fa w), 2)) && decide (nxt w = pc + 2)))
theorem kt_storeL {ss : SS} {cl : List vw_C} {tyf : Nat → Nat → FieldType} {ft : Nat → Nat → Nat} {mdl : Nat → Option MD} {h : HT} {d : MD} {pc w : Nat} (hC : HB cl tyf ft mdl) (h1 : k_storeL ss cl tyf ft mdl h d pc w = true) : G_storeL ss TBL cl ft mdl d pc w := by
  unfold k_storeL at h1
  simp only [Bool.or_eq_true, Bool.and_eq_true, decide_eq_true_eq] at h1
  exact ⟨h1.1, h1.2.elim (fun q => Or.inl ⟨_, q.1.1, q.1.2, q.2⟩) Or.inr⟩
def k_lcmp (ss : SS) (cl : List vw_C) (tyf : Nat → Nat → FieldType) (ft : Nat → Nat → Nat) (mdl : Nat → Option MD) (h : HT) (d : MD) (pc w : Nat) : Bool := decide (decode d.2.1 pc = .ok (.lcmp, 1)) && decide (nxt w = pc + 1)
theorem kt_lcmp {ss : SS} {cl : List vw_C} {tyf : Nat → Nat → FieldType} {ft : Nat → Nat → Nat} {mdl : Nat → Option MD} {h : HT} {d : MD} {pc w : Nat} (hC : HB cl tyf ft mdl) (h1 : k_lcmp ss cl tyf ft mdl h d pc w = true) : G_lcmp ss TBL cl ft mdl d pc w := by
  unfold k_lcmp at h1
  simp only [Bool.and_eq_true, decide_eq_true_eq] at h1
  exact h1
def k_lald (ss : SS) (cl : List vw_C) (tyf : Nat → Nat → FieldType) (ft : Nat → Nat → Nat) (mdl : Nat → Option MD) (h : HT) (d : MD) (pc w : Nat) : Bool := decide (decode d.2.1 pc = .ok (.laload, 1)) && decide (nxt w = pc + 1)
theorem kt_lald {ss : SS} {cl : List vw_C} {tyf : Nat → Nat → FieldType} {ft : Nat → Nat → Nat} {mdl : Nat → Option MD} {h : HT} {d : MD} {pc w : Nat} (hC : HB cl tyf ft mdl) (h1 : k_lald ss cl tyf ft mdl h d pc w = true) : G_lald ss TBL cl ft mdl d pc w := by
  unfold k_lald at h1
  simp only [Bool.and_eq_true, decide_eq_true_eq] at h1
  exact h1
def k_ifEq (ss : SS) (cl : List vw_C) (tyf : Nat → Nat → FieldType) (ft : Nat → Nat → Nat) (mdl : Nat → Option MD) (h : HT) (d : MD) (pc w : Nat) : Bool := decide (decode d.2.1 pc = .ok (.ifCond .eq ((fa w : Int) - (pc : Int)), 3)) && decide (nxt w = pc + 3)
theorem kt_ifEq {ss : SS} {cl : List vw_C} {tyf : Nat → Nat → FieldType} {ft : Nat → Nat → Nat} {mdl : Nat → Option MD} {h : HT} {d : MD} {pc w : Nat} (hC : HB cl tyf ft mdl) (h1 : k_ifEq ss cl tyf ft mdl h d pc w = true) : G_ifEq ss TBL cl ft mdl d pc w := by
  unfold k_ifEq at h1
  simp only [Bool.and_eq_true, decide_eq_true_eq] at h1
  exact ⟨_, h1.1, h1.2, by omega⟩
def k_call (ss : SS) (cl : List vw_C) (tyf : Nat → Nat → FieldType) (ft : Nat → Nat → Nat) (mdl : Nat → Option MD) (h : HT) (d : MD) (pc w : Nat) : Bool := (match mdl (fa w) with | some d' => k_link cl h d d' pc (fb w) && decide (fb w / 1024 % 256 = d'.2.2.1) && decide (fb w / 16 % 64 ≤ d'.2.2.1) && decide (fb w / 262144 % 2 = 1 ↔ d'.2.2.2.1 ≠ none) && decide (nxt w = pc + 3) && k_hx ss h d pc (fb w) 0 && k_hx ss h d pc (fb w) 1 && k_hx ss h d pc (fb w) 2 && k_hx ss h d pc (fb w) 3 && (decide (d'.2.2.2.2 = []) || decide ((fb w >>> 74) % 2 = 1)) | none => false)
theorem kt_call {ss : SS} {cl : List vw_C} {tyf : Nat → Nat → FieldType} {ft : Nat → Nat → Nat} {mdl : Nat → Option MD} {h : HT} {d : MD} {pc w : Nat} (hC : HB cl tyf ft mdl) (h1 : k_call ss cl tyf ft mdl h d pc w = true) : G_call ss TBL cl ft mdl d pc w := by
  unfold k_call at h1
  split at h1
  · rename_i d' e
    simp only [Bool.and_eq_true, Bool.or_eq_true, decide_eq_true_eq] at h1
    obtain ⟨⟨⟨⟨⟨⟨⟨⟨⟨a1, a2⟩, a3⟩, a4⟩, a5⟩, x0⟩, x1⟩, x2⟩, x3⟩, a6⟩ := h1
    refine ⟨d', e, kt_link (hC.2 _ _ e) a1, a2, a3, a4, a5, fun e9 he9 => ?_, fun q => a6.elim (fun y => absurd y q) id⟩
    rcases (show e9 = 0 ∨ e9 = 1 ∨ e9 = 2 ∨ e9 = 3 by omega) with rfl | rfl | rfl | rfl
    · exact kt_hx x0
    · exact kt_hx x1
    · exact kt_hx x2
    · exact kt_hx x3
  · cases h1
def k_storeI (ss : SS) (cl : List vw_C) (tyf : Nat → Nat → FieldType) (ft : Nat → Nat → Nat) (mdl : Nat → Option MD) (h : HT) (d : MD) (pc w : Nat) : Bool := decide (fa w < d.2.2.1) && ((decide (decode d.2.1 pc = .ok (.istore_n (Fin.ofNat 4 (fa w)), 1)) && decide ((Fin.ofNat 4 (fa w) : Nat) = fa w) && decide (nxt w = pc + 1)) || (decide (decode d.2.1 pc = .ok (.istore (fa w), 2)) && decide (nxt w = pc + 2)))
theorem kt_storeI {ss : SS} {cl : List vw_C} {tyf : Nat → Nat → FieldType} {ft : Nat → Nat → Nat} {mdl : Nat → Option MD} {h : HT} {d : MD} {pc w : Nat} (hC : HB cl tyf ft mdl) (h1 : k_storeI ss cl tyf ft mdl h d pc w = true) : G_storeI ss TBL cl ft mdl d pc w := by
  unfold k_storeI at h1
  simp only [Bool.or_eq_true, Bool.and_eq_true, decide_eq_true_eq] at h1
  exact ⟨h1.1, h1.2.elim (fun q => Or.inl ⟨_, q.1.1, q.1.2, q.2⟩) Or.inr⟩
def k_imul (ss : SS) (cl : List vw_C) (tyf : Nat → Nat → FieldType) (ft : Nat → Nat → Nat) (mdl : Nat → Option MD) (h : HT) (d : MD) (pc w : Nat) : Bool := decide (decode d.2.1 pc = .ok (.imul, 1)) && decide (nxt w = pc + 1)
theorem kt_imul {ss : SS} {cl : List vw_C} {tyf : Nat → Nat → FieldType} {ft : Nat → Nat → Nat} {mdl : Nat → Option MD} {h : HT} {d : MD} {pc w : Nat} (hC : HB cl tyf ft mdl) (h1 : k_imul ss cl tyf ft mdl h d pc w = true) : G_imul ss TBL cl ft mdl d pc w := by
  unfold k_imul at h1
  simp only [Bool.and_eq_true, decide_eq_true_eq] at h1
  exact h1
def k_aald (ss : SS) (cl : List vw_C) (tyf : Nat → Nat → FieldType) (ft : Nat → Nat → Nat) (mdl : Nat → Option MD) (h : HT) (d : MD) (pc w : Nat) : Bool := decide (decode d.2.1 pc = .ok (.aaload, 1)) && decide (nxt w = pc + 1)
theorem kt_aald {ss : SS} {cl : List vw_C} {tyf : Nat → Nat → FieldType} {ft : Nat → Nat → Nat} {mdl : Nat → Option MD} {h : HT} {d : MD} {pc w : Nat} (hC : HB cl tyf ft mdl) (h1 : k_aald ss cl tyf ft mdl h d pc w = true) : G_aald ss TBL cl ft mdl d pc w := by
  unfold k_aald at h1
  simp only [Bool.and_eq_true, decide_eq_true_eq] at h1
  exact h1
def k_putf (ss : SS) (cl : List vw_C) (tyf : Nat → Nat → FieldType) (ft : Nat → Nat → Nat) (mdl : Nat → Option MD) (h : HT) (d : MD) (pc w : Nat) : Bool := decide (decode d.2.1 pc = .ok (.putfield (hn h 0), 3)) && decide (nxt w = pc + 3) && decide (fa w % 64 < 32) && (match cl[fa w % 64]? with | some r => decide (fa w / 64 < r.2.2) && decide (ft (fa w % 64) (fa w / 64) = fb w) && (isw (hn h 1) (.fieldLink d.1.cls (hn h 0) (r.2.1 (fa w / 64)).1 (r.2.1 (fa w / 64)).2.1 (r.2.1 (fa w / 64)).2.2.1) || (isw (hn h 1) (.fieldLink d.1.cls (hn h 0) "java/util/ArrayList" (r.2.1 (fa w / 64)).2.1 (r.2.1 (fa w / 64)).2.2.1) && isw (hn h 2) (.sameField "java/util/ArrayList" (r.2.1 (fa w / 64)).1 (r.2.1 (fa w / 64)).2.1 (r.2.1 (fa w / 64)).2.2.1))) && (decide ((r.2.1 (fa w / 64)).2.2.2 = false) || (decide ((r.2.1 (fa w / 64)).2.2.2 = true) && (decide (d.1.name = "<init>") && decide ((r.2.1 (fa w / 64)).1 = d.1.cls)))) && tyk (fb w) (tyf (fa w % 64) (fa w / 64)) | none => false)
theorem kt_putf {ss : SS} {cl : List vw_C} {tyf : Nat → Nat → FieldType} {ft : Nat → Nat → Nat} {mdl : Nat → Option MD} {h : HT} {d : MD} {pc w : Nat} (hC : HB cl tyf ft mdl) (h1 : k_putf ss cl tyf ft mdl h d pc w = true) : G_putf ss TBL cl ft mdl d pc w := by
  unfold k_putf at h1
  simp only [Bool.and_eq_true, decide_eq_true_eq] at h1
  obtain ⟨⟨⟨a1, a2⟩, a3⟩, c⟩ := h1
  split at c
  · rename_i r e
    obtain ⟨C, T9, N⟩ := r
    simp only [Bool.and_eq_true, Bool.or_eq_true, decide_eq_true_eq] at c
    obtain ⟨u1, u2, u3, u4⟩ := hC.1 _ _ e
    obtain ⟨⟨⟨⟨c1, c2⟩, c34⟩, c5⟩, c6⟩ := c
    rcases c34 with c3 | ⟨c3, c4⟩
    · exact ⟨C, _, T9, N, _, tyf (fa w % 64), a1, a2, e, a3, c1, c2, u1, isw_t c3, Or.inl rfl, u2, u3, c5, tyk_t c6⟩
    · exact ⟨C, _, T9, N, _, tyf (fa w % 64), a1, a2, e, a3, c1, c2, u1, isw_t c3, Or.inr (isw_t c4), u2, u3, c5, tyk_t c6⟩
  · cases c
def k_ifGe (ss : SS) (cl : List vw_C) (tyf : Nat → Nat → FieldType) (ft : Nat → Nat → Nat) (mdl : Nat → Option MD) (h : HT) (d : MD) (pc w : Nat) : Bool := decide (decode d.2.1 pc = .ok (.ifCond .ge ((fa w : Int) - (pc : Int)), 3)) && decide (nxt w = pc + 3)
theorem kt_ifGe {ss : SS} {cl : List vw_C} {tyf : Nat → Nat → FieldType} {ft : Nat → Nat → Nat} {mdl : Nat → Option MD} {h : HT} {d : MD} {pc w : Nat} (hC : HB cl tyf ft mdl) (h1 : k_ifGe ss cl tyf ft mdl h d pc w = true) : G_ifGe ss TBL cl ft mdl d pc w := by
  unfold k_ifGe at h1
  simp only [Bool.and_eq_true, decide_eq_true_eq] at h1
  exact ⟨_, h1.1, h1.2, by omega⟩
def k_lmul (ss : SS) (cl : List vw_C) (tyf : Nat → Nat → FieldType) (ft : Nat → Nat → Nat) (mdl : Nat → Option MD) (h : HT) (d : MD) (pc w : Nat) : Bool := decide (decode d.2.1 pc = .ok (.lmul, 1)) && decide (nxt w = pc + 1)
theorem kt_lmul {ss : SS} {cl : List vw_C} {tyf : Nat → Nat → FieldType} {ft : Nat → Nat → Nat} {mdl : Nat → Option MD} {h : HT} {d : MD} {pc w : Nat} (hC : HB cl tyf ft mdl) (h1 : k_lmul ss cl tyf ft mdl h d pc w = true) : G_lmul ss TBL cl ft mdl d pc w := by
  unfold k_lmul at h1
  simp only [Bool.and_eq_true, decide_eq_true_eq] at h1
  exact h1
def k_ldiv (ss : SS) (cl : List vw_C) (tyf : Nat → Nat → FieldType) (ft : Nat → Nat → Nat) (mdl : Nat → Option MD) (h : HT) (d : MD) (pc w : Nat) : Bool := decide (decode d.2.1 pc = .ok (.ldiv, 1)) && decide (nxt w = pc + 1)
theorem kt_ldiv {ss : SS} {cl : List vw_C} {tyf : Nat → Nat → FieldType} {ft : Nat → Nat → Nat} {mdl : Nat → Option MD} {h : HT} {d : MD} {pc w : Nat} (hC : HB cl tyf ft mdl) (h1 : k_ldiv ss cl tyf ft mdl h d pc w = true) : G_ldiv ss TBL cl ft mdl d pc w := by
  unfold k_ldiv at h1
  simp only [Bool.and_eq_true, decide_eq_true_eq] at h1
  exact h1
def k_irem (ss : SS) (cl : List vw_C) (tyf : Nat → Nat → FieldType) (ft : Nat → Nat → Nat) (mdl : Nat → Option MD) (h : HT) (d : MD) (pc w : Nat) : Bool := decide (decode d.2.1 pc = .ok (.irem, 1)) && decide (nxt w = pc + 1)
theorem kt_irem {ss : SS} {cl : List vw_C} {tyf : Nat → Nat → FieldType} {ft : Nat → Nat → Nat} {mdl : Nat → Option MD} {h : HT} {d : MD} {pc w : Nat} (hC : HB cl tyf ft mdl) (h1 : k_irem ss cl tyf ft mdl h d pc w = true) : G_irem ss TBL cl ft mdl d pc w := by
  unfold k_irem at h1
  simp only [Bool.and_eq_true, decide_eq_true_eq] at h1
  exact h1
def k_retV (ss : SS) (cl : List vw_C) (tyf : Nat → Nat → FieldType) (ft : Nat → Nat → Nat) (mdl : Nat → Option MD) (h : HT) (d : MD) (pc w : Nat) : Bool := decide (decode d.2.1 pc = .ok (.return_, 1)) && decide (d.2.2.2.1 = none)
theorem kt_retV {ss : SS} {cl : List vw_C} {tyf : Nat → Nat → FieldType} {ft : Nat → Nat → Nat} {mdl : Nat → Option MD} {h : HT} {d : MD} {pc w : Nat} (hC : HB cl tyf ft mdl) (h1 : k_retV ss cl tyf ft mdl h d pc w = true) : G_retV ss TBL cl ft mdl d pc w := by
  unfold k_retV at h1
  simp only [Bool.and_eq_true, decide_eq_true_eq] at h1
  exact h1
def k_retL (ss : SS) (cl : List vw_C) (tyf : Nat → Nat → FieldType) (ft : Nat → Nat → Nat) (mdl : Nat → Option MD) (h : HT) (d : MD) (pc w : Nat) : Bool := decide (decode d.2.1 pc = .ok (.lreturn, 1)) && decide (d.2.2.2.1 = some .long)
theorem kt_retL {ss : SS} {cl : List vw_C} {tyf : Nat → Nat → FieldType} {ft : Nat → Nat → Nat} {mdl : Nat → Option MD} {h : HT} {d : MD} {pc w : Nat} (hC : HB cl tyf ft mdl) (h1 : k_retL ss cl tyf ft mdl h d pc w = true) : G_retL ss TBL cl ft mdl d pc w := by
  unfold k_retL at h1
  simp only [Bool.and_eq_true, decide_eq_true_eq] at h1
  exact h1
def k_iald (ss : SS) (cl : List vw_C) (tyf : Nat → Nat → FieldType) (ft : Nat → Nat → Nat) (mdl : Nat → Option MD) (h : HT) (d : MD) (pc w : Nat) : Bool := decide (decode d.2.1 pc = .ok (.iaload, 1)) && decide (nxt w = pc + 1)
theorem kt_iald {ss : SS} {cl : List vw_C} {tyf : Nat → Nat → FieldType} {ft : Nat → Nat → Nat} {mdl : Nat → Option MD} {h : HT} {d : MD} {pc w : Nat} (hC : HB cl tyf ft mdl) (h1 : k_iald ss cl tyf ft mdl h d pc w = true) : G_iald ss TBL cl ft mdl d pc w := by
  unfold k_iald at h1
  simp only [Bool.and_eq_true, decide_eq_true_eq] at h1
  exact h1
def k_lrem (ss : SS) (cl : List vw_C) (tyf : Nat → Nat → FieldType) (ft : Nat → Nat → Nat) (mdl : Nat → Option MD) (h : HT) (d : MD) (pc w : Nat) : Bool := decide (decode d.2.1 pc = .ok (.lrem, 1)) && decide (nxt w = pc + 1)
theorem kt_lrem {ss : SS} {cl : List vw_C} {tyf : Nat → Nat → FieldType} {ft : Nat → Nat → Nat} {mdl : Nat → Option MD} {h : HT} {d : MD} {pc w : Nat} (hC : HB cl tyf ft mdl) (h1 : k_lrem ss cl tyf ft mdl h d pc w = true) : G_lrem ss TBL cl ft mdl d pc w := by
  unfold k_lrem at h1
  simp only [Bool.and_eq_true, decide_eq_true_eq] at h1
  exact h1
def k_newa (ss : SS) (cl : List vw_C) (tyf : Nat → Nat → FieldType) (ft : Nat → Nat → Nat) (mdl : Nat → Option MD) (h : HT) (d : MD) (pc w : Nat) : Bool := decide (fa w ≤ 41) && ((decide (decode d.2.1 pc = .ok (.newarray (atn (hn h 0)), 2)) && decide (nxt w = pc + 2) && decide (Op.newarray.typeOf (atn (hn h 0)) = aty (fa w)) && decide (32 ≤ fa w) && decide (fa w ≤ 36) && isw (hn h 1) (.arrayClass (aty (fa w)))) || (decide (decode d.2.1 pc = .ok (.anewarray (hn h 0), 3)) && decide (nxt w = pc + 3) && decide (39 ≤ fa w) && (match aty (fa w) with | .object C => isw (hn h 1) (.classLink d.1.cls (hn h 0) C) && isw (hn h 2) (.arrayOver (.object C)) | _ => false)))
theorem kt_newa {ss : SS} {cl : List vw_C} {tyf : Nat → Nat → FieldType} {ft : Nat → Nat → Nat} {mdl : Nat → Option MD} {h : HT} {d : MD} {pc w : Nat} (hC : HB cl tyf ft mdl) (h1 : k_newa ss cl tyf ft mdl h d pc w = true) : G_newa ss TBL cl ft mdl d pc w := by
  unfold k_newa at h1
  simp only [Bool.and_eq_true, Bool.or_eq_true, decide_eq_true_eq] at h1
  obtain ⟨a0, ⟨⟨⟨⟨⟨a1, a2⟩, a3⟩, a4⟩, a5⟩, a6⟩ | ⟨⟨⟨a1, a2⟩, a3⟩, c⟩⟩ := h1
  · exact ⟨a0, Or.inl ⟨_, a1, a2, a3, a4, a5, isw_t a6⟩⟩
  · split at c
    · rename_i C e
      simp only [Bool.and_eq_true] at c
      exact ⟨a0, Or.inr ⟨_, C, a1, a2, e, a3, isw_t c.1, isw_t c.2⟩⟩
    · cases c
def k_ifNe (ss : SS) (cl : List vw_C) (tyf : Nat → Nat → FieldType) (ft : Nat → Nat → Nat) (mdl : Nat → Option MD) (h : HT) (d : MD) (pc w : Nat) : Bool := decide (decode d.2.1 pc = .ok (.ifCond .ne ((fa w : Int) - (pc : Int)), 3)) && decide (nxt w = pc + 3)
theorem kt_ifNe {ss : SS} {cl : List vw_C} {tyf : Nat → Nat → FieldType} {ft : Nat → Nat → Nat} {mdl : Nat → Option MD} {h : HT} {d : MD} {pc w : Nat} (hC : HB cl tyf ft mdl) (h1 : k_ifNe ss cl tyf ft mdl h d pc w = true) : G_ifNe ss TBL cl ft mdl d pc w := by
  unfold k_ifNe at h1
  simp only [Bool.and_eq_true, decide_eq_true_eq] at h1
  exact ⟨_, h1.1, h1.2, by omega⟩
def k_lsub (ss : SS) (cl : List vw_C) (tyf : Nat → Nat → FieldType) (ft : Nat → Nat → Nat) (mdl : Nat → Option MD) (h : HT) (d : MD) (pc w : Nat) : Bool := decide (decode d.2.1 pc = .ok (.lsub, 1)) && decide (nxt w = pc + 1)
theorem kt_lsub {ss : SS} {cl : List vw_C} {tyf : Nat → Nat → FieldType} {ft : Nat → Nat → Nat} {mdl : Nat → Option MD} {h : HT} {d : MD} {pc w : Nat} (hC : HB cl tyf ft mdl) (h1 : k_lsub ss cl tyf ft mdl h d pc w = true) : G_lsub ss TBL cl ft mdl d pc w := by
  unfold k_lsub at h1
  simp only [Bool.and_eq_true, decide_eq_true_eq] at h1
  exact h1
def k_ladd (ss : SS) (cl : List vw_C) (tyf : Nat → Nat → FieldType) (ft : Nat → Nat → Nat) (mdl : Nat → Option MD) (h : HT) (d : MD) (pc w : Nat) : Bool := decide (decode d.2.1 pc = .ok (.ladd, 1)) && decide (nxt w = pc + 1)
theorem kt_ladd {ss : SS} {cl : List vw_C} {tyf : Nat → Nat → FieldType} {ft : Nat → Nat → Nat} {mdl : Nat → Option MD} {h : HT} {d : MD} {pc w : Nat} (hC : HB cl tyf ft mdl) (h1 : k_ladd ss cl tyf ft mdl h d pc w = true) : G_ladd ss TBL cl ft mdl d pc w := by
  unfold k_ladd at h1
  simp only [Bool.and_eq_true, decide_eq_true_eq] at h1
  exact h1
def k_icmpLt (ss : SS) (cl : List vw_C) (tyf : Nat → Nat → FieldType) (ft : Nat → Nat → Nat) (mdl : Nat → Option MD) (h : HT) (d : MD) (pc w : Nat) : Bool := decide (decode d.2.1 pc = .ok (.if_icmp .lt ((fa w : Int) - (pc : Int)), 3)) && decide (nxt w = pc + 3)
theorem kt_icmpLt {ss : SS} {cl : List vw_C} {tyf : Nat → Nat → FieldType} {ft : Nat → Nat → Nat} {mdl : Nat → Option MD} {h : HT} {d : MD} {pc w : Nat} (hC : HB cl tyf ft mdl) (h1 : k_icmpLt ss cl tyf ft mdl h d pc w = true) : G_icmpLt ss TBL cl ft mdl d pc w := by
  unfold k_icmpLt at h1
  simp only [Bool.and_eq_true, decide_eq_true_eq] at h1
  exact ⟨_, h1.1, h1.2, by omega⟩
def k_icmpNe (ss : SS) (cl : List vw_C) (tyf : Nat → Nat → FieldType) (ft : Nat → Nat → Nat) (mdl : Nat → Option MD) (h : HT) (d : MD) (pc w : Nat) : Bool := decide (decode d.2.1 pc = .ok (.if_icmp .ne ((fa w : Int) - (pc : Int)), 3)) && decide (nxt w = pc + 3)
theorem kt_icmpNe {ss : SS} {cl : List vw_C} {tyf : Nat → Nat → FieldType} {ft : Nat → Nat → Nat} {mdl : Nat → Option MD} {h : HT} {d : MD} {pc w : Nat} (hC : HB cl tyf ft mdl) (h1 : k_icmpNe ss cl tyf ft mdl h d pc w = true) : G_icmpNe ss TBL cl ft mdl d pc w := by
  unfold k_icmpNe at h1
  simp only [Bool.and_eq_true, decide_eq_true_eq] at h1
  exact ⟨_, h1.1, h1.2, by omega⟩
def k_dup (ss : SS) (cl : List vw_C) (tyf : Nat → Nat → FieldType) (ft : Nat → Nat → Nat) (mdl : Nat → Option MD) (h : HT) (d : MD) (pc w : Nat) : Bool := decide (decode d.2.1 pc = .ok (.dup, 1)) && decide (nxt w = pc + 1)
theorem kt_dup {ss : SS} {cl : List vw_C} {tyf : Nat → Nat → FieldType} {ft : Nat → Nat → Nat} {mdl : Nat → Option MD} {h : HT} {d : MD} {pc w : Nat} (hC : HB cl tyf ft mdl) (h1 : k_dup ss cl tyf ft mdl h d pc w = true) : G_dup ss TBL cl ft mdl d pc w := by
  unfold k_dup at h1
  simp only [Bool.and_eq_true, decide_eq_true_eq] at h1
  exact h1
def k_retZ (ss : SS) (cl : List vw_C) (tyf : Nat → Nat → FieldType) (ft : Nat → Nat → Nat) (mdl : Nat → Option MD) (h : HT) (d : MD) (pc w : Nat) : Bool := decide (decode d.2.1 pc = .ok (.ireturn, 1)) && decide (d.2.2.2.1 = some .boolean)
theorem kt_retZ {ss : SS} {cl : List vw_C} {tyf : Nat → Nat → FieldType} {ft : Nat → Nat → Nat} {mdl : Nat → Option MD} {h : HT} {d : MD} {pc w : Nat} (hC : HB cl tyf ft mdl) (h1 : k_retZ ss cl tyf ft mdl h d pc w = true) : G_retZ ss TBL cl ft mdl d pc w := by
  unfold k_retZ at h1
  simp only [Bool.and_eq_true, decide_eq_true_eq] at h1
  exact h1
def k_iast (ss : SS) (cl : List vw_C) (tyf : Nat → Nat → FieldType) (ft : Nat → Nat → Nat) (mdl : Nat → Option MD) (h : HT) (d : MD) (pc w : Nat) : Bool := decide (decode d.2.1 pc = .ok (.iastore, 1)) && decide (nxt w = pc + 1)
theorem kt_iast {ss : SS} {cl : List vw_C} {tyf : Nat → Nat → FieldType} {ft : Nat → Nat → Nat} {mdl : Nat → Option MD} {h : HT} {d : MD} {pc w : Nat} (hC : HB cl tyf ft mdl) (h1 : k_iast ss cl tyf ft mdl h d pc w = true) : G_iast ss TBL cl ft mdl d pc w := by
  unfold k_iast at h1
  simp only [Bool.and_eq_true, decide_eq_true_eq] at h1
  exact h1
def k_lneg (ss : SS) (cl : List vw_C) (tyf : Nat → Nat → FieldType) (ft : Nat → Nat → Nat) (mdl : Nat → Option MD) (h : HT) (d : MD) (pc w : Nat) : Bool := decide (decode d.2.1 pc = .ok (.lneg, 1)) && decide (nxt w = pc + 1)
theorem kt_lneg {ss : SS} {cl : List vw_C} {tyf : Nat → Nat → FieldType} {ft : Nat → Nat → Nat} {mdl : Nat → Option MD} {h : HT} {d : MD} {pc w : Nat} (hC : HB cl tyf ft mdl) (h1 : k_lneg ss cl tyf ft mdl h d pc w = true) : G_lneg ss TBL cl ft mdl d pc w := by
  unfold k_lneg at h1
  simp only [Bool.and_eq_true, decide_eq_true_eq] at h1
  exact h1
def k_isub (ss : SS) (cl : List vw_C) (tyf : Nat → Nat → FieldType) (ft : Nat → Nat → Nat) (mdl : Nat → Option MD) (h : HT) (d : MD) (pc w : Nat) : Bool := decide (decode d.2.1 pc = .ok (.isub, 1)) && decide (nxt w = pc + 1)
theorem kt_isub {ss : SS} {cl : List vw_C} {tyf : Nat → Nat → FieldType} {ft : Nat → Nat → Nat} {mdl : Nat → Option MD} {h : HT} {d : MD} {pc w : Nat} (hC : HB cl tyf ft mdl) (h1 : k_isub ss cl tyf ft mdl h d pc w = true) : G_isub ss TBL cl ft mdl d pc w := by
  unfold k_isub at h1
  simp only [Bool.and_eq_true, decide_eq_true_eq] at h1
  exact h1
def k_multi (ss : SS) (cl : List vw_C) (tyf : Nat → Nat → FieldType) (ft : Nat → Nat → Nat) (mdl : Nat → Option MD) (h : HT) (d : MD) (pc w : Nat) : Bool := decide (decode d.2.1 pc = .ok (.multianewarray (hn h 0) 2, 4)) && decide (nxt w = pc + 4) && ((decide (fa w = 37) && decide (fb w = 32)) || (decide (fa w = 38) && decide (fb w = 33))) && isw (hn h 1) (.classLink d.1.cls (hn h 0) ("[" ++ (FieldType.array (mty (fa w))).toString)) && isw (hn h 2) (.arrayOver (.array (mty (fa w)))) && isw (hn h 3) (.arrayClass (mty (fa w)))
theorem kt_multi {ss : SS} {cl : List vw_C} {tyf : Nat → Nat → FieldType} {ft : Nat → Nat → Nat} {mdl : Nat → Option MD} {h : HT} {d : MD} {pc w : Nat} (hC : HB cl tyf ft mdl) (h1 : k_multi ss cl tyf ft mdl h d pc w = true) : G_multi ss TBL cl ft mdl d pc w := by
  unfold k_multi at h1
  simp only [Bool.and_eq_true, Bool.or_eq_true, decide_eq_true_eq] at h1
  obtain ⟨⟨⟨⟨⟨a1, a2⟩, a3⟩, a4⟩, a5⟩, a6⟩ := h1
  refine ⟨_, mty (fa w), a1, a2, ?_, isw_t a4, isw_t a5, isw_t a6⟩
  rcases a3 with ⟨x, y⟩ | ⟨x, y⟩
  · exact Or.inl ⟨by rw [x]; rfl, x, y⟩
  · exact Or.inr ⟨by rw [x]; rfl, x, y⟩
def k_new (ss : SS) (cl : List vw_C) (tyf : Nat → Nat → FieldType) (ft : Nat → Nat → Nat) (mdl : Nat → Option MD) (h : HT) (d : MD) (pc w : Nat) : Bool := decide (decode d.2.1 pc = .ok (.new (hn h 0), 3)) && decide (nxt w = pc + 3) && decide (fa w < 32) && (match cl[fa w]? with | some r => decide (fb w = r.2.2) && isw (hn h 1) (.classLink d.1.cls (hn h 0) r.1) && isw (hn h 2) (.instantiable r.1 r.2.2) && isw (hn h 3) (.initialized r.1) | none => false)
theorem kt_new {ss : SS} {cl : List vw_C} {tyf : Nat → Nat → FieldType} {ft : Nat → Nat → Nat} {mdl : Nat → Option MD} {h : HT} {d : MD} {pc w : Nat} (hC : HB cl tyf ft mdl) (h1 : k_new ss cl tyf ft mdl h d pc w = true) : G_new ss TBL cl ft mdl d pc w := by
  unfold k_new at h1
  simp only [Bool.and_eq_true, decide_eq_true_eq] at h1
  obtain ⟨⟨⟨a1, a2⟩, a3⟩, c⟩ := h1
  split at c
  · rename_i r e
    obtain ⟨C, T9, N⟩ := r
    simp only [Bool.and_eq_true, Bool.or_eq_true, decide_eq_true_eq] at c
    obtain ⟨u1, u2, u3, u4⟩ := hC.1 _ _ e
    obtain ⟨⟨⟨c1, c2⟩, c3⟩, c4⟩ := c
    exact ⟨C, T9, N, _, tyf (fa w), a1, a2, e, a3, c1, u1, u2, u4, isw_t c2, isw_t c3, isw_t c4⟩
  · cases c
def k_objinit (ss : SS) (cl : List vw_C) (tyf : Nat → Nat → FieldType) (ft : Nat → Nat → Nat) (mdl : Nat → Option MD) (h : HT) (d : MD) (pc w : Nat) : Bool := decide (decode d.2.1 pc = .ok (.invokespecial (hn h 0), 3)) && decide (nxt w = pc + 3) && isw (hn h 1) (.methodLink d.1.cls (hn h 0) Lib.objectInit) && isw (hn h 2) (.instanceMethod Lib.objectInit) && isw (hn h 3) (.code Lib.objectInit ⟨#[0xb1]⟩ 1 none)
theorem kt_objinit {ss : SS} {cl : List vw_C} {tyf : Nat → Nat → FieldType} {ft : Nat → Nat → Nat} {mdl : Nat → Option MD} {h : HT} {d : MD} {pc w : Nat} (hC : HB cl tyf ft mdl) (h1 : k_objinit ss cl tyf ft mdl h d pc w = true) : G_objinit ss TBL cl ft mdl d pc w := by
  unfold k_objinit at h1
  simp only [Bool.and_eq_true, decide_eq_true_eq] at h1
  exact ⟨_, h1.1.1.1.1, h1.1.1.1.2, isw_t h1.1.1.2, isw_t h1.1.2, isw_t h1.2⟩
def k_ifLt (ss : SS) (cl : List vw_C) (tyf : Nat → Nat → FieldType) (ft : Nat → Nat → Nat) (mdl : Nat → Option MD) (h : HT) (d : MD) (pc w : Nat) : Bool := decide (decode d.2.1 pc = .ok (.ifCond .lt ((fa w : Int) - (pc : Int)), 3)) && decide (nxt w = pc + 3)
theorem kt_ifLt {ss : SS} {cl : List vw_C} {tyf : Nat → Nat → FieldType} {ft : Nat → Nat → Nat} {mdl : Nat → Option MD} {h : HT} {d : MD} {pc w : Nat} (hC : HB cl tyf ft mdl) (h1 : k_ifLt ss cl tyf ft mdl h d pc w = true) : G_ifLt ss TBL cl ft mdl d pc w := by
  unfold k_ifLt at h1
  simp only [Bool.and_eq_true, decide_eq_true_eq] at h1
  exact ⟨_, h1.1, h1.2, by omega⟩
def k_icmpGt (ss : SS) (cl : List vw_C) (tyf : Nat → Nat → FieldType) (ft : Nat → Nat → Nat) (mdl : Nat → Option MD) (h : HT) (d : MD) (pc w : Nat) : Bool := decide (decode d.2.1 pc = .ok (.if_icmp .gt ((fa w : Int) - (pc : Int)), 3)) && decide (nxt w = pc + 3)
theorem kt_icmpGt {ss : SS} {cl : List vw_C} {tyf : Nat → Nat → FieldType} {ft : Nat → Nat → Nat} {mdl : Nat → Option MD} {h : HT} {d : MD} {pc w : Nat} (hC : HB cl tyf ft mdl) (h1 : k_icmpGt ss cl tyf ft mdl h d pc w = true) : G_icmpGt ss TBL cl ft mdl d pc w := by
  unfold k_icmpGt at h1
  simp only [Bool.and_eq_true, decide_eq_true_eq] at h1
  exact ⟨_, h1.1, h1.2, by omega⟩
def k_i2l (ss : SS) (cl : List vw_C) (tyf : Nat → Nat → FieldType) (ft : Nat → Nat → Nat) (mdl : Nat → Option MD) (h : HT) (d : MD) (pc w : Nat) : Bool := decide (decode d.2.1 pc = .ok (.i2l, 1)) && decide (nxt w = pc + 1)
theorem kt_i2l {ss : SS} {cl : List vw_C} {tyf : Nat → Nat → FieldType} {ft : Nat → Nat → Nat} {mdl : Nat → Option MD} {h : HT} {d : MD} {pc w : Nat} (hC : HB cl tyf ft mdl) (h1 : k_i2l ss cl tyf ft mdl h d pc w = true) : G_i2l ss TBL cl ft mdl d pc w := by
  unfold k_i2l at h1
  simp only [Bool.and_eq_true, decide_eq_true_eq] at h1
  exact h1
def k_storeA (ss : SS) (cl : List vw_C) (tyf : Nat → Nat → FieldType) (ft : Nat → Nat → Nat) (mdl : Nat → Option MD) (h : HT) (d : MD) (pc w : Nat) : Bool := decide (fa w < d.2.2.1) && ((decide (decode d.2.1 pc = .ok (.astore_n (Fin.ofNat 4 (fa w)), 1)) && decide ((Fin.ofNat 4 (fa w) : Nat) = fa w) && decide (nxt w = pc + 1)) || (decide (decode d.2.1 pc = .ok (.astore (fa w), 2)) && decide (nxt w = pc + 2)))
theorem kt_storeA {ss : SS} {cl : List vw_C} {tyf : Nat → Nat → FieldType} {ft : Nat → Nat → Nat} {mdl : Nat → Option MD} {h : HT} {d : MD} {pc w : Nat} (hC : HB cl tyf ft mdl) (h1 : k_storeA ss cl tyf ft mdl h d pc w = true) : G_storeA ss TBL cl ft mdl d pc w := by
  unfold k_storeA at h1
  simp only [Bool.or_eq_true, Bool.and_eq_true, decide_eq_true_eq] at h1
  exact ⟨h1.1, h1.2.elim (fun q => Or.inl ⟨_, q.1.1, q.1.2, q.2⟩) Or.inr⟩
def k_icmpEq (ss : SS) (cl : List vw_C) (tyf : Nat → Nat → FieldType) (ft : Nat → Nat → Nat) (mdl : Nat → Option MD) (h : HT) (d : MD) (pc w : Nat) : Bool := decide (decode d.2.1 pc = .ok (.if_icmp .eq ((fa w : Int) - (pc : Int)), 3)) && decide (nxt w = pc + 3)
theorem kt_icmpEq {ss : SS} {cl : List vw_C} {tyf : Nat → Nat → FieldType} {ft : Nat → Nat → Nat} {mdl : Nat → Option MD} {h : HT} {d : MD} {pc w : Nat} (hC : HB cl tyf ft mdl) (h1 : k_icmpEq ss cl tyf ft mdl h d pc w = true) : G_icmpEq ss TBL cl ft mdl d pc w := by
  unfold k_icmpEq at h1
  simp only [Bool.and_eq_true, decide_eq_true_eq] at h1
  exact ⟨_, h1.1, h1.2, by omega⟩
def k_retI (ss : SS) (cl : List vw_C) (tyf : Nat → Nat → FieldType) (ft : Nat → Nat → Nat) (mdl : Nat → Option MD) (h : HT) (d : MD) (pc w : Nat) : Bool := decide (decode d.2.1 pc = .ok (.ireturn, 1)) && decide (d.2.2.2.1 = some .int)
theorem kt_retI {ss : SS} {cl : List vw_C} {tyf : Nat → Nat → FieldType} {ft : Nat → Nat → Nat} {mdl : Nat → Option MD} {h : HT} {d : MD} {pc w : Nat} (hC : HB cl tyf ft mdl) (h1 : k_retI ss cl tyf ft mdl h d pc w = true) : G_retI ss TBL cl ft mdl d pc w := by
  unfold k_retI at h1
  simp only [Bool.and_eq_true, decide_eq_true_eq] at h1
  exact h1
def k_dup2 (ss : SS) (cl : List vw_C) (tyf : Nat → Nat → FieldType) (ft : Nat → Nat → Nat) (mdl : Nat → Option MD) (h : HT) (d : MD) (pc w : Nat) : Bool := decide (decode d.2.1 pc = .ok (.dup2, 1)) && decide (nxt w = pc + 1)
theorem kt_dup2 {ss : SS} {cl : List vw_C} {tyf : Nat → Nat → FieldType} {ft : Nat → Nat → Nat} {mdl : Nat → Option MD} {h : HT} {d : MD} {pc w : Nat} (hC : HB cl tyf ft mdl) (h1 : k_dup2 ss cl tyf ft mdl h d pc w = true) : G_dup2 ss TBL cl ft mdl d pc w := by
  unfold k_dup2 at h1
  simp only [Bool.and_eq_true, decide_eq_true_eq] at h1
  exact h1
def k_retA (ss : SS) (cl : List vw_C) (tyf : Nat → Nat → FieldType) (ft : Nat → Nat → Nat) (mdl : Nat → Option MD) (h : HT) (d : MD) (pc w : Nat) : Bool := decide (decode d.2.1 pc = .ok (.areturn, 1)) && isrr d.2.2.2.1
theorem kt_retA {ss : SS} {cl : List vw_C} {tyf : Nat → Nat → FieldType} {ft : Nat → Nat → Nat} {mdl : Nat → Option MD} {h : HT} {d : MD} {pc w : Nat} (hC : HB cl tyf ft mdl) (h1 : k_retA ss cl tyf ft mdl h d pc w = true) : G_retA ss TBL cl ft mdl d pc w := by
  unfold k_retA at h1
  simp only [Bool.and_eq_true, decide_eq_true_eq] at h1
  exact ⟨h1.1, isrr_t h1.2⟩
def k_alen (ss : SS) (cl : List vw_C) (tyf : Nat → Nat → FieldType) (ft : Nat → Nat → Nat) (mdl : Nat → Option MD) (h : HT) (d : MD) (pc w : Nat) : Bool := decide (decode d.2.1 pc = .ok (.arraylength, 1)) && decide (nxt w = pc + 1)
theorem kt_alen {ss : SS} {cl : List vw_C} {tyf : Nat → Nat → FieldType} {ft : Nat → Nat → Nat} {mdl : Nat → Option MD} {h : HT} {d : MD} {pc w : Nat} (hC : HB cl tyf ft mdl) (h1 : k_alen ss cl tyf ft mdl h d pc w = true) : G_alen ss TBL cl ft mdl d pc w := by
  unfold k_alen at h1
  simp only [Bool.and_eq_true, decide_eq_true_eq] at h1
  exact h1
def k_iand (ss : SS) (cl : List vw_C) (tyf : Nat → Nat → FieldType) (ft : Nat → Nat → Nat) (mdl : Nat → Option MD) (h : HT) (d : MD) (pc w : Nat) : Bool := decide (decode d.2.1 pc = .ok (.iand, 1)) && decide (nxt w = pc + 1)
theorem kt_iand {ss : SS} {cl : List vw_C} {tyf : Nat → Nat → FieldType} {ft : Nat → Nat → Nat} {mdl : Nat → Option MD} {h : HT} {d : MD} {pc w : Nat} (hC : HB cl tyf ft mdl) (h1 : k_iand ss cl tyf ft mdl h d pc w = true) : G_iand ss TBL cl ft mdl d pc w := by
  unfold k_iand at h1
  simp only [Bool.and_eq_true, decide_eq_true_eq] at h1
  exact h1
def k_ishr (ss : SS) (cl : List vw_C) (tyf : Nat → Nat → FieldType) (ft : Nat → Nat → Nat) (mdl : Nat → Option MD) (h : HT) (d : MD) (pc w : Nat) : Bool := decide (decode d.2.1 pc = .ok (.ishr, 1)) && decide (nxt w = pc + 1)
theorem kt_ishr {ss : SS} {cl : List vw_C} {tyf : Nat → Nat → FieldType} {ft : Nat → Nat → Nat} {mdl : Nat → Option MD} {h : HT} {d : MD} {pc w : Nat} (hC : HB cl tyf ft mdl) (h1 : k_ishr ss cl tyf ft mdl h d pc w = true) : G_ishr ss TBL cl ft mdl d pc w := by
  unfold k_ishr at h1
  simp only [Bool.and_eq_true, decide_eq_true_eq] at h1
  exact h1
def k_aast (ss : SS) (cl : List vw_C) (tyf : Nat → Nat → FieldType) (ft : Nat → Nat → Nat) (mdl : Nat → Option MD) (h : HT) (d : MD) (pc w : Nat) : Bool := decide (decode d.2.1 pc = .ok (.aastore, 1)) && decide (nxt w = pc + 1) && (match cl[8]?, cl[3]?, cl[2]? with | some rc8, some rc3, some rc2 => isw (hn h 0) (.castable rc8.1 "java/lang/Object") && decide (rc3.1 = "GridPrices$Dispatch") && decide (rc2.1 = "GridPrices$Fraction") | _, _, _ => false)
theorem kt_aast {ss : SS} {cl : List vw_C} {tyf : Nat → Nat → FieldType} {ft : Nat → Nat → Nat} {mdl : Nat → Option MD} {h : HT} {d : MD} {pc w : Nat} (hC : HB cl tyf ft mdl) (h1 : k_aast ss cl tyf ft mdl h d pc w = true) : G_aast ss TBL cl ft mdl d pc w := by
  unfold k_aast at h1
  simp only [Bool.and_eq_true, decide_eq_true_eq] at h1
  obtain ⟨⟨a, b⟩, c⟩ := h1
  split at c
  · rename_i rc8 rc3 rc2 e8 e3 e2
    simp only [Bool.and_eq_true, decide_eq_true_eq] at c
    exact ⟨a, b, rc8, rc3, rc2, e8, isw_t c.1.1, e3, c.1.2, e2, c.2⟩
  · cases c
noncomputable def k_switch (ss : SS) (cl : List vw_C) (tyf : Nat → Nat → FieldType) (ft : Nat → Nat → Nat) (mdl : Nat → Option MD) (h : HT) (d : MD) (pc w : Nat) : Bool := decide (decode d.2.1 pc = .ok (.tableswitch ((fa w : Int) - (pc : Int)) (hi h 0) (hi h 1) (swo pc (swb (fb w))), hn h 2)) && decide ((swl (swb (fb w)) : Int) = hi h 0 + 2147483648) && decide (hi h 0 + (swn (swb (fb w)) : Int) = hi h 1 + 1)
theorem kt_switch {ss : SS} {cl : List vw_C} {tyf : Nat → Nat → FieldType} {ft : Nat → Nat → Nat} {mdl : Nat → Option MD} {h : HT} {d : MD} {pc w : Nat} (hC : HB cl tyf ft mdl) (h1 : k_switch ss cl tyf ft mdl h d pc w = true) : G_switch ss TBL cl ft mdl d pc w := by
  unfold k_switch at h1
  simp only [Bool.and_eq_true, decide_eq_true_eq] at h1
  exact ⟨_, _, _, _, _, h1.1.1, h1.1.2, h1.2, by omega, fun j hj => swo_t hj⟩
def k_stop (ss : SS) (cl : List vw_C) (tyf : Nat → Nat → FieldType) (ft : Nat → Nat → Nat) (mdl : Nat → Option MD) (h : HT) (d : MD) (pc w : Nat) : Bool := true
theorem kt_stop {ss : SS} {cl : List vw_C} {tyf : Nat → Nat → FieldType} {ft : Nat → Nat → Nat} {mdl : Nat → Option MD} {h : HT} {d : MD} {pc w : Nat} (hC : HB cl tyf ft mdl) (h1 : k_stop ss cl tyf ft mdl h d pc w = true) : G_stop ss TBL cl ft mdl d pc w := by
  unfold k_stop at h1
  trivial
def k_throw (ss : SS) (cl : List vw_C) (tyf : Nat → Nat → FieldType) (ft : Nat → Nat → Nat) (mdl : Nat → Option MD) (h : HT) (d : MD) (pc w : Nat) : Bool := decide (fa w ≤ 3) && decide (d.2.2.2.2 = []) && Bundle.fit (excN (fa w)) && thx (fa w) && alls (.classLink d.1.cls (hn h 0) (excN (fa w)) :: .initialized (excN (fa w)) :: vz_at d.1.cls (hn h 2) (excN (fa w)) "java/lang/RuntimeException" ["java/lang/Exception"] (thk (fa w)) (thb (fa w))) (h.1.drop 4) && (match ss.1[hn h 3]? with | some q => decide (q.1 = d.1.cls) && decide (q.2.1 = hn h 1) | none => false) && decide (decode d.2.1 pc = .ok (.new (hn h 0), 3)) && decide (decode d.2.1 (pc + 3) = .ok (.dup, 1)) && ((decide (decode d.2.1 (pc + 4) = .ok (.ldc (hn h 1), 2)) && decide (decode d.2.1 (pc + 6) = .ok (.invokespecial (hn h 2), 3)) && decide (decode d.2.1 (pc + 9) = .ok (.athrow, 1))) || (decide (decode d.2.1 (pc + 4) = .ok (.ldc_w (hn h 1), 3)) && decide (decode d.2.1 (pc + 7) = .ok (.invokespecial (hn h 2), 3)) && decide (decode d.2.1 (pc + 10) = .ok (.athrow, 1))))
theorem kt_throw {ss : SS} {cl : List vw_C} {tyf : Nat → Nat → FieldType} {ft : Nat → Nat → Nat} {mdl : Nat → Option MD} {h : HT} {d : MD} {pc w : Nat} (hC : HB cl tyf ft mdl) (h1 : k_throw ss cl tyf ft mdl h d pc w = true) : G_throw ss TBL cl ft mdl d pc w := by
  unfold k_throw at h1
  simp only [Bool.and_eq_true, Bool.or_eq_true, decide_eq_true_eq] at h1
  obtain ⟨⟨⟨⟨⟨⟨⟨⟨a0, a1⟩, a2⟩, a3⟩, a5⟩, c⟩, a6⟩, a7⟩, a8⟩ := h1
  split at c
  · rename_i q e
    simp only [Bool.and_eq_true, decide_eq_true_eq] at c
    have a5 := alls_t a5
    refine ⟨a0, a1, hn h 0, hn h 1, hn h 2, thk (fa w), thb (fa w), q.2.2, "java/lang/RuntimeException", ["java/lang/Exception"], thx_t a3, a2, by decide, by decide, (a5 _ List.mem_cons_self).1, (a5 _ (List.mem_cons_of_mem _ List.mem_cons_self)).1, by rw [← c.1, ← c.2]; exact List.mem_of_getElem? e, fun x hx => (a5 x (List.mem_cons_of_mem _ (List.mem_cons_of_mem _ hx))).1, fun x hx => (a5 x hx).2, a6, a7, ?_⟩
    exact a8.elim (fun x => Or.inl ⟨x.1.1, x.1.2, x.2⟩) (fun x => Or.inr ⟨x.1.1, x.1.2, x.2⟩)
  · cases c
def k_bast (ss : SS) (cl : List vw_C) (tyf : Nat → Nat → FieldType) (ft : Nat → Nat → Nat) (mdl : Nat → Option MD) (h : HT) (d : MD) (pc w : Nat) : Bool := decide (decode d.2.1 pc = .ok (.bastore, 1)) && decide (nxt w = pc + 1)
theorem kt_bast {ss : SS} {cl : List vw_C} {tyf : Nat → Nat → FieldType} {ft : Nat → Nat → Nat} {mdl : Nat → Option MD} {h : HT} {d : MD} {pc w : Nat} (hC : HB cl tyf ft mdl) (h1 : k_bast ss cl tyf ft mdl h d pc w = true) : G_bast ss TBL cl ft mdl d pc w := by
  unfold k_bast at h1
  simp only [Bool.and_eq_true, decide_eq_true_eq] at h1
  exact h1
def k_i2b (ss : SS) (cl : List vw_C) (tyf : Nat → Nat → FieldType) (ft : Nat → Nat → Nat) (mdl : Nat → Option MD) (h : HT) (d : MD) (pc w : Nat) : Bool := decide (decode d.2.1 pc = .ok (.i2b, 1)) && decide (nxt w = pc + 1)
theorem kt_i2b {ss : SS} {cl : List vw_C} {tyf : Nat → Nat → FieldType} {ft : Nat → Nat → Nat} {mdl : Nat → Option MD} {h : HT} {d : MD} {pc w : Nat} (hC : HB cl tyf ft mdl) (h1 : k_i2b ss cl tyf ft mdl h d pc w = true) : G_i2b ss TBL cl ft mdl d pc w := by
  unfold k_i2b at h1
  simp only [Bool.and_eq_true, decide_eq_true_eq] at h1
  exact h1
def k_ishl (ss : SS) (cl : List vw_C) (tyf : Nat → Nat → FieldType) (ft : Nat → Nat → Nat) (mdl : Nat → Option MD) (h : HT) (d : MD) (pc w : Nat) : Bool := decide (decode d.2.1 pc = .ok (.ishl, 1)) && decide (nxt w = pc + 1)
theorem kt_ishl {ss : SS} {cl : List vw_C} {tyf : Nat → Nat → FieldType} {ft : Nat → Nat → Nat} {mdl : Nat → Option MD} {h : HT} {d : MD} {pc w : Nat} (hC : HB cl tyf ft mdl) (h1 : k_ishl ss cl tyf ft mdl h d pc w = true) : G_ishl ss TBL cl ft mdl d pc w := by
  unfold k_ishl at h1
  simp only [Bool.and_eq_true, decide_eq_true_eq] at h1
  exact h1
def k_icmpLe (ss : SS) (cl : List vw_C) (tyf : Nat → Nat → FieldType) (ft : Nat → Nat → Nat) (mdl : Nat → Option MD) (h : HT) (d : MD) (pc w : Nat) : Bool := decide (decode d.2.1 pc = .ok (.if_icmp .le ((fa w : Int) - (pc : Int)), 3)) && decide (nxt w = pc + 3)
theorem kt_icmpLe {ss : SS} {cl : List vw_C} {tyf : Nat → Nat → FieldType} {ft : Nat → Nat → Nat} {mdl : Nat → Option MD} {h : HT} {d : MD} {pc w : Nat} (hC : HB cl tyf ft mdl) (h1 : k_icmpLe ss cl tyf ft mdl h d pc w = true) : G_icmpLe ss TBL cl ft mdl d pc w := by
  unfold k_icmpLe at h1
  simp only [Bool.and_eq_true, decide_eq_true_eq] at h1
  exact ⟨_, h1.1, h1.2, by omega⟩
def k_ifLe (ss : SS) (cl : List vw_C) (tyf : Nat → Nat → FieldType) (ft : Nat → Nat → Nat) (mdl : Nat → Option MD) (h : HT) (d : MD) (pc w : Nat) : Bool := decide (decode d.2.1 pc = .ok (.ifCond .le ((fa w : Int) - (pc : Int)), 3)) && decide (nxt w = pc + 3)
theorem kt_ifLe {ss : SS} {cl : List vw_C} {tyf : Nat → Nat → FieldType} {ft : Nat → Nat → Nat} {mdl : Nat → Option MD} {h : HT} {d : MD} {pc w : Nat} (hC : HB cl tyf ft mdl) (h1 : k_ifLe ss cl tyf ft mdl h d pc w = true) : G_ifLe ss TBL cl ft mdl d pc w := by
  unfold k_ifLe at h1
  simp only [Bool.and_eq_true, decide_eq_true_eq] at h1
  exact ⟨_, h1.1, h1.2, by omega⟩
def k_ifnonnull (ss : SS) (cl : List vw_C) (tyf : Nat → Nat → FieldType) (ft : Nat → Nat → Nat) (mdl : Nat → Option MD) (h : HT) (d : MD) (pc w : Nat) : Bool := decide (decode d.2.1 pc = .ok (.ifnonnull ((fa w : Int) - (pc : Int)), 3)) && decide (nxt w = pc + 3)
theorem kt_ifnonnull {ss : SS} {cl : List vw_C} {tyf : Nat → Nat → FieldType} {ft : Nat → Nat → Nat} {mdl : Nat → Option MD} {h : HT} {d : MD} {pc w : Nat} (hC : HB cl tyf ft mdl) (h1 : k_ifnonnull ss cl tyf ft mdl h d pc w = true) : G_ifnonnull ss TBL cl ft mdl d pc w := by
  unfold k_ifnonnull at h1
  simp only [Bool.and_eq_true, decide_eq_true_eq] at h1
  exact ⟨_, h1.1, h1.2, by omega⟩
def k_pop (ss : SS) (cl : List vw_C) (tyf : Nat → Nat → FieldType) (ft : Nat → Nat → Nat) (mdl : Nat → Option MD) (h : HT) (d : MD) (pc w : Nat) : Bool := decide (decode d.2.1 pc = .ok (.pop, 1)) && decide (nxt w = pc + 1)
theorem kt_pop {ss : SS} {cl : List vw_C} {tyf : Nat → Nat → FieldType} {ft : Nat → Nat → Nat} {mdl : Nat → Option MD} {h : HT} {d : MD} {pc w : Nat} (hC : HB cl tyf ft mdl) (h1 : k_pop ss cl tyf ft mdl h d pc w = true) : G_pop ss TBL cl ft mdl d pc w := by
  unfold k_pop at h1
  simp only [Bool.and_eq_true, decide_eq_true_eq] at h1
  exact h1
def k_bald (ss : SS) (cl : List vw_C) (tyf : Nat → Nat → FieldType) (ft : Nat → Nat → Nat) (mdl : Nat → Option MD) (h : HT) (d : MD) (pc w : Nat) : Bool := decide (decode d.2.1 pc = .ok (.baload, 1)) && decide (nxt w = pc + 1)
theorem kt_bald {ss : SS} {cl : List vw_C} {tyf : Nat → Nat → FieldType} {ft : Nat → Nat → Nat} {mdl : Nat → Option MD} {h : HT} {d : MD} {pc w : Nat} (hC : HB cl tyf ft mdl) (h1 : k_bald ss cl tyf ft mdl h d pc w = true) : G_bald ss TBL cl ft mdl d pc w := by
  unfold k_bald at h1
  simp only [Bool.and_eq_true, decide_eq_true_eq] at h1
  exact h1
def k_storeD (ss : SS) (cl : List vw_C) (tyf : Nat → Nat → FieldType) (ft : Nat → Nat → Nat) (mdl : Nat → Option MD) (h : HT) (d : MD) (pc w : Nat) : Bool := decide (fa w + 1 < d.2.2.1) && ((decide (decode d.2.1 pc = .ok (.dstore_n (Fin.ofNat 4 (fa w)), 1)) && decide ((Fin.ofNat 4 (fa w) : Nat) = fa w) && decide (nxt w = pc + 1)) || (decide (decode d.2.1 pc = .ok (.dstore (fa w), 2)) && decide (nxt w = pc + 2)))
theorem kt_storeD {ss : SS} {cl : List vw_C} {tyf : Nat → Nat → FieldType} {ft : Nat → Nat → Nat} {mdl : Nat → Option MD} {h : HT} {d : MD} {pc w : Nat} (hC : HB cl tyf ft mdl) (h1 : k_storeD ss cl tyf ft mdl h d pc w = true) : G_storeD ss TBL cl ft mdl d pc w := by
  unfold k_storeD at h1
  simp only [Bool.or_eq_true, Bool.and_eq_true, decide_eq_true_eq] at h1
  exact ⟨h1.1, h1.2.elim (fun q => Or.inl ⟨_, q.1.1, q.1.2, q.2⟩) Or.inr⟩
def k_labs (ss : SS) (cl : List vw_C) (tyf : Nat → Nat → FieldType) (ft : Nat → Nat → Nat) (mdl : Nat → Option MD) (h : HT) (d : MD) (pc w : Nat) : Bool := decide (decode d.2.1 pc = .ok (.invokestatic (hn h 0), 3)) && decide (nxt w = pc + 3) && isw (hn h 1) (.methodLink d.1.cls (hn h 0) Lib.MathLoose.abs_long.x) && isw (hn h 2) (.static Lib.MathLoose.abs_long.x) && isw (hn h 3) (.initialized "java/lang/Math") && isw (hn h 4) (.code Lib.MathLoose.abs_long.x Lib.MathLoose.abs_long.code 2 (some .long))
theorem kt_labs {ss : SS} {cl : List vw_C} {tyf : Nat → Nat → FieldType} {ft : Nat → Nat → Nat} {mdl : Nat → Option MD} {h : HT} {d : MD} {pc w : Nat} (hC : HB cl tyf ft mdl) (h1 : k_labs ss cl tyf ft mdl h d pc w = true) : G_labs ss TBL cl ft mdl d pc w := by
  unfold k_labs at h1
  simp only [Bool.and_eq_true, decide_eq_true_eq] at h1
  exact ⟨_, h1.1.1.1.1.1, h1.1.1.1.1.2, isw_t h1.1.1.1.2, isw_t h1.1.1.2, isw_t h1.1.2, isw_t h1.2⟩
def k_ifGt (ss : SS) (cl : List vw_C) (tyf : Nat → Nat → FieldType) (ft : Nat → Nat → Nat) (mdl : Nat → Option MD) (h : HT) (d : MD) (pc w : Nat) : Bool := decide (decode d.2.1 pc = .ok (.ifCond .gt ((fa w : Int) - (pc : Int)), 3)) && decide (nxt w = pc + 3)
theorem kt_ifGt {ss : SS} {cl : List vw_C} {tyf : Nat → Nat → FieldType} {ft : Nat → Nat → Nat} {mdl : Nat → Option MD} {h : HT} {d : MD} {pc w : Nat} (hC : HB cl tyf ft mdl) (h1 : k_ifGt ss cl tyf ft mdl h d pc w = true) : G_ifGt ss TBL cl ft mdl d pc w := by
  unfold k_ifGt at h1
  simp only [Bool.and_eq_true, decide_eq_true_eq] at h1
  exact ⟨_, h1.1, h1.2, by omega⟩
def k_loadF (ss : SS) (cl : List vw_C) (tyf : Nat → Nat → FieldType) (ft : Nat → Nat → Nat) (mdl : Nat → Option MD) (h : HT) (d : MD) (pc w : Nat) : Bool := (decide (decode d.2.1 pc = .ok (.fload_n (Fin.ofNat 4 (fa w)), 1)) && decide ((Fin.ofNat 4 (fa w) : Nat) = fa w) && decide (nxt w = pc + 1)) || (decide (decode d.2.1 pc = .ok (.fload (fa w), 2)) && decide (nxt w = pc + 2))
theorem kt_loadF {ss : SS} {cl : List vw_C} {tyf : Nat → Nat → FieldType} {ft : Nat → Nat → Nat} {mdl : Nat → Option MD} {h : HT} {d : MD} {pc w : Nat} (hC : HB cl tyf ft mdl) (h1 : k_loadF ss cl tyf ft mdl h d pc w = true) : G_loadF ss TBL cl ft mdl d pc w := by
  unfold k_loadF at h1
  simp only [Bool.or_eq_true, Bool.and_eq_true, decide_eq_true_eq] at h1
  exact h1.elim (fun q => Or.inl ⟨_, q.1.1, q.1.2, q.2⟩) Or.inr
def k_fcmpl (ss : SS) (cl : List vw_C) (tyf : Nat → Nat → FieldType) (ft : Nat → Nat → Nat) (mdl : Nat → Option MD) (h : HT) (d : MD) (pc w : Nat) : Bool := decide (decode d.2.1 pc = .ok (.fcmp .l, 1)) && decide (nxt w = pc + 1)
theorem kt_fcmpl {ss : SS} {cl : List vw_C} {tyf : Nat → Nat → FieldType} {ft : Nat → Nat → Nat} {mdl : Nat → Option MD} {h : HT} {d : MD} {pc w : Nat} (hC : HB cl tyf ft mdl) (h1 : k_fcmpl ss cl tyf ft mdl h d pc w = true) : G_fcmpl ss TBL cl ft mdl d pc w := by
  unfold k_fcmpl at h1
  simp only [Bool.and_eq_true, decide_eq_true_eq] at h1
  exact h1
def k_fdiv (ss : SS) (cl : List vw_C) (tyf : Nat → Nat → FieldType) (ft : Nat → Nat → Nat) (mdl : Nat → Option MD) (h : HT) (d : MD) (pc w : Nat) : Bool := decide (decode d.2.1 pc = .ok (.fdiv, 1)) && decide (nxt w = pc + 1)
theorem kt_fdiv {ss : SS} {cl : List vw_C} {tyf : Nat → Nat → FieldType} {ft : Nat → Nat → Nat} {mdl : Nat → Option MD} {h : HT} {d : MD} {pc w : Nat} (hC : HB cl tyf ft mdl) (h1 : k_fdiv ss cl tyf ft mdl h d pc w = true) : G_fdiv ss TBL cl ft mdl d pc w := by
  unfold k_fdiv at h1
  simp only [Bool.and_eq_true, decide_eq_true_eq] at h1
  exact h1
def k_l2f (ss : SS) (cl : List vw_C) (tyf : Nat → Nat → FieldType) (ft : Nat → Nat → Nat) (mdl : Nat → Option MD) (h : HT) (d : MD) (pc w : Nat) : Bool := decide (decode d.2.1 pc = .ok (.l2f, 1)) && decide (nxt w = pc + 1)
theorem kt_l2f {ss : SS} {cl : List vw_C} {tyf : Nat → Nat → FieldType} {ft : Nat → Nat → Nat} {mdl : Nat → Option MD} {h : HT} {d : MD} {pc w : Nat} (hC : HB cl tyf ft mdl) (h1 : k_l2f ss cl tyf ft mdl h d pc w = true) : G_l2f ss TBL cl ft mdl d pc w := by
  unfold k_l2f at h1
  simp only [Bool.and_eq_true, decide_eq_true_eq] at h1
  exact h1
def k_i2f (ss : SS) (cl : List vw_C) (tyf : Nat → Nat → FieldType) (ft : Nat → Nat → Nat) (mdl : Nat → Option MD) (h : HT) (d : MD) (pc w : Nat) : Bool := decide (decode d.2.1 pc = .ok (.i2f, 1)) && decide (nxt w = pc + 1)
theorem kt_i2f {ss : SS} {cl : List vw_C} {tyf : Nat → Nat → FieldType} {ft : Nat → Nat → Nat} {mdl : Nat → Option MD} {h : HT} {d : MD} {pc w : Nat} (hC : HB cl tyf ft mdl) (h1 : k_i2f ss cl tyf ft mdl h d pc w = true) : G_i2f ss TBL cl ft mdl d pc w := by
  unfold k_i2f at h1
  simp only [Bool.and_eq_true, decide_eq_true_eq] at h1
  exact h1
def k_idiv (ss : SS) (cl : List vw_C) (tyf : Nat → Nat → FieldType) (ft : Nat → Nat → Nat) (mdl : Nat → Option MD) (h : HT) (d : MD) (pc w : Nat) : Bool := decide (decode d.2.1 pc = .ok (.idiv, 1)) && decide (nxt w = pc + 1)
theorem kt_idiv {ss : SS} {cl : List vw_C} {tyf : Nat → Nat → FieldType} {ft : Nat → Nat → Nat} {mdl : Nat → Option MD} {h : HT} {d : MD} {pc w : Nat} (hC : HB cl tyf ft mdl) (h1 : k_idiv ss cl tyf ft mdl h d pc w = true) : G_idiv ss TBL cl ft mdl d pc w := by
  unfold k_idiv at h1
  simp only [Bool.and_eq_true, decide_eq_true_eq] at h1
  exact h1
def k_mmax (ss : SS) (cl : List vw_C) (tyf : Nat → Nat → FieldType) (ft : Nat → Nat → Nat) (mdl : Nat → Option MD) (h : HT) (d : MD) (pc w : Nat) : Bool := decide (decode d.2.1 pc = .ok (.invokestatic (hn h 0), 3)) && decide (nxt w = pc + 3) && isw (hn h 1) (.methodLink d.1.cls (hn h 0) Lib.Math.max.name) && isw (hn h 2) (.static Lib.Math.max.name) && isw (hn h 3) (.initialized "java/lang/Math") && isw (hn h 4) (.code Lib.Math.max.name Lib.Math.max.code 2 (some .int))
theorem kt_mmax {ss : SS} {cl : List vw_C} {tyf : Nat → Nat → FieldType} {ft : Nat → Nat → Nat} {mdl : Nat → Option MD} {h : HT} {d : MD} {pc w : Nat} (hC : HB cl tyf ft mdl) (h1 : k_mmax ss cl tyf ft mdl h d pc w = true) : G_mmax ss TBL cl ft mdl d pc w := by
  unfold k_mmax at h1
  simp only [Bool.and_eq_true, decide_eq_true_eq] at h1
  exact ⟨_, h1.1.1.1.1.1, h1.1.1.1.1.2, isw_t h1.1.1.1.2, isw_t h1.1.1.2, isw_t h1.1.2, isw_t h1.2⟩
def k_ior (ss : SS) (cl : List vw_C) (tyf : Nat → Nat → FieldType) (ft : Nat → Nat → Nat) (mdl : Nat → Option MD) (h : HT) (d : MD) (pc w : Nat) : Bool := decide (decode d.2.1 pc = .ok (.ior, 1)) && decide (nxt w = pc + 1)
theorem kt_ior {ss : SS} {cl : List vw_C} {tyf : Nat → Nat → FieldType} {ft : Nat → Nat → Nat} {mdl : Nat → Option MD} {h : HT} {d : MD} {pc w : Nat} (hC : HB cl tyf ft mdl) (h1 : k_ior ss cl tyf ft mdl h d pc w = true) : G_ior ss TBL cl ft mdl d pc w := by
  unfold k_ior at h1
  simp only [Bool.and_eq_true, decide_eq_true_eq] at h1
  exact h1
def k_ineg (ss : SS) (cl : List vw_C) (tyf : Nat → Nat → FieldType) (ft : Nat → Nat → Nat) (mdl : Nat → Option MD) (h : HT) (d : MD) (pc w : Nat) : Bool := decide (decode d.2.1 pc = .ok (.ineg, 1)) && decide (nxt w = pc + 1)
theorem kt_ineg {ss : SS} {cl : List vw_C} {tyf : Nat → Nat → FieldType} {ft : Nat → Nat → Nat} {mdl : Nat → Option MD} {h : HT} {d : MD} {pc w : Nat} (hC : HB cl tyf ft mdl) (h1 : k_ineg ss cl tyf ft mdl h d pc w = true) : G_ineg ss TBL cl ft mdl d pc w := by
  unfold k_ineg at h1
  simp only [Bool.and_eq_true, decide_eq_true_eq] at h1
  exact h1
def k_retD (ss : SS) (cl : List vw_C) (tyf : Nat → Nat → FieldType) (ft : Nat → Nat → Nat) (mdl : Nat → Option MD) (h : HT) (d : MD) (pc w : Nat) : Bool := decide (decode d.2.1 pc = .ok (.dreturn, 1)) && decide (d.2.2.2.1 = some .double)
theorem kt_retD {ss : SS} {cl : List vw_C} {tyf : Nat → Nat → FieldType} {ft : Nat → Nat → Nat} {mdl : Nat → Option MD} {h : HT} {d : MD} {pc w : Nat} (hC : HB cl tyf ft mdl) (h1 : k_retD ss cl tyf ft mdl h d pc w = true) : G_retD ss TBL cl ft mdl d pc w := by
  unfold k_retD at h1
  simp only [Bool.and_eq_true, decide_eq_true_eq] at h1
  exact h1
def k_acmpeq (ss : SS) (cl : List vw_C) (tyf : Nat → Nat → FieldType) (ft : Nat → Nat → Nat) (mdl : Nat → Option MD) (h : HT) (d : MD) (pc w : Nat) : Bool := decide (decode d.2.1 pc = .ok (.if_acmp .eq ((fa w : Int) - (pc : Int)), 3))
theorem kt_acmpeq {ss : SS} {cl : List vw_C} {tyf : Nat → Nat → FieldType} {ft : Nat → Nat → Nat} {mdl : Nat → Option MD} {h : HT} {d : MD} {pc w : Nat} (hC : HB cl tyf ft mdl) (h1 : k_acmpeq ss cl tyf ft mdl h d pc w = true) : G_acmpeq ss TBL cl ft mdl d pc w := by
  unfold k_acmpeq at h1
  exact ⟨_, of_decide_eq_true h1, by omega⟩
def k_dupx1 (ss : SS) (cl : List vw_C) (tyf : Nat → Nat → FieldType) (ft : Nat → Nat → Nat) (mdl : Nat → Option MD) (h : HT) (d : MD) (pc w : Nat) : Bool := decide (decode d.2.1 pc = .ok (.dup_x1, 1)) && decide (nxt w = pc + 1)
theorem kt_dupx1 {ss : SS} {cl : List vw_C} {tyf : Nat → Nat → FieldType} {ft : Nat → Nat → Nat} {mdl : Nat → Option MD} {h : HT} {d : MD} {pc w : Nat} (hC : HB cl tyf ft mdl) (h1 : k_dupx1 ss cl tyf ft mdl h d pc w = true) : G_dupx1 ss TBL cl ft mdl d pc w := by
  unfold k_dupx1 at h1
  simp only [Bool.and_eq_true, decide_eq_true_eq] at h1
  exact h1
def k_storeF (ss : SS) (cl : List vw_C) (tyf : Nat → Nat → FieldType) (ft : Nat → Nat → Nat) (mdl : Nat → Option MD) (h : HT) (d : MD) (pc w : Nat) : Bool := decide (fa w < d.2.2.1) && ((decide (decode d.2.1 pc = .ok (.fstore_n (Fin.ofNat 4 (fa w)), 1)) && decide ((Fin.ofNat 4 (fa w) : Nat) = fa w) && decide (nxt w = pc + 1)) || (decide (decode d.2.1 pc = .ok (.fstore (fa w), 2)) && decide (nxt w = pc + 2)))
theorem kt_storeF {ss : SS} {cl : List vw_C} {tyf : Nat → Nat → FieldType} {ft : Nat → Nat → Nat} {mdl : Nat → Option MD} {h : HT} {d : MD} {pc w : Nat} (hC : HB cl tyf ft mdl) (h1 : k_storeF ss cl tyf ft mdl h d pc w = true) : G_storeF ss TBL cl ft mdl d pc w := by
  unfold k_storeF at h1
  simp only [Bool.or_eq_true, Bool.and_eq_true, decide_eq_true_eq] at h1
  exact ⟨h1.1, h1.2.elim (fun q => Or.inl ⟨_, q.1.1, q.1.2, q.2⟩) Or.inr⟩
def k_fcon (ss : SS) (cl : List vw_C) (tyf : Nat → Nat → FieldType) (ft : Nat → Nat → Nat) (mdl : Nat → Option MD) (h : HT) (d : MD) (pc w : Nat) : Bool := (match hn h 0 with | 0 => decide (decode d.2.1 pc = .ok (.fconst 1, 1)) && decide (nxt w = pc + 1) && decide (fb w = 1) | 1 => decide (decode d.2.1 pc = .ok (.fconst 2, 1)) && decide (nxt w = pc + 1) && decide (fb w = 2) | _ => decide (decode d.2.1 pc = .ok (.ldc_w (hn h 1), 3)) && decide (nxt w = pc + 3) && (match lw_tbl[hn h 2]? with | some (.constantFloat a b v) => decide (a = d.1.cls) && decide (b = hn h 1) && decide (fb w = 3 + 8 * v.toNat) | _ => false))
theorem kt_fcon {ss : SS} {cl : List vw_C} {tyf : Nat → Nat → FieldType} {ft : Nat → Nat → Nat} {mdl : Nat → Option MD} {h : HT} {d : MD} {pc w : Nat} (hC : HB cl tyf ft mdl) (h1 : k_fcon ss cl tyf ft mdl h d pc w = true) : G_fcon ss TBL cl ft mdl d pc w := by
  unfold k_fcon at h1
  split at h1
  · simp only [Bool.and_eq_true, decide_eq_true_eq] at h1
    exact Or.inl ⟨h1.1.1, h1.1.2, h1.2⟩
  · simp only [Bool.and_eq_true, decide_eq_true_eq] at h1
    exact Or.inr (Or.inl ⟨h1.1.1, h1.1.2, h1.2⟩)
  · simp only [Bool.and_eq_true, decide_eq_true_eq] at h1
    obtain ⟨⟨a1, a2⟩, c⟩ := h1
    split at c
    · rename_i a b v e
      simp only [Bool.and_eq_true, decide_eq_true_eq] at c
      obtain ⟨⟨rfl, rfl⟩, c3⟩ := c
      exact Or.inr (Or.inr ⟨_, v, a1, a2, tb_t e rfl, c3⟩)
    · cases c
def k_fcmpg (ss : SS) (cl : List vw_C) (tyf : Nat → Nat → FieldType) (ft : Nat → Nat → Nat) (mdl : Nat → Option MD) (h : HT) (d : MD) (pc w : Nat) : Bool := decide (decode d.2.1 pc = .ok (.fcmp .g, 1)) && decide (nxt w = pc + 1)
theorem kt_fcmpg {ss : SS} {cl : List vw_C} {tyf : Nat → Nat → FieldType} {ft : Nat → Nat → Nat} {mdl : Nat → Option MD} {h : HT} {d : MD} {pc w : Nat} (hC : HB cl tyf ft mdl) (h1 : k_fcmpg ss cl tyf ft mdl h d pc w = true) : G_fcmpg ss TBL cl ft mdl d pc w := by
  unfold k_fcmpg at h1
  simp only [Bool.and_eq_true, decide_eq_true_eq] at h1
  exact h1
def k_fmul (ss : SS) (cl : List vw_C) (tyf : Nat → Nat → FieldType) (ft : Nat → Nat → Nat) (mdl : Nat → Option MD) (h : HT) (d : MD) (pc w : Nat) : Bool := decide (decode d.2.1 pc = .ok (.fmul, 1)) && decide (nxt w = pc + 1)
theorem kt_fmul {ss : SS} {cl : List vw_C} {tyf : Nat → Nat → FieldType} {ft : Nat → Nat → Nat} {mdl : Nat → Option MD} {h : HT} {d : MD} {pc w : Nat} (hC : HB cl tyf ft mdl) (h1 : k_fmul ss cl tyf ft mdl h d pc w = true) : G_fmul ss TBL cl ft mdl d pc w := by
  unfold k_fmul at h1
  simp only [Bool.and_eq_true, decide_eq_true_eq] at h1
  exact h1
def k_fsub (ss : SS) (cl : List vw_C) (tyf : Nat → Nat → FieldType) (ft : Nat → Nat → Nat) (mdl : Nat → Option MD) (h : HT) (d : MD) (pc w : Nat) : Bool := decide (decode d.2.1 pc = .ok (.fsub, 1)) && decide (nxt w = pc + 1)
theorem kt_fsub {ss : SS} {cl : List vw_C} {tyf : Nat → Nat → FieldType} {ft : Nat → Nat → Nat} {mdl : Nat → Option MD} {h : HT} {d : MD} {pc w : Nat} (hC : HB cl tyf ft mdl) (h1 : k_fsub ss cl tyf ft mdl h d pc w = true) : G_fsub ss TBL cl ft mdl d pc w := by
  unfold k_fsub at h1
  simp only [Bool.and_eq_true, decide_eq_true_eq] at h1
  exact h1
def k_f2i (ss : SS) (cl : List vw_C) (tyf : Nat → Nat → FieldType) (ft : Nat → Nat → Nat) (mdl : Nat → Option MD) (h : HT) (d : MD) (pc w : Nat) : Bool := decide (decode d.2.1 pc = .ok (.f2i, 1)) && decide (nxt w = pc + 1)
theorem kt_f2i {ss : SS} {cl : List vw_C} {tyf : Nat → Nat → FieldType} {ft : Nat → Nat → Nat} {mdl : Nat → Option MD} {h : HT} {d : MD} {pc w : Nat} (hC : HB cl tyf ft mdl) (h1 : k_f2i ss cl tyf ft mdl h d pc w = true) : G_f2i ss TBL cl ft mdl d pc w := by
  unfold k_f2i at h1
  simp only [Bool.and_eq_true, decide_eq_true_eq] at h1
  exact h1
def k_l2d (ss : SS) (cl : List vw_C) (tyf : Nat → Nat → FieldType) (ft : Nat → Nat → Nat) (mdl : Nat → Option MD) (h : HT) (d : MD) (pc w : Nat) : Bool := decide (decode d.2.1 pc = .ok (.l2d, 1)) && decide (nxt w = pc + 1)
theorem kt_l2d {ss : SS} {cl : List vw_C} {tyf : Nat → Nat → FieldType} {ft : Nat → Nat → Nat} {mdl : Nat → Option MD} {h : HT} {d : MD} {pc w : Nat} (hC : HB cl tyf ft mdl) (h1 : k_l2d ss cl tyf ft mdl h d pc w = true) : G_l2d ss TBL cl ft mdl d pc w := by
  unfold k_l2d at h1
  simp only [Bool.and_eq_true, decide_eq_true_eq] at h1
  exact h1
def k_ddiv (ss : SS) (cl : List vw_C) (tyf : Nat → Nat → FieldType) (ft : Nat → Nat → Nat) (mdl : Nat → Option MD) (h : HT) (d : MD) (pc w : Nat) : Bool := decide (decode d.2.1 pc = .ok (.ddiv, 1)) && decide (nxt w = pc + 1)
theorem kt_ddiv {ss : SS} {cl : List vw_C} {tyf : Nat → Nat → FieldType} {ft : Nat → Nat → Nat} {mdl : Nat → Option MD} {h : HT} {d : MD} {pc w : Nat} (hC : HB cl tyf ft mdl) (h1 : k_ddiv ss cl tyf ft mdl h d pc w = true) : G_ddiv ss TBL cl ft mdl d pc w := by
  unfold k_ddiv at h1
  simp only [Bool.and_eq_true, decide_eq_true_eq] at h1
  exact h1
def k_i2d (ss : SS) (cl : List vw_C) (tyf : Nat → Nat → FieldType) (ft : Nat → Nat → Nat) (mdl : Nat → Option MD) (h : HT) (d : MD) (pc w : Nat) : Bool := decide (decode d.2.1 pc = .ok (.i2d, 1)) && decide (nxt w = pc + 1)
theorem kt_i2d {ss : SS} {cl : List vw_C} {tyf : Nat → Nat → FieldType} {ft : Nat → Nat → Nat} {mdl : Nat → Option MD} {h : HT} {d : MD} {pc w : Nat} (hC : HB cl tyf ft mdl) (h1 : k_i2d ss cl tyf ft mdl h d pc w = true) : G_i2d ss TBL cl ft mdl d pc w := by
  unfold k_i2d at h1
  simp only [Bool.and_eq_true, decide_eq_true_eq] at h1
  exact h1
def k_cast (ss : SS) (cl : List vw_C) (tyf : Nat → Nat → FieldType) (ft : Nat → Nat → Nat) (mdl : Nat → Option MD) (h : HT) (d : MD) (pc w : Nat) : Bool := decide (decode d.2.1 pc = .ok (.checkcast (hn h 0), 3)) && decide (nxt w = pc + 3) && (match lw_tbl[hn h 1]? with | some (.classLink a b v) => decide (a = d.1.cls) && decide (b = hn h 0) | _ => false)
theorem kt_cast {ss : SS} {cl : List vw_C} {tyf : Nat → Nat → FieldType} {ft : Nat → Nat → Nat} {mdl : Nat → Option MD} {h : HT} {d : MD} {pc w : Nat} (hC : HB cl tyf ft mdl) (h1 : k_cast ss cl tyf ft mdl h d pc w = true) : G_cast ss TBL cl ft mdl d pc w := by
  unfold k_cast at h1
  simp only [Bool.and_eq_true, decide_eq_true_eq] at h1
  obtain ⟨⟨a1, a2⟩, c⟩ := h1
  split at c
  · rename_i a b v e
    simp only [Bool.and_eq_true, decide_eq_true_eq] at c
    obtain ⟨rfl, rfl⟩ := c
    exact ⟨_, v, a1, a2, tb_t e rfl⟩
  · cases c
def k_dast (ss : SS) (cl : List vw_C) (tyf : Nat → Nat → FieldType) (ft : Nat → Nat → Nat) (mdl : Nat → Option MD) (h : HT) (d : MD) (pc w : Nat) : Bool := decide (decode d.2.1 pc = .ok (.dastore, 1)) && decide (nxt w = pc + 1)
theorem kt_dast {ss : SS} {cl : List vw_C} {tyf : Nat → Nat → FieldType} {ft : Nat → Nat → Nat} {mdl : Nat → Option MD} {h : HT} {d : MD} {pc w : Nat} (hC : HB cl tyf ft mdl) (h1 : k_dast ss cl tyf ft mdl h d pc w = true) : G_dast ss TBL cl ft mdl d pc w := by
  unfold k_dast at h1
  simp only [Bool.and_eq_true, decide_eq_true_eq] at h1
  exact h1
noncomputable def KL : List (SS → List vw_C → (Nat → Nat → FieldType) → (Nat → Nat → Nat) → (Nat → Option MD) → HT → MD → Nat → Nat → Bool) := [(fun _ _ _ _ _ _ _ _ _ => false), k_const, k_loadI, k_loadA, k_getf, k_last, k_loadL, k_goto, k_icmpGe, k_iinc, k_iadd, k_storeL, k_lcmp, k_lald, k_ifEq, k_call, k_storeI, k_imul, k_aald, k_putf, k_ifGe, k_lmul, k_ldiv, k_irem, k_retV, k_retL, k_iald, k_lrem, k_newa, k_ifNe, k_lsub, k_ladd, k_icmpLt, k_icmpNe, k_dup, k_retZ, k_iast, k_lneg, k_isub, k_multi, k_new, k_objinit, k_ifLt, k_icmpGt, k_i2l, k_storeA, k_icmpEq, k_retI, k_dup2, k_retA, k_alen, k_iand, k_ishr, k_aast, k_switch, k_stop, k_throw, k_bast, k_i2b, k_ishl, k_icmpLe, k_ifLe, k_ifnonnull, k_pop, k_bald, k_storeD, k_labs, k_ifGt, k_loadF, k_fcmpl, k_fdiv, k_l2f, k_i2f, k_idiv, k_mmax, k_ior, k_ineg, k_retD, k_acmpeq, k_dupx1, k_storeF, k_fcon, k_fcmpg, k_fmul, k_fsub, k_f2i, k_l2d, k_ddiv, k_i2d, k_cast, k_dast]
def PLT : Type := { q : (SS → List vw_C → (Nat → Nat → FieldType) → (Nat → Nat → Nat) → (Nat → Option MD) → HT → MD → Nat → Nat → Bool) × (SS → List Cond → List vw_C → (Nat → Nat → Nat) → (Nat → Option MD) → MD → Nat → Nat → Prop) // ∀ (ss : SS) (cl : List vw_C) (tyf : Nat → Nat → FieldType) (ft : Nat → Nat → Nat) (mdl : Nat → Option MD) (h : HT) (d : MD) (pc w : Nat), HB cl tyf ft mdl → q.1 ss cl tyf ft mdl h d pc w = true → q.2 ss TBL cl ft mdl d pc w }
noncomputable def PL : List PLT := [⟨((fun _ _ _ _ _ _ _ _ _ => false), (fun _ _ _ _ _ _ _ _ => False)), fun _ _ _ _ _ _ _ _ _ _ h => by cases h⟩, ⟨(k_const, G_const), fun ss cl tyf ft mdl h d pc w hC h1 => @kt_const ss cl tyf ft mdl h d pc w hC h1⟩, ⟨(k_loadI, G_loadI), fun ss cl tyf ft mdl h d pc w hC h1 => @kt_loadI ss cl tyf ft mdl h d pc w hC h1⟩, ⟨(k_loadA, G_loadA), fun ss cl tyf ft mdl h d pc w hC h1 => @kt_loadA ss cl tyf ft mdl h d pc w hC h1⟩, ⟨(k_getf, G_getf), fun ss cl tyf ft mdl h d pc w hC h1 => @kt_getf ss cl tyf ft mdl h d pc w hC h1⟩, ⟨(k_last, G_last), fun ss cl tyf ft mdl h d pc w hC h1 => @kt_last ss cl tyf ft mdl h d pc w hC h1⟩, ⟨(k_loadL, G_loadL), fun ss cl tyf ft mdl h d pc w hC h1 => @kt_loadL ss cl tyf ft mdl h d pc w hC h1⟩, ⟨(k_goto, G_goto), fun ss cl tyf ft mdl h d pc w hC h1 => @kt_goto ss cl tyf ft mdl h d pc w hC h1⟩, ⟨(k_icmpGe, G_icmpGe), fun ss cl tyf ft mdl h d pc w hC h1 => @kt_icmpGe ss cl tyf ft mdl h d pc w hC h1⟩, ⟨(k_iinc, G_iinc), fun ss cl tyf ft mdl h d pc w hC h1 => @kt_iinc ss cl tyf ft mdl h d pc w hC h1⟩, ⟨(k_iadd, G_iadd), fun ss cl tyf ft mdl h d pc w hC h1 => @kt_iadd ss cl tyf ft mdl h d pc w hC h1⟩, ⟨(k_storeL, G_storeL), fun ss cl tyf ft mdl h d pc w hC h1 => @kt_storeL ss cl tyf ft mdl h d pc w hC h1⟩, ⟨(k_lcmp, G_lcmp), fun ss cl tyf ft mdl h d pc w hC h1 => @kt_lcmp ss cl tyf ft mdl h d pc w hC h1⟩, ⟨(k_lald, G_lald), fun ss cl tyf ft mdl h d pc w hC h1 => @kt_lald ss cl tyf ft mdl h d pc w hC h1⟩, ⟨(k_ifEq, G_ifEq), fun ss cl tyf ft mdl h d pc w hC h1 => @kt_ifEq ss cl tyf ft mdl h d pc w hC h1⟩, ⟨(k_call, G_call), fun ss cl tyf ft mdl h d pc w hC h1 => @kt_call ss cl tyf ft mdl h d pc w hC h1⟩, ⟨(k_storeI, G_storeI), fun ss cl tyf ft mdl h d pc w hC h1 => @kt_storeI ss cl tyf ft mdl h d pc w hC h1⟩, ⟨(k_imul, G_imul), fun ss cl tyf ft mdl h d pc w hC h1 => @kt_imul ss cl tyf ft mdl h d pc w hC h1⟩, ⟨(k_aald, G_aald), fun ss cl tyf ft mdl h d pc w hC h1 => @kt_aald ss cl tyf ft mdl h d pc w hC h1⟩, ⟨(k_putf, G_putf), fun ss cl tyf ft mdl h d pc w hC h1 => @kt_putf ss cl tyf ft mdl h d pc w hC h1⟩, ⟨(k_ifGe, G_ifGe), fun ss cl tyf ft mdl h d pc w hC h1 => @kt_ifGe ss cl tyf ft mdl h d pc w hC h1⟩, ⟨(k_lmul, G_lmul), fun ss cl tyf ft mdl h d pc w hC h1 => @kt_lmul ss cl tyf ft mdl h d pc w hC h1⟩, ⟨(k_ldiv, G_ldiv), fun ss cl tyf ft mdl h d pc w hC h1 => @kt_ldiv ss cl tyf ft mdl h d pc w hC h1⟩, ⟨(k_irem, G_irem), fun ss cl tyf ft mdl h d pc w hC h1 => @kt_irem ss cl tyf ft mdl h d pc w hC h1⟩, ⟨(k_retV, G_retV), fun ss cl tyf ft mdl h d pc w hC h1 => @kt_retV ss cl tyf ft mdl h d pc w hC h1⟩, ⟨(k_retL, G_retL), fun ss cl tyf ft mdl h d pc w hC h1 => @kt_retL ss cl tyf ft mdl h d pc w hC h1⟩, ⟨(k_iald, G_iald), fun ss cl tyf ft mdl h d pc w hC h1 => @kt_iald ss cl tyf ft mdl h d pc w hC h1⟩, ⟨(k_lrem, G_lrem), fun ss cl tyf ft mdl h d pc w hC h1 => @kt_lrem ss cl tyf ft mdl h d pc w hC h1⟩, ⟨(k_newa, G_newa), fun ss cl tyf ft mdl h d pc w hC h1 => @kt_newa ss cl tyf ft mdl h d pc w hC h1⟩, ⟨(k_ifNe, G_ifNe), fun ss cl tyf ft mdl h d pc w hC h1 => @kt_ifNe ss cl tyf ft mdl h d pc w hC h1⟩, ⟨(k_lsub, G_lsub), fun ss cl tyf ft mdl h d pc w hC h1 => @kt_lsub ss cl tyf ft mdl h d pc w hC h1⟩, ⟨(k_ladd, G_ladd), fun ss cl tyf ft mdl h d pc w hC h1 => @kt_ladd ss cl tyf ft mdl h d pc w hC h1⟩, ⟨(k_icmpLt, G_icmpLt), fun ss cl tyf ft mdl h d pc w hC h1 => @kt_icmpLt ss cl tyf ft mdl h d pc w hC h1⟩, ⟨(k_icmpNe, G_icmpNe), fun ss cl tyf ft mdl h d pc w hC h1 => @kt_icmpNe ss cl tyf ft mdl h d pc w hC h1⟩, ⟨(k_dup, G_dup), fun ss cl tyf ft mdl h d pc w hC h1 => @kt_dup ss cl tyf ft mdl h d pc w hC h1⟩, ⟨(k_retZ, G_retZ), fun ss cl tyf ft mdl h d pc w hC h1 => @kt_retZ ss cl tyf ft mdl h d pc w hC h1⟩, ⟨(k_iast, G_iast), fun ss cl tyf ft mdl h d pc w hC h1 => @kt_iast ss cl tyf ft mdl h d pc w hC h1⟩, ⟨(k_lneg, G_lneg), fun ss cl tyf ft mdl h d pc w hC h1 => @kt_lneg ss cl tyf ft mdl h d pc w hC h1⟩, ⟨(k_isub, G_isub), fun ss cl tyf ft mdl h d pc w hC h1 => @kt_isub ss cl tyf ft mdl h d pc w hC h1⟩, ⟨(k_multi, G_multi), fun ss cl tyf ft mdl h d pc w hC h1 => @kt_multi ss cl tyf ft mdl h d pc w hC h1⟩, ⟨(k_new, G_new), fun ss cl tyf ft mdl h d pc w hC h1 => @kt_new ss cl tyf ft mdl h d pc w hC h1⟩, ⟨(k_objinit, G_objinit), fun ss cl tyf ft mdl h d pc w hC h1 => @kt_objinit ss cl tyf ft mdl h d pc w hC h1⟩, ⟨(k_ifLt, G_ifLt), fun ss cl tyf ft mdl h d pc w hC h1 => @kt_ifLt ss cl tyf ft mdl h d pc w hC h1⟩, ⟨(k_icmpGt, G_icmpGt), fun ss cl tyf ft mdl h d pc w hC h1 => @kt_icmpGt ss cl tyf ft mdl h d pc w hC h1⟩, ⟨(k_i2l, G_i2l), fun ss cl tyf ft mdl h d pc w hC h1 => @kt_i2l ss cl tyf ft mdl h d pc w hC h1⟩, ⟨(k_storeA, G_storeA), fun ss cl tyf ft mdl h d pc w hC h1 => @kt_storeA ss cl tyf ft mdl h d pc w hC h1⟩, ⟨(k_icmpEq, G_icmpEq), fun ss cl tyf ft mdl h d pc w hC h1 => @kt_icmpEq ss cl tyf ft mdl h d pc w hC h1⟩, ⟨(k_retI, G_retI), fun ss cl tyf ft mdl h d pc w hC h1 => @kt_retI ss cl tyf ft mdl h d pc w hC h1⟩, ⟨(k_dup2, G_dup2), fun ss cl tyf ft mdl h d pc w hC h1 => @kt_dup2 ss cl tyf ft mdl h d pc w hC h1⟩, ⟨(k_retA, G_retA), fun ss cl tyf ft mdl h d pc w hC h1 => @kt_retA ss cl tyf ft mdl h d pc w hC h1⟩, ⟨(k_alen, G_alen), fun ss cl tyf ft mdl h d pc w hC h1 => @kt_alen ss cl tyf ft mdl h d pc w hC h1⟩, ⟨(k_iand, G_iand), fun ss cl tyf ft mdl h d pc w hC h1 => @kt_iand ss cl tyf ft mdl h d pc w hC h1⟩, ⟨(k_ishr, G_ishr), fun ss cl tyf ft mdl h d pc w hC h1 => @kt_ishr ss cl tyf ft mdl h d pc w hC h1⟩, ⟨(k_aast, G_aast), fun ss cl tyf ft mdl h d pc w hC h1 => @kt_aast ss cl tyf ft mdl h d pc w hC h1⟩, ⟨(k_switch, G_switch), fun ss cl tyf ft mdl h d pc w hC h1 => @kt_switch ss cl tyf ft mdl h d pc w hC h1⟩, ⟨(k_stop, G_stop), fun ss cl tyf ft mdl h d pc w hC h1 => @kt_stop ss cl tyf ft mdl h d pc w hC h1⟩, ⟨(k_throw, G_throw), fun ss cl tyf ft mdl h d pc w hC h1 => @kt_throw ss cl tyf ft mdl h d pc w hC h1⟩, ⟨(k_bast, G_bast), fun ss cl tyf ft mdl h d pc w hC h1 => @kt_bast ss cl tyf ft mdl h d pc w hC h1⟩, ⟨(k_i2b, G_i2b), fun ss cl tyf ft mdl h d pc w hC h1 => @kt_i2b ss cl tyf ft mdl h d pc w hC h1⟩, ⟨(k_ishl, G_ishl), fun ss cl tyf ft mdl h d pc w hC h1 => @kt_ishl ss cl tyf ft mdl h d pc w hC h1⟩, ⟨(k_icmpLe, G_icmpLe), fun ss cl tyf ft mdl h d pc w hC h1 => @kt_icmpLe ss cl tyf ft mdl h d pc w hC h1⟩, ⟨(k_ifLe, G_ifLe), fun ss cl tyf ft mdl h d pc w hC h1 => @kt_ifLe ss cl tyf ft mdl h d pc w hC h1⟩, ⟨(k_ifnonnull, G_ifnonnull), fun ss cl tyf ft mdl h d pc w hC h1 => @kt_ifnonnull ss cl tyf ft mdl h d pc w hC h1⟩, ⟨(k_pop, G_pop), fun ss cl tyf ft mdl h d pc w hC h1 => @kt_pop ss cl tyf ft mdl h d pc w hC h1⟩, ⟨(k_bald, G_bald), fun ss cl tyf ft mdl h d pc w hC h1 => @kt_bald ss cl tyf ft mdl h d pc w hC h1⟩, ⟨(k_storeD, G_storeD), fun ss cl tyf ft mdl h d pc w hC h1 => @kt_storeD ss cl tyf ft mdl h d pc w hC h1⟩, ⟨(k_labs, G_labs), fun ss cl tyf ft mdl h d pc w hC h1 => @kt_labs ss cl tyf ft mdl h d pc w hC h1⟩, ⟨(k_ifGt, G_ifGt), fun ss cl tyf ft mdl h d pc w hC h1 => @kt_ifGt ss cl tyf ft mdl h d pc w hC h1⟩, ⟨(k_loadF, G_loadF), fun ss cl tyf ft mdl h d pc w hC h1 => @kt_loadF ss cl tyf ft mdl h d pc w hC h1⟩, ⟨(k_fcmpl, G_fcmpl), fun ss cl tyf ft mdl h d pc w hC h1 => @kt_fcmpl ss cl tyf ft mdl h d pc w hC h1⟩, ⟨(k_fdiv, G_fdiv), fun ss cl tyf ft mdl h d pc w hC h1 => @kt_fdiv ss cl tyf ft mdl h d pc w hC h1⟩, ⟨(k_l2f, G_l2f), fun ss cl tyf ft mdl h d pc w hC h1 => @kt_l2f ss cl tyf ft mdl h d pc w hC h1⟩, ⟨(k_i2f, G_i2f), fun ss cl tyf ft mdl h d pc w hC h1 => @kt_i2f ss cl tyf ft mdl h d pc w hC h1⟩, ⟨(k_idiv, G_idiv), fun ss cl tyf ft mdl h d pc w hC h1 => @kt_idiv ss cl tyf ft mdl h d pc w hC h1⟩, ⟨(k_mmax, G_mmax), fun ss cl tyf ft mdl h d pc w hC h1 => @kt_mmax ss cl tyf ft mdl h d pc w hC h1⟩, ⟨(k_ior, G_ior), fun ss cl tyf ft mdl h d pc w hC h1 => @kt_ior ss cl tyf ft mdl h d pc w hC h1⟩, ⟨(k_ineg, G_ineg), fun ss cl tyf ft mdl h d pc w hC h1 => @kt_ineg ss cl tyf ft mdl h d pc w hC h1⟩, ⟨(k_retD, G_retD), fun ss cl tyf ft mdl h d pc w hC h1 => @kt_retD ss cl tyf ft mdl h d pc w hC h1⟩, ⟨(k_acmpeq, G_acmpeq), fun ss cl tyf ft mdl h d pc w hC h1 => @kt_acmpeq ss cl tyf ft mdl h d pc w hC h1⟩, ⟨(k_dupx1, G_dupx1), fun ss cl tyf ft mdl h d pc w hC h1 => @kt_dupx1 ss cl tyf ft mdl h d pc w hC h1⟩, ⟨(k_storeF, G_storeF), fun ss cl tyf ft mdl h d pc w hC h1 => @kt_storeF ss cl tyf ft mdl h d pc w hC h1⟩, ⟨(k_fcon, G_fcon), fun ss cl tyf ft mdl h d pc w hC h1 => @kt_fcon ss cl tyf ft mdl h d pc w hC h1⟩, ⟨(k_fcmpg, G_fcmpg), fun ss cl tyf ft mdl h d pc w hC h1 => @kt_fcmpg ss cl tyf ft mdl h d pc w hC h1⟩, ⟨(k_fmul, G_fmul), fun ss cl tyf ft mdl h d pc w hC h1 => @kt_fmul ss cl tyf ft mdl h d pc w hC h1⟩, ⟨(k_fsub, G_fsub), fun ss cl tyf ft mdl h d pc w hC h1 => @kt_fsub ss cl tyf ft mdl h d pc w hC h1⟩, ⟨(k_f2i, G_f2i), fun ss cl tyf ft mdl h d pc w hC h1 => @kt_f2i ss cl tyf ft mdl h d pc w hC h1⟩, ⟨(k_l2d, G_l2d), fun ss cl tyf ft mdl h d pc w hC h1 => @kt_l2d ss cl tyf ft mdl h d pc w hC h1⟩, ⟨(k_ddiv, G_ddiv), fun ss cl tyf ft mdl h d pc w hC h1 => @kt_ddiv ss cl tyf ft mdl h d pc w hC h1⟩, ⟨(k_i2d, G_i2d), fun ss cl tyf ft mdl h d pc w hC h1 => @kt_i2d ss cl tyf ft mdl h d pc w hC h1⟩, ⟨(k_cast, G_cast), fun ss cl tyf ft mdl h d pc w hC h1 => @kt_cast ss cl tyf ft mdl h d pc w hC h1⟩, ⟨(k_dast, G_dast), fun ss cl tyf ft mdl h d pc w hC h1 => @kt_dast ss cl tyf ft mdl h d pc w hC h1⟩]
theorem PL_K : KL = PL.map (fun q => q.1.1) := rfl
theorem PL_G : GL = PL.map (fun q => q.1.2) := rfl
noncomputable def okw (ss : SS) (cl : List vw_C) (tyf : Nat → Nat → FieldType) (ft : Nat → Nat → Nat) (mdl : Nat → Option MD) (h : HT) (d : MD) (pc w : Nat) : Bool := match KL[w % 256]? with
  | some f => f ss cl tyf ft mdl h d pc w
  | none => false
theorem okw_t {ss : SS} {cl : List vw_C} {tyf : Nat → Nat → FieldType} {ft : Nat → Nat → Nat} {mdl : Nat → Option MD} {h : HT} {d : MD} {pc w : Nat} (hC : HB cl tyf ft mdl) (h1 : okw ss cl tyf ft mdl h d pc w = true) : Gd ss TBL cl ft mdl d pc w := by
  unfold okw at h1
  split at h1
  · rename_i f e
    rw [PL_K, List.getElem?_map, Option.map_eq_some_iff] at e
    obtain ⟨q, hq, rfl⟩ := e
    exact ⟨q.1.2, by rw [PL_G, List.getElem?_map, hq]; rfl, q.2 _ _ _ _ _ _ _ _ _ hC h1⟩
  · cases h1
/-- all words of a program, from pc p0 on -/
noncomputable def wk (ss : SS) (cl : List vw_C) (tyf : Nat → Nat → FieldType) (ft : Nat → Nat → Nat) (mdl : Nat → Option MD) (d : MD) (pr : Nat) : Nat → List (Nat × HT) → Bool
  | p0, [] => Nat.beq (Nat.shiftRight pr (72 + 128 * p0)) 0
  | p0, (pc, h) :: t => Nat.ble p0 pc && Nat.beq (Nat.mod (Nat.shiftRight pr (72 + 128 * p0)) (2 ^ (128 * (pc - p0)))) 0 && okw ss cl tyf ft mdl h d pc (ftc pr pc) && wk ss cl tyf ft mdl d pr (pc + 1) t
theorem gap_t {pr p0 n q : Nat} (h : Nat.mod (Nat.shiftRight pr (72 + 128 * p0)) (2 ^ (128 * n)) = 0) (h1 : p0 ≤ q) (h2 : q < p0 + n) : ftc pr q = 0 := by
  unfold ftc
  show (pr >>> (72 + 128 * q)) % 340282366920938463463374607431768211456 = 0
  have h : (pr >>> (72 + 128 * p0)) % 2 ^ (128 * n) = 0 := h
  have e : 72 + 128 * q = (72 + 128 * p0) + 128 * (q - p0) := by omega
  rw [e, Nat.shiftRight_add]
  obtain ⟨k, hk⟩ := Nat.dvd_of_mod_eq_zero h
  have e2 : 128 * n = 128 * (q - p0) + (128 + 128 * (p0 + n - q - 1)) := by omega
  rw [hk, e2, Nat.pow_add, Nat.mul_assoc, Nat.shiftRight_eq_div_pow, Nat.mul_div_cancel_left _ (Nat.two_pow_pos _), Nat.pow_add, Nat.mul_assoc]
  exact Nat.mul_mod_right _ _
/-- the same for the words from p0 up to p1 -/
noncomputable def wkc (ss : SS) (cl : List vw_C) (tyf : Nat → Nat → FieldType) (ft : Nat → Nat → Nat) (mdl : Nat → Option MD) (d : MD) (pr p1 : Nat) : Nat → List (Nat × HT) → Bool
  | p0, [] => Nat.beq (Nat.mod (Nat.shiftRight pr (72 + 128 * p0)) (2 ^ (128 * (p1 - p0)))) 0
  | p0, (pc, h) :: t => Nat.ble p0 pc && Nat.beq (Nat.mod (Nat.shiftRight pr (72 + 128 * p0)) (2 ^ (128 * (pc - p0)))) 0 && okw ss cl tyf ft mdl h d pc (ftc pr pc) && wkc ss cl tyf ft mdl d pr p1 (pc + 1) t
theorem wkc_t {ss : SS} {cl : List vw_C} {tyf : Nat → Nat → FieldType} {ft : Nat → Nat → Nat} {mdl : Nat → Option MD} {d : MD} {pr p1 : Nat} (hC : HB cl tyf ft mdl) : ∀ (l : List (Nat × HT)) (p0 : Nat), wkc ss cl tyf ft mdl d pr p1 p0 l = true → ∀ q : Nat, p0 ≤ q → q < p1 → ftc pr q ≠ 0 → Gd ss TBL cl ft mdl d q (ftc pr q)
  | [], p0, h, q, h1, h1b, h2 => absurd (gap_t (Nat.eq_of_beq_eq_true h) h1 (by omega)) h2
  | (pc, hh) :: t, p0, h, q, h1, h1b, h2 => by
    simp only [wkc, Bool.and_eq_true] at h
    obtain ⟨⟨⟨a1, a2⟩, a3⟩, a4⟩ := h
    have a1 : p0 ≤ pc := Nat.le_of_ble_eq_true a1
    have a2 := Nat.eq_of_beq_eq_true a2
    rcases (show q < pc ∨ q = pc ∨ pc + 1 ≤ q by omega) with c | rfl | c
    · exact absurd (gap_t a2 h1 (by omega)) h2
    · exact okw_t hC a3
    · exact wkc_t hC t _ a4 q c h1b h2
theorem wk_t {ss : SS} {cl : List vw_C} {tyf : Nat → Nat → FieldType} {ft : Nat → Nat → Nat} {mdl : Nat → Option MD} {d : MD} {pr : Nat} (hC : HB cl tyf ft mdl) : ∀ (l : List (Nat × HT)) (p0 : Nat), wk ss cl tyf ft mdl d pr p0 l = true → ∀ q : Nat, p0 ≤ q → ftc pr q ≠ 0 → Gd ss TBL cl ft mdl d q (ftc pr q)
  | [], p0, h, q, h1, h2 => by
    have h : Nat.shiftRight pr (72 + 128 * p0) = 0 := Nat.eq_of_beq_eq_true h
    refine absurd (gap_t (n := q - p0 + 1) (p0 := p0) ?_ h1 (by omega)) h2
    rw [h]
    exact Nat.zero_mod _
  | (pc, hh) :: t, p0, h, q, h1, h2 => by
    simp only [wk, Bool.and_eq_true] at h
    obtain ⟨⟨⟨a1, a2⟩, a3⟩, a4⟩ := h
    have a1 : p0 ≤ pc := Nat.le_of_ble_eq_true a1
    have a2 := Nat.eq_of_beq_eq_true a2
    rcases (show q < pc ∨ q = pc ∨ pc + 1 ≤ q by omega) with c | rfl | c
    · exact absurd (gap_t a2 h1 (by omega)) h2
    · exact okw_t hC a3
    · exact wk_t hC t _ a4 q c h2

/-! Contracts over plain states, calls, returns, throws. -/
def ArN (g : GG) (ws : va_W) : List Value → List Value → Prop
  | [], vs => vs = []
  | v :: S, vs => ∃ (v' : Value) (vs' : List Value), vs = v' :: vs' ∧ VN g ws v v' ∧ ArN g ws S vs'
theorem ArN.uncons {g : GG} {ws : va_W} {v : Value} {S vs : List Value} (h : ArN g ws (v :: S) vs) : ∃ (v' : Value) (vs' : List Value), vs = v' :: vs' ∧ VN g ws v v' ∧ ArN g ws S vs' := h
theorem ArN.len {g : GG} {ws : va_W} : ∀ {S vs : List Value}, ArN g ws S vs → vs.length = S.length
  | [], _, h => by rw [show _ = [] from h]
  | _ :: _, _, h => by
    obtain ⟨v', vs', rfl, -, h2⟩ := h
    rw [List.length_cons, List.length_cons, ArN.len h2]
/-- arguments as locals -/
def argS : List Value → LN
  | [] => []
  | v :: t => if v.category = 2 then some v :: none :: argS t else some v :: argS t
def argL (as : List Value) (nL : Nat) : LN := argS as ++ List.replicate (nL - (argS as).length) none
theorem ArN.sl {g : GG} {ws : va_W} : ∀ {S vs : List Value}, ArN g ws S vs → (lg_sl vs).length = (argS S).length
  | [], _, h => by rw [show _ = [] from h]; rfl
  | v :: S, _, h => by
    obtain ⟨v', vs', rfl, h1, h2⟩ := h
    rw [lg_len_cons, h1.cat, ArN.sl h2]
    show _ = (if v.category = 2 then some v :: none :: argS S else some v :: argS S).length
    split
    · show 2 + _ = _ + 1 + 1; omega
    · show 1 + _ = _ + 1; omega
theorem ArN.at {g : GG} {ws : va_W} : ∀ {S vs : List Value} {b i : Nat} {v : Value}, ArN g ws S vs → (argS S)[i]? = some (some v) → ∃ v' : Value, (i + b, v') ∈ lv_args b vs ∧ VN g ws v v'
  | [], _, _, _, _, _, hi => by cases hi
  | u :: S, _, b, i, v, h, hi => by
    obtain ⟨v', vs', rfl, h1, h2⟩ := h
    have hi : (if u.category = 2 then some u :: none :: argS S else some u :: argS S)[i]? = some (some v) := hi
    have hc := h1.cat
    show ∃ x : Value, (i + b, x) ∈ (b, v') :: lv_args (if v'.category = 2 then b + 2 else b + 1) vs' ∧ _
    by_cases q : u.category = 2
    · rw [if_pos q] at hi
      rw [if_pos (hc.trans q)]
      match i, hi with
      | 0, hi => cases hi; exact ⟨v', by rw [Nat.zero_add]; exact List.mem_cons_self, h1⟩
      | 1, hi => cases hi
      | i + 2, hi =>
        obtain ⟨x, m1, m2⟩ := ArN.at (b := b + 2) h2 (show (argS S)[i]? = some (some v) from hi)
        exact ⟨x, List.mem_cons_of_mem _ (by rw [show i + 2 + b = i + (b + 2) by omega]; exact m1), m2⟩
    · rw [if_neg q] at hi
      rw [if_neg (by rw [hc]; exact q)]
      match i, hi with
      | 0, hi => cases hi; exact ⟨v', by rw [Nat.zero_add]; exact List.mem_cons_self, h1⟩
      | i + 1, hi =>
        obtain ⟨x, m1, m2⟩ := ArN.at (b := b + 1) h2 (show (argS S)[i]? = some (some v) from hi)
        exact ⟨x, List.mem_cons_of_mem _ (by rw [show i + 1 + b = i + (b + 1) by omega]; exact m1), m2⟩
theorem argL_at {as : List Value} {nL i : Nat} {v : Value} (h : (argL as nL)[i]? = some (some v)) : (argS as)[i]? = some (some v) := by
  unfold argL at h
  rcases Nat.lt_or_ge i (argS as).length with q | q
  · rwa [List.getElem?_append_left q] at h
  · rw [List.getElem?_append_right q, List.getElem?_replicate] at h
    split at h <;> cases h
/-- the stack of a caller: the arguments, the last one on top -/
theorem SRN.take {g : GG} {ws : va_W} : ∀ {A S st : List Value}, SRN g ws (A ++ S) st → ∃ B st', st = B ++ st' ∧ ArN g ws A B ∧ SRN g ws S st'
  | [], S, st, h => ⟨[], st, rfl, rfl, h⟩
  | v :: A, S, st, h => by
    obtain ⟨v', st1, rfl, h1, h2⟩ := (show ∃ (v' : Value) (st' : List Value), st = v' :: st' ∧ VN g ws v v' ∧ SRN g ws (A ++ S) st' from h)
    obtain ⟨B, st2, rfl, h3, h4⟩ := SRN.take h2
    exact ⟨v' :: B, st2, rfl, ⟨v', B, rfl, h1, h3⟩, h4⟩
theorem ArN.app {g : GG} {ws : va_W} : ∀ {A B C D : List Value}, ArN g ws A C → ArN g ws B D → ArN g ws (A ++ B) (C ++ D)
  | [], _, _, _, h1, h2 => by rw [show _ = [] from h1]; exact h2
  | _ :: _, _, _, _, h1, h2 => by
    obtain ⟨v', vs', rfl, h3, h4⟩ := h1
    exact ⟨v', _, rfl, h3, ArN.app h4 h2⟩
theorem ArN.rev {g : GG} {ws : va_W} : ∀ {A B : List Value}, ArN g ws A B → ArN g ws A.reverse B.reverse
  | [], _, h => by rw [show _ = [] from h]; exact rfl
  | v :: A, _, h => by
    obtain ⟨v', vs', rfl, h3, h4⟩ := h
    rw [List.reverse_cons, List.reverse_cons]
    exact ArN.app (ArN.rev h4) ⟨v', [], rfl, h3, rfl⟩
/-- the receiver -/
def RcvN (h : List CE) (as : List Value) (b : Nat) : Prop := b / 524288 % 2 = 1 → ∃ (k : Nat) (as' : List Value), as = .ref k :: as' ∧ ∃ c : CE, h[k]? = some c ∧ (b >>> 68 = 0 ∨ b >>> 68 = c.1 + 1)
def RetN (d : MD) (pc : Nat) (S : List Value) (r : Option Value) : Prop :=
  (decode d.2.1 pc = .ok (.ireturn, 1) ∧ d.2.2.2.1 = some .int ∧ ∃ x : Int32, S = [.int x] ∧ r = some (.int x)) ∨
  (decode d.2.1 pc = .ok (.ireturn, 1) ∧ d.2.2.2.1 = some .boolean ∧ ∃ x : Int32, (x = 0 ∨ x = 1) ∧ S = [.int x] ∧ r = some (.int x)) ∨
  (decode d.2.1 pc = .ok (.lreturn, 1) ∧ d.2.2.2.1 = some .long ∧ ∃ x : Int64, S = [.long x] ∧ r = some (.long x)) ∨
  (decode d.2.1 pc = .ok (.dreturn, 1) ∧ d.2.2.2.1 = some .double ∧ ∃ x : UInt64, S = [.double x] ∧ r = some (.double x)) ∨
  (decode d.2.1 pc = .ok (.areturn, 1) ∧ (∃ rt : FieldType, d.2.2.2.1 = some rt ∧ ((∃ n, rt = .object n) ∨ ∃ t, rt = .array t)) ∧ ∃ v : Value, (v = .null ∨ ∃ k : Nat, v = .ref k) ∧ S = [v] ∧ r = some v) ∨
  (decode d.2.1 pc = .ok (.return_, 1) ∧ d.2.2.2.1 = none ∧ S = [] ∧ r = none)
/-- what is owed at a method's ends: PO 0 r cells (returned), PO (1 + e) none cells (thrown) -/
def EndN (ss : SS) (TBL : List Cond) (g : GG) (cl : List vw_C) (d : MD) (p : Program) (l : Launch) (e : Env) (R : Room) (s : State) (m : MethodId) (args : Array Value) (below : List Frame) (meth : Method) (c : Code) (Q : State → Prop) (kc0 ks0 f lam KC KS : Nat) (PO : Nat → Option Value → List CE → Prop) : Prop :=
  (∀ (pc : Nat) (L : LN) (h : HN) (S : List Value) (r : Option Value), RetN d pc S r → PO 0 r h.1 → h.2.1 ≤ KC → h.2.2 ≤ KS → WpN g cl p l e R s m args below meth c Q d.2.2.1 kc0 ks0 pc L h S) ∧
  (∀ (pc x : Nat) (L : LN) (h : HN), x ≤ 3 → ThrOK ss TBL d pc (excN x) → PO (1 + x) none h.1 → h.2.1 + 1 ≤ KC → h.2.2 + 6 ≤ KS → 8 ≤ f → 120 ≤ lam → WpN g cl p l e R s m args below meth c Q d.2.2.1 kc0 ks0 pc L h []) ∧
  (∀ (pc x : Nat) (L : LN) (h : HN) (S : List Value), d.2.2.2.2 = [] → x ≤ 3 → PO (1 + x) none h.1 → h.2.1 ≤ KC → h.2.2 ≤ KS → ∀ (ls : Array Slot) (st : List Value) (H : Heap) (locs : List Loc) (cells slots : Nat) (q : Addr) (ce : Cell), RLN g cl s d.2.2.1 kc0 ks0 L h S ls st H locs cells slots → H[q]? = some ce → ce.vm = .none → s.vm.findClass (excN x) = some ce.cls → vx_W p l e R s m args below meth c H locs cells slots Q (F0 m pc ls st) q)
/-- a method, run on these arguments in this heap, ends as PO says -/
def BodyN (ss : SS) (TBL : List Cond) (g0 : GG) (cl : List vw_C) (bl : Nat) (xs : Nat → Int32) (l : Launch) (d : MD) (f lam mc ms : Nat) (as : List Value) (h : List CE) (PO : Nat → Option Value → List CE → Prop) : Prop :=
  ∀ (wp : va_W) (p : Program) (e : Env) (R : Room) (s : State) (m : MethodId) (args : Array Value) (below : List Frame) (meth : Method) (c : Code) (Q : State → Prop) (kc0 ks0 kc ks : Nat),
    Act ss TBL (gp g0 wp) cl bl xs d p l s m args meth c → f ≤ R.frames → lam ≤ R.locals → kc + mc ≤ R.cells + kc0 → ks + ms ≤ R.slots + ks0 →
    EndN ss TBL (gp g0 wp) cl d p l e R s m args below meth c Q kc0 ks0 f lam (kc + mc) (ks + ms) PO → WpN (gp g0 wp) cl p l e R s m args below meth c Q d.2.2.1 kc0 ks0 0 (argL as d.2.2.1) (h, kc, ks) []
section CONTRACTN
variable {ss : SS} {TBL : List Cond} {g : GG} {cl : List vw_C} {bl : Nat} {xs : Nat → Int32} {l : Launch}
def QcN (g : GG) (cl : List vw_C) (ws : va_W) (ret : Option FieldType) (PO : Nat → Option Value → List CE → Prop) : Array Value → State → Outcome → State → Prop := fun _ st oc t => va_F (AA g) st t ∧ ∃ (ws' : va_W) (v r : Option Value) (h' : List CE), oc = .returned v ∧ wsle ws ws' ∧ HNR g ws' h' ∧ va_D (AA g) ws' ∧ va_P g.1 cl ws' t.heap ∧ ((ret = none ∧ v = none ∧ r = none) ∨ (ret ≠ none ∧ ∃ x y : Value, v = some x ∧ r = some y ∧ VN g ws' y x)) ∧ PO 0 r h'
def XcN (g : GG) (cl : List vw_C) (ws : va_W) (PO : Nat → Option Value → List CE → Prop) : String → State → State → Prop := fun E st t => va_F (AA g) st t ∧ ∃ (x : Nat) (ws' : va_W) (h' : List CE), E = excN x ∧ x ≤ 3 ∧ wsle ws ws' ∧ HNR g ws' h' ∧ va_D (AA g) ws' ∧ va_P g.1 cl ws' t.heap ∧ PO (1 + x) none h'
set_option maxHeartbeats 2000000 in
theorem body_ofN {f lam mc ms : Nat} {d : MD} {h : List CE} {as : List Value} {PO : Nat → Option Value → List CE → Prop} {ws : va_W} {vs : List Value} (hB : BodyN ss TBL g cl bl xs l d f lam mc ms as h PO) (hH : HNR g ws h) (hD : va_D (AA g) ws) (hA : ArN g ws as vs) (hlen : (argS as).length ≤ d.2.2.1)
    {p : Program} {e : Env} {R : Room} {s : State} {m : MethodId} {below : List Frame} {meth : Method} {c : Code} (act : Act ss TBL g cl bl xs d p l s m vs.toArray meth c) (hP : va_P g.1 cl ws s.heap) (hf : f ≤ R.frames) (hl : lam ≤ R.locals) (hRc : R.cells = mc) (hRs : R.slots = ms) :
    W p l e R s m vs.toArray below meth c s.heap [] 0 0 (vx_MQ below (QcN g cl ws d.2.2.2.1 PO) (XcN g cl ws PO) vs.toArray s mc ms (AA g)) (entryFrame m vs.toArray d.2.2.1) := by
  obtain ⟨hx, hb, hr, hml, hown, hts, hK, hE, hlocks, hnm, htab, htr⟩ := id act
  have hsl := hA.sl
  have key := hB ws p e R s m vs.toArray below meth c (vx_MQ below (QcN g cl ws d.2.2.2.1 PO) (XcN g cl ws PO) vs.toArray s mc ms (AA g)) 0 0 0 0 act hf hl (by omega) (by omega) ?_
  · rw [lg_entry_eq]
    have hl0 := lv_entry vs (by rw [hsl]; exact hlen)
    refine key _ _ _ _ _ _ ⟨ws, ⟨_, hl0, fun i v hi => ?_⟩, ⟨rfl, wsle.rf ws⟩, hH, hP, hD, va_S.rf, rfl, rfl⟩
    have := hA.at (b := 0) (argL_at hi)
    rwa [Nat.add_zero] at this
  · refine ⟨fun pc L h' S r hR hPO k1 k2 => ?_, fun pc x L h' hx3 hT hPO k1 k2 hf8 hl120 => ?_, fun pc x L h' S hh0 hx3 hPO k1 k2 ls st H locs cells slots q ce rl hq hv hcl => ?_⟩
    · obtain ⟨hs, c1, c2⟩ := h'
      refine n_widen (d := d) k1 k2 ?_
      intro ls st H locs cells slots rl
      obtain ⟨ws', hL, hS, hH', hP', hD', hSS, hc1, hc2⟩ := rl
      have hle : wsle ws ws' := hS.pins
      have ek : mc = cells := by have : cells + 0 = 0 + mc := hc1; omega
      have es : ms = slots := by have : slots + 0 = 0 + ms := hc2; omega
      rw [ek, es]
      have fin : ∀ (v : Option Value), ((d.2.2.2.1 = none ∧ v = none ∧ r = none) ∨ (d.2.2.2.1 ≠ none ∧ ∃ x y : Value, v = some x ∧ r = some y ∧ VN g ws' y x)) → ∀ t : State, t.heap = H → s.WarmedH t.vm → QcN g cl ws d.2.2.2.1 PO vs.toArray s (.returned v) t := fun v hv t ht _ => ⟨mem_F rfl hSS ht, ws', v, r, hs, rfl, hle, hH', hD', by rw [ht]; exact hP', hv, hPO⟩
      rcases hR with ⟨hd, hrt, x, rfl, rfl⟩ | ⟨hd, hrt, x, hx01, rfl, rfl⟩ | ⟨hd, hrt, x, rfl, rfl⟩ | ⟨hd, hrt, x, rfl, rfl⟩ | ⟨hd, ⟨rt, hrt, hrk⟩, v, hv, rfl, rfl⟩ | ⟨hd, hrt, rfl, rfl⟩
      · obtain ⟨v0, st0, rfl, h0, rfl, -⟩ := hS
        have h0' : v0 = .int x := h0
        subst h0'
        exact vx_ret (W.iret hx hb (hr.trans hrt) (fin _ (Or.inr ⟨by rw [hrt]; simp, _, _, rfl, rfl, h0⟩)) hSS.2.2 hd)
      · obtain ⟨v0, st0, rfl, h0, rfl, -⟩ := hS
        have h0' : v0 = .int x := h0
        subst h0'
        have hnar : narrow .boolean (.int x) = .int x := by
          rcases hx01 with rfl | rfl <;> decide
        exact vx_ret (W.zret hx hb (hr.trans hrt) hnar (fin _ (Or.inr ⟨by rw [hrt]; simp, _, _, rfl, rfl, h0⟩)) hSS.2.2 hd)
      · obtain ⟨v0, st0, rfl, h0, rfl, -⟩ := hS
        have h0' : v0 = .long x := h0
        subst h0'
        exact vx_ret (W.lret hx hb (hr.trans hrt) (fin _ (Or.inr ⟨by rw [hrt]; simp, _, _, rfl, rfl, h0⟩)) hSS.2.2 hd)
      · obtain ⟨v0, st0, rfl, h0, rfl, -⟩ := hS
        have h0' : v0 = .double x := h0
        subst h0'
        exact vx_ret (W.dret hx hb (hr.trans hrt) (fin _ (Or.inr ⟨by rw [hrt]; simp, _, _, rfl, rfl, h0⟩)) hSS.2.2 hd)
      · obtain ⟨v0, st0, rfl, h0, rfl, -⟩ := hS
        have hvr : v0 = .null ∨ ∃ a : Nat, v0 = .ref a := by
          rcases hv with rfl | ⟨k, rfl⟩
          · exact Or.inl h0
          · exact Or.inr h0.isref
        exact vx_ret (W.aret hx hb (hr.trans hrt) hrk hvr (fin _ (Or.inr ⟨by rw [hrt]; simp, _, _, rfl, rfl, h0⟩)) hSS.2.2 hd)
      · obtain ⟨rfl, -⟩ := hS
        exact vx_ret (W.vret hx hb (hr.trans hrt) (fin _ (Or.inl ⟨hrt, rfl, rfl⟩)) hSS.2.2 hd)
    · intro ls st H locs cells slots rl
      obtain ⟨ws', hL, ⟨rfl, hle⟩, hH', hP', hD', hSS, hc1, hc2⟩ := rl
      obtain ⟨hh0, ik, is, ic, k9, by1, text, Y9, r9, t0, t1, t2, t3, t4, t5, t6, t7, t8, d0, d3, dd⟩ := hT
      obtain ⟨sa, hsa⟩ := hE.str _ t6
      have hout : ∀ (x : ExceptionTableEntry), x ∈ c.exceptionTable.toList → ∀ y : Nat, covers x y = false := fun x hx9 => by
        rw [htab, hh0] at hx9
        cases hx9
      have hxx : ∀ t : State, s.vm.Alike t.vm → H.size ≤ t.heap.size → (∀ q : Nat, q < H.size → t.heap[q]? = H[q]?) → XcN g cl ws PO (excN x) s t := fun t _ hz hk => by
        refine ⟨⟨Nat.le_trans hSS.1 hz, fun q hq hA9 => ?_⟩, x, ws', h'.1, rfl, hx3, hle, hH', hD', hP'.kept (fun k9 q9 hk9 => hk _ (hP' k9 q9 hk9).lt), hPO⟩
        rw [hk q (Nat.lt_of_lt_of_le hq hSS.1)]
        exact hSS.2.1 q hq hA9
      have ec : cells + 0 = h'.2.1 := hc1
      have es : slots + 0 = h'.2.2 := hc2
      rcases dd with ⟨d4, d6, d9⟩ | ⟨d4, d6, d9⟩
      · exact vz_throwS hx hb htr t0 hown t1 t2 (hts _ t4) (hts _ t5) hsa (fun w hw => hts w (t7 w hw)) t8 hE.1 hE.2.1 hSS (hL.size.trans hml.symm) d0 d3 d4 d6 d9 (fun x hx9 => hout x hx9 _) (by simp only [List.length_cons]; omega) (by rw [List.map_nil, List.sum_nil]; simp only [List.length_cons]; omega) (by omega) (by omega) hlocks hxx hSS.2.2 (by omega) (by omega)
      · exact vz_throwSW hx hb htr t0 hown t1 t2 (hts _ t4) (hts _ t5) hsa (fun w hw => hts w (t7 w hw)) t8 hE.1 hE.2.1 hSS (hL.size.trans hml.symm) d0 d3 d4 d6 d9 (fun x hx9 => hout x hx9 _) (by simp only [List.length_cons]; omega) (by rw [List.map_nil, List.sum_nil]; simp only [List.length_cons]; omega) (by omega) (by omega) hlocks hxx hSS.2.2 (by omega) (by omega)
    · obtain ⟨ws', hL, hS, hH', hP', hD', hSS, hc1, hc2⟩ := rl
      have hle : wsle ws ws' := hS.pins
      have ec : cells + 0 = h'.2.1 := hc1
      have es : slots + 0 = h'.2.2 := hc2
      exact vx_out (fun x hx9 => by rw [htab, hh0] at hx9; cases hx9) hlocks hq hv hcl (fun t ht _ => ⟨mem_F rfl hSS ht, x, ws', h'.1, rfl, hx3, hle, hH', hD', by rw [ht]; exact hP', hPO⟩) hSS.2.2 (by omega) (by omega)
theorem met_ofN {f lam mc ms : Nat} {d : MD} {h : List CE} {as : List Value} {PO : Nat → Option Value → List CE → Prop} {ws : va_W} {vs : List Value} (hB : BodyN ss TBL g cl bl xs l d f lam mc ms as h PO) (hH : HNR g ws h) (hD : va_D (AA g) ws) (hA : ArN g ws as vs) (hlen : (argS as).length ≤ d.2.2.1) (hpl : plainName d.1.cls = true) (hst : l.stackTraces = false) :
    vx_Met l d.1 (cdw d :: TBL) ({ frames := f, cells := mc, slots := ms, locals := lam }) (PcX ss g cl bl xs ws vs) (QcN g cl ws d.2.2.2.1 PO) (XcN g cl ws PO) mc ms (AA g) := by
  by_cases hh : d.2.2.2.2 = []
  · have hcd : cdw d = .code d.1 d.2.1 d.2.2.1 d.2.2.2.1 := by unfold cdw; rw [hh]
    refine vx_ofW (cc := d.2.1) (maxL := d.2.2.1) (ret := d.2.2.2.1) hpl (by rw [hcd]) ?_
    intro p e s m args below meth c s₁ B hml ht hPc
    obtain ⟨rfl, hP, hK, hE⟩ := hPc
    have hts := atoms_spec (ws := cdw d :: TBL) B.pre
    refine body_ofN hB hH hD hA hlen ⟨B.exec, B.bytes, B.returns, hml, findClass_of_methodNamed B.named, fun w hw => hts w (List.mem_cons_of_mem _ hw), hK, hE, B.notSynchronized, (name_of_methodNamed B.named B.method).1, ?_, hst⟩ hP (Nat.le_refl _) (Nat.le_refl _) rfl rfl
    rw [hh]
    cases hq : c.exceptionTable.toList with
    | nil => rfl
    | cons x l9 => exact absurd (ht x (by rw [hq]; exact List.mem_cons_self)) id
  · obtain ⟨y, hcd⟩ : ∃ q, d.2.2.2.2 = q ∧ cdw d = .codeWith d.1 d.2.1 d.2.2.1 d.2.2.2.1 q := by
      cases hq : d.2.2.2.2 with
      | nil => exact absurd hq hh
      | cons a b => exact ⟨a :: b, rfl, by unfold cdw; rw [hq]⟩
    obtain ⟨rfl, hcd⟩ := hcd
    refine vx_ofWH (cc := d.2.1) (maxL := d.2.2.1) (ret := d.2.2.2.1) (hh := d.2.2.2.2) hpl (by rw [hcd]) ?_
    intro p e s m args below meth c s₁ B hml hPc
    obtain ⟨rfl, hP, hK, hE⟩ := hPc
    have hts := atoms_spec (ws := cdw d :: TBL) B.pre
    exact body_ofN hB hH hD hA hlen ⟨B.exec, B.bytes, B.returns, hml, findClass_of_methodNamed B.named, fun w hw => hts w (List.mem_cons_of_mem _ hw), hK, hE, B.notSynchronized, (name_of_methodNamed B.named B.method).1, vx_table (x := d.1) B (by rw [← hcd]; exact hts _ List.mem_cons_self), hst⟩ hP (Nat.le_refl _) (Nat.le_refl _) rfl rfl
variable {p : Program} {e : Env} {R : Room} {s : State} {m : MethodId} {args : Array Value} {below : List Frame} {meth : Method} {c : Code} {Q : State → Prop} {kc0 ks0 : Nat} {pc w : Nat} {L : LN} {S : List Value}
set_option maxHeartbeats 1000000 in
/-- the run of a call -/
theorem run_ofN {d d' : MD} {b mc ms f lam : Nat} {Qc : Array Value → State → Outcome → State → Prop} {XC : String → State → State → Prop} {ws : va_W} {as vs rest : List Value} {h : List CE} {H : Heap} {locs : List Loc} {cells slots : Nat} {ls : Array Slot} (act : Act ss TBL g cl bl xs d p l s m args meth c) (hpr : ∀ w ∈ TBL, pres w = true) (hL : LinkOK TBL cl d d' pc b)
    (hM : vx_Met l d'.1 (cdw d' :: TBL) ({ frames := f, cells := mc, slots := ms, locals := lam }) (PcX ss g cl bl xs ws vs) Qc XC mc ms (AA g)) (hP : va_P g.1 cl ws H) (hSS : va_S (AA g) s.heap H locs) (hH : HNR g ws h) (hA : ArN g ws as vs) (hn : vs.length = b % 16) (hrc : RcvN h as b)
    (hfr : f + 1 ≤ R.frames) (hlo : 8 + (d'.2.2.1 + 11) + lam ≤ R.locals) (hsz : ls.size = d.2.2.1) (hcat : (rest.map fun v => v.category).sum ≤ 8) (hroom : cells + mc ≤ R.cells ∧ slots + ms ≤ R.slots) :
    vx_Run p l e R s m args below meth c H locs cells slots mc ms (F0 m pc ls (vs.reverse ++ rest)) rest (Qc vs.toArray) XC (AA g) := by
  obtain ⟨hx, hb, hr, hml, hown, hts, hK, hE, hlocks, hnm, htab, htr⟩ := id act
  obtain ⟨l1, l2, l3, l4, hL⟩ := hL
  have hws : ∀ w ∈ cdw d' :: TBL, ∀ (a' : Array Value) (U : State), s.WarmedH U.vm → w.before a' U = true := fun w hw a' U hW => by
    have hw : w ∈ TBL := (List.mem_cons.mp hw).elim (fun q => q ▸ l2) id
    exact pres_warm (hpr w hw) hW (hts w hw)
  have hpre : ∀ U : State, U.heap = H → s.WarmedH U.vm → PcX ss g cl bl xs ws vs vs.toArray U := fun U hU hW => ⟨rfl, by rw [hU]; exact hP, va_K.moved hW.alike hK, by rw [hU]; exact hE.next hW hSS.1 hSS.2.1⟩
  have fix : CallFix p m c d.2.1 d.2.2.1 s args TBL d.1.cls := ⟨hx, hb, hml, hown, hts⟩
  rcases hL with ⟨idx, q1, q2, q3, q4⟩ | ⟨idx, ci, rr, q1, q0, q2, q3, q4, q5, q6, q7, q7b, q8, q9⟩ | ⟨idx, q1, q0, qr, qn, q2, q3, q5, q6⟩ | ⟨idx, host, q1, q0, qr, qn, q2, q3, q5, q6⟩
  · by_cases hh : d'.2.2.2.2 = []
    · have hcd : cdw d' = .code d'.1 d'.2.1 d'.2.2.1 d'.2.2.2.1 := by unfold cdw; rw [hh]
      rw [hcd] at hws hM l2
      exact vx_runS (n := b % 16) fix hM ⟨⟨rfl, rfl, hfr, hlo, hws, List.mem_cons_self, hts _ l2, hts _ l3, l4, q4, hts _ q2⟩, hts _ q3⟩ ⟨PcX.blind, hpre⟩ rfl hn hsz rfl (lv_room hcat) q1 hroom
    · obtain ⟨y, hcd⟩ : ∃ q, d'.2.2.2.2 = q ∧ cdw d' = .codeWith d'.1 d'.2.1 d'.2.2.1 d'.2.2.2.1 q := by
        cases hq : d'.2.2.2.2 with
        | nil => exact absurd hq hh
        | cons a b => exact ⟨a :: b, rfl, by unfold cdw; rw [hq]⟩
      obtain ⟨rfl, hcd⟩ := hcd
      rw [hcd] at hws hM l2
      exact vx_runSX (n := b % 16) fix hM ⟨⟨rfl, rfl, hfr, hlo, hws, List.mem_cons_self⟩, hts _ l2, hts _ l3, l4, q4, hts _ q2, hts _ q3⟩ ⟨PcX.blind, hpre⟩ rfl hn hsz rfl (lv_room hcat) q1 hroom
  · have hcd : cdw d' = .code d'.1 d'.2.1 d'.2.2.1 d'.2.2.2.1 := by unfold cdw; rw [q0]
    rw [hcd] at hws hM l2
    obtain ⟨k, as', rfl, cc9, hk9, hcl0⟩ := hrc q6
    obtain ⟨v, vs', rfl, hv, hA'⟩ := hA.uncons
    obtain ⟨y1, y2⟩ := hH.at hk9
    obtain ⟨a, ev, hev, rfl⟩ := hv.cell y1
    have hcl9 : cc9.1 = ci := by
      rcases hcl0 with q | q
      · omega
      · omega
    obtain ⟨fs, rfl, -, -⟩ := (y2 _ _ hev).obj (by omega)
    rw [hcl9] at hev
    have hrv := va_recv hK hP q8 hev
    rw [q9] at hrv
    rw [List.length_cons] at hn
    have hlen : ∀ sig, parseMethodDescriptor d'.1.desc = some sig → b % 16 - 1 = sig.parameters.length := fun sig hs => by have := q5 sig hs; omega
    exact vx_runV (C := d'.1.cls) (b := a) (As := vs') (n := b % 16 - 1) fix hM ⟨⟨rfl, rfl, hfr, hlo, hws, List.mem_cons_self, hts _ l2, hts _ l3, l4, hlen, hts _ q2⟩, hts _ q3, hts _ q4⟩ ⟨PcX.blind, hrv, hpre⟩ rfl (by omega) hsz (by rw [List.reverse_cons, List.append_assoc]; rfl) (lv_room hcat) q1 hroom
  · have hcd : cdw d' = .code d'.1 d'.2.1 d'.2.2.1 none := by unfold cdw; rw [q0, qr]
    rw [hcd] at hws hM l2
    obtain ⟨k, as', rfl, cc9, hk9, hcl0⟩ := hrc q6
    obtain ⟨v, vs', rfl, hv, hA'⟩ := hA.uncons
    obtain ⟨y1, y2⟩ := hH.at hk9
    obtain ⟨a, ev, hev, rfl⟩ := hv.cell y1
    rw [List.length_cons] at hn
    have hlen : ∀ sig, parseMethodDescriptor d'.1.desc = some sig → b % 16 - 1 = sig.parameters.length := fun sig hs => by have := q5 sig hs; omega
    exact vx_runI (b := a) (As := vs') (n := b % 16 - 1) fix hM ⟨⟨rfl, rfl, hfr, hlo, hws, List.mem_cons_self, hts _ l2, hts _ l3, l4, hlen, hts _ q2⟩, qn, hts _ q3⟩ ⟨PcX.blind, hpre⟩ rfl (by omega) hsz (by rw [List.reverse_cons, List.append_assoc]; rfl) (lv_room hcat) q1 hroom
  · have hcd : cdw d' = .code d'.1 d'.2.1 d'.2.2.1 none := by unfold cdw; rw [q0, qr]
    rw [hcd] at hws hM l2
    obtain ⟨k, as', rfl, cc9, hk9, hcl0⟩ := hrc q6
    obtain ⟨v, vs', rfl, hv, hA'⟩ := hA.uncons
    obtain ⟨y1, y2⟩ := hH.at hk9
    obtain ⟨a, ev, hev, rfl⟩ := hv.cell y1
    rw [List.length_cons] at hn
    have hlen : ∀ sig, parseMethodDescriptor d'.1.desc = some sig → b % 16 - 1 = sig.parameters.length := fun sig hs => by have := q5 sig hs; omega
    exact vx_runIN (b := a) (As := vs') (n := b % 16 - 1) fix hM ⟨⟨⟨rfl, rfl, hfr, hlo, hws, List.mem_cons_self⟩, hts _ l2, hts _ l3, l4, hlen, hts _ q2⟩, qn, hts _ q3⟩ ⟨PcX.blind, hpre⟩ rfl (by omega) hsz (by rw [List.reverse_cons, List.append_assoc]; rfl) (lv_room hcat) q1 hroom
end CONTRACTN

/-! Ends of a run, contracts out of runs, calls. -/
def excN (e : Nat) : String := match e with
  | 0 => "java/lang/IllegalStateException"
  | 1 => "java/lang/IndexOutOfBoundsException"
  | 2 => "java/lang/IllegalArgumentException"
  | _ => "java/util/NoSuchElementException"
def gp (g : GG) (ws : va_W) : GG := (g.1, g.2.1, g.2.2.1, g.2.2.2.1, g.2.2.2.2.1, ws)
/-- a return of the right kind stands at pc -/
def RetOK (d : MD) (pc S : Nat) : Prop :=
  (decode d.2.1 pc = .ok (.ireturn, 1) ∧ d.2.2.2.1 = some .int ∧ tp S % 8 = 1) ∨
  (decode d.2.1 pc = .ok (.ireturn, 1) ∧ d.2.2.2.1 = some .boolean ∧ (tp S = 73786976312018075649 ∨ tp S = 73786976346377814025)) ∨
  (decode d.2.1 pc = .ok (.lreturn, 1) ∧ d.2.2.2.1 = some .long ∧ tp S % 8 = 2) ∨
  (decode d.2.1 pc = .ok (.dreturn, 1) ∧ d.2.2.2.1 = some .double ∧ tp S % 8 = 6) ∨
  (decode d.2.1 pc = .ok (.areturn, 1) ∧ (∃ rt : FieldType, d.2.2.2.1 = some rt ∧ ((∃ n, rt = .object n) ∨ ∃ t, rt = .array t)) ∧ isA (tp S) = true) ∨
  (decode d.2.1 pc = .ok (.return_, 1) ∧ d.2.2.2.1 = none)
/-- 'throw new E(text)' stands at pc -/
def ThrOK (ss : SS) (TBL : List Cond) (d : MD) (pc : Nat) (cls : String) : Prop := d.2.2.2.2 = [] ∧ ∃ (ik is ic k1 : Nat) (by1 : ByteArray) (text Y9 : String) (r9 : List String), vz_by k1 by1 ∧ Bundle.fit cls = true ∧ (∀ n ∈ Y9 :: r9, Bundle.fit n = true) ∧ r9.length ≤ 3 ∧ Cond.classLink d.1.cls ik cls ∈ TBL ∧ Cond.initialized cls ∈ TBL ∧ (d.1.cls, is, text) ∈ ss.1 ∧
  (∀ w ∈ vz_at d.1.cls ic cls Y9 r9 k1 by1, w ∈ TBL) ∧ (∀ w ∈ Cond.classLink d.1.cls ik cls :: Cond.initialized cls :: vz_at d.1.cls ic cls Y9 r9 k1 by1, vx_ot w = true) ∧ decode d.2.1 pc = .ok (.new ik, 3) ∧ decode d.2.1 (pc + 3) = .ok (.dup, 1) ∧
  ((decode d.2.1 (pc + 4) = .ok (.ldc is, 2) ∧ decode d.2.1 (pc + 6) = .ok (.invokespecial ic, 3) ∧ decode d.2.1 (pc + 9) = .ok (.athrow, 1)) ∨ (decode d.2.1 (pc + 4) = .ok (.ldc_w is, 3) ∧ decode d.2.1 (pc + 7) = .ok (.invokespecial ic, 3) ∧ decode d.2.1 (pc + 10) = .ok (.athrow, 1)))
def EndOK (ss : SS) (TBL : List Cond) (g : GG) (cl : List vw_C) (ft : Nat → Nat → Nat) (d : MD) (p : Program) (l : Launch) (e : Env) (R : Room) (s : State) (m : MethodId) (args : Array Value) (below : List Frame) (meth : Method) (c : Code) (Q : State → Prop) (kc0 ks0 f lam : Nat) (res : RES) : Prop :=
  (res.1 = 0 → RetOK d res.2.1 res.2.2.2.2 → ∀ (ls : Array Slot) (st : List Value) (H : Heap) (locs : List Loc) (cells slots : Nat), RL g cl ft s d.2.2.1 kc0 ks0 res.2.2.1 res.2.2.2.1 res.2.2.2.2 ls st H locs cells slots → W p l e R s m args below meth c H locs cells slots Q (F0 m res.2.1 ls st)) ∧
  (1 ≤ res.1 → res.1 ≤ 4 → ThrOK ss TBL d res.2.1 (excN (res.1 - 1)) → res.2.2.2.2 = 0 → 8 ≤ f → 120 ≤ lam → ∀ (ls : Array Slot) (st : List Value) (H : Heap) (locs : List Loc) (cells slots : Nat), RL g cl ft s d.2.2.1 kc0 ks0 res.2.2.1 res.2.2.2.1 res.2.2.2.2 ls st H locs cells slots → W p l e R s m args below meth c H locs cells slots Q (F0 m res.2.1 ls st)) ∧
  (res.1 = 8 → ∀ (ls : Array Slot) (st : List Value) (H : Heap) (locs : List Loc) (cells slots : Nat), RL g cl ft s d.2.2.1 kc0 ks0 res.2.2.1 res.2.2.2.1 res.2.2.2.2 ls st H locs cells slots → W p l e R s m args below meth c H locs cells slots Q (F0 m res.2.1 ls st)) ∧
  (16 ≤ res.1 → ∀ (ls : Array Slot) (st : List Value) (H : Heap) (locs : List Loc) (cells slots : Nat) (q : Addr) (ce : Cell), RL g cl ft s d.2.2.1 kc0 ks0 res.2.2.1 res.2.2.2.1 res.2.2.2.2 ls st H locs cells slots → H[q]? = some ce → ce.vm = .none → s.vm.findClass (excN (res.1 - 16)) = some ce.cls → vx_W p l e R s m args below meth c H locs cells slots Q (F0 m res.2.1 ls st) q)
/-- the engine's runs of n steps are sound -/
def RS (ss : SS) (TBL : List Cond) (g0 : GG) (cl : List vw_C) (ft : Nat → Nat → Nat) (bx bl : Nat) (xs : Nat → Int32) (GP : MD → Nat → Prop) (l : Launch) (n : Nat) : Prop :=
  ∀ (wp : va_W) (f lam pr : Nat) (d : MD) (p : Program) (e : Env) (R : Room) (s : State) (m : MethodId) (args : Array Value) (below : List Frame) (meth : Method) (c : Code) (Q : State → Prop) (kc0 ks0 pc L : Nat) (h : HP) (S : Nat) (res : RES),
    Act ss TBL (gp g0 wp) cl bl xs d p l s m args meth c → GP d pr → f ≤ R.frames → lam ≤ R.locals → run bx bl n f lam pr pc L h S = some res → (res.2.2.2.1.2.2.2.2.2.2.1 ≤ R.cells + kc0 ∧ res.2.2.2.1.2.2.2.2.2.2.2 ≤ R.slots + ks0) →
    EndOK ss TBL (gp g0 wp) cl ft d p l e R s m args below meth c Q kc0 ks0 f lam res → Wp (gp g0 wp) cl ft p l e R s m args below meth c Q d.2.2.1 kc0 ks0 res pc L h S
section CONTRACT
variable {ss : SS} {TBL : List Cond} {g : GG} {cl : List vw_C} {ft : Nat → Nat → Nat} {bx bl : Nat} {xs : Nat → Int32} {GP : MD → Nat → Prop} {l : Launch}
def PcX (ss : SS) (g : GG) (cl : List vw_C) (bl : Nat) (xs : Nat → Int32) (ws : va_W) (vs : List Value) : Array Value → State → Prop := fun v U => v = vs.toArray ∧ va_P g.1 cl ws U.heap ∧ va_K g.1 cl g.2.1 U ∧ Ext ss g bl xs U U.heap
def QcX (g : GG) (cl : List vw_C) (ft : Nat → Nat → Nat) (ws : va_W) (ret : Option FieldType) (res : RES) : Array Value → State → Outcome → State → Prop := fun _ st oc t => va_F (AA g) st t ∧ res.1 = 0 ∧ ∃ (ws' : va_W) (v : Option Value), oc = .returned v ∧ wsle ws ws' ∧ HR g ft ws' res.2.2.2.1 ∧ va_D (AA g) ws' ∧ va_P g.1 cl ws' t.heap ∧ ((ret = none ∧ v = none) ∨ (ret ≠ none ∧ ∃ x : Value, v = some x ∧ VR g ws' (tp res.2.2.2.2) x))
def exNo (kd : Nat) : Nat := if 16 ≤ kd then kd - 16 else kd - 1
def XcX (g : GG) (cl : List vw_C) (ft : Nat → Nat → Nat) (ws : va_W) (res : RES) : String → State → State → Prop := fun E st t => va_F (AA g) st t ∧ res.1 ≠ 0 ∧ E = excN (exNo res.1) ∧ ∃ ws' : va_W, wsle ws ws' ∧ HR g ft ws' res.2.2.2.1 ∧ va_D (AA g) ws' ∧ va_P g.1 cl ws' t.heap
/-- what the cells are counted up to at a run's end -/
def kEnd (res : RES) : Nat := if 1 ≤ res.1 ∧ res.1 ≤ 4 then res.2.2.2.1.2.2.2.2.2.2.1 + 1 else res.2.2.2.1.2.2.2.2.2.2.1
def sEnd (res : RES) : Nat := if 1 ≤ res.1 ∧ res.1 ≤ 4 then res.2.2.2.1.2.2.2.2.2.2.2 + 6 else res.2.2.2.1.2.2.2.2.2.2.2
theorem PcX.blind {ws : va_W} {vs : List Value} : FrameBlind (PcX ss g cl bl xs ws vs) := by
  intro a U fr mk h
  obtain ⟨h1, h2, h3, h4⟩ := h
  exact ⟨h1, h2, va_K.moved (u := U) (U := U.calling fr mk a) (Vm.Alike.refl U.vm) h3, h4.next (U := U.calling fr mk a) (State.WarmedH.refl U) (Nat.le_refl _) (fun _ _ _ => rfl)⟩
theorem mem_F {H0 H : Heap} {st t : State} {locs : List Loc} (h0 : st.heap = H0) (h : va_S (AA g) H0 H locs) (ht : t.heap = H) : va_F (AA g) st t := by
  subst h0; subst ht
  exact ⟨h.1, h.2.1⟩
set_option maxHeartbeats 2000000 in
/-- the body of a method, from its entry: what its run ends with -/
theorem body_of {n f lam pr L2 : Nat} {d : MD} {h : HP} {res : RES} {ws : va_W} {vs : List Value} (hRS : RS ss TBL g cl ft bx bl xs GP l n) (hGP : GP d pr) (hrun : run bx bl n f lam pr 0 L2 h 0 = some res) (hkd : res.1 = 0 ∨ (1 ≤ res.1 ∧ res.1 ≤ 4) ∨ 16 ≤ res.1) (hhh : d.2.2.2.2 ≠ [] → res.1 = 0)
    (hm : h.2.2.2.2.2.2.1 ≤ res.2.2.2.1.2.2.2.2.2.2.1 ∧ h.2.2.2.2.2.2.2 ≤ res.2.2.2.1.2.2.2.2.2.2.2) (hret : res.1 = 0 → (d.2.2.2.1 = none → res.2.2.2.2 = 0) ∧ (d.2.2.2.1 ≠ none → dt (r1 res.2.2.2.2) = 0)) (hH : HR g ft ws h) (hD : va_D (AA g) ws) (hA : ArR g ws L2 0 vs) (hlen : (lg_sl vs).length ≤ d.2.2.1)
    {p : Program} {e : Env} {R : Room} {s : State} {m : MethodId} {below : List Frame} {meth : Method} {c : Code} (act : Act ss TBL g cl bl xs d p l s m vs.toArray meth c) (hP : va_P g.1 cl ws s.heap) (hf : f ≤ R.frames) (hl : lam ≤ R.locals) (hRc : R.cells = kEnd res - h.2.2.2.2.2.2.1) (hRs : R.slots = sEnd res - h.2.2.2.2.2.2.2) :
    W p l e R s m vs.toArray below meth c s.heap [] 0 0 (vx_MQ below (QcX g cl ft ws d.2.2.2.1 res) (XcX g cl ft ws res) vs.toArray s (kEnd res - h.2.2.2.2.2.2.1) (sEnd res - h.2.2.2.2.2.2.2) (AA g)) (entryFrame m vs.toArray d.2.2.1) := by
  obtain ⟨hx, hb, hr, hml, hown, hts, hK, hE, hlocks, hnm, htab, htr⟩ := id act
  have k1 : res.2.2.2.1.2.2.2.2.2.2.1 ≤ kEnd res := by unfold kEnd; split <;> omega
  have s1 : res.2.2.2.1.2.2.2.2.2.2.2 ≤ sEnd res := by unfold sEnd; split <;> omega
  have key := hRS ws f lam pr d p e R s m vs.toArray below meth c (vx_MQ below (QcX g cl ft ws d.2.2.2.1 res) (XcX g cl ft ws res) vs.toArray s (kEnd res - h.2.2.2.2.2.2.1) (sEnd res - h.2.2.2.2.2.2.2) (AA g)) h.2.2.2.2.2.2.1 h.2.2.2.2.2.2.2 0 L2 h 0 res act hGP hf hl hrun (by omega) ?_
  · rw [lg_entry_eq]
    have hl0 := lv_entry vs hlen
    refine key.2 _ _ _ _ _ _ ⟨ws, ⟨_, hl0, hA⟩, ⟨by decide, wsle.rf ws⟩, hH, hP, hD, va_S.rf, by omega, by omega⟩
  · refine ⟨fun k0 hR ls st H locs cells slots r => ?_, fun q1 q2 hT hS0 hf8 hl120 ls st H locs cells slots r => ?_, fun k8 => by omega, fun q1 ls st H locs cells slots q ce r hq hv hcl => ?_⟩
    · obtain ⟨ws', hL, hS, hH', hP', hD', hSS, hc1, hc2⟩ := r
      have hle : wsle ws ws' := hS.pins
      have ek : kEnd res - h.2.2.2.2.2.2.1 = cells := by unfold kEnd; rw [if_neg (by omega)]; omega
      have es : sEnd res - h.2.2.2.2.2.2.2 = slots := by unfold sEnd; rw [if_neg (by omega)]; omega
      rw [ek, es]
      obtain ⟨hr1, hr2⟩ := hret k0
      have one : tp res.2.2.2.2 ≠ 0 → d.2.2.2.1 ≠ none → ∃ v : Value, st = [v] ∧ VR g ws' (tp res.2.2.2.2) v := by
        intro hn0 hrn
        obtain ⟨v, st', rfl, hv, hS'⟩ := hS.pop hn0
        cases st' with
        | nil => exact ⟨v, rfl, hv⟩
        | cons u st2 =>
          have hz := hr2 hrn
          have hu : VR (gp g ws) ws' (dt (r1 res.2.2.2.2) % WB) u := hS'.1
          rw [hz] at hu
          exact absurd rfl hu.ne
      have fin : ∀ (v : Option Value), ((d.2.2.2.1 = none ∧ v = none) ∨ (d.2.2.2.1 ≠ none ∧ ∃ x : Value, v = some x ∧ VR g ws' (tp res.2.2.2.2) x)) → ∀ t : State, t.heap = H → s.WarmedH t.vm → QcX g cl ft ws d.2.2.2.1 res vs.toArray s (.returned v) t := fun v hv t ht _ => ⟨mem_F rfl hSS ht, k0, ws', v, rfl, hle, hH', hD', by rw [ht]; exact hP', hv⟩
      rcases hR with ⟨hd, hrt, ht⟩ | ⟨hd, hrt, ht⟩ | ⟨hd, hrt, ht⟩ | ⟨hd, hrt, ht⟩ | ⟨hd, ⟨rt, hrt, hrk⟩, ht⟩ | ⟨hd, hrt⟩
      · obtain ⟨v, rfl, hv⟩ := one (by omega) (by rw [hrt]; simp)
        obtain ⟨i, rfl, -⟩ := hv.int ht
        exact vx_ret (W.iret hx hb (hr.trans hrt) (fin _ (Or.inr ⟨by rw [hrt]; simp, _, rfl, hv⟩)) hSS.2.2 hd)
      · obtain ⟨v, rfl, hv⟩ := one (by rcases ht with q | q <;> rw [q] <;> decide) (by rw [hrt]; simp)
        obtain ⟨i, rfl, ei⟩ := hv.sint (by rcases ht with q | q <;> rw [q]) (by rcases ht with q | q <;> rw [q] <;> decide)
        have hnar : narrow .boolean (.int i) = .int i := by
          rcases ht with q | q
          · rw [q] at ei
            have : i = 0 := iEx_inj.mp (by rw [ei]; decide)
            subst this; decide
          · rw [q] at ei
            have : i = 1 := iEx_inj.mp (by rw [ei]; decide)
            subst this; decide
        exact vx_ret (W.zret hx hb (hr.trans hrt) hnar (fin _ (Or.inr ⟨by rw [hrt]; simp, _, rfl, hv⟩)) hSS.2.2 hd)
      · obtain ⟨v, rfl, hv⟩ := one (by omega) (by rw [hrt]; simp)
        obtain ⟨i, rfl, -⟩ := hv.long ht
        exact vx_ret (W.lret hx hb (hr.trans hrt) (fin _ (Or.inr ⟨by rw [hrt]; simp, _, rfl, hv⟩)) hSS.2.2 hd)
      · obtain ⟨v, rfl, hv⟩ := one (by omega) (by rw [hrt]; simp)
        have := hv.dbl ht
        subst this
        exact vx_ret (W.dret hx hb (hr.trans hrt) (fin _ (Or.inr ⟨by rw [hrt]; simp, _, rfl, hv⟩)) hSS.2.2 hd)
      · obtain ⟨v, rfl, hv⟩ := one (isA_n ht) (by rw [hrt]; simp)
        exact vx_ret (W.aret hx hb (hr.trans hrt) hrk (hv.refs ht) (fin _ (Or.inr ⟨by rw [hrt]; simp, _, rfl, hv⟩)) hSS.2.2 hd)
      · have hst : st = [] := by
          cases st with
          | nil => rfl
          | cons u st2 =>
            have hu : VR (gp g ws) ws' (dt res.2.2.2.2 % WB) u := hS.1
            rw [hr1 hrt] at hu
            exact absurd (show dt 0 % WB = 0 by decide) hu.ne
        subst hst
        exact vx_ret (W.vret hx hb (hr.trans hrt) (fin _ (Or.inl ⟨hrt, rfl⟩)) hSS.2.2 hd)
    · obtain ⟨ws', hL, hS, hH', hP', hD', hSS, hc1, hc2⟩ := r
      have hle : wsle ws ws' := hS.pins
      have hst : st = [] := by
        cases st with
        | nil => rfl
        | cons u st2 =>
          have hu : VR (gp g ws) ws' (dt res.2.2.2.2 % WB) u := hS.1
          rw [hS0] at hu
          exact absurd (show dt 0 % WB = 0 by decide) hu.ne
      subst hst
      have ek : kEnd res = res.2.2.2.1.2.2.2.2.2.2.1 + 1 := by unfold kEnd; rw [if_pos ⟨q1, q2⟩]
      have es : sEnd res = res.2.2.2.1.2.2.2.2.2.2.2 + 6 := by unfold sEnd; rw [if_pos ⟨q1, q2⟩]
      have eno : exNo res.1 = res.1 - 1 := by unfold exNo; rw [if_neg (by omega)]
      obtain ⟨hh0, ik, is, ic, k1, by1, text, Y9, r9, t0, t1, t2, t3, t4, t5, t6, t7, t8, d0, d3, dd⟩ := hT
      obtain ⟨sa, hsa⟩ := hE.str _ t6
      have hout : ∀ (x : ExceptionTableEntry), x ∈ c.exceptionTable.toList → ∀ y : Nat, covers x y = false := fun x hx9 => by
        rw [htab, hh0] at hx9
        cases hx9
      have hxx : ∀ t : State, s.vm.Alike t.vm → H.size ≤ t.heap.size → (∀ q : Nat, q < H.size → t.heap[q]? = H[q]?) → XcX g cl ft ws res (excN (res.1 - 1)) s t := fun t _ hz hk => by
        refine ⟨⟨Nat.le_trans hSS.1 hz, fun q hq hA9 => ?_⟩, by omega, by rw [eno], ws', hle, hH', hD', hP'.kept (fun k9 q9 hk9 => hk _ (hP' k9 q9 hk9).lt)⟩
        rw [hk q (Nat.lt_of_lt_of_le hq hSS.1)]
        exact hSS.2.1 q hq hA9
      rcases dd with ⟨d4, d6, d9⟩ | ⟨d4, d6, d9⟩
      · exact vz_throwS hx hb htr t0 hown t1 t2 (hts _ t4) (hts _ t5) hsa (fun w hw => hts w (t7 w hw)) t8 hE.1 hE.2.1 hSS (hL.size.trans hml.symm) d0 d3 d4 d6 d9 (fun x hx9 => hout x hx9 _) (by simp only [List.length_cons]; omega) (by rw [List.map_nil, List.sum_nil]; simp only [List.length_cons]; omega) (by omega) (by omega) hlocks hxx hSS.2.2 (by omega) (by omega)
      · exact vz_throwSW hx hb htr t0 hown t1 t2 (hts _ t4) (hts _ t5) hsa (fun w hw => hts w (t7 w hw)) t8 hE.1 hE.2.1 hSS (hL.size.trans hml.symm) d0 d3 d4 d6 d9 (fun x hx9 => hout x hx9 _) (by simp only [List.length_cons]; omega) (by rw [List.map_nil, List.sum_nil]; simp only [List.length_cons]; omega) (by omega) (by omega) hlocks hxx hSS.2.2 (by omega) (by omega)
    · obtain ⟨ws', hL, hS, hH', hP', hD', hSS, hc1, hc2⟩ := r
      have hle : wsle ws ws' := hS.pins
      have hh0 : d.2.2.2.2 = [] := by
        by_cases q : d.2.2.2.2 = []
        · exact q
        · have := hhh q; omega
      have ek : kEnd res = res.2.2.2.1.2.2.2.2.2.2.1 := by unfold kEnd; rw [if_neg (by omega)]
      have es : sEnd res = res.2.2.2.1.2.2.2.2.2.2.2 := by unfold sEnd; rw [if_neg (by omega)]
      have eno : exNo res.1 = res.1 - 16 := by unfold exNo; rw [if_pos q1]
      exact vx_out (fun x hx9 => by rw [htab, hh0] at hx9; cases hx9) hlocks hq hv hcl (fun t ht _ => ⟨mem_F rfl hSS ht, by omega, by rw [eno], ws', hle, hH', hD', by rw [ht]; exact hP'⟩) hSS.2.2 (by omega) (by omega)
end CONTRACT

/-! A call: the callee's run gives its contract, the contract the call. -/
def HndOK (ss : SS) (TBL : List Cond) (d : MD) (pc : Nat) (cls : String) (hd : Nat) : Prop := ∃ (pre : List ExceptionTableEntry) (x : ExceptionTableEntry) (suf : List ExceptionTableEntry) (name : String), tableOf d.2.2.2.2 = pre ++ x :: suf ∧ x.handlerPc = hd ∧ covers x pc = true ∧ x.catchType ≠ 0 ∧ Cond.classLink d.1.cls x.catchType name ∈ TBL ∧ Cond.castable cls name ∈ TBL ∧
  ∀ z ∈ pre, covers z pc = false ∨ (z.catchType ≠ 0 ∧ ∃ nm : String, Cond.classLink d.1.cls z.catchType nm ∈ TBL ∧ (cls, nm) ∈ ss.2)
def LinkOK (TBL : List Cond) (cl : List vw_C) (d d' : MD) (pc b : Nat) : Prop := plainName d'.1.cls = true ∧ cdw d' ∈ TBL ∧ Cond.initialized d'.1.cls ∈ TBL ∧ (d'.1.cls ≠ "java/lang/invoke/MethodHandle" ∧ d'.1.cls ≠ "java/lang/invoke/VarHandle") ∧
  ((∃ idx : Nat, decode d.2.1 pc = .ok (.invokestatic idx, 3) ∧ Cond.methodLink d.1.cls idx d'.1 ∈ TBL ∧ Cond.static d'.1 ∈ TBL ∧ (∀ sig, parseMethodDescriptor d'.1.desc = some sig → b % 16 = sig.parameters.length)) ∨
   (∃ (idx ci : Nat) (r : vw_C), decode d.2.1 pc = .ok (.invokevirtual idx, 3) ∧ d'.2.2.2.2 = [] ∧ Cond.methodLink d.1.cls idx d'.1 ∈ TBL ∧ Cond.instanceMethod d'.1 ∈ TBL ∧ Cond.selects d'.1.cls d'.1 d'.1 ∈ TBL ∧ (∀ sig, parseMethodDescriptor d'.1.desc = some sig → b % 16 = sig.parameters.length + 1) ∧ b / 524288 % 2 = 1 ∧ b >>> 68 = ci + 1 ∧ ci < 32 ∧ cl[ci]? = some r ∧ r.1 = d'.1.cls) ∨
   (∃ idx : Nat, decode d.2.1 pc = .ok (.invokespecial idx, 3) ∧ d'.2.2.2.2 = [] ∧ d'.2.2.2.1 = none ∧ d'.1.name = "<init>" ∧ Cond.methodLink d.1.cls idx d'.1 ∈ TBL ∧ Cond.instanceMethod d'.1 ∈ TBL ∧ (∀ sig, parseMethodDescriptor d'.1.desc = some sig → b % 16 = sig.parameters.length + 1) ∧ b / 524288 % 2 = 1) ∨
   (∃ (idx : Nat) (host : String), decode d.2.1 pc = .ok (.invokespecial idx, 3) ∧ d'.2.2.2.2 = [] ∧ d'.2.2.2.1 = none ∧ d'.1.name = "<init>" ∧ Cond.methodLinkNest d.1.cls idx d'.1 host ∈ TBL ∧ Cond.instanceMethod d'.1 ∈ TBL ∧ (∀ sig, parseMethodDescriptor d'.1.desc = some sig → b % 16 = sig.parameters.length + 1) ∧ b / 524288 % 2 = 1))
def CallOK (ss : SS) (TBL : List Cond) (cl : List vw_C) (mdl : Nat → Option MD) (d : MD) (pc w : Nat) : Prop := ∃ d' : MD, mdl (fa w) = some d' ∧ LinkOK TBL cl d d' pc (fb w) ∧ fb w / 1024 % 256 = d'.2.2.1 ∧ fb w / 16 % 64 ≤ d'.2.2.1 ∧ (fb w / 262144 % 2 = 1 ↔ d'.2.2.2.1 ≠ none) ∧ nxt w = pc + 3 ∧
  (∀ e : Nat, e ≤ 3 → (fb w >>> (20 + 12 * e)) % 4096 ≠ 0 → HndOK ss TBL d pc (excN e) ((fb w >>> (20 + 12 * e)) % 4096)) ∧ (d'.2.2.2.2 ≠ [] → (fb w >>> 74) % 2 = 1)
section CALL
variable {ss : SS} {TBL : List Cond} {g : GG} {cl : List vw_C} {ft : Nat → Nat → Nat} {bx bl : Nat} {xs : Nat → Int32} {GP : MD → Nat → Prop} {l : Launch}
theorem met_of {n f lam pr L2 : Nat} {d : MD} {h : HP} {res : RES} {ws : va_W} {vs : List Value} (hRS : RS ss TBL g cl ft bx bl xs GP l n) (hGP : GP d pr) (hrun : run bx bl n f lam pr 0 L2 h 0 = some res) (hkd : res.1 = 0 ∨ (1 ≤ res.1 ∧ res.1 ≤ 4) ∨ 16 ≤ res.1) (hhh : d.2.2.2.2 ≠ [] → res.1 = 0)
    (hm : h.2.2.2.2.2.2.1 ≤ res.2.2.2.1.2.2.2.2.2.2.1 ∧ h.2.2.2.2.2.2.2 ≤ res.2.2.2.1.2.2.2.2.2.2.2) (hret : res.1 = 0 → (d.2.2.2.1 = none → res.2.2.2.2 = 0) ∧ (d.2.2.2.1 ≠ none → dt (r1 res.2.2.2.2) = 0)) (hH : HR g ft ws h) (hD : va_D (AA g) ws) (hA : ArR g ws L2 0 vs) (hlen : (lg_sl vs).length ≤ d.2.2.1) (hpl : plainName d.1.cls = true) (hst : l.stackTraces = false) :
    vx_Met l d.1 (cdw d :: TBL) ({ frames := f, cells := kEnd res - h.2.2.2.2.2.2.1, slots := sEnd res - h.2.2.2.2.2.2.2, locals := lam }) (PcX ss g cl bl xs ws vs) (QcX g cl ft ws d.2.2.2.1 res) (XcX g cl ft ws res) (kEnd res - h.2.2.2.2.2.2.1) (sEnd res - h.2.2.2.2.2.2.2) (AA g) := by
  by_cases hh : d.2.2.2.2 = []
  · have hcd : cdw d = .code d.1 d.2.1 d.2.2.1 d.2.2.2.1 := by unfold cdw; rw [hh]
    refine vx_ofW (cc := d.2.1) (maxL := d.2.2.1) (ret := d.2.2.2.1) hpl (by rw [hcd]) ?_
    intro p e s m args below meth c s₁ B hml ht hPc
    obtain ⟨rfl, hP, hK, hE⟩ := hPc
    have hts := atoms_spec (ws := cdw d :: TBL) B.pre
    refine body_of hRS hGP hrun hkd hhh hm hret hH hD hA hlen ⟨B.exec, B.bytes, B.returns, hml, findClass_of_methodNamed B.named, fun w hw => hts w (List.mem_cons_of_mem _ hw), hK, hE, B.notSynchronized, (name_of_methodNamed B.named B.method).1, ?_, hst⟩ hP (Nat.le_refl _) (Nat.le_refl _) rfl rfl
    rw [hh]
    cases hq : c.exceptionTable.toList with
    | nil => rfl
    | cons x l9 => exact absurd (ht x (by rw [hq]; exact List.mem_cons_self)) id
  · obtain ⟨y, hcd⟩ : ∃ q, d.2.2.2.2 = q ∧ cdw d = .codeWith d.1 d.2.1 d.2.2.1 d.2.2.2.1 q := by
      cases hq : d.2.2.2.2 with
      | nil => exact absurd hq hh
      | cons a b => exact ⟨a :: b, rfl, by unfold cdw; rw [hq]⟩
    obtain ⟨rfl, hcd⟩ := hcd
    refine vx_ofWH (cc := d.2.1) (maxL := d.2.2.1) (ret := d.2.2.2.1) (hh := d.2.2.2.2) hpl (by rw [hcd]) ?_
    intro p e s m args below meth c s₁ B hml hPc
    obtain ⟨rfl, hP, hK, hE⟩ := hPc
    have hts := atoms_spec (ws := cdw d :: TBL) B.pre
    exact body_of hRS hGP hrun hkd hhh hm hret hH hD hA hlen ⟨B.exec, B.bytes, B.returns, hml, findClass_of_methodNamed B.named, fun w hw => hts w (List.mem_cons_of_mem _ hw), hK, hE, B.notSynchronized, (name_of_methodNamed B.named B.method).1, vx_table (x := d.1) B (by rw [← hcd]; exact hts _ List.mem_cons_self), hst⟩ hP (Nat.le_refl _) (Nat.le_refl _) rfl rfl
variable {p : Program} {e : Env} {R : Room} {s : State} {m : MethodId} {args : Array Value} {below : List Frame} {meth : Method} {c : Code} {Q : State → Prop} {kc0 ks0 : Nat} {res : RES} {pc w L : Nat} {h0 : HP} {S : Nat} {k : KK}
set_option maxHeartbeats 1000000 in
/-- the run of a call -/
theorem run_of {d d' : MD} {b mc ms f lam : Nat} {r' : RES} {ws : va_W} {vs rest : List Value} {L2 : Nat} {h : HP} {H : Heap} {locs : List Loc} {cells slots : Nat} {ls : Array Slot} (act : Act ss TBL g cl bl xs d p l s m args meth c) (hpr : ∀ w ∈ TBL, pres w = true) (hL : LinkOK TBL cl d d' pc b)
    (hM : vx_Met l d'.1 (cdw d' :: TBL) ({ frames := f, cells := mc, slots := ms, locals := lam }) (PcX ss g cl bl xs ws vs) (QcX g cl ft ws d'.2.2.2.1 r') (XcX g cl ft ws r') mc ms (AA g)) (hP : va_P g.1 cl ws H) (hSS : va_S (AA g) s.heap H locs) (hH : HR g ft ws h) (hA : ArR g ws L2 0 vs) (hn : vs.length = b % 16) (hrc : rcv h b (pget L2 0) = true)
    (hfr : f + 1 ≤ R.frames) (hlo : 8 + (d'.2.2.1 + 11) + lam ≤ R.locals) (hsz : ls.size = d.2.2.1) (hcat : (rest.map fun v => v.category).sum ≤ 8) (hroom : cells + mc ≤ R.cells ∧ slots + ms ≤ R.slots) :
    vx_Run p l e R s m args below meth c H locs cells slots mc ms (F0 m pc ls (vs.reverse ++ rest)) rest (QcX g cl ft ws d'.2.2.2.1 r' vs.toArray) (XcX g cl ft ws r') (AA g) := by
  obtain ⟨hx, hb, hr, hml, hown, hts, hK, hE, hlocks, hnm, htab, htr⟩ := id act
  obtain ⟨l1, l2, l3, l4, hL⟩ := hL
  have hws : ∀ w ∈ cdw d' :: TBL, ∀ (a' : Array Value) (U : State), s.WarmedH U.vm → w.before a' U = true := fun w hw a' U hW => by
    have hw : w ∈ TBL := (List.mem_cons.mp hw).elim (fun q => q ▸ l2) id
    exact pres_warm (hpr w hw) hW (hts w hw)
  have hpre : ∀ U : State, U.heap = H → s.WarmedH U.vm → PcX ss g cl bl xs ws vs vs.toArray U := fun U hU hW => ⟨rfl, by rw [hU]; exact hP, va_K.moved hW.alike hK, by rw [hU]; exact hE.next hW hSS.1 hSS.2.1⟩
  have fix : CallFix p m c d.2.1 d.2.2.1 s args TBL d.1.cls := ⟨hx, hb, hml, hown, hts⟩
  rcases hL with ⟨idx, q1, q2, q3, q4⟩ | ⟨idx, ci, rr, q1, q0, q2, q3, q4, q5, q6, q7, q7b, q8, q9⟩ | ⟨idx, q1, q0, qr, qn, q2, q3, q5, q6⟩ | ⟨idx, host, q1, q0, qr, qn, q2, q3, q5, q6⟩
  · by_cases hh : d'.2.2.2.2 = []
    · have hcd : cdw d' = .code d'.1 d'.2.1 d'.2.2.1 d'.2.2.2.1 := by unfold cdw; rw [hh]
      rw [hcd] at hws hM l2
      exact vx_runS (n := b % 16) fix hM ⟨⟨rfl, rfl, hfr, hlo, hws, List.mem_cons_self, hts _ l2, hts _ l3, l4, q4, hts _ q2⟩, hts _ q3⟩ ⟨PcX.blind, hpre⟩ rfl hn hsz rfl (lv_room hcat) q1 hroom
    · obtain ⟨y, hcd⟩ : ∃ q, d'.2.2.2.2 = q ∧ cdw d' = .codeWith d'.1 d'.2.1 d'.2.2.1 d'.2.2.2.1 q := by
        cases hq : d'.2.2.2.2 with
        | nil => exact absurd hq hh
        | cons a b => exact ⟨a :: b, rfl, by unfold cdw; rw [hq]⟩
      obtain ⟨rfl, hcd⟩ := hcd
      rw [hcd] at hws hM l2
      exact vx_runSX (n := b % 16) fix hM ⟨⟨rfl, rfl, hfr, hlo, hws, List.mem_cons_self⟩, hts _ l2, hts _ l3, l4, q4, hts _ q2, hts _ q3⟩ ⟨PcX.blind, hpre⟩ rfl hn hsz rfl (lv_room hcat) q1 hroom
  · have hcd : cdw d' = .code d'.1 d'.2.1 d'.2.2.1 d'.2.2.2.1 := by unfold cdw; rw [q0]
    rw [hcd] at hws hM l2
    have hq : br (Nat.beq (Nat.mod (Nat.div b 524288) 2) 0) true (an (isT 3 (pget L2 0)) (orr (Nat.beq (Nat.shiftRight b 68) 0) (Nat.beq (Nat.shiftRight b 68) (Nat.add (mcl (mrow h (pget L2 0))) 1)))) = true := hrc
    cases hz : Nat.beq (Nat.mod (Nat.div b 524288) 2) 0 with
    | true => have := beq_t hz; have q6 : Nat.mod (Nat.div b 524288) 2 = 1 := q6; omega
    | false =>
      rw [hz, br_false] at hq
      obtain ⟨t3, hq⟩ := an_t hq
      have hne : pget L2 0 ≠ 0 := fun q => by have := isT_t t3; omega
      obtain ⟨v, vs', rfl, hv⟩ := hA.first hne
      obtain ⟨a, ev, hev, rfl⟩ := hv.cell (isT_t t3)
      have hcl9 : mcl (mrw h (pget L2 0 / 8)) = ci := by
        rw [mrow_mrw] at hq
        rcases orr_t hq with q | q
        · have q := beq_t q
          have q7 : Nat.shiftRight b 68 = ci + 1 := q7
          omega
        · have q := beq_t q
          have q7 : Nat.shiftRight b 68 = ci + 1 := q7
          have q : Nat.shiftRight b 68 = mcl (mrw h (pget L2 0 / 8)) + 1 := q
          omega
      obtain ⟨fs, rfl, -, -⟩ := (hH.2.2.1 _ _ hev).obj (by omega)
      rw [hcl9] at hev
      have hrv := va_recv hK hP q8 hev
      rw [q9] at hrv
      rw [List.length_cons] at hn
      have hlen : ∀ sig, parseMethodDescriptor d'.1.desc = some sig → b % 16 - 1 = sig.parameters.length := fun sig hs => by have := q5 sig hs; omega
      exact vx_runV (C := d'.1.cls) (b := a) (As := vs') (n := b % 16 - 1) fix hM ⟨⟨rfl, rfl, hfr, hlo, hws, List.mem_cons_self, hts _ l2, hts _ l3, l4, hlen, hts _ q2⟩, hts _ q3, hts _ q4⟩ ⟨PcX.blind, hrv, hpre⟩ rfl (by omega) hsz (by rw [List.reverse_cons, List.append_assoc]; rfl) (lv_room hcat) q1 hroom
  · have hcd : cdw d' = .code d'.1 d'.2.1 d'.2.2.1 none := by unfold cdw; rw [q0, qr]
    rw [hcd] at hws hM l2
    have hq : br (Nat.beq (Nat.mod (Nat.div b 524288) 2) 0) true (an (isT 3 (pget L2 0)) (orr (Nat.beq (Nat.shiftRight b 68) 0) (Nat.beq (Nat.shiftRight b 68) (Nat.add (mcl (mrow h (pget L2 0))) 1)))) = true := hrc
    cases hz : Nat.beq (Nat.mod (Nat.div b 524288) 2) 0 with
    | true => have := beq_t hz; have q6 : Nat.mod (Nat.div b 524288) 2 = 1 := q6; omega
    | false =>
      rw [hz, br_false] at hq
      obtain ⟨t3, -⟩ := an_t hq
      have hne : pget L2 0 ≠ 0 := fun q => by have := isT_t t3; omega
      obtain ⟨v, vs', rfl, hv⟩ := hA.first hne
      obtain ⟨a, ev, hev, rfl⟩ := hv.cell (isT_t t3)
      rw [List.length_cons] at hn
      have hlen : ∀ sig, parseMethodDescriptor d'.1.desc = some sig → b % 16 - 1 = sig.parameters.length := fun sig hs => by have := q5 sig hs; omega
      exact vx_runI (b := a) (As := vs') (n := b % 16 - 1) fix hM ⟨⟨rfl, rfl, hfr, hlo, hws, List.mem_cons_self, hts _ l2, hts _ l3, l4, hlen, hts _ q2⟩, qn, hts _ q3⟩ ⟨PcX.blind, hpre⟩ rfl (by omega) hsz (by rw [List.reverse_cons, List.append_assoc]; rfl) (lv_room hcat) q1 hroom
  · have hcd : cdw d' = .code d'.1 d'.2.1 d'.2.2.1 none := by unfold cdw; rw [q0, qr]
    rw [hcd] at hws hM l2
    have hq : br (Nat.beq (Nat.mod (Nat.div b 524288) 2) 0) true (an (isT 3 (pget L2 0)) (orr (Nat.beq (Nat.shiftRight b 68) 0) (Nat.beq (Nat.shiftRight b 68) (Nat.add (mcl (mrow h (pget L2 0))) 1)))) = true := hrc
    cases hz : Nat.beq (Nat.mod (Nat.div b 524288) 2) 0 with
    | true => have := beq_t hz; have q6 : Nat.mod (Nat.div b 524288) 2 = 1 := q6; omega
    | false =>
      rw [hz, br_false] at hq
      obtain ⟨t3, -⟩ := an_t hq
      have hne : pget L2 0 ≠ 0 := fun q => by have := isT_t t3; omega
      obtain ⟨v, vs', rfl, hv⟩ := hA.first hne
      obtain ⟨a, ev, hev, rfl⟩ := hv.cell (isT_t t3)
      rw [List.length_cons] at hn
      have hlen : ∀ sig, parseMethodDescriptor d'.1.desc = some sig → b % 16 - 1 = sig.parameters.length := fun sig hs => by have := q5 sig hs; omega
      exact vx_runIN (b := a) (As := vs') (n := b % 16 - 1) fix hM ⟨⟨⟨rfl, rfl, hfr, hlo, hws, List.mem_cons_self⟩, hts _ l2, hts _ l3, l4, hlen, hts _ q2⟩, qn, hts _ q3⟩ ⟨PcX.blind, hpre⟩ rfl (by omega) hsz (by rw [List.reverse_cons, List.append_assoc]; rfl) (lv_room hcat) q1 hroom
end CALL

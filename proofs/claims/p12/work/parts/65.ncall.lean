/-! A call over plain states, and what follows it. -/
section CALLN
variable {ss : SS} {TBL : List Cond} {g : GG} {cl : List vw_C} {bl : Nat} {xs : Nat → Int32} {l : Launch} {mdl : Nat → Option MD} {d d' : MD}
variable {p : Program} {e : Env} {R : Room} {s : State} {m : MethodId} {args : Array Value} {below : List Frame} {meth : Method} {c : Code} {Q : State → Prop} {kc0 ks0 : Nat} {pc w : Nat} {L : LN} {h : HN}
set_option maxHeartbeats 2000000 in
theorem n_call (hpr : ∀ w ∈ TBL, pres w = true) (act : Act ss TBL g cl bl xs d p l s m args meth c) {f lam KC KS : Nat} {PO : Nat → Option Value → List CE → Prop} (hEnd : EndN ss TBL g cl d p l e R s m args below meth c Q kc0 ks0 f lam KC KS PO) (hok : CallOK ss TBL cl mdl d pc w) (hd' : mdl (fa w) = some d')
    {f' lam' mc ms : Nat} {as rest : List Value} {PO' : Nat → Option Value → List CE → Prop} (hB : BodyN ss TBL g cl bl xs l d' f' lam' mc ms as h.1 PO') (hn : as.length = fb w % 16) (hsl : (argS as).length ≤ d'.2.2.1) (hrc : RcvN h.1 as (fb w)) (hfr : f' + 1 ≤ R.frames) (hlo : 8 + (d'.2.2.1 + 11) + lam' ≤ R.locals) (hcat : (rest.map fun v => v.category).sum ≤ 8) (hc : h.2.1 + mc ≤ R.cells + kc0) (hs : h.2.2 + ms ≤ R.slots + ks0)
    (K0 : ∀ (r : Option Value) (h' : List CE), PO' 0 r h' → ((d'.2.2.2.1 = none ∧ r = none) ∨ (d'.2.2.2.1 ≠ none ∧ ∃ v : Value, r = some v)) → WpN g cl p l e R s m args below meth c Q d.2.2.1 kc0 ks0 (pc + 3) L (h', h.2.1 + mc, h.2.2 + ms) (r.toList ++ rest))
    (KX : ∀ (x : Nat) (h' : List CE), x ≤ 3 → PO' (1 + x) none h' → ((fb w >>> (20 + 12 * x)) % 4096 ≠ 0 ∧ WpN g cl p l e R s m args below meth c Q d.2.2.1 kc0 ks0 ((fb w >>> (20 + 12 * x)) % 4096) L (h', h.2.1 + mc, h.2.2 + ms) [.ref 7000000000001]) ∨ (d.2.2.2.2 = [] ∧ PO (1 + x) none h' ∧ h.2.1 + mc ≤ KC ∧ h.2.2 + ms ≤ KS)) :
    WpN g cl p l e R s m args below meth c Q d.2.2.1 kc0 ks0 pc L h (as.reverse ++ rest) := by
  obtain ⟨d9, c1, c2, c3, c4, c5, c6, c7, c8⟩ := hok
  rw [hd'] at c1
  cases c1
  intro ls st H locs cells slots rl
  obtain ⟨ws, hL, hS, hH, hP, hD, hSS, hc1, hc2⟩ := rl
  obtain ⟨B, st', rfl, hBA, hS'⟩ := SRN.take hS
  have hA : ArN g ws as B.reverse := by have := hBA.rev; rwa [List.reverse_reverse] at this
  have act' := act
  obtain ⟨hx, hb, hr, hml, hown, hts, hK, hE, hlocks, hnm, htab, htr⟩ := act'
  have hM := met_ofN hB hH hD hA hsl c2.1 htr
  have hRun := run_ofN (R := R) (e := e) (below := below) (cells := cells) (slots := slots) (rest := st') (ls := ls) act hpr c2 hM hP hSS hH hA (by rw [ArN.len hA]; exact hn) hrc hfr hlo hL.size (by rw [hS'.cats]; exact hcat) (by omega)
  rw [List.reverse_reverse] at hRun
  intro T hT X
  rcases hRun T hT X with ⟨v, st₀, t, T', L9, g0, X', hL9, e1, e2, hq, stp⟩ | ⟨q, st₀, t, T', L9, E, ce, g0, X', hL9, e1, e2, hq, hce, hcv, hcl, stp⟩
  · obtain ⟨hF, ws', v', r, h', ev, hle, hH', hD', hP', hv', hPO⟩ := hq
    cases ev
    obtain ⟨-, -, hS2⟩ := vx_keep g0 e1 hSS (fun _ _ h => h) (fun _ h => h) hL9 hF
    rcases hv' with ⟨hn0, rfl, rfl⟩ | ⟨hn0, x, y, rfl, rfl, hxv⟩
    · obtain ⟨t2, a1, b1⟩ := K0 none h' hPO (Or.inl ⟨hn0, rfl⟩) ls st' T'.heap (locs ++ L9) _ _ ⟨ws', hL.mono hle, SRN.mono hle hS', hH', by rw [e1]; exact hP', hD', hS2, by show cells + mc + kc0 = h.2.1 + mc; omega, by show slots + ms + ks0 = h.2.2 + ms; omega⟩ T' rfl X'
      exact ⟨t2, stp t2 a1, b1⟩
    · obtain ⟨t2, a1, b1⟩ := K0 (some y) h' hPO (Or.inr ⟨hn0, y, rfl⟩) ls (x :: st') T'.heap (locs ++ L9) _ _ ⟨ws', hL.mono hle, SRN.push (SRN.mono hle hS') hxv, hH', by rw [e1]; exact hP', hD', hS2, by show cells + mc + kc0 = h.2.1 + mc; omega, by show slots + ms + ks0 = h.2.2 + ms; omega⟩ T' rfl X'
      exact ⟨t2, stp t2 a1, b1⟩
  · obtain ⟨hF, x, ws', h', rfl, hx3, hle, hH', hD', hP', hPO⟩ := hq
    obtain ⟨-, -, hS2⟩ := vx_keep g0 e1 hSS (fun _ _ h => h) (fun _ h => h) hL9 hF
    have hce' : T'.heap[q]? = some ce := by rw [e1]; exact hce
    have tl : vx_W p l e R s m args below meth c T'.heap (locs ++ L9) (cells + mc) (slots + ms) Q (F0 m pc ls st') q := by
      rcases KX x h' hx3 hPO with ⟨z2, z3⟩ | ⟨z1, z2, z3, z4⟩
      · obtain ⟨pre, y, suf, nm, t1, t2, t3, t4, t5, t6, t7⟩ := c7 _ hx3 z2
        refine vx_catch hown pre y suf (htab.trans t1) (fun z hz => ?_) t3 t4 (hts _ t5) (hts _ t6) hce' hcv hcl ?_
        · rcases t7 z hz with q9 | ⟨q9, nm9, w1, w2⟩
          · exact Or.inl q9
          · exact Or.inr ⟨q9, nm9, hts _ w1, hE.2.2.2.2.2.1 _ w2⟩
        · rw [t2]
          exact z3 ls [.ref q] T'.heap (locs ++ L9) _ _ ⟨ws', hL.mono hle, ⟨_, _, rfl, VN.any g ws' q, rfl, hS.pins.tr hle⟩, hH', by rw [e1]; exact hP', hD', hS2, by show cells + mc + kc0 = h.2.1 + mc; omega, by show slots + ms + ks0 = h.2.2 + ms; omega⟩
      · exact hEnd.2.2 pc x L (h', h.2.1 + mc, h.2.2 + ms) rest z1 hx3 z2 z3 z4 ls st' T'.heap (locs ++ L9) _ _ q ce ⟨ws', hL.mono hle, SRN.mono hle hS', hH', by rw [e1]; exact hP', hD', hS2, by show cells + mc + kc0 = h.2.1 + mc; omega, by show slots + ms + ks0 = h.2.2 + ms; omega⟩ hce' hcv hcl
    obtain ⟨t2, a1, b1⟩ := tl T' rfl X'
    exact ⟨t2, stp.trans a1, b1⟩
variable {f lam KC KS : Nat} {PO : Nat → Option Value → List CE → Prop}
theorem n_iret (hEnd : EndN ss TBL g cl d p l e R s m args below meth c Q kc0 ks0 f lam KC KS PO) {x : Int32} (hd : decode d.2.1 pc = .ok (.ireturn, 1)) (hr : d.2.2.2.1 = some .int) (hP : PO 0 (some (.int x)) h.1) (h1 : h.2.1 ≤ KC) (h2 : h.2.2 ≤ KS) : WpN g cl p l e R s m args below meth c Q d.2.2.1 kc0 ks0 pc L h [.int x] :=
  hEnd.1 pc L h _ _ (Or.inl ⟨hd, hr, x, rfl, rfl⟩) hP h1 h2
theorem n_zret (hEnd : EndN ss TBL g cl d p l e R s m args below meth c Q kc0 ks0 f lam KC KS PO) {x : Int32} (hd : decode d.2.1 pc = .ok (.ireturn, 1)) (hr : d.2.2.2.1 = some .boolean) (hx : x = 0 ∨ x = 1) (hP : PO 0 (some (.int x)) h.1) (h1 : h.2.1 ≤ KC) (h2 : h.2.2 ≤ KS) : WpN g cl p l e R s m args below meth c Q d.2.2.1 kc0 ks0 pc L h [.int x] :=
  hEnd.1 pc L h _ _ (Or.inr (Or.inl ⟨hd, hr, x, hx, rfl, rfl⟩)) hP h1 h2
theorem n_lret (hEnd : EndN ss TBL g cl d p l e R s m args below meth c Q kc0 ks0 f lam KC KS PO) {x : Int64} (hd : decode d.2.1 pc = .ok (.lreturn, 1)) (hr : d.2.2.2.1 = some .long) (hP : PO 0 (some (.long x)) h.1) (h1 : h.2.1 ≤ KC) (h2 : h.2.2 ≤ KS) : WpN g cl p l e R s m args below meth c Q d.2.2.1 kc0 ks0 pc L h [.long x] :=
  hEnd.1 pc L h _ _ (Or.inr (Or.inr (Or.inl ⟨hd, hr, x, rfl, rfl⟩))) hP h1 h2
theorem n_dret (hEnd : EndN ss TBL g cl d p l e R s m args below meth c Q kc0 ks0 f lam KC KS PO) {x : UInt64} (hd : decode d.2.1 pc = .ok (.dreturn, 1)) (hr : d.2.2.2.1 = some .double) (hP : PO 0 (some (.double x)) h.1) (h1 : h.2.1 ≤ KC) (h2 : h.2.2 ≤ KS) : WpN g cl p l e R s m args below meth c Q d.2.2.1 kc0 ks0 pc L h [.double x] :=
  hEnd.1 pc L h _ _ (Or.inr (Or.inr (Or.inr (Or.inl ⟨hd, hr, x, rfl, rfl⟩)))) hP h1 h2
theorem n_aret (hEnd : EndN ss TBL g cl d p l e R s m args below meth c Q kc0 ks0 f lam KC KS PO) {v : Value} {rt : FieldType} (hd : decode d.2.1 pc = .ok (.areturn, 1)) (hr : d.2.2.2.1 = some rt) (hk : (∃ n, rt = .object n) ∨ ∃ t, rt = .array t) (hv : v = .null ∨ ∃ k : Nat, v = .ref k) (hP : PO 0 (some v) h.1) (h1 : h.2.1 ≤ KC) (h2 : h.2.2 ≤ KS) : WpN g cl p l e R s m args below meth c Q d.2.2.1 kc0 ks0 pc L h [v] :=
  hEnd.1 pc L h _ _ (Or.inr (Or.inr (Or.inr (Or.inr (Or.inl ⟨hd, ⟨rt, hr, hk⟩, v, hv, rfl, rfl⟩))))) hP h1 h2
theorem n_vret (hEnd : EndN ss TBL g cl d p l e R s m args below meth c Q kc0 ks0 f lam KC KS PO) (hd : decode d.2.1 pc = .ok (.return_, 1)) (hr : d.2.2.2.1 = none) (hP : PO 0 none h.1) (h1 : h.2.1 ≤ KC) (h2 : h.2.2 ≤ KS) : WpN g cl p l e R s m args below meth c Q d.2.2.1 kc0 ks0 pc L h [] :=
  hEnd.1 pc L h _ _ (Or.inr (Or.inr (Or.inr (Or.inr (Or.inr ⟨hd, hr, rfl, rfl⟩))))) hP h1 h2
theorem n_throw (hEnd : EndN ss TBL g cl d p l e R s m args below meth c Q kc0 ks0 f lam KC KS PO) {x : Nat} (hx : x ≤ 3) (hT : ThrOK ss TBL d pc (excN x)) (hP : PO (1 + x) none h.1) (h1 : h.2.1 + 1 ≤ KC) (h2 : h.2.2 + 6 ≤ KS) (h8 : 8 ≤ f) (hl : 120 ≤ lam) : WpN g cl p l e R s m args below meth c Q d.2.2.1 kc0 ks0 pc L h [] :=
  hEnd.2.1 pc x L h hx hT hP h1 h2 h8 hl
end CALLN

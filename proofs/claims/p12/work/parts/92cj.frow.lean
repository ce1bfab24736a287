/-! Rows: constants of floats. -/
section FROWS
variable {p : Program} {l : Launch} {e : Env} {R : Room} {s : State} {m : MethodId} {args : Array Value} {below : List Frame} {meth : Method} {c : Code}
theorem va_ldcwF {T : State} {locs : List Loc} {cells slots : Nat} (X : Stand p l e R s m args below meth c T locs cells slots) (hexec : p.tables.exec = Jvm.exec) {own : String} {index : Nat} {v : UInt32} (hown : s.vm.findClass own = some m.cls)
    (hconst : (Cond.constantFloat own index v).before args s = true) {g : JFrame} (hg : g.method = m) (hdg : decode c.code g.pc = .ok (.ldc_w index, 3)) :
    ∀ target, Steps p.tables e below (T.setTop { g with pc := g.pc + 3, stack := .float v :: g.stack }) target → Steps p.tables e below (T.setTop g) target := by
  obtain ⟨k, cf, hk, hcf, hcp⟩ := Cond.constantFloat_spec hown hconst
  obtain ⟨k', hk', he⟩ := X.warmed.alike.2.2 _ _ hk
  intro target hrest
  subst hg
  jvm_step X.here [hexec, hdg, ldc_w.wp_float (s := T) (f := g) X.here.top hk' (by rw [he]; exact hcf) hcp]
  exact hrest
theorem lv_ldcwF {cc : ByteArray} {pc : Nat} {ls : Array Slot} {rest : List Value} {H : Heap} {locs : List Loc} {cells slots : Nat} {Q : State → Prop} (hexec : p.tables.exec = Jvm.exec) (hb : c.code = cc) {own : String} {index : Nat} {v : UInt32} (hown : s.vm.findClass own = some m.cls) (hconst : (Jvm.Cond.constantFloat own index v).before args s = true) (hdg : decode cc pc = .ok (.ldc_w index, 3)) (k : W p l e R s m args below meth c H locs cells slots Q (F0 m (pc + 3) ls (.float v :: rest))) : W p l e R s m args below meth c H locs cells slots Q (F0 m pc ls rest) := by
  intro T hT X
  obtain ⟨t, a, b⟩ := k T hT X
  exact ⟨t, va_ldcwF X hexec hown hconst (g := F0 m pc ls rest) rfl (by rw [hb]; exact hdg) t a, b⟩
variable {ss : SS} {TBL : List Cond} {g : GG} {cl : List vw_C} {ft : Nat → Nat → Nat} {mdl : Nat → Option MD} {bl : Nat} {xs : Nat → Int32} {d : MD} {Q : State → Prop} {kc0 ks0 pc n w : Nat} {L : LN} {h : HN} {S : List Value}
theorem n_ldcwF (act : Act ss TBL g cl bl xs d p l s m args meth c) {i : Nat} {x : UInt32} (hd : decode d.2.1 pc = .ok (.ldc_w i, 3)) (hc : Cond.constantFloat d.1.cls i x ∈ TBL) (hn : pc + 3 = n) (K : WpN g cl p l e R s m args below meth c Q d.2.2.1 kc0 ks0 n L h (.float x :: S)) : WpN g cl p l e R s m args below meth c Q d.2.2.1 kc0 ks0 pc L h (S) := by
  obtain ⟨hx, hb, hr, hml, hown, hts, hK, hE, hlocks, hnm, htab, htr⟩ := act
  subst hn
  intro ls st H locs cells slots r
  obtain ⟨ws, hL, hS, hH, hP, hD, hSS, hc1, hc2⟩ := r
  exact lv_ldcwF hx hb hown (hts _ hc) hd (K _ _ _ _ _ _ ⟨ws, hL, (SRN.push hS (show VN g ws (.float x) _ from rfl)), hH, hP, hD, hSS, hc1, hc2⟩)
theorem g_fcon1 (act : Act ss TBL g cl bl xs d p l s m args meth c) (hG : G_fcon ss TBL cl ft mdl d pc w) (hv : fb w = 1) (hn : nxt w = n) (K : WpN g cl p l e R s m args below meth c Q d.2.2.1 kc0 ks0 n L h (.float FP.fconst1 :: S)) : WpN g cl p l e R s m args below meth c Q d.2.2.1 kc0 ks0 pc L h S := by
  rcases hG with ⟨hd, h2, h3⟩ | ⟨hd, h2, h3⟩ | ⟨i, v, hd, h2, hc, h3⟩
  · exact n_fconst1 act hd (by omega) K
  · exfalso; rw [h3] at hv; omega
  · exfalso; rw [h3] at hv; omega
theorem g_fcon2 (act : Act ss TBL g cl bl xs d p l s m args meth c) (hG : G_fcon ss TBL cl ft mdl d pc w) (hv : fb w = 2) (hn : nxt w = n) (K : WpN g cl p l e R s m args below meth c Q d.2.2.1 kc0 ks0 n L h (.float FP.fconst2 :: S)) : WpN g cl p l e R s m args below meth c Q d.2.2.1 kc0 ks0 pc L h S := by
  rcases hG with ⟨hd, h2, h3⟩ | ⟨hd, h2, h3⟩ | ⟨i, v, hd, h2, hc, h3⟩
  · exfalso; rw [h3] at hv; omega
  · exact n_fconst2 act hd (by omega) K
  · exfalso; rw [h3] at hv; omega
theorem g_fconK (act : Act ss TBL g cl bl xs d p l s m args meth c) (hG : G_fcon ss TBL cl ft mdl d pc w) {x : UInt32} (hv : fb w = 3 + 8 * x.toNat) (hn : nxt w = n) (K : WpN g cl p l e R s m args below meth c Q d.2.2.1 kc0 ks0 n L h (.float x :: S)) : WpN g cl p l e R s m args below meth c Q d.2.2.1 kc0 ks0 pc L h S := by
  rcases hG with ⟨hd, h2, h3⟩ | ⟨hd, h2, h3⟩ | ⟨i, v, hd, h2, hc, h3⟩
  · exfalso; rw [h3] at hv; omega
  · exfalso; rw [h3] at hv; omega
  · have : v = x := UInt32.toNat_inj.mp (by rw [h3] at hv; omega)
    subst this
    exact n_ldcwF act hd hc (by omega) K
theorem n_dast (act : Act ss TBL g cl bl xs d p l s m args meth c) (hd : decode d.2.1 pc = .ok (.dastore, 1)) {k N : Nat} {f : Nat → Value} {i : Int32} {x : UInt64} (hk : h.1[k]? = some (36, N, f)) (h1 : 0 ≤ i.toInt) (h2 : i.toInt < N) (hn : pc + 1 = n) (K : WpN g cl p l e R s m args below meth c Q d.2.2.1 kc0 ks0 n L (h.1.set k (36, N, upV f i.toInt.toNat (.double x)), h.2) S) : WpN g cl p l e R s m args below meth c Q d.2.2.1 kc0 ks0 pc L h (.double x :: .int i :: .ref k :: S) := by
  obtain ⟨hx, hb, hr, hml, hown, hts, hK, hE, hlocks, hnm, htab, htr⟩ := act
  subst hn
  intro ls st H locs cells slots r
  obtain ⟨ws, hL, ⟨v0, st0, rfl, h0, v1, st1, rfl, h1v, v2, st2, rfl, h2v, hS⟩, hH, hP, hD, hSS, hc1, hc2⟩ := r
  have h0 : v0 = .double x := h0
  subst h0
  have h1v : v1 = .int i := h1v
  subst h1v
  obtain ⟨q1, q2⟩ := hH.at hk
  obtain ⟨a, e1, he, rfl⟩ := h2v.cell q1
  obtain ⟨cA, f1, rfl, h7, h8⟩ := (q2 _ _ he).dbls rfl
  obtain ⟨i1, i2⟩ := in_n h1 h2
  have h8 : ∀ j : Nat, j < N → f j = .double (f1 j) := h8
  refine va_dast hx hb hK hP hD hSS k _ he h7 i1 hd (fun H1 locs1 hP1 hD1 hS1 => ?_)
  have hle : wsle ws (ws.set k (a, .inl (cA, N, .inr (.inr (.inr (.inl (vf_upd f1 i.toNatClampNeg x))))))) := wsle.set he
  refine K _ _ _ _ _ _ ⟨_, hL.mono hle, SRN.mono hle hS, hH.set he (Or.inr (Or.inr (Or.inr (Or.inl ⟨rfl, cA, _, rfl, h7, fun j hj => ?_⟩)))), hP1, hD1, hS1, hc1, hc2⟩
  show upV f i.toInt.toNat (.double x) j = .double ((vf_upd f1 i.toNatClampNeg x) j)
  by_cases hq : j = i.toInt.toNat
  · subst hq
    rw [upV_same, i2]
    simp [vf_upd]
  · rw [upV_ne f _ hq, h8 j hj]
    have hq2 : ¬ j = i.toNatClampNeg := hq
    simp [vf_upd, hq2]
theorem r_dast (act : Act ss TBL g cl bl xs d p l s m args meth c) (hG : G_dast ss TBL cl ft mdl d pc w) {hs : List CE} {kc ks k N j : Nat} {i : Int32} {x : UInt64} (hn : nxt w = n) (hk : shp hs k = some (36, N)) (hi : i.toInt = (j : Int)) (hjN : j < N) (K : WpN g cl p l e R s m args below meth c Q d.2.2.1 kc0 ks0 n L (wr hs k j (.double x), kc, ks) S) : WpN g cl p l e R s m args below meth c Q d.2.2.1 kc0 ks0 pc L (hs, kc, ks) (.double x :: .int i :: .ref k :: S) := n_dast act hG.1 (shp_at hk) (by omega) (by omega) (hG.2.symm.trans hn) (by rw [wr_at hk] at K; rw [show i.toInt.toNat = j by omega]; exact K)
end FROWS

/-! Rows over plain states: fields and arrays. -/
def upV (f : Nat → Value) (j : Nat) (v : Value) : Nat → Value := fun i => if i = j then v else f i
theorem upV_same (f : Nat → Value) (j : Nat) (v : Value) : upV f j v j = v := if_pos rfl
theorem upV_ne (f : Nat → Value) {i j : Nat} (v : Value) (h : i ≠ j) : upV f j v i = f i := if_neg h
def fitV (ty : Nat) (v : Value) : Prop := (ty = 0 ∧ ∃ i : Int32, v = .int i) ∨ (ty = 1 ∧ (v = .int 0 ∨ v = .int 1)) ∨ (ty = 2 ∧ ∃ i : Int64, v = .long i) ∨ (ty = 3 ∧ (v = .null ∨ ∃ k : Nat, v = .ref k))
theorem fit_n {g : GG} {ws : va_W} {ty : Nat} {t : FieldType} {v v' : Value} (xt : (ty = 0 ∧ t = .int) ∨ (ty = 1 ∧ t = .boolean) ∨ (ty = 2 ∧ t = .long) ∨ (ty = 3 ∧ t.isReference = true)) (hw : fitV ty v) (hv : VN g ws v v') : narrow t v' = v' ∧ fits t v' = true := by
  rcases hw with ⟨q, i, rfl⟩ | ⟨q, rfl | rfl⟩ | ⟨q, i, rfl⟩ | ⟨q, rfl | ⟨k, rfl⟩⟩
  · have hv : v' = .int i := hv
    subst hv
    rcases xt with ⟨z, rfl⟩ | ⟨z, -⟩ | ⟨z, -⟩ | ⟨z, -⟩
    · exact ⟨rfl, rfl⟩
    all_goals omega
  · have hv : v' = .int 0 := hv
    subst hv
    rcases xt with ⟨z, -⟩ | ⟨z, rfl⟩ | ⟨z, -⟩ | ⟨z, -⟩
    · omega
    · exact ⟨by decide, rfl⟩
    all_goals omega
  · have hv : v' = .int 1 := hv
    subst hv
    rcases xt with ⟨z, -⟩ | ⟨z, rfl⟩ | ⟨z, -⟩ | ⟨z, -⟩
    · omega
    · exact ⟨by decide, rfl⟩
    all_goals omega
  · have hv : v' = .long i := hv
    subst hv
    rcases xt with ⟨z, -⟩ | ⟨z, -⟩ | ⟨z, rfl⟩ | ⟨z, -⟩
    · omega
    · omega
    · exact ⟨rfl, rfl⟩
    · omega
  · have hv : v' = .null := hv
    subst hv
    rcases xt with ⟨z, -⟩ | ⟨z, -⟩ | ⟨z, -⟩ | ⟨z, ht⟩
    · omega
    · omega
    · omega
    · cases t <;> first | exact ⟨rfl, rfl⟩ | cases ht
  · obtain ⟨a, rfl⟩ := hv.isref
    rcases xt with ⟨z, -⟩ | ⟨z, -⟩ | ⟨z, -⟩ | ⟨z, ht⟩
    · omega
    · omega
    · omega
    · cases t <;> first | exact ⟨rfl, rfl⟩ | cases ht
/-- an index within a length -/
theorem in_n {i : Int32} {n : Nat} (h1 : 0 ≤ i.toInt) (h2 : i.toInt < n) : vp_in i n ∧ i.toNatClampNeg = i.toInt.toNat := by
  refine ⟨fun q => ?_, rfl⟩
  rcases q with q | q
  · have := Int32.lt_iff_toInt_lt.mp q
    have h0 : (0 : Int32).toInt = 0 := by decide
    omega
  · have q : n ≤ i.toInt.toNat := q
    omega
section NHEAP
variable {ss : SS} {TBL : List Cond} {g : GG} {cl : List vw_C} {ft : Nat → Nat → Nat} {mdl : Nat → Option MD} {bl : Nat} {xs : Nat → Int32} {d : MD} {p : Program} {l : Launch} {e : Env} {R : Room} {s : State} {m : MethodId} {args : Array Value} {below : List Frame} {meth : Method} {c : Code} {Q : State → Prop} {kc0 ks0 pc n w : Nat} {L : LN} {h : HN} {S : List Value}
theorem n_getf (act : Act ss TBL g cl bl xs d p l s m args meth c) (hG : G_getf ss TBL cl ft mdl d pc w) {k N : Nat} {f : Nat → Value} (hk : h.1[k]? = some (fa w % 64, N, f)) (hj : fa w / 64 < N) (hn : pc + 3 = n) (K : WpN g cl p l e R s m args below meth c Q d.2.2.1 kc0 ks0 n L h (f (fa w / 64) :: S)) : WpN g cl p l e R s m args below meth c Q d.2.2.1 kc0 ks0 pc L h (.ref k :: S) := by
  obtain ⟨hx, hb, hr, hml, hown, hts, hK, hE, hlocks, hnm, htab, htr⟩ := act
  obtain ⟨C, ref, T, N9, index, hd, hn9, x1, x2, x3, x4, x5, x6, x7⟩ := hG
  subst hn
  intro ls st H locs cells slots r
  obtain ⟨ws, hL, ⟨v0, st0, rfl, h0, hS⟩, hH, hP, hD, hSS, hc1, hc2⟩ := r
  obtain ⟨q1, q2⟩ := hH.at hk
  obtain ⟨a, e1, he, rfl⟩ := h0.cell q1
  obtain ⟨fs, rfl, h7, h8⟩ := (q2 _ _ he).obj x2
  obtain ⟨v1, h9, h10⟩ := h8 (fa w / 64) hj
  exact va_get hx hb hts x5 hown hK hP k he x1 (fa w / 64) x3 (hts _ x6) (fun y hy => x7.elim (fun q => q ▸ hy) (fun q => u_same (hts _ q) y hy)) h9 hd (K _ _ _ _ _ _ ⟨ws, hL, SRN.push hS h10, hH, hP, hD, hSS, hc1, hc2⟩)
theorem n_putf (act : Act ss TBL g cl bl xs d p l s m args meth c) (hG : G_putf ss TBL cl ft mdl d pc w) {k N : Nat} {f : Nat → Value} {v : Value} (hk : h.1[k]? = some (fa w % 64, N, f)) (hj : fa w / 64 < N) (hf : fitV (fb w) v) (hn : pc + 3 = n) (K : WpN g cl p l e R s m args below meth c Q d.2.2.1 kc0 ks0 n L (h.1.set k (fa w % 64, N, upV f (fa w / 64) v), h.2) S) : WpN g cl p l e R s m args below meth c Q d.2.2.1 kc0 ks0 pc L h (v :: .ref k :: S) := by
  obtain ⟨hx, hb, hr, hml, hown, hts, hK, hE, hlocks, hnm, htab, htr⟩ := act
  obtain ⟨C, ref, T, N9, index, tyf, hd, hn9, x1, x2, x3, x4, x5, x6, x7, x8, x9, xf, xt⟩ := hG
  subst hn
  intro ls st H locs cells slots r
  obtain ⟨ws, hL, ⟨v0, st0, rfl, h0, v1, st1, rfl, h1, hS⟩, hH, hP, hD, hSS, hc1, hc2⟩ := r
  obtain ⟨q1, q2⟩ := hH.at hk
  obtain ⟨a, e1, he, rfl⟩ := h1.cell q1
  obtain ⟨fs, rfl, h7, h8⟩ := (q2 _ _ he).obj x2
  obtain ⟨n1, n2⟩ := fit_n xt hf h0
  have h7 : fs.length = N := h7
  have h8 : ∀ j : Nat, j < N → ∃ v : Value, fs[j]? = some v ∧ VN g ws (f j) v := h8
  have he : ws[k]? = some (a, .inr (fa w % 64, fs)) := he
  have fin : ∀ (H1 : Heap) (locs1 : List Loc), va_P g.1 cl (ws.set k (a, .inr (fa w % 64, fs.set (fa w / 64) v0))) H1 → va_D (AA g) (ws.set k (a, .inr (fa w % 64, fs.set (fa w / 64) v0))) → va_S (AA g) s.heap H1 locs1 → W p l e R s m args below meth c H1 locs1 cells slots Q (F0 m (pc + 3) ls st1) := by
    intro H1 locs1 hP1 hD1 hS1
    have hle : wsle ws (ws.set k (a, .inr (fa w % 64, fs.set (fa w / 64) v0))) := wsle.set he
    refine K _ _ _ _ _ _ ⟨_, hL.mono hle, SRN.mono hle hS, hH.set he (Or.inl ⟨x2, fs.set (fa w / 64) v0, rfl, by rw [List.length_set]; exact h7, fun j hjN => ?_⟩), hP1, hD1, hS1, hc1, hc2⟩
    show ∃ v2 : Value, (fs.set (fa w / 64) v0)[j]? = some v2 ∧ VN g (ws.set k (a, .inr (fa w % 64, fs.set (fa w / 64) v0))) (upV f (fa w / 64) v j) v2
    by_cases hq : j = fa w / 64
    · subst hq
      rw [upV_same]
      exact ⟨v0, List.getElem?_set_self (by omega), h0.mono hle⟩
    · rw [upV_ne f v hq]
      obtain ⟨v2, b1, b2⟩ := h8 j hjN
      exact ⟨v2, by rw [List.getElem?_set_ne (fun z => hq z.symm)]; exact b1, b2.mono hle⟩
  rcases xf with xf | ⟨xf, xi, xo⟩
  · exact va_put hx hb hts x5 tyf x8 x9 hown hK hP hD hSS k he x1 _ x3 (hts _ x6) (fun y hy => x7.elim (fun q => q ▸ hy) (fun q => u_same (hts _ q) y hy)) xf (x8 _ x3) n1 n2 (by omega) hd fin
  · exact va_putF hx hb hts x5 tyf x8 x9 hown hK hP hD hSS k he x1 _ x3 (hts _ x6) (fun y hy => x7.elim (fun q => q ▸ hy) (fun q => u_same (hts _ q) y hy)) xf (hnm.trans xi) xo (x8 _ x3) n1 n2 (by omega) hd fin
theorem n_iald (act : Act ss TBL g cl bl xs d p l s m args meth c) (hd : decode d.2.1 pc = .ok (.iaload, 1)) {k N : Nat} {f : Nat → Value} {i : Int32} (hk : h.1[k]? = some (32, N, f)) (h1 : 0 ≤ i.toInt) (h2 : i.toInt < N) (hn : pc + 1 = n) (K : WpN g cl p l e R s m args below meth c Q d.2.2.1 kc0 ks0 n L h (f i.toInt.toNat :: S)) : WpN g cl p l e R s m args below meth c Q d.2.2.1 kc0 ks0 pc L h (.int i :: .ref k :: S) := by
  obtain ⟨hx, hb, hr, hml, hown, hts, hK, hE, hlocks, hnm, htab, htr⟩ := act
  subst hn
  intro ls st H locs cells slots r
  obtain ⟨ws, hL, ⟨v0, st0, rfl, h0, v1, st1, rfl, h1v, hS⟩, hH, hP, hD, hSS, hc1, hc2⟩ := r
  have h0 : v0 = .int i := h0
  subst h0
  obtain ⟨q1, q2⟩ := hH.at hk
  obtain ⟨a, e1, he, rfl⟩ := h1v.cell q1
  obtain ⟨cA, f1, rfl, h7, h8⟩ := (q2 _ _ he).ints (Or.inl rfl)
  obtain ⟨i1, i2⟩ := in_n h1 h2
  have h9 : f i.toInt.toNat = .int (f1 i.toInt.toNat) := h8 i.toInt.toNat (by show i.toInt.toNat < N; omega)
  refine va_iald hx hb hK hP k _ he h7 i1 hd ?_
  rw [i2]
  exact K _ _ _ _ _ _ ⟨ws, hL, SRN.push hS (by rw [h9]; exact rfl), hH, hP, hD, hSS, hc1, hc2⟩
theorem n_lald (act : Act ss TBL g cl bl xs d p l s m args meth c) (hd : decode d.2.1 pc = .ok (.laload, 1)) {k N : Nat} {f : Nat → Value} {i : Int32} (hk : h.1[k]? = some (33, N, f)) (h1 : 0 ≤ i.toInt) (h2 : i.toInt < N) (hn : pc + 1 = n) (K : WpN g cl p l e R s m args below meth c Q d.2.2.1 kc0 ks0 n L h (f i.toInt.toNat :: S)) : WpN g cl p l e R s m args below meth c Q d.2.2.1 kc0 ks0 pc L h (.int i :: .ref k :: S) := by
  obtain ⟨hx, hb, hr, hml, hown, hts, hK, hE, hlocks, hnm, htab, htr⟩ := act
  subst hn
  intro ls st H locs cells slots r
  obtain ⟨ws, hL, ⟨v0, st0, rfl, h0, v1, st1, rfl, h1v, hS⟩, hH, hP, hD, hSS, hc1, hc2⟩ := r
  have h0 : v0 = .int i := h0
  subst h0
  obtain ⟨q1, q2⟩ := hH.at hk
  obtain ⟨a, e1, he, rfl⟩ := h1v.cell q1
  obtain ⟨cA, f1, rfl, h7, h8⟩ := (q2 _ _ he).longs rfl
  obtain ⟨i1, i2⟩ := in_n h1 h2
  have h9 : f i.toInt.toNat = .long (f1 i.toInt.toNat) := h8 i.toInt.toNat (by show i.toInt.toNat < N; omega)
  refine va_lald hx hb hK hP k _ he h7 i1 hd ?_
  rw [i2]
  exact K _ _ _ _ _ _ ⟨ws, hL, SRN.push hS (by rw [h9]; exact rfl), hH, hP, hD, hSS, hc1, hc2⟩
theorem n_bald (act : Act ss TBL g cl bl xs d p l s m args meth c) (hd : decode d.2.1 pc = .ok (.baload, 1)) {k N : Nat} {f : Nat → Value} {i : Int32} (hk : h.1[k]? = some (34, N, f)) (h1 : 0 ≤ i.toInt) (h2 : i.toInt < N) (hn : pc + 1 = n) (K : WpN g cl p l e R s m args below meth c Q d.2.2.1 kc0 ks0 n L h (f i.toInt.toNat :: S)) : WpN g cl p l e R s m args below meth c Q d.2.2.1 kc0 ks0 pc L h (.int i :: .ref k :: S) := by
  obtain ⟨hx, hb, hr, hml, hown, hts, hK, hE, hlocks, hnm, htab, htr⟩ := act
  subst hn
  intro ls st H locs cells slots r
  obtain ⟨ws, hL, ⟨v0, st0, rfl, h0, v1, st1, rfl, h1v, hS⟩, hH, hP, hD, hSS, hc1, hc2⟩ := r
  have h0 : v0 = .int i := h0
  subst h0
  obtain ⟨q1, q2⟩ := hH.at hk
  obtain ⟨a, e1, he, rfl⟩ := h1v.cell q1
  obtain ⟨cA, f1, rfl, h7, h8⟩ := (q2 _ _ he).ints (Or.inr (Or.inl rfl))
  obtain ⟨i1, i2⟩ := in_n h1 h2
  have h9 : f i.toInt.toNat = .int (f1 i.toInt.toNat) := h8 i.toInt.toNat (by show i.toInt.toNat < N; omega)
  refine va_bald hx hb hK hP k _ he h7 i1 hd ?_
  rw [i2]
  exact K _ _ _ _ _ _ ⟨ws, hL, SRN.push hS (by rw [h9]; exact rfl), hH, hP, hD, hSS, hc1, hc2⟩
theorem n_zald (act : Act ss TBL g cl bl xs d p l s m args meth c) (hd : decode d.2.1 pc = .ok (.baload, 1)) {k N : Nat} {f : Nat → Value} {i : Int32} (hk : h.1[k]? = some (35, N, f)) (h1 : 0 ≤ i.toInt) (h2 : i.toInt < N) (hn : pc + 1 = n) (K : WpN g cl p l e R s m args below meth c Q d.2.2.1 kc0 ks0 n L h (f i.toInt.toNat :: S)) : WpN g cl p l e R s m args below meth c Q d.2.2.1 kc0 ks0 pc L h (.int i :: .ref k :: S) := by
  obtain ⟨hx, hb, hr, hml, hown, hts, hK, hE, hlocks, hnm, htab, htr⟩ := act
  subst hn
  intro ls st H locs cells slots r
  obtain ⟨ws, hL, ⟨v0, st0, rfl, h0, v1, st1, rfl, h1v, hS⟩, hH, hP, hD, hSS, hc1, hc2⟩ := r
  have h0 : v0 = .int i := h0
  subst h0
  obtain ⟨q1, q2⟩ := hH.at hk
  obtain ⟨a, e1, he, rfl⟩ := h1v.cell q1
  obtain ⟨cA, f1, rfl, h7, h8⟩ := (q2 _ _ he).ints (Or.inr (Or.inr rfl))
  obtain ⟨i1, i2⟩ := in_n h1 h2
  have h9 : f i.toInt.toNat = .int (f1 i.toInt.toNat) := h8 i.toInt.toNat (by show i.toInt.toNat < N; omega)
  refine va_zald hx hb hK hP k _ he h7 i1 hd ?_
  rw [i2]
  exact K _ _ _ _ _ _ ⟨ws, hL, SRN.push hS (by rw [h9]; exact rfl), hH, hP, hD, hSS, hc1, hc2⟩
theorem n_iast (act : Act ss TBL g cl bl xs d p l s m args meth c) (hd : decode d.2.1 pc = .ok (.iastore, 1)) {k N : Nat} {f : Nat → Value} {i : Int32} {x : Int32} (hk : h.1[k]? = some (32, N, f)) (h1 : 0 ≤ i.toInt) (h2 : i.toInt < N) (hn : pc + 1 = n) (K : WpN g cl p l e R s m args below meth c Q d.2.2.1 kc0 ks0 n L (h.1.set k (32, N, upV f i.toInt.toNat (.int x)), h.2) S) : WpN g cl p l e R s m args below meth c Q d.2.2.1 kc0 ks0 pc L h (.int x :: .int i :: .ref k :: S) := by
  obtain ⟨hx, hb, hr, hml, hown, hts, hK, hE, hlocks, hnm, htab, htr⟩ := act
  subst hn
  intro ls st H locs cells slots r
  obtain ⟨ws, hL, ⟨v0, st0, rfl, h0, v1, st1, rfl, h1v, v2, st2, rfl, h2v, hS⟩, hH, hP, hD, hSS, hc1, hc2⟩ := r
  have h0 : v0 = .int x := h0
  subst h0
  have h1v : v1 = .int i := h1v
  subst h1v
  obtain ⟨q1, q2⟩ := hH.at hk
  obtain ⟨a, e1, he, rfl⟩ := h2v.cell q1
  obtain ⟨cA, f1, rfl, h7, h8⟩ := (q2 _ _ he).ints (Or.inl rfl)
  obtain ⟨i1, i2⟩ := in_n h1 h2
  have h8 : ∀ j : Nat, j < N → f j = .int (f1 j) := h8
  refine va_iast hx hb hK hP hD hSS k _ he h7 i1 hd (fun H1 locs1 hP1 hD1 hS1 => ?_)
  have hle : wsle ws (ws.set k (a, .inl (cA, N, .inl (upd f1 i.toNatClampNeg x)))) := wsle.set he
  refine K _ _ _ _ _ _ ⟨_, hL.mono hle, SRN.mono hle hS, hH.set he (Or.inr (Or.inl ⟨Or.inl rfl, cA, _, rfl, h7, fun j hj => ?_⟩)), hP1, hD1, hS1, hc1, hc2⟩
  show upV f i.toInt.toNat (.int x) j = .int ((upd f1 i.toNatClampNeg x) j)
  by_cases hq : j = i.toInt.toNat
  · subst hq
    rw [upV_same, i2]
    simp [upd]
  · rw [upV_ne f _ hq, h8 j hj]
    have hq2 : ¬ j = i.toNatClampNeg := hq
    simp [upd, hq2]
theorem n_last (act : Act ss TBL g cl bl xs d p l s m args meth c) (hd : decode d.2.1 pc = .ok (.lastore, 1)) {k N : Nat} {f : Nat → Value} {i : Int32} {x : Int64} (hk : h.1[k]? = some (33, N, f)) (h1 : 0 ≤ i.toInt) (h2 : i.toInt < N) (hn : pc + 1 = n) (K : WpN g cl p l e R s m args below meth c Q d.2.2.1 kc0 ks0 n L (h.1.set k (33, N, upV f i.toInt.toNat (.long x)), h.2) S) : WpN g cl p l e R s m args below meth c Q d.2.2.1 kc0 ks0 pc L h (.long x :: .int i :: .ref k :: S) := by
  obtain ⟨hx, hb, hr, hml, hown, hts, hK, hE, hlocks, hnm, htab, htr⟩ := act
  subst hn
  intro ls st H locs cells slots r
  obtain ⟨ws, hL, ⟨v0, st0, rfl, h0, v1, st1, rfl, h1v, v2, st2, rfl, h2v, hS⟩, hH, hP, hD, hSS, hc1, hc2⟩ := r
  have h0 : v0 = .long x := h0
  subst h0
  have h1v : v1 = .int i := h1v
  subst h1v
  obtain ⟨q1, q2⟩ := hH.at hk
  obtain ⟨a, e1, he, rfl⟩ := h2v.cell q1
  obtain ⟨cA, f1, rfl, h7, h8⟩ := (q2 _ _ he).longs rfl
  obtain ⟨i1, i2⟩ := in_n h1 h2
  have h8 : ∀ j : Nat, j < N → f j = .long (f1 j) := h8
  refine va_last hx hb hK hP hD hSS k _ he h7 i1 hd (fun H1 locs1 hP1 hD1 hS1 => ?_)
  have hle : wsle ws (ws.set k (a, .inl (cA, N, .inr (.inl (vp_updL f1 i.toNatClampNeg x))))) := wsle.set he
  refine K _ _ _ _ _ _ ⟨_, hL.mono hle, SRN.mono hle hS, hH.set he (Or.inr (Or.inr (Or.inl ⟨rfl, cA, _, rfl, h7, fun j hj => ?_⟩))), hP1, hD1, hS1, hc1, hc2⟩
  show upV f i.toInt.toNat (.long x) j = .long ((vp_updL f1 i.toNatClampNeg x) j)
  by_cases hq : j = i.toInt.toNat
  · subst hq
    rw [upV_same, i2]
    simp [vp_updL]
  · rw [upV_ne f _ hq, h8 j hj]
    have hq2 : ¬ j = i.toNatClampNeg := hq
    simp [vp_updL, hq2]
theorem n_bast (act : Act ss TBL g cl bl xs d p l s m args meth c) (hd : decode d.2.1 pc = .ok (.bastore, 1)) {k N : Nat} {f : Nat → Value} {i : Int32} {x : Int32} (hk : h.1[k]? = some (34, N, f)) (h1 : 0 ≤ i.toInt) (h2 : i.toInt < N) (hn : pc + 1 = n) (K : WpN g cl p l e R s m args below meth c Q d.2.2.1 kc0 ks0 n L (h.1.set k (34, N, upV f i.toInt.toNat (.int (vp_nar .byte x))), h.2) S) : WpN g cl p l e R s m args below meth c Q d.2.2.1 kc0 ks0 pc L h (.int x :: .int i :: .ref k :: S) := by
  obtain ⟨hx, hb, hr, hml, hown, hts, hK, hE, hlocks, hnm, htab, htr⟩ := act
  subst hn
  intro ls st H locs cells slots r
  obtain ⟨ws, hL, ⟨v0, st0, rfl, h0, v1, st1, rfl, h1v, v2, st2, rfl, h2v, hS⟩, hH, hP, hD, hSS, hc1, hc2⟩ := r
  have h0 : v0 = .int x := h0
  subst h0
  have h1v : v1 = .int i := h1v
  subst h1v
  obtain ⟨q1, q2⟩ := hH.at hk
  obtain ⟨a, e1, he, rfl⟩ := h2v.cell q1
  obtain ⟨cA, f1, rfl, h7, h8⟩ := (q2 _ _ he).ints (Or.inr (Or.inl rfl))
  obtain ⟨i1, i2⟩ := in_n h1 h2
  have h8 : ∀ j : Nat, j < N → f j = .int (f1 j) := h8
  refine va_bast hx hb hK hP hD hSS k _ he h7 i1 hd (fun H1 locs1 hP1 hD1 hS1 => ?_)
  have hle : wsle ws (ws.set k (a, .inl (cA, N, .inl (upd f1 i.toNatClampNeg (vp_nar .byte x))))) := wsle.set he
  refine K _ _ _ _ _ _ ⟨_, hL.mono hle, SRN.mono hle hS, hH.set he (Or.inr (Or.inl ⟨Or.inr (Or.inl rfl), cA, _, rfl, h7, fun j hj => ?_⟩)), hP1, hD1, hS1, hc1, hc2⟩
  show upV f i.toInt.toNat (.int (vp_nar .byte x)) j = .int ((upd f1 i.toNatClampNeg (vp_nar .byte x)) j)
  by_cases hq : j = i.toInt.toNat
  · subst hq
    rw [upV_same, i2]
    simp [upd]
  · rw [upV_ne f _ hq, h8 j hj]
    have hq2 : ¬ j = i.toNatClampNeg := hq
    simp [upd, hq2]
theorem n_zast (act : Act ss TBL g cl bl xs d p l s m args meth c) (hd : decode d.2.1 pc = .ok (.bastore, 1)) {k N : Nat} {f : Nat → Value} {i : Int32} {x : Int32} (hk : h.1[k]? = some (35, N, f)) (h1 : 0 ≤ i.toInt) (h2 : i.toInt < N) (hn : pc + 1 = n) (K : WpN g cl p l e R s m args below meth c Q d.2.2.1 kc0 ks0 n L (h.1.set k (35, N, upV f i.toInt.toNat (.int (vp_nar .boolean x))), h.2) S) : WpN g cl p l e R s m args below meth c Q d.2.2.1 kc0 ks0 pc L h (.int x :: .int i :: .ref k :: S) := by
  obtain ⟨hx, hb, hr, hml, hown, hts, hK, hE, hlocks, hnm, htab, htr⟩ := act
  subst hn
  intro ls st H locs cells slots r
  obtain ⟨ws, hL, ⟨v0, st0, rfl, h0, v1, st1, rfl, h1v, v2, st2, rfl, h2v, hS⟩, hH, hP, hD, hSS, hc1, hc2⟩ := r
  have h0 : v0 = .int x := h0
  subst h0
  have h1v : v1 = .int i := h1v
  subst h1v
  obtain ⟨q1, q2⟩ := hH.at hk
  obtain ⟨a, e1, he, rfl⟩ := h2v.cell q1
  obtain ⟨cA, f1, rfl, h7, h8⟩ := (q2 _ _ he).ints (Or.inr (Or.inr rfl))
  obtain ⟨i1, i2⟩ := in_n h1 h2
  have h8 : ∀ j : Nat, j < N → f j = .int (f1 j) := h8
  refine va_zast hx hb hK hP hD hSS k _ he h7 i1 hd (fun H1 locs1 hP1 hD1 hS1 => ?_)
  have hle : wsle ws (ws.set k (a, .inl (cA, N, .inl (upd f1 i.toNatClampNeg (vp_nar .boolean x))))) := wsle.set he
  refine K _ _ _ _ _ _ ⟨_, hL.mono hle, SRN.mono hle hS, hH.set he (Or.inr (Or.inl ⟨Or.inr (Or.inr rfl), cA, _, rfl, h7, fun j hj => ?_⟩)), hP1, hD1, hS1, hc1, hc2⟩
  show upV f i.toInt.toNat (.int (vp_nar .boolean x)) j = .int ((upd f1 i.toNatClampNeg (vp_nar .boolean x)) j)
  by_cases hq : j = i.toInt.toNat
  · subst hq
    rw [upV_same, i2]
    simp [upd]
  · rw [upV_ne f _ hq, h8 j hj]
    have hq2 : ¬ j = i.toNatClampNeg := hq
    simp [upd, hq2]
end NHEAP

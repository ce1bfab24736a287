/-! Rows over plain states: constants, locals, arithmetic, jumps. -/
section NOPS
variable {ss : SS} {TBL : List Cond} {g : GG} {cl : List vw_C} {bl : Nat} {xs : Nat → Int32} {d : MD} {p : Program} {l : Launch} {e : Env} {R : Room} {s : State} {m : MethodId} {args : Array Value} {below : List Frame} {meth : Method} {c : Code} {Q : State → Prop} {kc0 ks0 pc n : Nat} {L : LN} {h : HN} {S : List Value}
theorem n_iconst (act : Act ss TBL g cl bl xs d p l s m args meth c) {i : Int} {x : Int32} (hd : decode d.2.1 pc = .ok (.iconst i, 1)) (hv : Int32.ofInt i = x) (hn : pc + 1 = n) (K : WpN g cl p l e R s m args below meth c Q d.2.2.1 kc0 ks0 n L h (.int x :: S)) : WpN g cl p l e R s m args below meth c Q d.2.2.1 kc0 ks0 pc L h (S) := by
  obtain ⟨hx, hb, hr, hml, hown, hts, hK, hE, hlocks, hnm, htab, htr⟩ := act
  subst hn
  intro ls st H locs cells slots r
  obtain ⟨ws, hL, hS, hH, hP, hD, hSS, hc1, hc2⟩ := r
  exact lv_iconst hx hb hd hv (K _ _ _ _ _ _ ⟨ws, hL, (SRN.push hS (show VN g ws (.int x) _ from rfl)), hH, hP, hD, hSS, hc1, hc2⟩)
theorem n_bipush (act : Act ss TBL g cl bl xs d p l s m args meth c) {i : Int} {x : Int32} (hd : decode d.2.1 pc = .ok (.bipush i, 2)) (hv : (Int8.ofInt i).toInt32 = x) (hn : pc + 2 = n) (K : WpN g cl p l e R s m args below meth c Q d.2.2.1 kc0 ks0 n L h (.int x :: S)) : WpN g cl p l e R s m args below meth c Q d.2.2.1 kc0 ks0 pc L h (S) := by
  obtain ⟨hx, hb, hr, hml, hown, hts, hK, hE, hlocks, hnm, htab, htr⟩ := act
  subst hn
  intro ls st H locs cells slots r
  obtain ⟨ws, hL, hS, hH, hP, hD, hSS, hc1, hc2⟩ := r
  exact lv_bipush hx hb hd hv (K _ _ _ _ _ _ ⟨ws, hL, (SRN.push hS (show VN g ws (.int x) _ from rfl)), hH, hP, hD, hSS, hc1, hc2⟩)
theorem n_sipush (act : Act ss TBL g cl bl xs d p l s m args meth c) {i : Int} {x : Int32} (hd : decode d.2.1 pc = .ok (.sipush i, 3)) (hv : (Int16.ofInt i).toInt32 = x) (hn : pc + 3 = n) (K : WpN g cl p l e R s m args below meth c Q d.2.2.1 kc0 ks0 n L h (.int x :: S)) : WpN g cl p l e R s m args below meth c Q d.2.2.1 kc0 ks0 pc L h (S) := by
  obtain ⟨hx, hb, hr, hml, hown, hts, hK, hE, hlocks, hnm, htab, htr⟩ := act
  subst hn
  intro ls st H locs cells slots r
  obtain ⟨ws, hL, hS, hH, hP, hD, hSS, hc1, hc2⟩ := r
  exact lv_sipush hx hb hd hv (K _ _ _ _ _ _ ⟨ws, hL, (SRN.push hS (show VN g ws (.int x) _ from rfl)), hH, hP, hD, hSS, hc1, hc2⟩)
theorem n_lconst (act : Act ss TBL g cl bl xs d p l s m args meth c) {i : Fin 2} {x : Int64} (hd : decode d.2.1 pc = .ok (.lconst i, 1)) (hv : Int64.ofNat (i : Nat) = x) (hn : pc + 1 = n) (K : WpN g cl p l e R s m args below meth c Q d.2.2.1 kc0 ks0 n L h (.long x :: S)) : WpN g cl p l e R s m args below meth c Q d.2.2.1 kc0 ks0 pc L h (S) := by
  obtain ⟨hx, hb, hr, hml, hown, hts, hK, hE, hlocks, hnm, htab, htr⟩ := act
  subst hn
  intro ls st H locs cells slots r
  obtain ⟨ws, hL, hS, hH, hP, hD, hSS, hc1, hc2⟩ := r
  exact lv_lconst hx hb hd hv (K _ _ _ _ _ _ ⟨ws, hL, (SRN.push hS (show VN g ws (.long x) _ from rfl)), hH, hP, hD, hSS, hc1, hc2⟩)
theorem n_null (act : Act ss TBL g cl bl xs d p l s m args meth c)  (hd : decode d.2.1 pc = .ok (.aconst_null, 1)) (hn : pc + 1 = n) (K : WpN g cl p l e R s m args below meth c Q d.2.2.1 kc0 ks0 n L h (.null :: S)) : WpN g cl p l e R s m args below meth c Q d.2.2.1 kc0 ks0 pc L h (S) := by
  obtain ⟨hx, hb, hr, hml, hown, hts, hK, hE, hlocks, hnm, htab, htr⟩ := act
  subst hn
  intro ls st H locs cells slots r
  obtain ⟨ws, hL, hS, hH, hP, hD, hSS, hc1, hc2⟩ := r
  exact lv_null hx hb hd (K _ _ _ _ _ _ ⟨ws, hL, (SRN.push hS (show VN g ws (.null) _ from rfl)), hH, hP, hD, hSS, hc1, hc2⟩)
theorem n_fconst0 (act : Act ss TBL g cl bl xs d p l s m args meth c)  (hd : decode d.2.1 pc = .ok (.fconst 0, 1)) (hn : pc + 1 = n) (K : WpN g cl p l e R s m args below meth c Q d.2.2.1 kc0 ks0 n L h (.float FP.fconst0 :: S)) : WpN g cl p l e R s m args below meth c Q d.2.2.1 kc0 ks0 pc L h (S) := by
  obtain ⟨hx, hb, hr, hml, hown, hts, hK, hE, hlocks, hnm, htab, htr⟩ := act
  subst hn
  intro ls st H locs cells slots r
  obtain ⟨ws, hL, hS, hH, hP, hD, hSS, hc1, hc2⟩ := r
  exact lv_fconst0 hx hb hd (K _ _ _ _ _ _ ⟨ws, hL, (SRN.push hS (show VN g ws (.float FP.fconst0) _ from rfl)), hH, hP, hD, hSS, hc1, hc2⟩)
theorem n_fconst1 (act : Act ss TBL g cl bl xs d p l s m args meth c)  (hd : decode d.2.1 pc = .ok (.fconst 1, 1)) (hn : pc + 1 = n) (K : WpN g cl p l e R s m args below meth c Q d.2.2.1 kc0 ks0 n L h (.float FP.fconst1 :: S)) : WpN g cl p l e R s m args below meth c Q d.2.2.1 kc0 ks0 pc L h (S) := by
  obtain ⟨hx, hb, hr, hml, hown, hts, hK, hE, hlocks, hnm, htab, htr⟩ := act
  subst hn
  intro ls st H locs cells slots r
  obtain ⟨ws, hL, hS, hH, hP, hD, hSS, hc1, hc2⟩ := r
  exact lv_fconst1 hx hb hd (K _ _ _ _ _ _ ⟨ws, hL, (SRN.push hS (show VN g ws (.float FP.fconst1) _ from rfl)), hH, hP, hD, hSS, hc1, hc2⟩)
theorem n_fconst2 (act : Act ss TBL g cl bl xs d p l s m args meth c)  (hd : decode d.2.1 pc = .ok (.fconst 2, 1)) (hn : pc + 1 = n) (K : WpN g cl p l e R s m args below meth c Q d.2.2.1 kc0 ks0 n L h (.float FP.fconst2 :: S)) : WpN g cl p l e R s m args below meth c Q d.2.2.1 kc0 ks0 pc L h (S) := by
  obtain ⟨hx, hb, hr, hml, hown, hts, hK, hE, hlocks, hnm, htab, htr⟩ := act
  subst hn
  intro ls st H locs cells slots r
  obtain ⟨ws, hL, hS, hH, hP, hD, hSS, hc1, hc2⟩ := r
  exact lv_fconst2 hx hb hd (K _ _ _ _ _ _ ⟨ws, hL, (SRN.push hS (show VN g ws (.float FP.fconst2) _ from rfl)), hH, hP, hD, hSS, hc1, hc2⟩)
theorem n_dconst0 (act : Act ss TBL g cl bl xs d p l s m args meth c)  (hd : decode d.2.1 pc = .ok (.dconst 0, 1)) (hn : pc + 1 = n) (K : WpN g cl p l e R s m args below meth c Q d.2.2.1 kc0 ks0 n L h (.double FP.dconst0 :: S)) : WpN g cl p l e R s m args below meth c Q d.2.2.1 kc0 ks0 pc L h (S) := by
  obtain ⟨hx, hb, hr, hml, hown, hts, hK, hE, hlocks, hnm, htab, htr⟩ := act
  subst hn
  intro ls st H locs cells slots r
  obtain ⟨ws, hL, hS, hH, hP, hD, hSS, hc1, hc2⟩ := r
  exact lv_dconst0 hx hb hd (K _ _ _ _ _ _ ⟨ws, hL, (SRN.push hS (show VN g ws (.double FP.dconst0) _ from rfl)), hH, hP, hD, hSS, hc1, hc2⟩)
theorem n_dconst1 (act : Act ss TBL g cl bl xs d p l s m args meth c)  (hd : decode d.2.1 pc = .ok (.dconst 1, 1)) (hn : pc + 1 = n) (K : WpN g cl p l e R s m args below meth c Q d.2.2.1 kc0 ks0 n L h (.double FP.dconst1 :: S)) : WpN g cl p l e R s m args below meth c Q d.2.2.1 kc0 ks0 pc L h (S) := by
  obtain ⟨hx, hb, hr, hml, hown, hts, hK, hE, hlocks, hnm, htab, htr⟩ := act
  subst hn
  intro ls st H locs cells slots r
  obtain ⟨ws, hL, hS, hH, hP, hD, hSS, hc1, hc2⟩ := r
  exact lv_dconst1 hx hb hd (K _ _ _ _ _ _ ⟨ws, hL, (SRN.push hS (show VN g ws (.double FP.dconst1) _ from rfl)), hH, hP, hD, hSS, hc1, hc2⟩)
theorem n_ldc (act : Act ss TBL g cl bl xs d p l s m args meth c) {i : Nat} {x : Int32} (hd : decode d.2.1 pc = .ok (.ldc i, 2)) (hc : Cond.constant d.1.cls i x ∈ TBL) (hn : pc + 2 = n) (K : WpN g cl p l e R s m args below meth c Q d.2.2.1 kc0 ks0 n L h (.int x :: S)) : WpN g cl p l e R s m args below meth c Q d.2.2.1 kc0 ks0 pc L h (S) := by
  obtain ⟨hx, hb, hr, hml, hown, hts, hK, hE, hlocks, hnm, htab, htr⟩ := act
  subst hn
  intro ls st H locs cells slots r
  obtain ⟨ws, hL, hS, hH, hP, hD, hSS, hc1, hc2⟩ := r
  exact lv_ldc hx hb hown (hts _ hc) hd (K _ _ _ _ _ _ ⟨ws, hL, (SRN.push hS (show VN g ws (.int x) _ from rfl)), hH, hP, hD, hSS, hc1, hc2⟩)
theorem n_ldcw (act : Act ss TBL g cl bl xs d p l s m args meth c) {i : Nat} {x : Int32} (hd : decode d.2.1 pc = .ok (.ldc_w i, 3)) (hc : Cond.constant d.1.cls i x ∈ TBL) (hn : pc + 3 = n) (K : WpN g cl p l e R s m args below meth c Q d.2.2.1 kc0 ks0 n L h (.int x :: S)) : WpN g cl p l e R s m args below meth c Q d.2.2.1 kc0 ks0 pc L h (S) := by
  obtain ⟨hx, hb, hr, hml, hown, hts, hK, hE, hlocks, hnm, htab, htr⟩ := act
  subst hn
  intro ls st H locs cells slots r
  obtain ⟨ws, hL, hS, hH, hP, hD, hSS, hc1, hc2⟩ := r
  exact lv_ldcw hx hb hown (hts _ hc) hd (K _ _ _ _ _ _ ⟨ws, hL, (SRN.push hS (show VN g ws (.int x) _ from rfl)), hH, hP, hD, hSS, hc1, hc2⟩)
theorem n_ldc2 (act : Act ss TBL g cl bl xs d p l s m args meth c) {i : Nat} {x : Int64} (hd : decode d.2.1 pc = .ok (.ldc2_w i, 3)) (hc : Cond.constantLong d.1.cls i x ∈ TBL) (hn : pc + 3 = n) (K : WpN g cl p l e R s m args below meth c Q d.2.2.1 kc0 ks0 n L h (.long x :: S)) : WpN g cl p l e R s m args below meth c Q d.2.2.1 kc0 ks0 pc L h (S) := by
  obtain ⟨hx, hb, hr, hml, hown, hts, hK, hE, hlocks, hnm, htab, htr⟩ := act
  subst hn
  intro ls st H locs cells slots r
  obtain ⟨ws, hL, hS, hH, hP, hD, hSS, hc1, hc2⟩ := r
  exact lv_ldc2 hx hb hown (hts _ hc) hd (K _ _ _ _ _ _ ⟨ws, hL, (SRN.push hS (show VN g ws (.long x) _ from rfl)), hH, hP, hD, hSS, hc1, hc2⟩)
theorem n_ldcf (act : Act ss TBL g cl bl xs d p l s m args meth c) {i : Nat} {x : UInt32} (hd : decode d.2.1 pc = .ok (.ldc i, 2)) (hc : Cond.constantFloat d.1.cls i x ∈ TBL) (hn : pc + 2 = n) (K : WpN g cl p l e R s m args below meth c Q d.2.2.1 kc0 ks0 n L h (.float x :: S)) : WpN g cl p l e R s m args below meth c Q d.2.2.1 kc0 ks0 pc L h (S) := by
  obtain ⟨hx, hb, hr, hml, hown, hts, hK, hE, hlocks, hnm, htab, htr⟩ := act
  subst hn
  intro ls st H locs cells slots r
  obtain ⟨ws, hL, hS, hH, hP, hD, hSS, hc1, hc2⟩ := r
  exact lv_ldcf hx hb hown (hts _ hc) hd (K _ _ _ _ _ _ ⟨ws, hL, (SRN.push hS (show VN g ws (.float x) _ from rfl)), hH, hP, hD, hSS, hc1, hc2⟩)
theorem n_iload (act : Act ss TBL g cl bl xs d p l s m args meth c) {a : Nat} {x : Int32} (hd : decode d.2.1 pc = .ok (.iload a, 2)) (hl : L[a]? = some (some (.int x))) (hn : pc + 2 = n) (K : WpN g cl p l e R s m args below meth c Q d.2.2.1 kc0 ks0 n L h (.int x :: S)) : WpN g cl p l e R s m args below meth c Q d.2.2.1 kc0 ks0 pc L h (S) := by
  obtain ⟨hx, hb, hr, hml, hown, hts, hK, hE, hlocks, hnm, htab, htr⟩ := act
  subst hn
  intro ls st H locs cells slots r
  obtain ⟨ws, hL, hS, hH, hP, hD, hSS, hc1, hc2⟩ := r
  obtain ⟨u, hq, hu⟩ := hL.at hl
  have hu : u = .int x := hu
  subst hu
  exact lv_iload hx hb hd hq (K _ _ _ _ _ _ ⟨ws, hL, (SRN.push hS (show VN g ws (.int x) _ from rfl)), hH, hP, hD, hSS, hc1, hc2⟩)
theorem n_iload_n (act : Act ss TBL g cl bl xs d p l s m args meth c) {a : Nat} {x : Int32} {k : Fin 4} (hd : decode d.2.1 pc = .ok (.iload_n k, 1)) (hl : L[a]? = some (some (.int x))) (hk : (k : Nat) = a) (hn : pc + 1 = n) (K : WpN g cl p l e R s m args below meth c Q d.2.2.1 kc0 ks0 n L h (.int x :: S)) : WpN g cl p l e R s m args below meth c Q d.2.2.1 kc0 ks0 pc L h (S) := by
  obtain ⟨hx, hb, hr, hml, hown, hts, hK, hE, hlocks, hnm, htab, htr⟩ := act
  subst hn
  intro ls st H locs cells slots r
  obtain ⟨ws, hL, hS, hH, hP, hD, hSS, hc1, hc2⟩ := r
  obtain ⟨u, hq, hu⟩ := hL.at hl
  have hu : u = .int x := hu
  subst hu
  exact lv_iload_n hx hb hd hk hq (K _ _ _ _ _ _ ⟨ws, hL, (SRN.push hS (show VN g ws (.int x) _ from rfl)), hH, hP, hD, hSS, hc1, hc2⟩)
theorem n_lload (act : Act ss TBL g cl bl xs d p l s m args meth c) {a : Nat} {x : Int64} (hd : decode d.2.1 pc = .ok (.lload a, 2)) (hl : L[a]? = some (some (.long x))) (hn : pc + 2 = n) (K : WpN g cl p l e R s m args below meth c Q d.2.2.1 kc0 ks0 n L h (.long x :: S)) : WpN g cl p l e R s m args below meth c Q d.2.2.1 kc0 ks0 pc L h (S) := by
  obtain ⟨hx, hb, hr, hml, hown, hts, hK, hE, hlocks, hnm, htab, htr⟩ := act
  subst hn
  intro ls st H locs cells slots r
  obtain ⟨ws, hL, hS, hH, hP, hD, hSS, hc1, hc2⟩ := r
  obtain ⟨u, hq, hu⟩ := hL.at hl
  have hu : u = .long x := hu
  subst hu
  exact lv_lload hx hb hd hq (K _ _ _ _ _ _ ⟨ws, hL, (SRN.push hS (show VN g ws (.long x) _ from rfl)), hH, hP, hD, hSS, hc1, hc2⟩)
theorem n_lload_n (act : Act ss TBL g cl bl xs d p l s m args meth c) {a : Nat} {x : Int64} {k : Fin 4} (hd : decode d.2.1 pc = .ok (.lload_n k, 1)) (hl : L[a]? = some (some (.long x))) (hk : (k : Nat) = a) (hn : pc + 1 = n) (K : WpN g cl p l e R s m args below meth c Q d.2.2.1 kc0 ks0 n L h (.long x :: S)) : WpN g cl p l e R s m args below meth c Q d.2.2.1 kc0 ks0 pc L h (S) := by
  obtain ⟨hx, hb, hr, hml, hown, hts, hK, hE, hlocks, hnm, htab, htr⟩ := act
  subst hn
  intro ls st H locs cells slots r
  obtain ⟨ws, hL, hS, hH, hP, hD, hSS, hc1, hc2⟩ := r
  obtain ⟨u, hq, hu⟩ := hL.at hl
  have hu : u = .long x := hu
  subst hu
  exact lv_lload_n hx hb hd hk hq (K _ _ _ _ _ _ ⟨ws, hL, (SRN.push hS (show VN g ws (.long x) _ from rfl)), hH, hP, hD, hSS, hc1, hc2⟩)
theorem n_fload (act : Act ss TBL g cl bl xs d p l s m args meth c) {a : Nat} {x : UInt32} (hd : decode d.2.1 pc = .ok (.fload a, 2)) (hl : L[a]? = some (some (.float x))) (hn : pc + 2 = n) (K : WpN g cl p l e R s m args below meth c Q d.2.2.1 kc0 ks0 n L h (.float x :: S)) : WpN g cl p l e R s m args below meth c Q d.2.2.1 kc0 ks0 pc L h (S) := by
  obtain ⟨hx, hb, hr, hml, hown, hts, hK, hE, hlocks, hnm, htab, htr⟩ := act
  subst hn
  intro ls st H locs cells slots r
  obtain ⟨ws, hL, hS, hH, hP, hD, hSS, hc1, hc2⟩ := r
  obtain ⟨u, hq, hu⟩ := hL.at hl
  have hu : u = .float x := hu
  subst hu
  exact lv_fload hx hb hd hq (K _ _ _ _ _ _ ⟨ws, hL, (SRN.push hS (show VN g ws (.float x) _ from rfl)), hH, hP, hD, hSS, hc1, hc2⟩)
theorem n_fload_n (act : Act ss TBL g cl bl xs d p l s m args meth c) {a : Nat} {x : UInt32} {k : Fin 4} (hd : decode d.2.1 pc = .ok (.fload_n k, 1)) (hl : L[a]? = some (some (.float x))) (hk : (k : Nat) = a) (hn : pc + 1 = n) (K : WpN g cl p l e R s m args below meth c Q d.2.2.1 kc0 ks0 n L h (.float x :: S)) : WpN g cl p l e R s m args below meth c Q d.2.2.1 kc0 ks0 pc L h (S) := by
  obtain ⟨hx, hb, hr, hml, hown, hts, hK, hE, hlocks, hnm, htab, htr⟩ := act
  subst hn
  intro ls st H locs cells slots r
  obtain ⟨ws, hL, hS, hH, hP, hD, hSS, hc1, hc2⟩ := r
  obtain ⟨u, hq, hu⟩ := hL.at hl
  have hu : u = .float x := hu
  subst hu
  exact lv_fload_n hx hb hd hk hq (K _ _ _ _ _ _ ⟨ws, hL, (SRN.push hS (show VN g ws (.float x) _ from rfl)), hH, hP, hD, hSS, hc1, hc2⟩)
theorem n_dload (act : Act ss TBL g cl bl xs d p l s m args meth c) {a : Nat} {x : UInt64} (hd : decode d.2.1 pc = .ok (.dload a, 2)) (hl : L[a]? = some (some (.double x))) (hn : pc + 2 = n) (K : WpN g cl p l e R s m args below meth c Q d.2.2.1 kc0 ks0 n L h (.double x :: S)) : WpN g cl p l e R s m args below meth c Q d.2.2.1 kc0 ks0 pc L h (S) := by
  obtain ⟨hx, hb, hr, hml, hown, hts, hK, hE, hlocks, hnm, htab, htr⟩ := act
  subst hn
  intro ls st H locs cells slots r
  obtain ⟨ws, hL, hS, hH, hP, hD, hSS, hc1, hc2⟩ := r
  obtain ⟨u, hq, hu⟩ := hL.at hl
  have hu : u = .double x := hu
  subst hu
  exact lv_dload hx hb hd hq (K _ _ _ _ _ _ ⟨ws, hL, (SRN.push hS (show VN g ws (.double x) _ from rfl)), hH, hP, hD, hSS, hc1, hc2⟩)
theorem n_dload_n (act : Act ss TBL g cl bl xs d p l s m args meth c) {a : Nat} {x : UInt64} {k : Fin 4} (hd : decode d.2.1 pc = .ok (.dload_n k, 1)) (hl : L[a]? = some (some (.double x))) (hk : (k : Nat) = a) (hn : pc + 1 = n) (K : WpN g cl p l e R s m args below meth c Q d.2.2.1 kc0 ks0 n L h (.double x :: S)) : WpN g cl p l e R s m args below meth c Q d.2.2.1 kc0 ks0 pc L h (S) := by
  obtain ⟨hx, hb, hr, hml, hown, hts, hK, hE, hlocks, hnm, htab, htr⟩ := act
  subst hn
  intro ls st H locs cells slots r
  obtain ⟨ws, hL, hS, hH, hP, hD, hSS, hc1, hc2⟩ := r
  obtain ⟨u, hq, hu⟩ := hL.at hl
  have hu : u = .double x := hu
  subst hu
  exact lv_dload_n hx hb hd hk hq (K _ _ _ _ _ _ ⟨ws, hL, (SRN.push hS (show VN g ws (.double x) _ from rfl)), hH, hP, hD, hSS, hc1, hc2⟩)
theorem n_aload (act : Act ss TBL g cl bl xs d p l s m args meth c) {a : Nat} {q : Nat} (hd : decode d.2.1 pc = .ok (.aload a, 2)) (hl : L[a]? = some (some (.ref q))) (hn : pc + 2 = n) (K : WpN g cl p l e R s m args below meth c Q d.2.2.1 kc0 ks0 n L h (.ref q :: S)) : WpN g cl p l e R s m args below meth c Q d.2.2.1 kc0 ks0 pc L h S := by
  obtain ⟨hx, hb, hr, hml, hown, hts, hK, hE, hlocks, hnm, htab, htr⟩ := act
  subst hn
  intro ls st H locs cells slots r
  obtain ⟨ws, hL, hS, hH, hP, hD, hSS, hc1, hc2⟩ := r
  obtain ⟨u, hq, hu⟩ := hL.at hl
  obtain ⟨a9, rfl⟩ := hu.isref
  exact lv_aload hx hb hd hq (K _ _ _ _ _ _ ⟨ws, hL, SRN.push hS hu, hH, hP, hD, hSS, hc1, hc2⟩)
theorem n_aloadN (act : Act ss TBL g cl bl xs d p l s m args meth c) {a : Nat} (hd : decode d.2.1 pc = .ok (.aload a, 2)) (hl : L[a]? = some (some (.null))) (hn : pc + 2 = n) (K : WpN g cl p l e R s m args below meth c Q d.2.2.1 kc0 ks0 n L h (.null :: S)) : WpN g cl p l e R s m args below meth c Q d.2.2.1 kc0 ks0 pc L h S := by
  obtain ⟨hx, hb, hr, hml, hown, hts, hK, hE, hlocks, hnm, htab, htr⟩ := act
  subst hn
  intro ls st H locs cells slots r
  obtain ⟨ws, hL, hS, hH, hP, hD, hSS, hc1, hc2⟩ := r
  obtain ⟨u, hq, hu⟩ := hL.at hl
  have hu2 : u = .null := hu
  subst hu2
  exact lv_aloadN hx hb hd hq (K _ _ _ _ _ _ ⟨ws, hL, SRN.push hS hu, hH, hP, hD, hSS, hc1, hc2⟩)
theorem n_aload_n (act : Act ss TBL g cl bl xs d p l s m args meth c) {a : Nat} {q : Nat} {k : Fin 4} (hd : decode d.2.1 pc = .ok (.aload_n k, 1)) (hl : L[a]? = some (some (.ref q))) (hk : (k : Nat) = a) (hn : pc + 1 = n) (K : WpN g cl p l e R s m args below meth c Q d.2.2.1 kc0 ks0 n L h (.ref q :: S)) : WpN g cl p l e R s m args below meth c Q d.2.2.1 kc0 ks0 pc L h S := by
  obtain ⟨hx, hb, hr, hml, hown, hts, hK, hE, hlocks, hnm, htab, htr⟩ := act
  subst hn
  intro ls st H locs cells slots r
  obtain ⟨ws, hL, hS, hH, hP, hD, hSS, hc1, hc2⟩ := r
  obtain ⟨u, hq, hu⟩ := hL.at hl
  obtain ⟨a9, rfl⟩ := hu.isref
  exact lv_aload_n hx hb hd hk hq (K _ _ _ _ _ _ ⟨ws, hL, SRN.push hS hu, hH, hP, hD, hSS, hc1, hc2⟩)
theorem n_aload_nN (act : Act ss TBL g cl bl xs d p l s m args meth c) {a : Nat} {k : Fin 4} (hd : decode d.2.1 pc = .ok (.aload_n k, 1)) (hl : L[a]? = some (some (.null))) (hk : (k : Nat) = a) (hn : pc + 1 = n) (K : WpN g cl p l e R s m args below meth c Q d.2.2.1 kc0 ks0 n L h (.null :: S)) : WpN g cl p l e R s m args below meth c Q d.2.2.1 kc0 ks0 pc L h S := by
  obtain ⟨hx, hb, hr, hml, hown, hts, hK, hE, hlocks, hnm, htab, htr⟩ := act
  subst hn
  intro ls st H locs cells slots r
  obtain ⟨ws, hL, hS, hH, hP, hD, hSS, hc1, hc2⟩ := r
  obtain ⟨u, hq, hu⟩ := hL.at hl
  have hu2 : u = .null := hu
  subst hu2
  exact lv_aload_nN hx hb hd hk hq (K _ _ _ _ _ _ ⟨ws, hL, SRN.push hS hu, hH, hP, hD, hSS, hc1, hc2⟩)
theorem n_istore (act : Act ss TBL g cl bl xs d p l s m args meth c) {a : Nat} {x : Int32} (hd : decode d.2.1 pc = .ok (.istore a, 2)) (ha : a < d.2.2.1) (hn : pc + 2 = n) {L2 : LN} (hL2 : st1 L a (.int x) = L2) (K : WpN g cl p l e R s m args below meth c Q d.2.2.1 kc0 ks0 n L2 h S) : WpN g cl p l e R s m args below meth c Q d.2.2.1 kc0 ks0 pc L h (.int x :: S) := by
  obtain ⟨hx, hb, hr, hml, hown, hts, hK, hE, hlocks, hnm, htab, htr⟩ := act
  subst hn
  subst hL2
  intro ls st H locs cells slots r
  obtain ⟨ws, ⟨lv, hl1, hl2⟩, ⟨v0, st0, rfl, h0, hS⟩, hH, hP, hD, hSS, hc1, hc2⟩ := r
  have h1 : v0 = .int x := h0
  subst h1
  exact lv_istore hx hb hd hl1 ha rfl (fun ls2 hls => K _ _ _ _ _ _ ⟨ws, LRN.st1 hl2 h0 hls, hS, hH, hP, hD, hSS, hc1, hc2⟩)
theorem n_istore_n (act : Act ss TBL g cl bl xs d p l s m args meth c) {a : Nat} {x : Int32} {k : Fin 4} (hd : decode d.2.1 pc = .ok (.istore_n k, 1)) (ha : a < d.2.2.1) (hk : (k : Nat) = a) (hn : pc + 1 = n) {L2 : LN} (hL2 : st1 L a (.int x) = L2) (K : WpN g cl p l e R s m args below meth c Q d.2.2.1 kc0 ks0 n L2 h S) : WpN g cl p l e R s m args below meth c Q d.2.2.1 kc0 ks0 pc L h (.int x :: S) := by
  obtain ⟨hx, hb, hr, hml, hown, hts, hK, hE, hlocks, hnm, htab, htr⟩ := act
  subst hn
  subst hL2
  intro ls st H locs cells slots r
  obtain ⟨ws, ⟨lv, hl1, hl2⟩, ⟨v0, st0, rfl, h0, hS⟩, hH, hP, hD, hSS, hc1, hc2⟩ := r
  have h1 : v0 = .int x := h0
  subst h1
  exact lv_istore_n hx hb hd hk hl1 ha rfl (fun ls2 hls => K _ _ _ _ _ _ ⟨ws, LRN.st1 hl2 h0 hls, hS, hH, hP, hD, hSS, hc1, hc2⟩)
theorem n_lstore (act : Act ss TBL g cl bl xs d p l s m args meth c) {a : Nat} {x : Int64} (hd : decode d.2.1 pc = .ok (.lstore a, 2)) (ha : a + 1 < d.2.2.1) (hn : pc + 2 = n) {L2 : LN} (hL2 : stw2 L a (.long x) = L2) (K : WpN g cl p l e R s m args below meth c Q d.2.2.1 kc0 ks0 n L2 h S) : WpN g cl p l e R s m args below meth c Q d.2.2.1 kc0 ks0 pc L h (.long x :: S) := by
  obtain ⟨hx, hb, hr, hml, hown, hts, hK, hE, hlocks, hnm, htab, htr⟩ := act
  subst hn
  subst hL2
  intro ls st H locs cells slots r
  obtain ⟨ws, ⟨lv, hl1, hl2⟩, ⟨v0, st0, rfl, h0, hS⟩, hH, hP, hD, hSS, hc1, hc2⟩ := r
  have h1 : v0 = .long x := h0
  subst h1
  exact lv_lstore hx hb hd hl1 ha rfl (fun ls2 hls => K _ _ _ _ _ _ ⟨ws, LRN.st2 hl2 h0 hls, hS, hH, hP, hD, hSS, hc1, hc2⟩)
theorem n_lstore_n (act : Act ss TBL g cl bl xs d p l s m args meth c) {a : Nat} {x : Int64} {k : Fin 4} (hd : decode d.2.1 pc = .ok (.lstore_n k, 1)) (ha : a + 1 < d.2.2.1) (hk : (k : Nat) = a) (hn : pc + 1 = n) {L2 : LN} (hL2 : stw2 L a (.long x) = L2) (K : WpN g cl p l e R s m args below meth c Q d.2.2.1 kc0 ks0 n L2 h S) : WpN g cl p l e R s m args below meth c Q d.2.2.1 kc0 ks0 pc L h (.long x :: S) := by
  obtain ⟨hx, hb, hr, hml, hown, hts, hK, hE, hlocks, hnm, htab, htr⟩ := act
  subst hn
  subst hL2
  intro ls st H locs cells slots r
  obtain ⟨ws, ⟨lv, hl1, hl2⟩, ⟨v0, st0, rfl, h0, hS⟩, hH, hP, hD, hSS, hc1, hc2⟩ := r
  have h1 : v0 = .long x := h0
  subst h1
  exact lv_lstore_n hx hb hd hk hl1 ha rfl (fun ls2 hls => K _ _ _ _ _ _ ⟨ws, LRN.st2 hl2 h0 hls, hS, hH, hP, hD, hSS, hc1, hc2⟩)
theorem n_fstore (act : Act ss TBL g cl bl xs d p l s m args meth c) {a : Nat} {x : UInt32} (hd : decode d.2.1 pc = .ok (.fstore a, 2)) (ha : a < d.2.2.1) (hn : pc + 2 = n) {L2 : LN} (hL2 : st1 L a (.float x) = L2) (K : WpN g cl p l e R s m args below meth c Q d.2.2.1 kc0 ks0 n L2 h S) : WpN g cl p l e R s m args below meth c Q d.2.2.1 kc0 ks0 pc L h (.float x :: S) := by
  obtain ⟨hx, hb, hr, hml, hown, hts, hK, hE, hlocks, hnm, htab, htr⟩ := act
  subst hn
  subst hL2
  intro ls st H locs cells slots r
  obtain ⟨ws, ⟨lv, hl1, hl2⟩, ⟨v0, st0, rfl, h0, hS⟩, hH, hP, hD, hSS, hc1, hc2⟩ := r
  have h1 : v0 = .float x := h0
  subst h1
  exact lv_fstore hx hb hd hl1 ha rfl (fun ls2 hls => K _ _ _ _ _ _ ⟨ws, LRN.st1 hl2 h0 hls, hS, hH, hP, hD, hSS, hc1, hc2⟩)
theorem n_fstore_n (act : Act ss TBL g cl bl xs d p l s m args meth c) {a : Nat} {x : UInt32} {k : Fin 4} (hd : decode d.2.1 pc = .ok (.fstore_n k, 1)) (ha : a < d.2.2.1) (hk : (k : Nat) = a) (hn : pc + 1 = n) {L2 : LN} (hL2 : st1 L a (.float x) = L2) (K : WpN g cl p l e R s m args below meth c Q d.2.2.1 kc0 ks0 n L2 h S) : WpN g cl p l e R s m args below meth c Q d.2.2.1 kc0 ks0 pc L h (.float x :: S) := by
  obtain ⟨hx, hb, hr, hml, hown, hts, hK, hE, hlocks, hnm, htab, htr⟩ := act
  subst hn
  subst hL2
  intro ls st H locs cells slots r
  obtain ⟨ws, ⟨lv, hl1, hl2⟩, ⟨v0, st0, rfl, h0, hS⟩, hH, hP, hD, hSS, hc1, hc2⟩ := r
  have h1 : v0 = .float x := h0
  subst h1
  exact lv_fstore_n hx hb hd hk hl1 ha rfl (fun ls2 hls => K _ _ _ _ _ _ ⟨ws, LRN.st1 hl2 h0 hls, hS, hH, hP, hD, hSS, hc1, hc2⟩)
theorem n_dstore (act : Act ss TBL g cl bl xs d p l s m args meth c) {a : Nat} {x : UInt64} (hd : decode d.2.1 pc = .ok (.dstore a, 2)) (ha : a + 1 < d.2.2.1) (hn : pc + 2 = n) {L2 : LN} (hL2 : stw2 L a (.double x) = L2) (K : WpN g cl p l e R s m args below meth c Q d.2.2.1 kc0 ks0 n L2 h S) : WpN g cl p l e R s m args below meth c Q d.2.2.1 kc0 ks0 pc L h (.double x :: S) := by
  obtain ⟨hx, hb, hr, hml, hown, hts, hK, hE, hlocks, hnm, htab, htr⟩ := act
  subst hn
  subst hL2
  intro ls st H locs cells slots r
  obtain ⟨ws, ⟨lv, hl1, hl2⟩, ⟨v0, st0, rfl, h0, hS⟩, hH, hP, hD, hSS, hc1, hc2⟩ := r
  have h1 : v0 = .double x := h0
  subst h1
  exact lv_dstore hx hb hd hl1 ha rfl (fun ls2 hls => K _ _ _ _ _ _ ⟨ws, LRN.st2 hl2 h0 hls, hS, hH, hP, hD, hSS, hc1, hc2⟩)
theorem n_dstore_n (act : Act ss TBL g cl bl xs d p l s m args meth c) {a : Nat} {x : UInt64} {k : Fin 4} (hd : decode d.2.1 pc = .ok (.dstore_n k, 1)) (ha : a + 1 < d.2.2.1) (hk : (k : Nat) = a) (hn : pc + 1 = n) {L2 : LN} (hL2 : stw2 L a (.double x) = L2) (K : WpN g cl p l e R s m args below meth c Q d.2.2.1 kc0 ks0 n L2 h S) : WpN g cl p l e R s m args below meth c Q d.2.2.1 kc0 ks0 pc L h (.double x :: S) := by
  obtain ⟨hx, hb, hr, hml, hown, hts, hK, hE, hlocks, hnm, htab, htr⟩ := act
  subst hn
  subst hL2
  intro ls st H locs cells slots r
  obtain ⟨ws, ⟨lv, hl1, hl2⟩, ⟨v0, st0, rfl, h0, hS⟩, hH, hP, hD, hSS, hc1, hc2⟩ := r
  have h1 : v0 = .double x := h0
  subst h1
  exact lv_dstore_n hx hb hd hk hl1 ha rfl (fun ls2 hls => K _ _ _ _ _ _ ⟨ws, LRN.st2 hl2 h0 hls, hS, hH, hP, hD, hSS, hc1, hc2⟩)
theorem n_astore (act : Act ss TBL g cl bl xs d p l s m args meth c) {a : Nat} {q : Nat} (hd : decode d.2.1 pc = .ok (.astore a, 2)) (ha : a < d.2.2.1) (hn : pc + 2 = n) {L2 : LN} (hL2 : st1 L a (.ref q) = L2) (K : WpN g cl p l e R s m args below meth c Q d.2.2.1 kc0 ks0 n L2 h S) : WpN g cl p l e R s m args below meth c Q d.2.2.1 kc0 ks0 pc L h (.ref q :: S) := by
  obtain ⟨hx, hb, hr, hml, hown, hts, hK, hE, hlocks, hnm, htab, htr⟩ := act
  subst hn
  subst hL2
  intro ls st H locs cells slots r
  obtain ⟨ws, ⟨lv, hl1, hl2⟩, ⟨v0, st0, rfl, h0, hS⟩, hH, hP, hD, hSS, hc1, hc2⟩ := r
  obtain ⟨a9, rfl⟩ := h0.isref
  exact lv_astore hx hb hd hl1 ha rfl (fun ls2 hls => K _ _ _ _ _ _ ⟨ws, LRN.st1 hl2 h0 hls, hS, hH, hP, hD, hSS, hc1, hc2⟩)
theorem n_astore_n (act : Act ss TBL g cl bl xs d p l s m args meth c) {a : Nat} {q : Nat} {k : Fin 4} (hd : decode d.2.1 pc = .ok (.astore_n k, 1)) (ha : a < d.2.2.1) (hk : (k : Nat) = a) (hn : pc + 1 = n) {L2 : LN} (hL2 : st1 L a (.ref q) = L2) (K : WpN g cl p l e R s m args below meth c Q d.2.2.1 kc0 ks0 n L2 h S) : WpN g cl p l e R s m args below meth c Q d.2.2.1 kc0 ks0 pc L h (.ref q :: S) := by
  obtain ⟨hx, hb, hr, hml, hown, hts, hK, hE, hlocks, hnm, htab, htr⟩ := act
  subst hn
  subst hL2
  intro ls st H locs cells slots r
  obtain ⟨ws, ⟨lv, hl1, hl2⟩, ⟨v0, st0, rfl, h0, hS⟩, hH, hP, hD, hSS, hc1, hc2⟩ := r
  obtain ⟨a9, rfl⟩ := h0.isref
  exact lv_astore_n hx hb hd hk hl1 ha rfl (fun ls2 hls => K _ _ _ _ _ _ ⟨ws, LRN.st1 hl2 h0 hls, hS, hH, hP, hD, hSS, hc1, hc2⟩)
theorem n_astoreN (act : Act ss TBL g cl bl xs d p l s m args meth c) {a : Nat} (hd : decode d.2.1 pc = .ok (.astore a, 2)) (ha : a < d.2.2.1) (hn : pc + 2 = n) {L2 : LN} (hL2 : st1 L a (.null) = L2) (K : WpN g cl p l e R s m args below meth c Q d.2.2.1 kc0 ks0 n L2 h S) : WpN g cl p l e R s m args below meth c Q d.2.2.1 kc0 ks0 pc L h (.null :: S) := by
  obtain ⟨hx, hb, hr, hml, hown, hts, hK, hE, hlocks, hnm, htab, htr⟩ := act
  subst hn
  subst hL2
  intro ls st H locs cells slots r
  obtain ⟨ws, ⟨lv, hl1, hl2⟩, ⟨v0, st0, rfl, h0, hS⟩, hH, hP, hD, hSS, hc1, hc2⟩ := r
  have h1 : v0 = .null := h0
  subst h1
  exact lv_astoreN hx hb hd hl1 ha rfl (fun ls2 hls => K _ _ _ _ _ _ ⟨ws, LRN.st1 hl2 h0 hls, hS, hH, hP, hD, hSS, hc1, hc2⟩)
theorem n_astore_nN (act : Act ss TBL g cl bl xs d p l s m args meth c) {a : Nat} {k : Fin 4} (hd : decode d.2.1 pc = .ok (.astore_n k, 1)) (ha : a < d.2.2.1) (hk : (k : Nat) = a) (hn : pc + 1 = n) {L2 : LN} (hL2 : st1 L a (.null) = L2) (K : WpN g cl p l e R s m args below meth c Q d.2.2.1 kc0 ks0 n L2 h S) : WpN g cl p l e R s m args below meth c Q d.2.2.1 kc0 ks0 pc L h (.null :: S) := by
  obtain ⟨hx, hb, hr, hml, hown, hts, hK, hE, hlocks, hnm, htab, htr⟩ := act
  subst hn
  subst hL2
  intro ls st H locs cells slots r
  obtain ⟨ws, ⟨lv, hl1, hl2⟩, ⟨v0, st0, rfl, h0, hS⟩, hH, hP, hD, hSS, hc1, hc2⟩ := r
  have h1 : v0 = .null := h0
  subst h1
  exact lv_astore_nN hx hb hd hk hl1 ha rfl (fun ls2 hls => K _ _ _ _ _ _ ⟨ws, LRN.st1 hl2 h0 hls, hS, hH, hP, hD, hSS, hc1, hc2⟩)
theorem n_iinc (act : Act ss TBL g cl bl xs d p l s m args meth c) {a : Nat} {i : Int} {x : Int32} (hd : decode d.2.1 pc = .ok (.iinc a i, 3)) (ha : a < d.2.2.1) (hl : L[a]? = some (some (.int x))) (hn : pc + 3 = n) {L2 : LN} (hL2 : st1 L a (.int (x + Int32.ofInt i)) = L2) (K : WpN g cl p l e R s m args below meth c Q d.2.2.1 kc0 ks0 n L2 h S) : WpN g cl p l e R s m args below meth c Q d.2.2.1 kc0 ks0 pc L h S := by
  obtain ⟨hx, hb, hr, hml, hown, hts, hK, hE, hlocks, hnm, htab, htr⟩ := act
  subst hn
  subst hL2
  intro ls st H locs cells slots r
  obtain ⟨ws, ⟨lv, hl1, hl2⟩, hS, hH, hP, hD, hSS, hc1, hc2⟩ := r
  obtain ⟨u, m1, m2⟩ := hl2 a _ hl
  have m2 : u = .int x := m2
  subst m2
  obtain ⟨k9, hk9⟩ := List.getElem?_of_mem m1
  exact lv_iinc hx hb hd hl1 hk9 rfl ha rfl (fun ls2 hls => K _ _ _ _ _ _ ⟨ws, LRN.st1 hl2 (show VN g ws (.int (x + Int32.ofInt i)) _ from rfl) hls, hS, hH, hP, hD, hSS, hc1, hc2⟩)
theorem n_iadd (act : Act ss TBL g cl bl xs d p l s m args meth c) {x y : Int32} (hd : decode d.2.1 pc = .ok (.iadd, 1)) (hn : pc + 1 = n) (K : WpN g cl p l e R s m args below meth c Q d.2.2.1 kc0 ks0 n L h (.int (x + y) :: S)) : WpN g cl p l e R s m args below meth c Q d.2.2.1 kc0 ks0 pc L h (.int y :: .int x :: S) := by
  obtain ⟨hx, hb, hr, hml, hown, hts, hK, hE, hlocks, hnm, htab, htr⟩ := act
  subst hn
  intro ls st H locs cells slots r
  obtain ⟨ws, hL, ⟨v0, st0, rfl, h0, v1, st1, rfl, h1, hS⟩, hH, hP, hD, hSS, hc1, hc2⟩ := r
  have h0 : v0 = .int y := h0
  subst h0
  have h1 : v1 = .int x := h1
  subst h1
  exact lv_iadd hx hb hd (K _ _ _ _ _ _ ⟨ws, hL, (SRN.push hS (show VN g ws (.int (x + y)) _ from rfl)), hH, hP, hD, hSS, hc1, hc2⟩)
theorem n_isub (act : Act ss TBL g cl bl xs d p l s m args meth c) {x y : Int32} (hd : decode d.2.1 pc = .ok (.isub, 1)) (hn : pc + 1 = n) (K : WpN g cl p l e R s m args below meth c Q d.2.2.1 kc0 ks0 n L h (.int (x - y) :: S)) : WpN g cl p l e R s m args below meth c Q d.2.2.1 kc0 ks0 pc L h (.int y :: .int x :: S) := by
  obtain ⟨hx, hb, hr, hml, hown, hts, hK, hE, hlocks, hnm, htab, htr⟩ := act
  subst hn
  intro ls st H locs cells slots r
  obtain ⟨ws, hL, ⟨v0, st0, rfl, h0, v1, st1, rfl, h1, hS⟩, hH, hP, hD, hSS, hc1, hc2⟩ := r
  have h0 : v0 = .int y := h0
  subst h0
  have h1 : v1 = .int x := h1
  subst h1
  exact lv_isub hx hb hd (K _ _ _ _ _ _ ⟨ws, hL, (SRN.push hS (show VN g ws (.int (x - y)) _ from rfl)), hH, hP, hD, hSS, hc1, hc2⟩)
theorem n_imul (act : Act ss TBL g cl bl xs d p l s m args meth c) {x y : Int32} (hd : decode d.2.1 pc = .ok (.imul, 1)) (hn : pc + 1 = n) (K : WpN g cl p l e R s m args below meth c Q d.2.2.1 kc0 ks0 n L h (.int (x * y) :: S)) : WpN g cl p l e R s m args below meth c Q d.2.2.1 kc0 ks0 pc L h (.int y :: .int x :: S) := by
  obtain ⟨hx, hb, hr, hml, hown, hts, hK, hE, hlocks, hnm, htab, htr⟩ := act
  subst hn
  intro ls st H locs cells slots r
  obtain ⟨ws, hL, ⟨v0, st0, rfl, h0, v1, st1, rfl, h1, hS⟩, hH, hP, hD, hSS, hc1, hc2⟩ := r
  have h0 : v0 = .int y := h0
  subst h0
  have h1 : v1 = .int x := h1
  subst h1
  exact lv_imul hx hb hd (K _ _ _ _ _ _ ⟨ws, hL, (SRN.push hS (show VN g ws (.int (x * y)) _ from rfl)), hH, hP, hD, hSS, hc1, hc2⟩)
theorem n_iand (act : Act ss TBL g cl bl xs d p l s m args meth c) {x y : Int32} (hd : decode d.2.1 pc = .ok (.iand, 1)) (hn : pc + 1 = n) (K : WpN g cl p l e R s m args below meth c Q d.2.2.1 kc0 ks0 n L h (.int (x &&& y) :: S)) : WpN g cl p l e R s m args below meth c Q d.2.2.1 kc0 ks0 pc L h (.int y :: .int x :: S) := by
  obtain ⟨hx, hb, hr, hml, hown, hts, hK, hE, hlocks, hnm, htab, htr⟩ := act
  subst hn
  intro ls st H locs cells slots r
  obtain ⟨ws, hL, ⟨v0, st0, rfl, h0, v1, st1, rfl, h1, hS⟩, hH, hP, hD, hSS, hc1, hc2⟩ := r
  have h0 : v0 = .int y := h0
  subst h0
  have h1 : v1 = .int x := h1
  subst h1
  exact lv_iand hx hb hd (K _ _ _ _ _ _ ⟨ws, hL, (SRN.push hS (show VN g ws (.int (x &&& y)) _ from rfl)), hH, hP, hD, hSS, hc1, hc2⟩)
theorem n_ior (act : Act ss TBL g cl bl xs d p l s m args meth c) {x y : Int32} (hd : decode d.2.1 pc = .ok (.ior, 1)) (hn : pc + 1 = n) (K : WpN g cl p l e R s m args below meth c Q d.2.2.1 kc0 ks0 n L h (.int (x ||| y) :: S)) : WpN g cl p l e R s m args below meth c Q d.2.2.1 kc0 ks0 pc L h (.int y :: .int x :: S) := by
  obtain ⟨hx, hb, hr, hml, hown, hts, hK, hE, hlocks, hnm, htab, htr⟩ := act
  subst hn
  intro ls st H locs cells slots r
  obtain ⟨ws, hL, ⟨v0, st0, rfl, h0, v1, st1, rfl, h1, hS⟩, hH, hP, hD, hSS, hc1, hc2⟩ := r
  have h0 : v0 = .int y := h0
  subst h0
  have h1 : v1 = .int x := h1
  subst h1
  exact lv_ior hx hb hd (K _ _ _ _ _ _ ⟨ws, hL, (SRN.push hS (show VN g ws (.int (x ||| y)) _ from rfl)), hH, hP, hD, hSS, hc1, hc2⟩)
theorem n_ixor (act : Act ss TBL g cl bl xs d p l s m args meth c) {x y : Int32} (hd : decode d.2.1 pc = .ok (.ixor, 1)) (hn : pc + 1 = n) (K : WpN g cl p l e R s m args below meth c Q d.2.2.1 kc0 ks0 n L h (.int (x ^^^ y) :: S)) : WpN g cl p l e R s m args below meth c Q d.2.2.1 kc0 ks0 pc L h (.int y :: .int x :: S) := by
  obtain ⟨hx, hb, hr, hml, hown, hts, hK, hE, hlocks, hnm, htab, htr⟩ := act
  subst hn
  intro ls st H locs cells slots r
  obtain ⟨ws, hL, ⟨v0, st0, rfl, h0, v1, st1, rfl, h1, hS⟩, hH, hP, hD, hSS, hc1, hc2⟩ := r
  have h0 : v0 = .int y := h0
  subst h0
  have h1 : v1 = .int x := h1
  subst h1
  exact lv_ixor hx hb hd (K _ _ _ _ _ _ ⟨ws, hL, (SRN.push hS (show VN g ws (.int (x ^^^ y)) _ from rfl)), hH, hP, hD, hSS, hc1, hc2⟩)
theorem n_ishl (act : Act ss TBL g cl bl xs d p l s m args meth c) {x y : Int32} (hd : decode d.2.1 pc = .ok (.ishl, 1)) (hn : pc + 1 = n) (K : WpN g cl p l e R s m args below meth c Q d.2.2.1 kc0 ks0 n L h (.int (x <<< (y &&& 31)) :: S)) : WpN g cl p l e R s m args below meth c Q d.2.2.1 kc0 ks0 pc L h (.int y :: .int x :: S) := by
  obtain ⟨hx, hb, hr, hml, hown, hts, hK, hE, hlocks, hnm, htab, htr⟩ := act
  subst hn
  intro ls st H locs cells slots r
  obtain ⟨ws, hL, ⟨v0, st0, rfl, h0, v1, st1, rfl, h1, hS⟩, hH, hP, hD, hSS, hc1, hc2⟩ := r
  have h0 : v0 = .int y := h0
  subst h0
  have h1 : v1 = .int x := h1
  subst h1
  exact lv_ishl hx hb hd (K _ _ _ _ _ _ ⟨ws, hL, (SRN.push hS (show VN g ws (.int (x <<< (y &&& 31))) _ from rfl)), hH, hP, hD, hSS, hc1, hc2⟩)
theorem n_ishr (act : Act ss TBL g cl bl xs d p l s m args meth c) {x y : Int32} (hd : decode d.2.1 pc = .ok (.ishr, 1)) (hn : pc + 1 = n) (K : WpN g cl p l e R s m args below meth c Q d.2.2.1 kc0 ks0 n L h (.int (x >>> (y &&& 31)) :: S)) : WpN g cl p l e R s m args below meth c Q d.2.2.1 kc0 ks0 pc L h (.int y :: .int x :: S) := by
  obtain ⟨hx, hb, hr, hml, hown, hts, hK, hE, hlocks, hnm, htab, htr⟩ := act
  subst hn
  intro ls st H locs cells slots r
  obtain ⟨ws, hL, ⟨v0, st0, rfl, h0, v1, st1, rfl, h1, hS⟩, hH, hP, hD, hSS, hc1, hc2⟩ := r
  have h0 : v0 = .int y := h0
  subst h0
  have h1 : v1 = .int x := h1
  subst h1
  exact lv_ishr hx hb hd (K _ _ _ _ _ _ ⟨ws, hL, (SRN.push hS (show VN g ws (.int (x >>> (y &&& 31))) _ from rfl)), hH, hP, hD, hSS, hc1, hc2⟩)
theorem n_ladd (act : Act ss TBL g cl bl xs d p l s m args meth c) {x y : Int64} (hd : decode d.2.1 pc = .ok (.ladd, 1)) (hn : pc + 1 = n) (K : WpN g cl p l e R s m args below meth c Q d.2.2.1 kc0 ks0 n L h (.long (x + y) :: S)) : WpN g cl p l e R s m args below meth c Q d.2.2.1 kc0 ks0 pc L h (.long y :: .long x :: S) := by
  obtain ⟨hx, hb, hr, hml, hown, hts, hK, hE, hlocks, hnm, htab, htr⟩ := act
  subst hn
  intro ls st H locs cells slots r
  obtain ⟨ws, hL, ⟨v0, st0, rfl, h0, v1, st1, rfl, h1, hS⟩, hH, hP, hD, hSS, hc1, hc2⟩ := r
  have h0 : v0 = .long y := h0
  subst h0
  have h1 : v1 = .long x := h1
  subst h1
  exact lv_ladd hx hb hd (K _ _ _ _ _ _ ⟨ws, hL, (SRN.push hS (show VN g ws (.long (x + y)) _ from rfl)), hH, hP, hD, hSS, hc1, hc2⟩)
theorem n_lsub (act : Act ss TBL g cl bl xs d p l s m args meth c) {x y : Int64} (hd : decode d.2.1 pc = .ok (.lsub, 1)) (hn : pc + 1 = n) (K : WpN g cl p l e R s m args below meth c Q d.2.2.1 kc0 ks0 n L h (.long (x - y) :: S)) : WpN g cl p l e R s m args below meth c Q d.2.2.1 kc0 ks0 pc L h (.long y :: .long x :: S) := by
  obtain ⟨hx, hb, hr, hml, hown, hts, hK, hE, hlocks, hnm, htab, htr⟩ := act
  subst hn
  intro ls st H locs cells slots r
  obtain ⟨ws, hL, ⟨v0, st0, rfl, h0, v1, st1, rfl, h1, hS⟩, hH, hP, hD, hSS, hc1, hc2⟩ := r
  have h0 : v0 = .long y := h0
  subst h0
  have h1 : v1 = .long x := h1
  subst h1
  exact lv_lsub hx hb hd (K _ _ _ _ _ _ ⟨ws, hL, (SRN.push hS (show VN g ws (.long (x - y)) _ from rfl)), hH, hP, hD, hSS, hc1, hc2⟩)
theorem n_lmul (act : Act ss TBL g cl bl xs d p l s m args meth c) {x y : Int64} (hd : decode d.2.1 pc = .ok (.lmul, 1)) (hn : pc + 1 = n) (K : WpN g cl p l e R s m args below meth c Q d.2.2.1 kc0 ks0 n L h (.long (x * y) :: S)) : WpN g cl p l e R s m args below meth c Q d.2.2.1 kc0 ks0 pc L h (.long y :: .long x :: S) := by
  obtain ⟨hx, hb, hr, hml, hown, hts, hK, hE, hlocks, hnm, htab, htr⟩ := act
  subst hn
  intro ls st H locs cells slots r
  obtain ⟨ws, hL, ⟨v0, st0, rfl, h0, v1, st1, rfl, h1, hS⟩, hH, hP, hD, hSS, hc1, hc2⟩ := r
  have h0 : v0 = .long y := h0
  subst h0
  have h1 : v1 = .long x := h1
  subst h1
  exact lv_lmul hx hb hd (K _ _ _ _ _ _ ⟨ws, hL, (SRN.push hS (show VN g ws (.long (x * y)) _ from rfl)), hH, hP, hD, hSS, hc1, hc2⟩)
theorem n_land (act : Act ss TBL g cl bl xs d p l s m args meth c) {x y : Int64} (hd : decode d.2.1 pc = .ok (.land, 1)) (hn : pc + 1 = n) (K : WpN g cl p l e R s m args below meth c Q d.2.2.1 kc0 ks0 n L h (.long (x &&& y) :: S)) : WpN g cl p l e R s m args below meth c Q d.2.2.1 kc0 ks0 pc L h (.long y :: .long x :: S) := by
  obtain ⟨hx, hb, hr, hml, hown, hts, hK, hE, hlocks, hnm, htab, htr⟩ := act
  subst hn
  intro ls st H locs cells slots r
  obtain ⟨ws, hL, ⟨v0, st0, rfl, h0, v1, st1, rfl, h1, hS⟩, hH, hP, hD, hSS, hc1, hc2⟩ := r
  have h0 : v0 = .long y := h0
  subst h0
  have h1 : v1 = .long x := h1
  subst h1
  exact lv_land hx hb hd (K _ _ _ _ _ _ ⟨ws, hL, (SRN.push hS (show VN g ws (.long (x &&& y)) _ from rfl)), hH, hP, hD, hSS, hc1, hc2⟩)
theorem n_lor (act : Act ss TBL g cl bl xs d p l s m args meth c) {x y : Int64} (hd : decode d.2.1 pc = .ok (.lor, 1)) (hn : pc + 1 = n) (K : WpN g cl p l e R s m args below meth c Q d.2.2.1 kc0 ks0 n L h (.long (x ||| y) :: S)) : WpN g cl p l e R s m args below meth c Q d.2.2.1 kc0 ks0 pc L h (.long y :: .long x :: S) := by
  obtain ⟨hx, hb, hr, hml, hown, hts, hK, hE, hlocks, hnm, htab, htr⟩ := act
  subst hn
  intro ls st H locs cells slots r
  obtain ⟨ws, hL, ⟨v0, st0, rfl, h0, v1, st1, rfl, h1, hS⟩, hH, hP, hD, hSS, hc1, hc2⟩ := r
  have h0 : v0 = .long y := h0
  subst h0
  have h1 : v1 = .long x := h1
  subst h1
  exact lv_lor hx hb hd (K _ _ _ _ _ _ ⟨ws, hL, (SRN.push hS (show VN g ws (.long (x ||| y)) _ from rfl)), hH, hP, hD, hSS, hc1, hc2⟩)
theorem n_idiv (act : Act ss TBL g cl bl xs d p l s m args meth c) {x y : Int32} (hd : decode d.2.1 pc = .ok (.idiv, 1)) (hne : ¬ y = 0) (hn : pc + 1 = n) (K : WpN g cl p l e R s m args below meth c Q d.2.2.1 kc0 ks0 n L h (.int (x / y) :: S)) : WpN g cl p l e R s m args below meth c Q d.2.2.1 kc0 ks0 pc L h (.int y :: .int x :: S) := by
  obtain ⟨hx, hb, hr, hml, hown, hts, hK, hE, hlocks, hnm, htab, htr⟩ := act
  subst hn
  intro ls st H locs cells slots r
  obtain ⟨ws, hL, ⟨v0, st0, rfl, h0, v1, st1, rfl, h1, hS⟩, hH, hP, hD, hSS, hc1, hc2⟩ := r
  have h0 : v0 = .int y := h0
  subst h0
  have h1 : v1 = .int x := h1
  subst h1
  exact lv_idiv hx hb hd hne (K _ _ _ _ _ _ ⟨ws, hL, (SRN.push hS (show VN g ws (.int (x / y)) _ from rfl)), hH, hP, hD, hSS, hc1, hc2⟩)
theorem n_irem (act : Act ss TBL g cl bl xs d p l s m args meth c) {x y : Int32} (hd : decode d.2.1 pc = .ok (.irem, 1)) (hne : ¬ y = 0) (hn : pc + 1 = n) (K : WpN g cl p l e R s m args below meth c Q d.2.2.1 kc0 ks0 n L h (.int (x - x / y * y) :: S)) : WpN g cl p l e R s m args below meth c Q d.2.2.1 kc0 ks0 pc L h (.int y :: .int x :: S) := by
  obtain ⟨hx, hb, hr, hml, hown, hts, hK, hE, hlocks, hnm, htab, htr⟩ := act
  subst hn
  intro ls st H locs cells slots r
  obtain ⟨ws, hL, ⟨v0, st0, rfl, h0, v1, st1, rfl, h1, hS⟩, hH, hP, hD, hSS, hc1, hc2⟩ := r
  have h0 : v0 = .int y := h0
  subst h0
  have h1 : v1 = .int x := h1
  subst h1
  exact lv_irem hx hb hd hne (K _ _ _ _ _ _ ⟨ws, hL, (SRN.push hS (show VN g ws (.int (x - x / y * y)) _ from rfl)), hH, hP, hD, hSS, hc1, hc2⟩)
theorem n_ldiv (act : Act ss TBL g cl bl xs d p l s m args meth c) {x y : Int64} (hd : decode d.2.1 pc = .ok (.ldiv, 1)) (hne : ¬ y = 0) (hn : pc + 1 = n) (K : WpN g cl p l e R s m args below meth c Q d.2.2.1 kc0 ks0 n L h (.long (x / y) :: S)) : WpN g cl p l e R s m args below meth c Q d.2.2.1 kc0 ks0 pc L h (.long y :: .long x :: S) := by
  obtain ⟨hx, hb, hr, hml, hown, hts, hK, hE, hlocks, hnm, htab, htr⟩ := act
  subst hn
  intro ls st H locs cells slots r
  obtain ⟨ws, hL, ⟨v0, st0, rfl, h0, v1, st1, rfl, h1, hS⟩, hH, hP, hD, hSS, hc1, hc2⟩ := r
  have h0 : v0 = .long y := h0
  subst h0
  have h1 : v1 = .long x := h1
  subst h1
  exact lv_ldiv hx hb hd hne (K _ _ _ _ _ _ ⟨ws, hL, (SRN.push hS (show VN g ws (.long (x / y)) _ from rfl)), hH, hP, hD, hSS, hc1, hc2⟩)
theorem n_lrem (act : Act ss TBL g cl bl xs d p l s m args meth c) {x y : Int64} (hd : decode d.2.1 pc = .ok (.lrem, 1)) (hne : ¬ y = 0) (hn : pc + 1 = n) (K : WpN g cl p l e R s m args below meth c Q d.2.2.1 kc0 ks0 n L h (.long (x - x / y * y) :: S)) : WpN g cl p l e R s m args below meth c Q d.2.2.1 kc0 ks0 pc L h (.long y :: .long x :: S) := by
  obtain ⟨hx, hb, hr, hml, hown, hts, hK, hE, hlocks, hnm, htab, htr⟩ := act
  subst hn
  intro ls st H locs cells slots r
  obtain ⟨ws, hL, ⟨v0, st0, rfl, h0, v1, st1, rfl, h1, hS⟩, hH, hP, hD, hSS, hc1, hc2⟩ := r
  have h0 : v0 = .long y := h0
  subst h0
  have h1 : v1 = .long x := h1
  subst h1
  exact lv_lrem hx hb hd hne (K _ _ _ _ _ _ ⟨ws, hL, (SRN.push hS (show VN g ws (.long (x - x / y * y)) _ from rfl)), hH, hP, hD, hSS, hc1, hc2⟩)
theorem n_ineg (act : Act ss TBL g cl bl xs d p l s m args meth c) {x : Int32} (hd : decode d.2.1 pc = .ok (.ineg, 1)) (hn : pc + 1 = n) (K : WpN g cl p l e R s m args below meth c Q d.2.2.1 kc0 ks0 n L h (.int (-x) :: S)) : WpN g cl p l e R s m args below meth c Q d.2.2.1 kc0 ks0 pc L h (.int x :: S) := by
  obtain ⟨hx, hb, hr, hml, hown, hts, hK, hE, hlocks, hnm, htab, htr⟩ := act
  subst hn
  intro ls st H locs cells slots r
  obtain ⟨ws, hL, ⟨v0, st0, rfl, h0, hS⟩, hH, hP, hD, hSS, hc1, hc2⟩ := r
  have h0 : v0 = .int x := h0
  subst h0
  exact lv_ineg hx hb hd (K _ _ _ _ _ _ ⟨ws, hL, (SRN.push hS (show VN g ws (.int (-x)) _ from rfl)), hH, hP, hD, hSS, hc1, hc2⟩)
theorem n_lneg (act : Act ss TBL g cl bl xs d p l s m args meth c) {x : Int64} (hd : decode d.2.1 pc = .ok (.lneg, 1)) (hn : pc + 1 = n) (K : WpN g cl p l e R s m args below meth c Q d.2.2.1 kc0 ks0 n L h (.long (-x) :: S)) : WpN g cl p l e R s m args below meth c Q d.2.2.1 kc0 ks0 pc L h (.long x :: S) := by
  obtain ⟨hx, hb, hr, hml, hown, hts, hK, hE, hlocks, hnm, htab, htr⟩ := act
  subst hn
  intro ls st H locs cells slots r
  obtain ⟨ws, hL, ⟨v0, st0, rfl, h0, hS⟩, hH, hP, hD, hSS, hc1, hc2⟩ := r
  have h0 : v0 = .long x := h0
  subst h0
  exact lv_lneg hx hb hd (K _ _ _ _ _ _ ⟨ws, hL, (SRN.push hS (show VN g ws (.long (-x)) _ from rfl)), hH, hP, hD, hSS, hc1, hc2⟩)
theorem n_i2b (act : Act ss TBL g cl bl xs d p l s m args meth c) {x : Int32} (hd : decode d.2.1 pc = .ok (.i2b, 1)) (hn : pc + 1 = n) (K : WpN g cl p l e R s m args below meth c Q d.2.2.1 kc0 ks0 n L h (.int x.toInt8.toInt32 :: S)) : WpN g cl p l e R s m args below meth c Q d.2.2.1 kc0 ks0 pc L h (.int x :: S) := by
  obtain ⟨hx, hb, hr, hml, hown, hts, hK, hE, hlocks, hnm, htab, htr⟩ := act
  subst hn
  intro ls st H locs cells slots r
  obtain ⟨ws, hL, ⟨v0, st0, rfl, h0, hS⟩, hH, hP, hD, hSS, hc1, hc2⟩ := r
  have h0 : v0 = .int x := h0
  subst h0
  exact lv_i2b hx hb hd rfl (K _ _ _ _ _ _ ⟨ws, hL, (SRN.push hS (show VN g ws (.int x.toInt8.toInt32) _ from rfl)), hH, hP, hD, hSS, hc1, hc2⟩)
theorem n_i2l (act : Act ss TBL g cl bl xs d p l s m args meth c) {x : Int32} (hd : decode d.2.1 pc = .ok (.i2l, 1)) (hn : pc + 1 = n) (K : WpN g cl p l e R s m args below meth c Q d.2.2.1 kc0 ks0 n L h (.long x.toInt64 :: S)) : WpN g cl p l e R s m args below meth c Q d.2.2.1 kc0 ks0 pc L h (.int x :: S) := by
  obtain ⟨hx, hb, hr, hml, hown, hts, hK, hE, hlocks, hnm, htab, htr⟩ := act
  subst hn
  intro ls st H locs cells slots r
  obtain ⟨ws, hL, ⟨v0, st0, rfl, h0, hS⟩, hH, hP, hD, hSS, hc1, hc2⟩ := r
  have h0 : v0 = .int x := h0
  subst h0
  exact lv_i2l hx hb hd rfl (K _ _ _ _ _ _ ⟨ws, hL, (SRN.push hS (show VN g ws (.long x.toInt64) _ from rfl)), hH, hP, hD, hSS, hc1, hc2⟩)
theorem n_l2i (act : Act ss TBL g cl bl xs d p l s m args meth c) {x : Int64} (hd : decode d.2.1 pc = .ok (.l2i, 1)) (hn : pc + 1 = n) (K : WpN g cl p l e R s m args below meth c Q d.2.2.1 kc0 ks0 n L h (.int x.toInt32 :: S)) : WpN g cl p l e R s m args below meth c Q d.2.2.1 kc0 ks0 pc L h (.long x :: S) := by
  obtain ⟨hx, hb, hr, hml, hown, hts, hK, hE, hlocks, hnm, htab, htr⟩ := act
  subst hn
  intro ls st H locs cells slots r
  obtain ⟨ws, hL, ⟨v0, st0, rfl, h0, hS⟩, hH, hP, hD, hSS, hc1, hc2⟩ := r
  have h0 : v0 = .long x := h0
  subst h0
  exact lv_l2i hx hb hd rfl (K _ _ _ _ _ _ ⟨ws, hL, (SRN.push hS (show VN g ws (.int x.toInt32) _ from rfl)), hH, hP, hD, hSS, hc1, hc2⟩)
theorem n_i2f (act : Act ss TBL g cl bl xs d p l s m args meth c) {x : Int32} (hd : decode d.2.1 pc = .ok (.i2f, 1)) (hn : pc + 1 = n) (K : WpN g cl p l e R s m args below meth c Q d.2.2.1 kc0 ks0 n L h (.float (FP.i2f x) :: S)) : WpN g cl p l e R s m args below meth c Q d.2.2.1 kc0 ks0 pc L h (.int x :: S) := by
  obtain ⟨hx, hb, hr, hml, hown, hts, hK, hE, hlocks, hnm, htab, htr⟩ := act
  subst hn
  intro ls st H locs cells slots r
  obtain ⟨ws, hL, ⟨v0, st0, rfl, h0, hS⟩, hH, hP, hD, hSS, hc1, hc2⟩ := r
  have h0 : v0 = .int x := h0
  subst h0
  exact lv_i2f hx hb hd (K _ _ _ _ _ _ ⟨ws, hL, (SRN.push hS (show VN g ws (.float (FP.i2f x)) _ from rfl)), hH, hP, hD, hSS, hc1, hc2⟩)
theorem n_l2f (act : Act ss TBL g cl bl xs d p l s m args meth c) {x : Int64} (hd : decode d.2.1 pc = .ok (.l2f, 1)) (hn : pc + 1 = n) (K : WpN g cl p l e R s m args below meth c Q d.2.2.1 kc0 ks0 n L h (.float (FP.l2f x) :: S)) : WpN g cl p l e R s m args below meth c Q d.2.2.1 kc0 ks0 pc L h (.long x :: S) := by
  obtain ⟨hx, hb, hr, hml, hown, hts, hK, hE, hlocks, hnm, htab, htr⟩ := act
  subst hn
  intro ls st H locs cells slots r
  obtain ⟨ws, hL, ⟨v0, st0, rfl, h0, hS⟩, hH, hP, hD, hSS, hc1, hc2⟩ := r
  have h0 : v0 = .long x := h0
  subst h0
  exact lv_l2f hx hb hd (K _ _ _ _ _ _ ⟨ws, hL, (SRN.push hS (show VN g ws (.float (FP.l2f x)) _ from rfl)), hH, hP, hD, hSS, hc1, hc2⟩)
theorem n_i2d (act : Act ss TBL g cl bl xs d p l s m args meth c) {x : Int32} (hd : decode d.2.1 pc = .ok (.i2d, 1)) (hn : pc + 1 = n) (K : WpN g cl p l e R s m args below meth c Q d.2.2.1 kc0 ks0 n L h (.double (FP.i2d x) :: S)) : WpN g cl p l e R s m args below meth c Q d.2.2.1 kc0 ks0 pc L h (.int x :: S) := by
  obtain ⟨hx, hb, hr, hml, hown, hts, hK, hE, hlocks, hnm, htab, htr⟩ := act
  subst hn
  intro ls st H locs cells slots r
  obtain ⟨ws, hL, ⟨v0, st0, rfl, h0, hS⟩, hH, hP, hD, hSS, hc1, hc2⟩ := r
  have h0 : v0 = .int x := h0
  subst h0
  exact lv_i2d hx hb hd (K _ _ _ _ _ _ ⟨ws, hL, (SRN.push hS (show VN g ws (.double (FP.i2d x)) _ from rfl)), hH, hP, hD, hSS, hc1, hc2⟩)
theorem n_l2d (act : Act ss TBL g cl bl xs d p l s m args meth c) {x : Int64} (hd : decode d.2.1 pc = .ok (.l2d, 1)) (hn : pc + 1 = n) (K : WpN g cl p l e R s m args below meth c Q d.2.2.1 kc0 ks0 n L h (.double (FP.l2d x) :: S)) : WpN g cl p l e R s m args below meth c Q d.2.2.1 kc0 ks0 pc L h (.long x :: S) := by
  obtain ⟨hx, hb, hr, hml, hown, hts, hK, hE, hlocks, hnm, htab, htr⟩ := act
  subst hn
  intro ls st H locs cells slots r
  obtain ⟨ws, hL, ⟨v0, st0, rfl, h0, hS⟩, hH, hP, hD, hSS, hc1, hc2⟩ := r
  have h0 : v0 = .long x := h0
  subst h0
  exact lv_l2d hx hb hd (K _ _ _ _ _ _ ⟨ws, hL, (SRN.push hS (show VN g ws (.double (FP.l2d x)) _ from rfl)), hH, hP, hD, hSS, hc1, hc2⟩)
theorem n_fsub (act : Act ss TBL g cl bl xs d p l s m args meth c) {x y : UInt32} (hd : decode d.2.1 pc = .ok (.fsub, 1)) (hne : vf_n32 (FP.fsub x y)) (hn : pc + 1 = n) (K : WpN g cl p l e R s m args below meth c Q d.2.2.1 kc0 ks0 n L h (.float (FP.fsub x y) :: S)) : WpN g cl p l e R s m args below meth c Q d.2.2.1 kc0 ks0 pc L h (.float y :: .float x :: S) := by
  obtain ⟨hx, hb, hr, hml, hown, hts, hK, hE, hlocks, hnm, htab, htr⟩ := act
  subst hn
  intro ls st H locs cells slots r
  obtain ⟨ws, hL, ⟨v0, st0, rfl, h0, v1, st1, rfl, h1, hS⟩, hH, hP, hD, hSS, hc1, hc2⟩ := r
  have h0 : v0 = .float y := h0
  subst h0
  have h1 : v1 = .float x := h1
  subst h1
  exact lv_fsub hx hb hd hne (K _ _ _ _ _ _ ⟨ws, hL, (SRN.push hS (show VN g ws (.float (FP.fsub x y)) _ from rfl)), hH, hP, hD, hSS, hc1, hc2⟩)
theorem n_fmul (act : Act ss TBL g cl bl xs d p l s m args meth c) {x y : UInt32} (hd : decode d.2.1 pc = .ok (.fmul, 1)) (hne : vf_n32 (FP.fmul x y)) (hn : pc + 1 = n) (K : WpN g cl p l e R s m args below meth c Q d.2.2.1 kc0 ks0 n L h (.float (FP.fmul x y) :: S)) : WpN g cl p l e R s m args below meth c Q d.2.2.1 kc0 ks0 pc L h (.float y :: .float x :: S) := by
  obtain ⟨hx, hb, hr, hml, hown, hts, hK, hE, hlocks, hnm, htab, htr⟩ := act
  subst hn
  intro ls st H locs cells slots r
  obtain ⟨ws, hL, ⟨v0, st0, rfl, h0, v1, st1, rfl, h1, hS⟩, hH, hP, hD, hSS, hc1, hc2⟩ := r
  have h0 : v0 = .float y := h0
  subst h0
  have h1 : v1 = .float x := h1
  subst h1
  exact lv_fmul hx hb hd hne (K _ _ _ _ _ _ ⟨ws, hL, (SRN.push hS (show VN g ws (.float (FP.fmul x y)) _ from rfl)), hH, hP, hD, hSS, hc1, hc2⟩)
theorem n_fdiv (act : Act ss TBL g cl bl xs d p l s m args meth c) {x y : UInt32} (hd : decode d.2.1 pc = .ok (.fdiv, 1)) (hne : vf_n32 (FP.fdiv x y)) (hn : pc + 1 = n) (K : WpN g cl p l e R s m args below meth c Q d.2.2.1 kc0 ks0 n L h (.float (FP.fdiv x y) :: S)) : WpN g cl p l e R s m args below meth c Q d.2.2.1 kc0 ks0 pc L h (.float y :: .float x :: S) := by
  obtain ⟨hx, hb, hr, hml, hown, hts, hK, hE, hlocks, hnm, htab, htr⟩ := act
  subst hn
  intro ls st H locs cells slots r
  obtain ⟨ws, hL, ⟨v0, st0, rfl, h0, v1, st1, rfl, h1, hS⟩, hH, hP, hD, hSS, hc1, hc2⟩ := r
  have h0 : v0 = .float y := h0
  subst h0
  have h1 : v1 = .float x := h1
  subst h1
  exact lv_fdiv hx hb hd hne (K _ _ _ _ _ _ ⟨ws, hL, (SRN.push hS (show VN g ws (.float (FP.fdiv x y)) _ from rfl)), hH, hP, hD, hSS, hc1, hc2⟩)
theorem n_ddiv (act : Act ss TBL g cl bl xs d p l s m args meth c) {x y : UInt64} (hd : decode d.2.1 pc = .ok (.ddiv, 1)) (hne : vf_n64 (FP.ddiv x y)) (hn : pc + 1 = n) (K : WpN g cl p l e R s m args below meth c Q d.2.2.1 kc0 ks0 n L h (.double (FP.ddiv x y) :: S)) : WpN g cl p l e R s m args below meth c Q d.2.2.1 kc0 ks0 pc L h (.double y :: .double x :: S) := by
  obtain ⟨hx, hb, hr, hml, hown, hts, hK, hE, hlocks, hnm, htab, htr⟩ := act
  subst hn
  intro ls st H locs cells slots r
  obtain ⟨ws, hL, ⟨v0, st0, rfl, h0, v1, st1, rfl, h1, hS⟩, hH, hP, hD, hSS, hc1, hc2⟩ := r
  have h0 : v0 = .double y := h0
  subst h0
  have h1 : v1 = .double x := h1
  subst h1
  exact lv_ddiv hx hb hd hne (K _ _ _ _ _ _ ⟨ws, hL, (SRN.push hS (show VN g ws (.double (FP.ddiv x y)) _ from rfl)), hH, hP, hD, hSS, hc1, hc2⟩)
theorem n_lcmp (act : Act ss TBL g cl bl xs d p l s m args meth c) {x y : Int64} (hd : decode d.2.1 pc = .ok (.lcmp, 1)) (hn : pc + 1 = n) (K : WpN g cl p l e R s m args below meth c Q d.2.2.1 kc0 ks0 n L h (.int (lg_cmp x y) :: S)) : WpN g cl p l e R s m args below meth c Q d.2.2.1 kc0 ks0 pc L h (.long y :: .long x :: S) := by
  obtain ⟨hx, hb, hr, hml, hown, hts, hK, hE, hlocks, hnm, htab, htr⟩ := act
  subst hn
  intro ls st H locs cells slots r
  obtain ⟨ws, hL, ⟨v0, st0, rfl, h0, v1, st1, rfl, h1, hS⟩, hH, hP, hD, hSS, hc1, hc2⟩ := r
  have h0 : v0 = .long y := h0
  subst h0
  have h1 : v1 = .long x := h1
  subst h1
  exact W.lcmp hx hb hd (K _ _ _ _ _ _ ⟨ws, hL, (SRN.push hS (show VN g ws (.int (lg_cmp x y)) _ from rfl)), hH, hP, hD, hSS, hc1, hc2⟩)
theorem n_fcmp (act : Act ss TBL g cl bl xs d p l s m args meth c) {x y : UInt32} {op : CmpOp} (hd : decode d.2.1 pc = .ok (.fcmp op, 1)) (hn : pc + 1 = n) (K : WpN g cl p l e R s m args below meth c Q d.2.2.1 kc0 ks0 n L h (.int (Op.cmpValue (FP.fcmp x y) op) :: S)) : WpN g cl p l e R s m args below meth c Q d.2.2.1 kc0 ks0 pc L h (.float y :: .float x :: S) := by
  obtain ⟨hx, hb, hr, hml, hown, hts, hK, hE, hlocks, hnm, htab, htr⟩ := act
  subst hn
  intro ls st H locs cells slots r
  obtain ⟨ws, hL, ⟨v0, st0, rfl, h0, v1, st1, rfl, h1, hS⟩, hH, hP, hD, hSS, hc1, hc2⟩ := r
  have h0 : v0 = .float y := h0
  subst h0
  have h1 : v1 = .float x := h1
  subst h1
  exact lv_fcmp hx hb hd (K _ _ _ _ _ _ ⟨ws, hL, (SRN.push hS (show VN g ws (.int (Op.cmpValue (FP.fcmp x y) op)) _ from rfl)), hH, hP, hD, hSS, hc1, hc2⟩)
theorem n_f2i (act : Act ss TBL g cl bl xs d p l s m args meth c) {x : UInt32} (hd : decode d.2.1 pc = .ok (.f2i, 1)) (hn : pc + 1 = n) (K : WpN g cl p l e R s m args below meth c Q d.2.2.1 kc0 ks0 n L h (.int (FP.f2i x) :: S)) : WpN g cl p l e R s m args below meth c Q d.2.2.1 kc0 ks0 pc L h (.float x :: S) := by
  obtain ⟨hx, hb, hr, hml, hown, hts, hK, hE, hlocks, hnm, htab, htr⟩ := act
  subst hn
  intro ls st H locs cells slots r
  obtain ⟨ws, hL, ⟨v0, st0, rfl, h0, hS⟩, hH, hP, hD, hSS, hc1, hc2⟩ := r
  have h0 : v0 = .float x := h0
  subst h0
  exact lv_f2i hx hb hd (K _ _ _ _ _ _ ⟨ws, hL, (SRN.push hS (show VN g ws (.int (FP.f2i x)) _ from rfl)), hH, hP, hD, hSS, hc1, hc2⟩)
theorem n_pop (act : Act ss TBL g cl bl xs d p l s m args meth c) {v : Value} (hd : decode d.2.1 pc = .ok (.pop, 1)) (hcv : v.category = 1) (hn : pc + 1 = n) (K : WpN g cl p l e R s m args below meth c Q d.2.2.1 kc0 ks0 n L h S) : WpN g cl p l e R s m args below meth c Q d.2.2.1 kc0 ks0 pc L h (v :: S) := by
  obtain ⟨hx, hb, hr, hml, hown, hts, hK, hE, hlocks, hnm, htab, htr⟩ := act
  subst hn
  intro ls st H locs cells slots r
  obtain ⟨ws, hL, ⟨v0, st0, rfl, h0, hS⟩, hH, hP, hD, hSS, hc1, hc2⟩ := r
  exact lv_pop hx hb hd (by rw [h0.cat]; exact hcv) (K _ _ _ _ _ _ ⟨ws, hL, hS, hH, hP, hD, hSS, hc1, hc2⟩)
theorem n_dup (act : Act ss TBL g cl bl xs d p l s m args meth c) {v : Value} (hd : decode d.2.1 pc = .ok (.dup, 1)) (hcv : v.category = 1) (hn : pc + 1 = n) (K : WpN g cl p l e R s m args below meth c Q d.2.2.1 kc0 ks0 n L h (v :: v :: S)) : WpN g cl p l e R s m args below meth c Q d.2.2.1 kc0 ks0 pc L h (v :: S) := by
  obtain ⟨hx, hb, hr, hml, hown, hts, hK, hE, hlocks, hnm, htab, htr⟩ := act
  subst hn
  intro ls st H locs cells slots r
  obtain ⟨ws, hL, ⟨v0, st0, rfl, h0, hS⟩, hH, hP, hD, hSS, hc1, hc2⟩ := r
  exact lv_dup hx hb hd (by rw [h0.cat]; exact hcv) (K _ _ _ _ _ _ ⟨ws, hL, SRN.push (SRN.push hS h0) h0, hH, hP, hD, hSS, hc1, hc2⟩)
theorem n_dup_x1 (act : Act ss TBL g cl bl xs d p l s m args meth c) {v u : Value} (hd : decode d.2.1 pc = .ok (.dup_x1, 1)) (hcv : v.category = 1) (hcu : u.category = 1) (hn : pc + 1 = n) (K : WpN g cl p l e R s m args below meth c Q d.2.2.1 kc0 ks0 n L h (v :: u :: v :: S)) : WpN g cl p l e R s m args below meth c Q d.2.2.1 kc0 ks0 pc L h (v :: u :: S) := by
  obtain ⟨hx, hb, hr, hml, hown, hts, hK, hE, hlocks, hnm, htab, htr⟩ := act
  subst hn
  intro ls st H locs cells slots r
  obtain ⟨ws, hL, ⟨v0, st0, rfl, h0, v1, st1, rfl, h1, hS⟩, hH, hP, hD, hSS, hc1, hc2⟩ := r
  exact lv_dup_x1 hx hb hd (by rw [h0.cat]; exact hcv) (by rw [h1.cat]; exact hcu) (K _ _ _ _ _ _ ⟨ws, hL, SRN.push (SRN.push (SRN.push hS h0) h1) h0, hH, hP, hD, hSS, hc1, hc2⟩)
theorem n_dup2_11 (act : Act ss TBL g cl bl xs d p l s m args meth c) {v u : Value} (hd : decode d.2.1 pc = .ok (.dup2, 1)) (hcv : v.category = 1) (hcu : u.category = 1) (hn : pc + 1 = n) (K : WpN g cl p l e R s m args below meth c Q d.2.2.1 kc0 ks0 n L h (v :: u :: v :: u :: S)) : WpN g cl p l e R s m args below meth c Q d.2.2.1 kc0 ks0 pc L h (v :: u :: S) := by
  obtain ⟨hx, hb, hr, hml, hown, hts, hK, hE, hlocks, hnm, htab, htr⟩ := act
  subst hn
  intro ls st H locs cells slots r
  obtain ⟨ws, hL, ⟨v0, st0, rfl, h0, v1, st1, rfl, h1, hS⟩, hH, hP, hD, hSS, hc1, hc2⟩ := r
  exact lv_dup2_11 hx hb hd (by rw [h0.cat]; exact hcv) (by rw [h1.cat]; exact hcu) (K _ _ _ _ _ _ ⟨ws, hL, SRN.push (SRN.push (SRN.push (SRN.push hS h1) h0) h1) h0, hH, hP, hD, hSS, hc1, hc2⟩)
theorem n_goto (act : Act ss TBL g cl bl xs d p l s m args meth c) {off : Int} (hd : decode d.2.1 pc = .ok (.goto off, 3)) (ht : (pc : Int) + off = (n : Int)) (K : WpN g cl p l e R s m args below meth c Q d.2.2.1 kc0 ks0 n L h S) : WpN g cl p l e R s m args below meth c Q d.2.2.1 kc0 ks0 pc L h S := by
  obtain ⟨hx, hb, hr, hml, hown, hts, hK, hE, hlocks, hnm, htab, htr⟩ := act
  intro ls st H locs cells slots r
  exact lv_goto hx hb hd ht (K _ _ _ _ _ _ r)
theorem n_ifEq (act : Act ss TBL g cl bl xs d p l s m args meth c) {x : Int32} {off : Int} {tgt : Nat} (hd : decode d.2.1 pc = .ok (.ifCond .eq off, 3)) (ht : (pc : Int) + off = (tgt : Int)) (hn : pc + 3 = n) (Kt : x = 0 → WpN g cl p l e R s m args below meth c Q d.2.2.1 kc0 ks0 tgt L h S) (Kf : ¬ (x = 0) → WpN g cl p l e R s m args below meth c Q d.2.2.1 kc0 ks0 n L h S) : WpN g cl p l e R s m args below meth c Q d.2.2.1 kc0 ks0 pc L h (.int x :: S) := by
  obtain ⟨hx, hb, hr, hml, hown, hts, hK, hE, hlocks, hnm, htab, htr⟩ := act
  subst hn
  intro ls st H locs cells slots r
  obtain ⟨ws, hL, ⟨v0, st0, rfl, h0, hS⟩, hH, hP, hD, hSS, hc1, hc2⟩ := r
  have h0 : v0 = .int x := h0
  subst h0
  exact lv_if_eq hx hb hd ht (fun q => Kt q _ _ _ _ _ _ ⟨ws, hL, hS, hH, hP, hD, hSS, hc1, hc2⟩) (fun q => Kf q _ _ _ _ _ _ ⟨ws, hL, hS, hH, hP, hD, hSS, hc1, hc2⟩)
theorem n_icmpEq (act : Act ss TBL g cl bl xs d p l s m args meth c) {x y : Int32} {off : Int} {tgt : Nat} (hd : decode d.2.1 pc = .ok (.if_icmp .eq off, 3)) (ht : (pc : Int) + off = (tgt : Int)) (hn : pc + 3 = n) (Kt : x = y → WpN g cl p l e R s m args below meth c Q d.2.2.1 kc0 ks0 tgt L h S) (Kf : ¬ (x = y) → WpN g cl p l e R s m args below meth c Q d.2.2.1 kc0 ks0 n L h S) : WpN g cl p l e R s m args below meth c Q d.2.2.1 kc0 ks0 pc L h (.int y :: .int x :: S) := by
  obtain ⟨hx, hb, hr, hml, hown, hts, hK, hE, hlocks, hnm, htab, htr⟩ := act
  subst hn
  intro ls st H locs cells slots r
  obtain ⟨ws, hL, ⟨v0, st0, rfl, h0, v1, st1, rfl, h1, hS⟩, hH, hP, hD, hSS, hc1, hc2⟩ := r
  have h0 : v0 = .int y := h0
  subst h0
  have h1 : v1 = .int x := h1
  subst h1
  exact lv_icmp_eq hx hb hd ht (fun q => Kt q _ _ _ _ _ _ ⟨ws, hL, hS, hH, hP, hD, hSS, hc1, hc2⟩) (fun q => Kf q _ _ _ _ _ _ ⟨ws, hL, hS, hH, hP, hD, hSS, hc1, hc2⟩)
theorem n_ifNe (act : Act ss TBL g cl bl xs d p l s m args meth c) {x : Int32} {off : Int} {tgt : Nat} (hd : decode d.2.1 pc = .ok (.ifCond .ne off, 3)) (ht : (pc : Int) + off = (tgt : Int)) (hn : pc + 3 = n) (Kt : ¬ x = 0 → WpN g cl p l e R s m args below meth c Q d.2.2.1 kc0 ks0 tgt L h S) (Kf : ¬ (¬ x = 0) → WpN g cl p l e R s m args below meth c Q d.2.2.1 kc0 ks0 n L h S) : WpN g cl p l e R s m args below meth c Q d.2.2.1 kc0 ks0 pc L h (.int x :: S) := by
  obtain ⟨hx, hb, hr, hml, hown, hts, hK, hE, hlocks, hnm, htab, htr⟩ := act
  subst hn
  intro ls st H locs cells slots r
  obtain ⟨ws, hL, ⟨v0, st0, rfl, h0, hS⟩, hH, hP, hD, hSS, hc1, hc2⟩ := r
  have h0 : v0 = .int x := h0
  subst h0
  exact lv_if_ne hx hb hd ht (fun q => Kt q _ _ _ _ _ _ ⟨ws, hL, hS, hH, hP, hD, hSS, hc1, hc2⟩) (fun q => Kf (fun z => z q) _ _ _ _ _ _ ⟨ws, hL, hS, hH, hP, hD, hSS, hc1, hc2⟩)
theorem n_icmpNe (act : Act ss TBL g cl bl xs d p l s m args meth c) {x y : Int32} {off : Int} {tgt : Nat} (hd : decode d.2.1 pc = .ok (.if_icmp .ne off, 3)) (ht : (pc : Int) + off = (tgt : Int)) (hn : pc + 3 = n) (Kt : ¬ x = y → WpN g cl p l e R s m args below meth c Q d.2.2.1 kc0 ks0 tgt L h S) (Kf : ¬ (¬ x = y) → WpN g cl p l e R s m args below meth c Q d.2.2.1 kc0 ks0 n L h S) : WpN g cl p l e R s m args below meth c Q d.2.2.1 kc0 ks0 pc L h (.int y :: .int x :: S) := by
  obtain ⟨hx, hb, hr, hml, hown, hts, hK, hE, hlocks, hnm, htab, htr⟩ := act
  subst hn
  intro ls st H locs cells slots r
  obtain ⟨ws, hL, ⟨v0, st0, rfl, h0, v1, st1, rfl, h1, hS⟩, hH, hP, hD, hSS, hc1, hc2⟩ := r
  have h0 : v0 = .int y := h0
  subst h0
  have h1 : v1 = .int x := h1
  subst h1
  exact lv_icmp_ne hx hb hd ht (fun q => Kt q _ _ _ _ _ _ ⟨ws, hL, hS, hH, hP, hD, hSS, hc1, hc2⟩) (fun q => Kf (fun z => z q) _ _ _ _ _ _ ⟨ws, hL, hS, hH, hP, hD, hSS, hc1, hc2⟩)
theorem n_ifLt (act : Act ss TBL g cl bl xs d p l s m args meth c) {x : Int32} {off : Int} {tgt : Nat} (hd : decode d.2.1 pc = .ok (.ifCond .lt off, 3)) (ht : (pc : Int) + off = (tgt : Int)) (hn : pc + 3 = n) (Kt : x < 0 → WpN g cl p l e R s m args below meth c Q d.2.2.1 kc0 ks0 tgt L h S) (Kf : ¬ (x < 0) → WpN g cl p l e R s m args below meth c Q d.2.2.1 kc0 ks0 n L h S) : WpN g cl p l e R s m args below meth c Q d.2.2.1 kc0 ks0 pc L h (.int x :: S) := by
  obtain ⟨hx, hb, hr, hml, hown, hts, hK, hE, hlocks, hnm, htab, htr⟩ := act
  subst hn
  intro ls st H locs cells slots r
  obtain ⟨ws, hL, ⟨v0, st0, rfl, h0, hS⟩, hH, hP, hD, hSS, hc1, hc2⟩ := r
  have h0 : v0 = .int x := h0
  subst h0
  exact lv_if_lt hx hb hd ht (fun q => Kt q _ _ _ _ _ _ ⟨ws, hL, hS, hH, hP, hD, hSS, hc1, hc2⟩) (fun q => Kf q _ _ _ _ _ _ ⟨ws, hL, hS, hH, hP, hD, hSS, hc1, hc2⟩)
theorem n_icmpLt (act : Act ss TBL g cl bl xs d p l s m args meth c) {x y : Int32} {off : Int} {tgt : Nat} (hd : decode d.2.1 pc = .ok (.if_icmp .lt off, 3)) (ht : (pc : Int) + off = (tgt : Int)) (hn : pc + 3 = n) (Kt : x < y → WpN g cl p l e R s m args below meth c Q d.2.2.1 kc0 ks0 tgt L h S) (Kf : ¬ (x < y) → WpN g cl p l e R s m args below meth c Q d.2.2.1 kc0 ks0 n L h S) : WpN g cl p l e R s m args below meth c Q d.2.2.1 kc0 ks0 pc L h (.int y :: .int x :: S) := by
  obtain ⟨hx, hb, hr, hml, hown, hts, hK, hE, hlocks, hnm, htab, htr⟩ := act
  subst hn
  intro ls st H locs cells slots r
  obtain ⟨ws, hL, ⟨v0, st0, rfl, h0, v1, st1, rfl, h1, hS⟩, hH, hP, hD, hSS, hc1, hc2⟩ := r
  have h0 : v0 = .int y := h0
  subst h0
  have h1 : v1 = .int x := h1
  subst h1
  exact lv_icmp_lt hx hb hd ht (fun q => Kt q _ _ _ _ _ _ ⟨ws, hL, hS, hH, hP, hD, hSS, hc1, hc2⟩) (fun q => Kf q _ _ _ _ _ _ ⟨ws, hL, hS, hH, hP, hD, hSS, hc1, hc2⟩)
theorem n_ifGe (act : Act ss TBL g cl bl xs d p l s m args meth c) {x : Int32} {off : Int} {tgt : Nat} (hd : decode d.2.1 pc = .ok (.ifCond .ge off, 3)) (ht : (pc : Int) + off = (tgt : Int)) (hn : pc + 3 = n) (Kt : 0 ≤ x → WpN g cl p l e R s m args below meth c Q d.2.2.1 kc0 ks0 tgt L h S) (Kf : ¬ (0 ≤ x) → WpN g cl p l e R s m args below meth c Q d.2.2.1 kc0 ks0 n L h S) : WpN g cl p l e R s m args below meth c Q d.2.2.1 kc0 ks0 pc L h (.int x :: S) := by
  obtain ⟨hx, hb, hr, hml, hown, hts, hK, hE, hlocks, hnm, htab, htr⟩ := act
  subst hn
  intro ls st H locs cells slots r
  obtain ⟨ws, hL, ⟨v0, st0, rfl, h0, hS⟩, hH, hP, hD, hSS, hc1, hc2⟩ := r
  have h0 : v0 = .int x := h0
  subst h0
  exact lv_if_ge hx hb hd ht (fun q => Kt q _ _ _ _ _ _ ⟨ws, hL, hS, hH, hP, hD, hSS, hc1, hc2⟩) (fun q => Kf q _ _ _ _ _ _ ⟨ws, hL, hS, hH, hP, hD, hSS, hc1, hc2⟩)
theorem n_icmpGe (act : Act ss TBL g cl bl xs d p l s m args meth c) {x y : Int32} {off : Int} {tgt : Nat} (hd : decode d.2.1 pc = .ok (.if_icmp .ge off, 3)) (ht : (pc : Int) + off = (tgt : Int)) (hn : pc + 3 = n) (Kt : y ≤ x → WpN g cl p l e R s m args below meth c Q d.2.2.1 kc0 ks0 tgt L h S) (Kf : ¬ (y ≤ x) → WpN g cl p l e R s m args below meth c Q d.2.2.1 kc0 ks0 n L h S) : WpN g cl p l e R s m args below meth c Q d.2.2.1 kc0 ks0 pc L h (.int y :: .int x :: S) := by
  obtain ⟨hx, hb, hr, hml, hown, hts, hK, hE, hlocks, hnm, htab, htr⟩ := act
  subst hn
  intro ls st H locs cells slots r
  obtain ⟨ws, hL, ⟨v0, st0, rfl, h0, v1, st1, rfl, h1, hS⟩, hH, hP, hD, hSS, hc1, hc2⟩ := r
  have h0 : v0 = .int y := h0
  subst h0
  have h1 : v1 = .int x := h1
  subst h1
  exact lv_icmp_ge hx hb hd ht (fun q => Kt q _ _ _ _ _ _ ⟨ws, hL, hS, hH, hP, hD, hSS, hc1, hc2⟩) (fun q => Kf q _ _ _ _ _ _ ⟨ws, hL, hS, hH, hP, hD, hSS, hc1, hc2⟩)
theorem n_ifGt (act : Act ss TBL g cl bl xs d p l s m args meth c) {x : Int32} {off : Int} {tgt : Nat} (hd : decode d.2.1 pc = .ok (.ifCond .gt off, 3)) (ht : (pc : Int) + off = (tgt : Int)) (hn : pc + 3 = n) (Kt : 0 < x → WpN g cl p l e R s m args below meth c Q d.2.2.1 kc0 ks0 tgt L h S) (Kf : ¬ (0 < x) → WpN g cl p l e R s m args below meth c Q d.2.2.1 kc0 ks0 n L h S) : WpN g cl p l e R s m args below meth c Q d.2.2.1 kc0 ks0 pc L h (.int x :: S) := by
  obtain ⟨hx, hb, hr, hml, hown, hts, hK, hE, hlocks, hnm, htab, htr⟩ := act
  subst hn
  intro ls st H locs cells slots r
  obtain ⟨ws, hL, ⟨v0, st0, rfl, h0, hS⟩, hH, hP, hD, hSS, hc1, hc2⟩ := r
  have h0 : v0 = .int x := h0
  subst h0
  exact lv_if_gt hx hb hd ht (fun q => Kt q _ _ _ _ _ _ ⟨ws, hL, hS, hH, hP, hD, hSS, hc1, hc2⟩) (fun q => Kf q _ _ _ _ _ _ ⟨ws, hL, hS, hH, hP, hD, hSS, hc1, hc2⟩)
theorem n_icmpGt (act : Act ss TBL g cl bl xs d p l s m args meth c) {x y : Int32} {off : Int} {tgt : Nat} (hd : decode d.2.1 pc = .ok (.if_icmp .gt off, 3)) (ht : (pc : Int) + off = (tgt : Int)) (hn : pc + 3 = n) (Kt : y < x → WpN g cl p l e R s m args below meth c Q d.2.2.1 kc0 ks0 tgt L h S) (Kf : ¬ (y < x) → WpN g cl p l e R s m args below meth c Q d.2.2.1 kc0 ks0 n L h S) : WpN g cl p l e R s m args below meth c Q d.2.2.1 kc0 ks0 pc L h (.int y :: .int x :: S) := by
  obtain ⟨hx, hb, hr, hml, hown, hts, hK, hE, hlocks, hnm, htab, htr⟩ := act
  subst hn
  intro ls st H locs cells slots r
  obtain ⟨ws, hL, ⟨v0, st0, rfl, h0, v1, st1, rfl, h1, hS⟩, hH, hP, hD, hSS, hc1, hc2⟩ := r
  have h0 : v0 = .int y := h0
  subst h0
  have h1 : v1 = .int x := h1
  subst h1
  exact lv_icmp_gt hx hb hd ht (fun q => Kt q _ _ _ _ _ _ ⟨ws, hL, hS, hH, hP, hD, hSS, hc1, hc2⟩) (fun q => Kf q _ _ _ _ _ _ ⟨ws, hL, hS, hH, hP, hD, hSS, hc1, hc2⟩)
theorem n_ifLe (act : Act ss TBL g cl bl xs d p l s m args meth c) {x : Int32} {off : Int} {tgt : Nat} (hd : decode d.2.1 pc = .ok (.ifCond .le off, 3)) (ht : (pc : Int) + off = (tgt : Int)) (hn : pc + 3 = n) (Kt : x ≤ 0 → WpN g cl p l e R s m args below meth c Q d.2.2.1 kc0 ks0 tgt L h S) (Kf : ¬ (x ≤ 0) → WpN g cl p l e R s m args below meth c Q d.2.2.1 kc0 ks0 n L h S) : WpN g cl p l e R s m args below meth c Q d.2.2.1 kc0 ks0 pc L h (.int x :: S) := by
  obtain ⟨hx, hb, hr, hml, hown, hts, hK, hE, hlocks, hnm, htab, htr⟩ := act
  subst hn
  intro ls st H locs cells slots r
  obtain ⟨ws, hL, ⟨v0, st0, rfl, h0, hS⟩, hH, hP, hD, hSS, hc1, hc2⟩ := r
  have h0 : v0 = .int x := h0
  subst h0
  exact lv_if_le hx hb hd ht (fun q => Kt q _ _ _ _ _ _ ⟨ws, hL, hS, hH, hP, hD, hSS, hc1, hc2⟩) (fun q => Kf q _ _ _ _ _ _ ⟨ws, hL, hS, hH, hP, hD, hSS, hc1, hc2⟩)
theorem n_icmpLe (act : Act ss TBL g cl bl xs d p l s m args meth c) {x y : Int32} {off : Int} {tgt : Nat} (hd : decode d.2.1 pc = .ok (.if_icmp .le off, 3)) (ht : (pc : Int) + off = (tgt : Int)) (hn : pc + 3 = n) (Kt : x ≤ y → WpN g cl p l e R s m args below meth c Q d.2.2.1 kc0 ks0 tgt L h S) (Kf : ¬ (x ≤ y) → WpN g cl p l e R s m args below meth c Q d.2.2.1 kc0 ks0 n L h S) : WpN g cl p l e R s m args below meth c Q d.2.2.1 kc0 ks0 pc L h (.int y :: .int x :: S) := by
  obtain ⟨hx, hb, hr, hml, hown, hts, hK, hE, hlocks, hnm, htab, htr⟩ := act
  subst hn
  intro ls st H locs cells slots r
  obtain ⟨ws, hL, ⟨v0, st0, rfl, h0, v1, st1, rfl, h1, hS⟩, hH, hP, hD, hSS, hc1, hc2⟩ := r
  have h0 : v0 = .int y := h0
  subst h0
  have h1 : v1 = .int x := h1
  subst h1
  exact lv_icmp_le hx hb hd ht (fun q => Kt q _ _ _ _ _ _ ⟨ws, hL, hS, hH, hP, hD, hSS, hc1, hc2⟩) (fun q => Kf q _ _ _ _ _ _ ⟨ws, hL, hS, hH, hP, hD, hSS, hc1, hc2⟩)
theorem n_ifnonnull (act : Act ss TBL g cl bl xs d p l s m args meth c) {off : Int} {q : Nat} (hd : decode d.2.1 pc = .ok (.ifnonnull off, 3)) (ht : (pc : Int) + off = (n : Int)) (K : WpN g cl p l e R s m args below meth c Q d.2.2.1 kc0 ks0 n L h S) : WpN g cl p l e R s m args below meth c Q d.2.2.1 kc0 ks0 pc L h (.ref q :: S) := by
  obtain ⟨hx, hb, hr, hml, hown, hts, hK, hE, hlocks, hnm, htab, htr⟩ := act
  intro ls st H locs cells slots r
  obtain ⟨ws, hL, ⟨v0, st0, rfl, h0, hS⟩, hH, hP, hD, hSS, hc1, hc2⟩ := r
  obtain ⟨a9, rfl⟩ := h0.isref
  exact lv_ifnonnull hx hb hd ht (K _ _ _ _ _ _ ⟨ws, hL, hS, hH, hP, hD, hSS, hc1, hc2⟩)
theorem n_ifnonnullN (act : Act ss TBL g cl bl xs d p l s m args meth c) {off : Int} (hd : decode d.2.1 pc = .ok (.ifnonnull off, 3)) (hn : pc + 3 = n) (K : WpN g cl p l e R s m args below meth c Q d.2.2.1 kc0 ks0 n L h S) : WpN g cl p l e R s m args below meth c Q d.2.2.1 kc0 ks0 pc L h (.null :: S) := by
  obtain ⟨hx, hb, hr, hml, hown, hts, hK, hE, hlocks, hnm, htab, htr⟩ := act
  subst hn
  intro ls st H locs cells slots r
  obtain ⟨ws, hL, ⟨v0, st0, rfl, h0, hS⟩, hH, hP, hD, hSS, hc1, hc2⟩ := r
  have h0 : v0 = .null := h0
  subst h0
  exact lv_ifnonnullN hx hb hd (K _ _ _ _ _ _ ⟨ws, hL, hS, hH, hP, hD, hSS, hc1, hc2⟩)
theorem n_ifnull (act : Act ss TBL g cl bl xs d p l s m args meth c) {off : Int} {q : Nat} (hd : decode d.2.1 pc = .ok (.ifnull off, 3)) (hn : pc + 3 = n) (K : WpN g cl p l e R s m args below meth c Q d.2.2.1 kc0 ks0 n L h S) : WpN g cl p l e R s m args below meth c Q d.2.2.1 kc0 ks0 pc L h (.ref q :: S) := by
  obtain ⟨hx, hb, hr, hml, hown, hts, hK, hE, hlocks, hnm, htab, htr⟩ := act
  subst hn
  intro ls st H locs cells slots r
  obtain ⟨ws, hL, ⟨v0, st0, rfl, h0, hS⟩, hH, hP, hD, hSS, hc1, hc2⟩ := r
  obtain ⟨a9, rfl⟩ := h0.isref
  exact lv_ifnull hx hb hd (K _ _ _ _ _ _ ⟨ws, hL, hS, hH, hP, hD, hSS, hc1, hc2⟩)
theorem n_ifnullN (act : Act ss TBL g cl bl xs d p l s m args meth c) {off : Int} (hd : decode d.2.1 pc = .ok (.ifnull off, 3)) (ht : (pc : Int) + off = (n : Int)) (K : WpN g cl p l e R s m args below meth c Q d.2.2.1 kc0 ks0 n L h S) : WpN g cl p l e R s m args below meth c Q d.2.2.1 kc0 ks0 pc L h (.null :: S) := by
  obtain ⟨hx, hb, hr, hml, hown, hts, hK, hE, hlocks, hnm, htab, htr⟩ := act
  intro ls st H locs cells slots r
  obtain ⟨ws, hL, ⟨v0, st0, rfl, h0, hS⟩, hH, hP, hD, hSS, hc1, hc2⟩ := r
  have h0 : v0 = .null := h0
  subst h0
  exact lv_ifnullN hx hb hd ht (K _ _ _ _ _ _ ⟨ws, hL, hS, hH, hP, hD, hSS, hc1, hc2⟩)
theorem n_tabOut (act : Act ss TBL g cl bl xs d p l s m args meth c) {dflt lo hi : Int} {offs : Array Int} {len : Nat} {x : Int32} (hd : decode d.2.1 pc = .ok (.tableswitch dflt lo hi offs, len)) (ho : x.toInt < lo ∨ hi < x.toInt) (ht : (pc : Int) + dflt = (n : Int)) (K : WpN g cl p l e R s m args below meth c Q d.2.2.1 kc0 ks0 n L h S) : WpN g cl p l e R s m args below meth c Q d.2.2.1 kc0 ks0 pc L h (.int x :: S) := by
  obtain ⟨hx, hb, hr, hml, hown, hts, hK, hE, hlocks, hnm, htab, htr⟩ := act
  intro ls st H locs cells slots r
  obtain ⟨ws, hL, ⟨v0, st0, rfl, h0, hS⟩, hH, hP, hD, hSS, hc1, hc2⟩ := r
  have h0 : v0 = .int x := h0
  subst h0
  exact lv_tableOut hx hb hd ho ht (K _ _ _ _ _ _ ⟨ws, hL, hS, hH, hP, hD, hSS, hc1, hc2⟩)
theorem n_tabIn (act : Act ss TBL g cl bl xs d p l s m args meth c) {dflt lo hi off : Int} {offs : Array Int} {len : Nat} {x : Int32} (hd : decode d.2.1 pc = .ok (.tableswitch dflt lo hi offs, len)) (h1 : ¬ x.toInt < lo) (h2 : ¬ hi < x.toInt) (ho : offs[(x.toInt - lo).toNat]? = some off) (ht : (pc : Int) + off = (n : Int)) (K : WpN g cl p l e R s m args below meth c Q d.2.2.1 kc0 ks0 n L h S) : WpN g cl p l e R s m args below meth c Q d.2.2.1 kc0 ks0 pc L h (.int x :: S) := by
  obtain ⟨hx, hb, hr, hml, hown, hts, hK, hE, hlocks, hnm, htab, htr⟩ := act
  intro ls st H locs cells slots r
  obtain ⟨ws, hL, ⟨v0, st0, rfl, h0, hS⟩, hH, hP, hD, hSS, hc1, hc2⟩ := r
  have h0 : v0 = .int x := h0
  subst h0
  exact lv_tableIn hx hb hd h1 h2 ho ht (K _ _ _ _ _ _ ⟨ws, hL, hS, hH, hP, hD, hSS, hc1, hc2⟩)
/-- more may be counted -/
theorem n_widen {hs : List CE} {k1 k2 j1 j2 : Nat} (h1 : k1 ≤ j1) (h2 : k2 ≤ j2) (K : WpN g cl p l e R s m args below meth c Q d.2.2.1 kc0 ks0 pc L (hs, j1, j2) S) : WpN g cl p l e R s m args below meth c Q d.2.2.1 kc0 ks0 pc L (hs, k1, k2) S := by
  intro ls st H locs cells slots r T hT X
  obtain ⟨ws, hL, hS, hH, hP, hD, hSS, hc1, hc2⟩ := r
  exact K ls st H locs (cells + (j1 - k1)) (slots + (j2 - k2)) ⟨ws, hL, hS, hH, hP, hD, hSS, by show _ = j1; have : cells + kc0 = k1 := hc1; omega, by show _ = j2; have : slots + ks0 = k2 := hc2; omega⟩ T hT (stand_widen X (by omega) (by omega))
/-- fewer locals may be known -/
theorem n_forget {L2 : LN} (hL2 : ∀ (i : Nat) (v : Value), L2[i]? = some (some v) → L[i]? = some (some v)) (K : WpN g cl p l e R s m args below meth c Q d.2.2.1 kc0 ks0 pc L2 h S) : WpN g cl p l e R s m args below meth c Q d.2.2.1 kc0 ks0 pc L h S := by
  intro ls st H locs cells slots r
  obtain ⟨ws, ⟨lv, hl1, hl2⟩, hS, hH, hP, hD, hSS, hc1, hc2⟩ := r
  exact K _ _ _ _ _ _ ⟨ws, ⟨lv, hl1, fun i v hi => hl2 i v (hL2 i v hi)⟩, hS, hH, hP, hD, hSS, hc1, hc2⟩
end NOPS

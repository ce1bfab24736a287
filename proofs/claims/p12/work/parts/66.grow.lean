/-! The rows over plain states, asked by the programs' words. -/
section GROWS
variable {ss : SS} {TBL : List Cond} {g : GG} {cl : List vw_C} {ft : Nat → Nat → Nat} {mdl : Nat → Option MD} {bl : Nat} {xs : Nat → Int32} {d : MD} {p : Program} {l : Launch} {e : Env} {R : Room} {s : State} {m : MethodId} {args : Array Value} {below : List Frame} {meth : Method} {c : Code} {Q : State → Prop} {kc0 ks0 pc n w : Nat} {L : LN} {h : HN} {S : List Value}
theorem g_constI (act : Act ss TBL g cl bl xs d p l s m args meth c) (hG : G_const ss TBL cl ft mdl d pc w) {x : Int32} (hv : fb w = mkI (iEx x)) (hn : nxt w = n) (K : WpN g cl p l e R s m args below meth c Q d.2.2.1 kc0 ks0 n L h (.int x :: S)) : WpN g cl p l e R s m args below meth c Q d.2.2.1 kc0 ks0 pc L h S := by
  rcases hG with ⟨i, hd, h2, h3⟩ | ⟨i, hd, h2, h3⟩ | ⟨i, hd, h2, h3⟩ | ⟨i, hd, h2, h3⟩ | ⟨hd, h2, h3⟩ | ⟨hd, h2, h3⟩ | ⟨hd, h2, h3⟩ | ⟨i, v, hd, h2, hc, h3⟩ | ⟨i, v, hd, h2, hc, h3⟩ | ⟨i, v, hd, h2, hc, h3⟩ | ⟨i, tx, hd, h2, hc, h3⟩ | ⟨i, hd, h2, hc, h3⟩
  · have hq : iEx (Int32.ofInt i) = iEx x := by have := h3.symm.trans hv; rw [mkI_def, mkI_def] at this; omega
    have hq := iEx_inj.mp hq
    exact n_iconst act hd hq (by omega) K
  · have hq : iEx (Int8.ofInt i).toInt32 = iEx x := by have := h3.symm.trans hv; rw [mkI_def, mkI_def] at this; omega
    have hq := iEx_inj.mp hq
    exact n_bipush act hd hq (by omega) K
  · have hq : iEx (Int16.ofInt i).toInt32 = iEx x := by have := h3.symm.trans hv; rw [mkI_def, mkI_def] at this; omega
    have hq := iEx_inj.mp hq
    exact n_sipush act hd hq (by omega) K
  · exfalso; rw [h3] at hv; rw [mkI_def, mkL_def] at hv; omega
  · exfalso; rw [h3] at hv; rw [mkI_def] at hv; omega
  · exfalso; rw [h3] at hv; rw [mkI_def] at hv; omega
  · exfalso; rw [h3] at hv; rw [mkI_def] at hv; omega
  · have hq : iEx v = iEx x := by have := h3.symm.trans hv; rw [mkI_def, mkI_def] at this; omega
    have hq := iEx_inj.mp hq
    subst hq
    exact n_ldc act hd hc (by omega) K
  · have hq : iEx v = iEx x := by have := h3.symm.trans hv; rw [mkI_def, mkI_def] at this; omega
    have hq := iEx_inj.mp hq
    subst hq
    exact n_ldcw act hd hc (by omega) K
  · exfalso; rw [h3] at hv; rw [mkI_def, mkL_def] at hv; omega
  · exfalso; rw [h3] at hv; rw [mkI_def] at hv; omega
  · exfalso; rw [h3] at hv; rw [mkI_def] at hv; omega
theorem g_constL (act : Act ss TBL g cl bl xs d p l s m args meth c) (hG : G_const ss TBL cl ft mdl d pc w) {x : Int64} (hv : fb w = mkL (lEx x)) (hn : nxt w = n) (K : WpN g cl p l e R s m args below meth c Q d.2.2.1 kc0 ks0 n L h (.long x :: S)) : WpN g cl p l e R s m args below meth c Q d.2.2.1 kc0 ks0 pc L h S := by
  rcases hG with ⟨i, hd, h2, h3⟩ | ⟨i, hd, h2, h3⟩ | ⟨i, hd, h2, h3⟩ | ⟨i, hd, h2, h3⟩ | ⟨hd, h2, h3⟩ | ⟨hd, h2, h3⟩ | ⟨hd, h2, h3⟩ | ⟨i, v, hd, h2, hc, h3⟩ | ⟨i, v, hd, h2, hc, h3⟩ | ⟨i, v, hd, h2, hc, h3⟩ | ⟨i, tx, hd, h2, hc, h3⟩ | ⟨i, hd, h2, hc, h3⟩
  · exfalso; rw [h3] at hv; rw [mkL_def, mkI_def] at hv; omega
  · exfalso; rw [h3] at hv; rw [mkL_def, mkI_def] at hv; omega
  · exfalso; rw [h3] at hv; rw [mkL_def, mkI_def] at hv; omega
  · have hq : lEx (Int64.ofNat (i : Nat)) = lEx x := by have := h3.symm.trans hv; rw [mkL_def, mkL_def] at this; omega
    have hq := lEx_inj.mp hq
    exact n_lconst act hd hq (by omega) K
  · exfalso; rw [h3] at hv; rw [mkL_def] at hv; omega
  · exfalso; rw [h3] at hv; rw [mkL_def] at hv; omega
  · exfalso; rw [h3] at hv; rw [mkL_def] at hv; omega
  · exfalso; rw [h3] at hv; rw [mkL_def, mkI_def] at hv; omega
  · exfalso; rw [h3] at hv; rw [mkL_def, mkI_def] at hv; omega
  · have hq : lEx v = lEx x := by have := h3.symm.trans hv; rw [mkL_def, mkL_def] at this; omega
    have hq := lEx_inj.mp hq
    subst hq
    exact n_ldc2 act hd hc (by omega) K
  · exfalso; rw [h3] at hv; rw [mkL_def] at hv; omega
  · exfalso; rw [h3] at hv; rw [mkL_def] at hv; omega
theorem g_null (act : Act ss TBL g cl bl xs d p l s m args meth c) (hG : G_const ss TBL cl ft mdl d pc w) (hv : fb w = 4) (hn : nxt w = n) (K : WpN g cl p l e R s m args below meth c Q d.2.2.1 kc0 ks0 n L h (.null :: S)) : WpN g cl p l e R s m args below meth c Q d.2.2.1 kc0 ks0 pc L h S := by
  rcases hG with ⟨i, hd, h2, h3⟩ | ⟨i, hd, h2, h3⟩ | ⟨i, hd, h2, h3⟩ | ⟨i, hd, h2, h3⟩ | ⟨hd, h2, h3⟩ | ⟨hd, h2, h3⟩ | ⟨hd, h2, h3⟩ | ⟨i, v, hd, h2, hc, h3⟩ | ⟨i, v, hd, h2, hc, h3⟩ | ⟨i, v, hd, h2, hc, h3⟩ | ⟨i, tx, hd, h2, hc, h3⟩ | ⟨i, hd, h2, hc, h3⟩
  · exfalso; rw [h3] at hv; rw [mkI_def] at hv; omega
  · exfalso; rw [h3] at hv; rw [mkI_def] at hv; omega
  · exfalso; rw [h3] at hv; rw [mkI_def] at hv; omega
  · exfalso; rw [h3] at hv; rw [mkL_def] at hv; omega
  · exact n_null act hd (by omega) K
  · exfalso; rw [h3] at hv; omega
  · exfalso; rw [h3] at hv; omega
  · exfalso; rw [h3] at hv; rw [mkI_def] at hv; omega
  · exfalso; rw [h3] at hv; rw [mkI_def] at hv; omega
  · exfalso; rw [h3] at hv; rw [mkL_def] at hv; omega
  · exfalso; rw [h3] at hv; omega
  · exfalso; rw [h3] at hv; omega
theorem g_fcon0 (act : Act ss TBL g cl bl xs d p l s m args meth c) (hG : G_const ss TBL cl ft mdl d pc w) (hv : fb w = 5) (hn : nxt w = n) (K : WpN g cl p l e R s m args below meth c Q d.2.2.1 kc0 ks0 n L h (.float FP.fconst0 :: S)) : WpN g cl p l e R s m args below meth c Q d.2.2.1 kc0 ks0 pc L h S := by
  rcases hG with ⟨i, hd, h2, h3⟩ | ⟨i, hd, h2, h3⟩ | ⟨i, hd, h2, h3⟩ | ⟨i, hd, h2, h3⟩ | ⟨hd, h2, h3⟩ | ⟨hd, h2, h3⟩ | ⟨hd, h2, h3⟩ | ⟨i, v, hd, h2, hc, h3⟩ | ⟨i, v, hd, h2, hc, h3⟩ | ⟨i, v, hd, h2, hc, h3⟩ | ⟨i, tx, hd, h2, hc, h3⟩ | ⟨i, hd, h2, hc, h3⟩
  · exfalso; rw [h3] at hv; rw [mkI_def] at hv; omega
  · exfalso; rw [h3] at hv; rw [mkI_def] at hv; omega
  · exfalso; rw [h3] at hv; rw [mkI_def] at hv; omega
  · exfalso; rw [h3] at hv; rw [mkL_def] at hv; omega
  · exfalso; rw [h3] at hv; omega
  · exact n_fconst0 act hd (by omega) K
  · exfalso; rw [h3] at hv; omega
  · exfalso; rw [h3] at hv; rw [mkI_def] at hv; omega
  · exfalso; rw [h3] at hv; rw [mkI_def] at hv; omega
  · exfalso; rw [h3] at hv; rw [mkL_def] at hv; omega
  · exfalso; rw [h3] at hv; omega
  · exfalso; rw [h3] at hv; omega
theorem g_dcon0 (act : Act ss TBL g cl bl xs d p l s m args meth c) (hG : G_const ss TBL cl ft mdl d pc w) (hv : fb w = 6) (hn : nxt w = n) (K : WpN g cl p l e R s m args below meth c Q d.2.2.1 kc0 ks0 n L h (.double FP.dconst0 :: S)) : WpN g cl p l e R s m args below meth c Q d.2.2.1 kc0 ks0 pc L h S := by
  rcases hG with ⟨i, hd, h2, h3⟩ | ⟨i, hd, h2, h3⟩ | ⟨i, hd, h2, h3⟩ | ⟨i, hd, h2, h3⟩ | ⟨hd, h2, h3⟩ | ⟨hd, h2, h3⟩ | ⟨hd, h2, h3⟩ | ⟨i, v, hd, h2, hc, h3⟩ | ⟨i, v, hd, h2, hc, h3⟩ | ⟨i, v, hd, h2, hc, h3⟩ | ⟨i, tx, hd, h2, hc, h3⟩ | ⟨i, hd, h2, hc, h3⟩
  · exfalso; rw [h3] at hv; rw [mkI_def] at hv; omega
  · exfalso; rw [h3] at hv; rw [mkI_def] at hv; omega
  · exfalso; rw [h3] at hv; rw [mkI_def] at hv; omega
  · exfalso; rw [h3] at hv; rw [mkL_def] at hv; omega
  · exfalso; rw [h3] at hv; omega
  · exfalso; rw [h3] at hv; omega
  · exact n_dconst0 act hd (by omega) K
  · exfalso; rw [h3] at hv; rw [mkI_def] at hv; omega
  · exfalso; rw [h3] at hv; rw [mkI_def] at hv; omega
  · exfalso; rw [h3] at hv; rw [mkL_def] at hv; omega
  · exfalso; rw [h3] at hv; omega
  · exfalso; rw [h3] at hv; omega
theorem g_str (act : Act ss TBL g cl bl xs d p l s m args meth c) (hG : G_const ss TBL cl ft mdl d pc w) (hv : fb w = 7) (hn : nxt w = n) (K : ∀ (i k : Nat) (tx : String), decode d.2.1 pc = .ok (.ldc i, 2) → ss.1[k]? = some (d.1.cls, i, tx) → WpN g cl p l e R s m args below meth c Q d.2.2.1 kc0 ks0 n L h (.ref (litK k) :: S)) : WpN g cl p l e R s m args below meth c Q d.2.2.1 kc0 ks0 pc L h S := by
  rcases hG with ⟨i, hd, h2, h3⟩ | ⟨i, hd, h2, h3⟩ | ⟨i, hd, h2, h3⟩ | ⟨i, hd, h2, h3⟩ | ⟨hd, h2, h3⟩ | ⟨hd, h2, h3⟩ | ⟨hd, h2, h3⟩ | ⟨i, v, hd, h2, hc, h3⟩ | ⟨i, v, hd, h2, hc, h3⟩ | ⟨i, v, hd, h2, hc, h3⟩ | ⟨i, tx, hd, h2, hc, h3⟩ | ⟨i, hd, h2, hc, h3⟩
  · exfalso; rw [h3] at hv; rw [mkI_def] at hv; omega
  · exfalso; rw [h3] at hv; rw [mkI_def] at hv; omega
  · exfalso; rw [h3] at hv; rw [mkI_def] at hv; omega
  · exfalso; rw [h3] at hv; rw [mkL_def] at hv; omega
  · exfalso; rw [h3] at hv; omega
  · exfalso; rw [h3] at hv; omega
  · exfalso; rw [h3] at hv; omega
  · exfalso; rw [h3] at hv; rw [mkI_def] at hv; omega
  · exfalso; rw [h3] at hv; rw [mkI_def] at hv; omega
  · exfalso; rw [h3] at hv; rw [mkL_def] at hv; omega
  · exact n_lds act hd hc (by omega) fun k hk => K i k tx hd hk
  · exfalso; rw [h3] at hv; omega
theorem g_loadI (act : Act ss TBL g cl bl xs d p l s m args meth c) (hG : G_loadI ss TBL cl ft mdl d pc w) {a : Nat} {x : Int32} (ha : fa w = a) (hn : nxt w = n) (hl : L[a]? = some (some (.int x))) (K : WpN g cl p l e R s m args below meth c Q d.2.2.1 kc0 ks0 n L h (.int x :: S)) : WpN g cl p l e R s m args below meth c Q d.2.2.1 kc0 ks0 pc L h S := by
  subst ha
  rcases hG with ⟨k, hd, hk, h2⟩ | ⟨hd, h2⟩
  · exact n_iload_n act hd hl hk (by omega) K
  · exact n_iload act hd hl (by omega) K
theorem g_loadL (act : Act ss TBL g cl bl xs d p l s m args meth c) (hG : G_loadL ss TBL cl ft mdl d pc w) {a : Nat} {x : Int64} (ha : fa w = a) (hn : nxt w = n) (hl : L[a]? = some (some (.long x))) (K : WpN g cl p l e R s m args below meth c Q d.2.2.1 kc0 ks0 n L h (.long x :: S)) : WpN g cl p l e R s m args below meth c Q d.2.2.1 kc0 ks0 pc L h S := by
  subst ha
  rcases hG with ⟨k, hd, hk, h2⟩ | ⟨hd, h2⟩
  · exact n_lload_n act hd hl hk (by omega) K
  · exact n_lload act hd hl (by omega) K
theorem g_loadF (act : Act ss TBL g cl bl xs d p l s m args meth c) (hG : G_loadF ss TBL cl ft mdl d pc w) {a : Nat} {x : UInt32} (ha : fa w = a) (hn : nxt w = n) (hl : L[a]? = some (some (.float x))) (K : WpN g cl p l e R s m args below meth c Q d.2.2.1 kc0 ks0 n L h (.float x :: S)) : WpN g cl p l e R s m args below meth c Q d.2.2.1 kc0 ks0 pc L h S := by
  subst ha
  rcases hG with ⟨k, hd, hk, h2⟩ | ⟨hd, h2⟩
  · exact n_fload_n act hd hl hk (by omega) K
  · exact n_fload act hd hl (by omega) K
theorem g_loadA (act : Act ss TBL g cl bl xs d p l s m args meth c) (hG : G_loadA ss TBL cl ft mdl d pc w) {a : Nat} {q : Nat} (ha : fa w = a) (hn : nxt w = n) (hl : L[a]? = some (some (.ref q))) (K : WpN g cl p l e R s m args below meth c Q d.2.2.1 kc0 ks0 n L h (.ref q :: S)) : WpN g cl p l e R s m args below meth c Q d.2.2.1 kc0 ks0 pc L h S := by
  subst ha
  rcases hG with ⟨k, hd, hk, h2⟩ | ⟨hd, h2⟩
  · exact n_aload_n act hd hl hk (by omega) K
  · exact n_aload act hd hl (by omega) K
theorem g_loadAN (act : Act ss TBL g cl bl xs d p l s m args meth c) (hG : G_loadA ss TBL cl ft mdl d pc w) {a : Nat}  (ha : fa w = a) (hn : nxt w = n) (hl : L[a]? = some (some (.null))) (K : WpN g cl p l e R s m args below meth c Q d.2.2.1 kc0 ks0 n L h (.null :: S)) : WpN g cl p l e R s m args below meth c Q d.2.2.1 kc0 ks0 pc L h S := by
  subst ha
  rcases hG with ⟨k, hd, hk, h2⟩ | ⟨hd, h2⟩
  · exact n_aload_nN act hd hl hk (by omega) K
  · exact n_aloadN act hd hl (by omega) K
theorem g_storeI (act : Act ss TBL g cl bl xs d p l s m args meth c) (hG : G_storeI ss TBL cl ft mdl d pc w) {a : Nat} {x : Int32} (ha : fa w = a) (hn : nxt w = n) {L2 : LN} (hL2 : st1 L a (.int x) = L2) (K : WpN g cl p l e R s m args below meth c Q d.2.2.1 kc0 ks0 n L2 h S) : WpN g cl p l e R s m args below meth c Q d.2.2.1 kc0 ks0 pc L h (.int x :: S) := by
  subst ha
  obtain ⟨h0, hG⟩ := hG
  rcases hG with ⟨k, hd, hk, h2⟩ | ⟨hd, h2⟩
  · exact n_istore_n act hd h0 hk (by omega) hL2 K
  · exact n_istore act hd h0 (by omega) hL2 K
theorem g_storeL (act : Act ss TBL g cl bl xs d p l s m args meth c) (hG : G_storeL ss TBL cl ft mdl d pc w) {a : Nat} {x : Int64} (ha : fa w = a) (hn : nxt w = n) {L2 : LN} (hL2 : stw2 L a (.long x) = L2) (K : WpN g cl p l e R s m args below meth c Q d.2.2.1 kc0 ks0 n L2 h S) : WpN g cl p l e R s m args below meth c Q d.2.2.1 kc0 ks0 pc L h (.long x :: S) := by
  subst ha
  obtain ⟨h0, hG⟩ := hG
  rcases hG with ⟨k, hd, hk, h2⟩ | ⟨hd, h2⟩
  · exact n_lstore_n act hd h0 hk (by omega) hL2 K
  · exact n_lstore act hd h0 (by omega) hL2 K
theorem g_storeF (act : Act ss TBL g cl bl xs d p l s m args meth c) (hG : G_storeF ss TBL cl ft mdl d pc w) {a : Nat} {x : UInt32} (ha : fa w = a) (hn : nxt w = n) {L2 : LN} (hL2 : st1 L a (.float x) = L2) (K : WpN g cl p l e R s m args below meth c Q d.2.2.1 kc0 ks0 n L2 h S) : WpN g cl p l e R s m args below meth c Q d.2.2.1 kc0 ks0 pc L h (.float x :: S) := by
  subst ha
  obtain ⟨h0, hG⟩ := hG
  rcases hG with ⟨k, hd, hk, h2⟩ | ⟨hd, h2⟩
  · exact n_fstore_n act hd h0 hk (by omega) hL2 K
  · exact n_fstore act hd h0 (by omega) hL2 K
theorem g_storeD (act : Act ss TBL g cl bl xs d p l s m args meth c) (hG : G_storeD ss TBL cl ft mdl d pc w) {a : Nat} {x : UInt64} (ha : fa w = a) (hn : nxt w = n) {L2 : LN} (hL2 : stw2 L a (.double x) = L2) (K : WpN g cl p l e R s m args below meth c Q d.2.2.1 kc0 ks0 n L2 h S) : WpN g cl p l e R s m args below meth c Q d.2.2.1 kc0 ks0 pc L h (.double x :: S) := by
  subst ha
  obtain ⟨h0, hG⟩ := hG
  rcases hG with ⟨k, hd, hk, h2⟩ | ⟨hd, h2⟩
  · exact n_dstore_n act hd h0 hk (by omega) hL2 K
  · exact n_dstore act hd h0 (by omega) hL2 K
theorem g_storeA (act : Act ss TBL g cl bl xs d p l s m args meth c) (hG : G_storeA ss TBL cl ft mdl d pc w) {a : Nat} {q : Nat} (ha : fa w = a) (hn : nxt w = n) {L2 : LN} (hL2 : st1 L a (.ref q) = L2) (K : WpN g cl p l e R s m args below meth c Q d.2.2.1 kc0 ks0 n L2 h S) : WpN g cl p l e R s m args below meth c Q d.2.2.1 kc0 ks0 pc L h (.ref q :: S) := by
  subst ha
  obtain ⟨h0, hG⟩ := hG
  rcases hG with ⟨k, hd, hk, h2⟩ | ⟨hd, h2⟩
  · exact n_astore_n act hd h0 hk (by omega) hL2 K
  · exact n_astore act hd h0 (by omega) hL2 K
theorem g_storeAN (act : Act ss TBL g cl bl xs d p l s m args meth c) (hG : G_storeA ss TBL cl ft mdl d pc w) {a : Nat}  (ha : fa w = a) (hn : nxt w = n) {L2 : LN} (hL2 : st1 L a (.null) = L2) (K : WpN g cl p l e R s m args below meth c Q d.2.2.1 kc0 ks0 n L2 h S) : WpN g cl p l e R s m args below meth c Q d.2.2.1 kc0 ks0 pc L h (.null :: S) := by
  subst ha
  obtain ⟨h0, hG⟩ := hG
  rcases hG with ⟨k, hd, hk, h2⟩ | ⟨hd, h2⟩
  · exact n_astore_nN act hd h0 hk (by omega) hL2 K
  · exact n_astoreN act hd h0 (by omega) hL2 K
theorem g_iinc (act : Act ss TBL g cl bl xs d p l s m args meth c) (hG : G_iinc ss TBL cl ft mdl d pc w) {a : Nat} {i x : Int32} (ha : fa w = a) (hi : fb w = iEx i) (hn : nxt w = n) (hl : L[a]? = some (some (.int x))) {L2 : LN} (hL2 : st1 L a (.int (x + i)) = L2) (K : WpN g cl p l e R s m args below meth c Q d.2.2.1 kc0 ks0 n L2 h S) : WpN g cl p l e R s m args below meth c Q d.2.2.1 kc0 ks0 pc L h S := by
  subst ha
  obtain ⟨h0, j, hd, h2, h3⟩ := hG
  have hq : Int32.ofInt j = i := iEx_inj.mp (h3.symm.trans hi)
  exact n_iinc act hd h0 hl (by omega) (by rw [hq]; exact hL2) K
theorem g_iadd (act : Act ss TBL g cl bl xs d p l s m args meth c) (hG : G_iadd ss TBL cl ft mdl d pc w) {x y : Int32} (hn : nxt w = n) (K : WpN g cl p l e R s m args below meth c Q d.2.2.1 kc0 ks0 n L h (.int (x + y) :: S)) : WpN g cl p l e R s m args below meth c Q d.2.2.1 kc0 ks0 pc L h (.int y :: .int x :: S) := n_iadd act hG.1 (hG.2.symm.trans hn) K
theorem g_isub (act : Act ss TBL g cl bl xs d p l s m args meth c) (hG : G_isub ss TBL cl ft mdl d pc w) {x y : Int32} (hn : nxt w = n) (K : WpN g cl p l e R s m args below meth c Q d.2.2.1 kc0 ks0 n L h (.int (x - y) :: S)) : WpN g cl p l e R s m args below meth c Q d.2.2.1 kc0 ks0 pc L h (.int y :: .int x :: S) := n_isub act hG.1 (hG.2.symm.trans hn) K
theorem g_imul (act : Act ss TBL g cl bl xs d p l s m args meth c) (hG : G_imul ss TBL cl ft mdl d pc w) {x y : Int32} (hn : nxt w = n) (K : WpN g cl p l e R s m args below meth c Q d.2.2.1 kc0 ks0 n L h (.int (x * y) :: S)) : WpN g cl p l e R s m args below meth c Q d.2.2.1 kc0 ks0 pc L h (.int y :: .int x :: S) := n_imul act hG.1 (hG.2.symm.trans hn) K
theorem g_iand (act : Act ss TBL g cl bl xs d p l s m args meth c) (hG : G_iand ss TBL cl ft mdl d pc w) {x y : Int32} (hn : nxt w = n) (K : WpN g cl p l e R s m args below meth c Q d.2.2.1 kc0 ks0 n L h (.int (x &&& y) :: S)) : WpN g cl p l e R s m args below meth c Q d.2.2.1 kc0 ks0 pc L h (.int y :: .int x :: S) := n_iand act hG.1 (hG.2.symm.trans hn) K
theorem g_ior (act : Act ss TBL g cl bl xs d p l s m args meth c) (hG : G_ior ss TBL cl ft mdl d pc w) {x y : Int32} (hn : nxt w = n) (K : WpN g cl p l e R s m args below meth c Q d.2.2.1 kc0 ks0 n L h (.int (x ||| y) :: S)) : WpN g cl p l e R s m args below meth c Q d.2.2.1 kc0 ks0 pc L h (.int y :: .int x :: S) := n_ior act hG.1 (hG.2.symm.trans hn) K
theorem g_ishl (act : Act ss TBL g cl bl xs d p l s m args meth c) (hG : G_ishl ss TBL cl ft mdl d pc w) {x y : Int32} (hn : nxt w = n) (K : WpN g cl p l e R s m args below meth c Q d.2.2.1 kc0 ks0 n L h (.int (x <<< (y &&& 31)) :: S)) : WpN g cl p l e R s m args below meth c Q d.2.2.1 kc0 ks0 pc L h (.int y :: .int x :: S) := n_ishl act hG.1 (hG.2.symm.trans hn) K
theorem g_ishr (act : Act ss TBL g cl bl xs d p l s m args meth c) (hG : G_ishr ss TBL cl ft mdl d pc w) {x y : Int32} (hn : nxt w = n) (K : WpN g cl p l e R s m args below meth c Q d.2.2.1 kc0 ks0 n L h (.int (x >>> (y &&& 31)) :: S)) : WpN g cl p l e R s m args below meth c Q d.2.2.1 kc0 ks0 pc L h (.int y :: .int x :: S) := n_ishr act hG.1 (hG.2.symm.trans hn) K
theorem g_ladd (act : Act ss TBL g cl bl xs d p l s m args meth c) (hG : G_ladd ss TBL cl ft mdl d pc w) {x y : Int64} (hn : nxt w = n) (K : WpN g cl p l e R s m args below meth c Q d.2.2.1 kc0 ks0 n L h (.long (x + y) :: S)) : WpN g cl p l e R s m args below meth c Q d.2.2.1 kc0 ks0 pc L h (.long y :: .long x :: S) := n_ladd act hG.1 (hG.2.symm.trans hn) K
theorem g_lsub (act : Act ss TBL g cl bl xs d p l s m args meth c) (hG : G_lsub ss TBL cl ft mdl d pc w) {x y : Int64} (hn : nxt w = n) (K : WpN g cl p l e R s m args below meth c Q d.2.2.1 kc0 ks0 n L h (.long (x - y) :: S)) : WpN g cl p l e R s m args below meth c Q d.2.2.1 kc0 ks0 pc L h (.long y :: .long x :: S) := n_lsub act hG.1 (hG.2.symm.trans hn) K
theorem g_lmul (act : Act ss TBL g cl bl xs d p l s m args meth c) (hG : G_lmul ss TBL cl ft mdl d pc w) {x y : Int64} (hn : nxt w = n) (K : WpN g cl p l e R s m args below meth c Q d.2.2.1 kc0 ks0 n L h (.long (x * y) :: S)) : WpN g cl p l e R s m args below meth c Q d.2.2.1 kc0 ks0 pc L h (.long y :: .long x :: S) := n_lmul act hG.1 (hG.2.symm.trans hn) K
theorem g_idiv (act : Act ss TBL g cl bl xs d p l s m args meth c) (hG : G_idiv ss TBL cl ft mdl d pc w) {x y : Int32} (hne : ¬ y = 0) (hn : nxt w = n) (K : WpN g cl p l e R s m args below meth c Q d.2.2.1 kc0 ks0 n L h (.int (x / y) :: S)) : WpN g cl p l e R s m args below meth c Q d.2.2.1 kc0 ks0 pc L h (.int y :: .int x :: S) := n_idiv act hG.1 hne (hG.2.symm.trans hn) K
theorem g_irem (act : Act ss TBL g cl bl xs d p l s m args meth c) (hG : G_irem ss TBL cl ft mdl d pc w) {x y : Int32} (hne : ¬ y = 0) (hn : nxt w = n) (K : WpN g cl p l e R s m args below meth c Q d.2.2.1 kc0 ks0 n L h (.int (x - x / y * y) :: S)) : WpN g cl p l e R s m args below meth c Q d.2.2.1 kc0 ks0 pc L h (.int y :: .int x :: S) := n_irem act hG.1 hne (hG.2.symm.trans hn) K
theorem g_ldiv (act : Act ss TBL g cl bl xs d p l s m args meth c) (hG : G_ldiv ss TBL cl ft mdl d pc w) {x y : Int64} (hne : ¬ y = 0) (hn : nxt w = n) (K : WpN g cl p l e R s m args below meth c Q d.2.2.1 kc0 ks0 n L h (.long (x / y) :: S)) : WpN g cl p l e R s m args below meth c Q d.2.2.1 kc0 ks0 pc L h (.long y :: .long x :: S) := n_ldiv act hG.1 hne (hG.2.symm.trans hn) K
theorem g_lrem (act : Act ss TBL g cl bl xs d p l s m args meth c) (hG : G_lrem ss TBL cl ft mdl d pc w) {x y : Int64} (hne : ¬ y = 0) (hn : nxt w = n) (K : WpN g cl p l e R s m args below meth c Q d.2.2.1 kc0 ks0 n L h (.long (x - x / y * y) :: S)) : WpN g cl p l e R s m args below meth c Q d.2.2.1 kc0 ks0 pc L h (.long y :: .long x :: S) := n_lrem act hG.1 hne (hG.2.symm.trans hn) K
theorem g_ineg (act : Act ss TBL g cl bl xs d p l s m args meth c) (hG : G_ineg ss TBL cl ft mdl d pc w) {x : Int32} (hn : nxt w = n) (K : WpN g cl p l e R s m args below meth c Q d.2.2.1 kc0 ks0 n L h (.int (-x) :: S)) : WpN g cl p l e R s m args below meth c Q d.2.2.1 kc0 ks0 pc L h (.int x :: S) := n_ineg act hG.1 (hG.2.symm.trans hn) K
theorem g_lneg (act : Act ss TBL g cl bl xs d p l s m args meth c) (hG : G_lneg ss TBL cl ft mdl d pc w) {x : Int64} (hn : nxt w = n) (K : WpN g cl p l e R s m args below meth c Q d.2.2.1 kc0 ks0 n L h (.long (-x) :: S)) : WpN g cl p l e R s m args below meth c Q d.2.2.1 kc0 ks0 pc L h (.long x :: S) := n_lneg act hG.1 (hG.2.symm.trans hn) K
theorem g_i2b (act : Act ss TBL g cl bl xs d p l s m args meth c) (hG : G_i2b ss TBL cl ft mdl d pc w) {x : Int32} (hn : nxt w = n) (K : WpN g cl p l e R s m args below meth c Q d.2.2.1 kc0 ks0 n L h (.int x.toInt8.toInt32 :: S)) : WpN g cl p l e R s m args below meth c Q d.2.2.1 kc0 ks0 pc L h (.int x :: S) := n_i2b act hG.1 (hG.2.symm.trans hn) K
theorem g_i2l (act : Act ss TBL g cl bl xs d p l s m args meth c) (hG : G_i2l ss TBL cl ft mdl d pc w) {x : Int32} (hn : nxt w = n) (K : WpN g cl p l e R s m args below meth c Q d.2.2.1 kc0 ks0 n L h (.long x.toInt64 :: S)) : WpN g cl p l e R s m args below meth c Q d.2.2.1 kc0 ks0 pc L h (.int x :: S) := n_i2l act hG.1 (hG.2.symm.trans hn) K
theorem g_i2f (act : Act ss TBL g cl bl xs d p l s m args meth c) (hG : G_i2f ss TBL cl ft mdl d pc w) {x : Int32} (hn : nxt w = n) (K : WpN g cl p l e R s m args below meth c Q d.2.2.1 kc0 ks0 n L h (.float (FP.i2f x) :: S)) : WpN g cl p l e R s m args below meth c Q d.2.2.1 kc0 ks0 pc L h (.int x :: S) := n_i2f act hG.1 (hG.2.symm.trans hn) K
theorem g_l2f (act : Act ss TBL g cl bl xs d p l s m args meth c) (hG : G_l2f ss TBL cl ft mdl d pc w) {x : Int64} (hn : nxt w = n) (K : WpN g cl p l e R s m args below meth c Q d.2.2.1 kc0 ks0 n L h (.float (FP.l2f x) :: S)) : WpN g cl p l e R s m args below meth c Q d.2.2.1 kc0 ks0 pc L h (.long x :: S) := n_l2f act hG.1 (hG.2.symm.trans hn) K
theorem g_i2d (act : Act ss TBL g cl bl xs d p l s m args meth c) (hG : G_i2d ss TBL cl ft mdl d pc w) {x : Int32} (hn : nxt w = n) (K : WpN g cl p l e R s m args below meth c Q d.2.2.1 kc0 ks0 n L h (.double (FP.i2d x) :: S)) : WpN g cl p l e R s m args below meth c Q d.2.2.1 kc0 ks0 pc L h (.int x :: S) := n_i2d act hG.1 (hG.2.symm.trans hn) K
theorem g_l2d (act : Act ss TBL g cl bl xs d p l s m args meth c) (hG : G_l2d ss TBL cl ft mdl d pc w) {x : Int64} (hn : nxt w = n) (K : WpN g cl p l e R s m args below meth c Q d.2.2.1 kc0 ks0 n L h (.double (FP.l2d x) :: S)) : WpN g cl p l e R s m args below meth c Q d.2.2.1 kc0 ks0 pc L h (.long x :: S) := n_l2d act hG.1 (hG.2.symm.trans hn) K
theorem g_fsub (act : Act ss TBL g cl bl xs d p l s m args meth c) (hG : G_fsub ss TBL cl ft mdl d pc w) {x y : UInt32} (hne : vf_n32 (FP.fsub x y)) (hn : nxt w = n) (K : WpN g cl p l e R s m args below meth c Q d.2.2.1 kc0 ks0 n L h (.float (FP.fsub x y) :: S)) : WpN g cl p l e R s m args below meth c Q d.2.2.1 kc0 ks0 pc L h (.float y :: .float x :: S) := n_fsub act hG.1 hne (hG.2.symm.trans hn) K
theorem g_fmul (act : Act ss TBL g cl bl xs d p l s m args meth c) (hG : G_fmul ss TBL cl ft mdl d pc w) {x y : UInt32} (hne : vf_n32 (FP.fmul x y)) (hn : nxt w = n) (K : WpN g cl p l e R s m args below meth c Q d.2.2.1 kc0 ks0 n L h (.float (FP.fmul x y) :: S)) : WpN g cl p l e R s m args below meth c Q d.2.2.1 kc0 ks0 pc L h (.float y :: .float x :: S) := n_fmul act hG.1 hne (hG.2.symm.trans hn) K
theorem g_fdiv (act : Act ss TBL g cl bl xs d p l s m args meth c) (hG : G_fdiv ss TBL cl ft mdl d pc w) {x y : UInt32} (hne : vf_n32 (FP.fdiv x y)) (hn : nxt w = n) (K : WpN g cl p l e R s m args below meth c Q d.2.2.1 kc0 ks0 n L h (.float (FP.fdiv x y) :: S)) : WpN g cl p l e R s m args below meth c Q d.2.2.1 kc0 ks0 pc L h (.float y :: .float x :: S) := n_fdiv act hG.1 hne (hG.2.symm.trans hn) K
theorem g_ddiv (act : Act ss TBL g cl bl xs d p l s m args meth c) (hG : G_ddiv ss TBL cl ft mdl d pc w) {x y : UInt64} (hne : vf_n64 (FP.ddiv x y)) (hn : nxt w = n) (K : WpN g cl p l e R s m args below meth c Q d.2.2.1 kc0 ks0 n L h (.double (FP.ddiv x y) :: S)) : WpN g cl p l e R s m args below meth c Q d.2.2.1 kc0 ks0 pc L h (.double y :: .double x :: S) := n_ddiv act hG.1 hne (hG.2.symm.trans hn) K
theorem g_lcmp (act : Act ss TBL g cl bl xs d p l s m args meth c) (hG : G_lcmp ss TBL cl ft mdl d pc w) {x y : Int64} (hn : nxt w = n) (K : WpN g cl p l e R s m args below meth c Q d.2.2.1 kc0 ks0 n L h (.int (lg_cmp x y) :: S)) : WpN g cl p l e R s m args below meth c Q d.2.2.1 kc0 ks0 pc L h (.long y :: .long x :: S) := n_lcmp act hG.1 (hG.2.symm.trans hn) K
theorem g_fcmpl (act : Act ss TBL g cl bl xs d p l s m args meth c) (hG : G_fcmpl ss TBL cl ft mdl d pc w) {x y : UInt32} (hn : nxt w = n) (K : WpN g cl p l e R s m args below meth c Q d.2.2.1 kc0 ks0 n L h (.int (Op.cmpValue (FP.fcmp x y) .l) :: S)) : WpN g cl p l e R s m args below meth c Q d.2.2.1 kc0 ks0 pc L h (.float y :: .float x :: S) := n_fcmp act hG.1 (hG.2.symm.trans hn) K
theorem g_fcmpg (act : Act ss TBL g cl bl xs d p l s m args meth c) (hG : G_fcmpg ss TBL cl ft mdl d pc w) {x y : UInt32} (hn : nxt w = n) (K : WpN g cl p l e R s m args below meth c Q d.2.2.1 kc0 ks0 n L h (.int (Op.cmpValue (FP.fcmp x y) .g) :: S)) : WpN g cl p l e R s m args below meth c Q d.2.2.1 kc0 ks0 pc L h (.float y :: .float x :: S) := n_fcmp act hG.1 (hG.2.symm.trans hn) K
theorem g_f2i (act : Act ss TBL g cl bl xs d p l s m args meth c) (hG : G_f2i ss TBL cl ft mdl d pc w) {x : UInt32} (hn : nxt w = n) (K : WpN g cl p l e R s m args below meth c Q d.2.2.1 kc0 ks0 n L h (.int (FP.f2i x) :: S)) : WpN g cl p l e R s m args below meth c Q d.2.2.1 kc0 ks0 pc L h (.float x :: S) := n_f2i act hG.1 (hG.2.symm.trans hn) K
theorem g_pop (act : Act ss TBL g cl bl xs d p l s m args meth c) (hG : G_pop ss TBL cl ft mdl d pc w) {v : Value} (hn : nxt w = n) (hcv : v.category = 1) (K : WpN g cl p l e R s m args below meth c Q d.2.2.1 kc0 ks0 n L h S) : WpN g cl p l e R s m args below meth c Q d.2.2.1 kc0 ks0 pc L h (v :: S) := n_pop act hG.1 hcv (hG.2.symm.trans hn) K
theorem g_dup (act : Act ss TBL g cl bl xs d p l s m args meth c) (hG : G_dup ss TBL cl ft mdl d pc w) {v : Value} (hn : nxt w = n) (hcv : v.category = 1) (K : WpN g cl p l e R s m args below meth c Q d.2.2.1 kc0 ks0 n L h (v :: v :: S)) : WpN g cl p l e R s m args below meth c Q d.2.2.1 kc0 ks0 pc L h (v :: S) := n_dup act hG.1 hcv (hG.2.symm.trans hn) K
theorem g_dupx1 (act : Act ss TBL g cl bl xs d p l s m args meth c) (hG : G_dupx1 ss TBL cl ft mdl d pc w) {v u : Value} (hn : nxt w = n) (hcv : v.category = 1) (hcu : u.category = 1) (K : WpN g cl p l e R s m args below meth c Q d.2.2.1 kc0 ks0 n L h (v :: u :: v :: S)) : WpN g cl p l e R s m args below meth c Q d.2.2.1 kc0 ks0 pc L h (v :: u :: S) := n_dup_x1 act hG.1 hcv hcu (hG.2.symm.trans hn) K
theorem g_dup2 (act : Act ss TBL g cl bl xs d p l s m args meth c) (hG : G_dup2 ss TBL cl ft mdl d pc w) {v u : Value} (hn : nxt w = n) (hcv : v.category = 1) (hcu : u.category = 1) (K : WpN g cl p l e R s m args below meth c Q d.2.2.1 kc0 ks0 n L h (v :: u :: v :: u :: S)) : WpN g cl p l e R s m args below meth c Q d.2.2.1 kc0 ks0 pc L h (v :: u :: S) := n_dup2_11 act hG.1 hcv hcu (hG.2.symm.trans hn) K
theorem g_goto (act : Act ss TBL g cl bl xs d p l s m args meth c) (hG : G_goto ss TBL cl ft mdl d pc w) (hn : nxt w = n) (K : WpN g cl p l e R s m args below meth c Q d.2.2.1 kc0 ks0 n L h S) : WpN g cl p l e R s m args below meth c Q d.2.2.1 kc0 ks0 pc L h S := by
  obtain ⟨off, hd, ht⟩ := hG
  exact n_goto act hd (by rw [ht, hn]) K
theorem g_ifEq (act : Act ss TBL g cl bl xs d p l s m args meth c) (hG : G_ifEq ss TBL cl ft mdl d pc w) {x : Int32} {tgt : Nat} (ht : fa w = tgt) (hn : nxt w = n) (Kt : x = 0 → WpN g cl p l e R s m args below meth c Q d.2.2.1 kc0 ks0 tgt L h S) (Kf : ¬ (x = 0) → WpN g cl p l e R s m args below meth c Q d.2.2.1 kc0 ks0 n L h S) : WpN g cl p l e R s m args below meth c Q d.2.2.1 kc0 ks0 pc L h (.int x :: S) := by
  obtain ⟨off, hd, h2, h3⟩ := hG
  exact n_ifEq act hd (by rw [h3, ht]) (h2.symm.trans hn) Kt Kf
theorem g_icmpEq (act : Act ss TBL g cl bl xs d p l s m args meth c) (hG : G_icmpEq ss TBL cl ft mdl d pc w) {x y : Int32} {tgt : Nat} (ht : fa w = tgt) (hn : nxt w = n) (Kt : x = y → WpN g cl p l e R s m args below meth c Q d.2.2.1 kc0 ks0 tgt L h S) (Kf : ¬ (x = y) → WpN g cl p l e R s m args below meth c Q d.2.2.1 kc0 ks0 n L h S) : WpN g cl p l e R s m args below meth c Q d.2.2.1 kc0 ks0 pc L h (.int y :: .int x :: S) := by
  obtain ⟨off, hd, h2, h3⟩ := hG
  exact n_icmpEq act hd (by rw [h3, ht]) (h2.symm.trans hn) Kt Kf
theorem g_ifNe (act : Act ss TBL g cl bl xs d p l s m args meth c) (hG : G_ifNe ss TBL cl ft mdl d pc w) {x : Int32} {tgt : Nat} (ht : fa w = tgt) (hn : nxt w = n) (Kt : ¬ x = 0 → WpN g cl p l e R s m args below meth c Q d.2.2.1 kc0 ks0 tgt L h S) (Kf : ¬ (¬ x = 0) → WpN g cl p l e R s m args below meth c Q d.2.2.1 kc0 ks0 n L h S) : WpN g cl p l e R s m args below meth c Q d.2.2.1 kc0 ks0 pc L h (.int x :: S) := by
  obtain ⟨off, hd, h2, h3⟩ := hG
  exact n_ifNe act hd (by rw [h3, ht]) (h2.symm.trans hn) Kt Kf
theorem g_icmpNe (act : Act ss TBL g cl bl xs d p l s m args meth c) (hG : G_icmpNe ss TBL cl ft mdl d pc w) {x y : Int32} {tgt : Nat} (ht : fa w = tgt) (hn : nxt w = n) (Kt : ¬ x = y → WpN g cl p l e R s m args below meth c Q d.2.2.1 kc0 ks0 tgt L h S) (Kf : ¬ (¬ x = y) → WpN g cl p l e R s m args below meth c Q d.2.2.1 kc0 ks0 n L h S) : WpN g cl p l e R s m args below meth c Q d.2.2.1 kc0 ks0 pc L h (.int y :: .int x :: S) := by
  obtain ⟨off, hd, h2, h3⟩ := hG
  exact n_icmpNe act hd (by rw [h3, ht]) (h2.symm.trans hn) Kt Kf
theorem g_ifLt (act : Act ss TBL g cl bl xs d p l s m args meth c) (hG : G_ifLt ss TBL cl ft mdl d pc w) {x : Int32} {tgt : Nat} (ht : fa w = tgt) (hn : nxt w = n) (Kt : x < 0 → WpN g cl p l e R s m args below meth c Q d.2.2.1 kc0 ks0 tgt L h S) (Kf : ¬ (x < 0) → WpN g cl p l e R s m args below meth c Q d.2.2.1 kc0 ks0 n L h S) : WpN g cl p l e R s m args below meth c Q d.2.2.1 kc0 ks0 pc L h (.int x :: S) := by
  obtain ⟨off, hd, h2, h3⟩ := hG
  exact n_ifLt act hd (by rw [h3, ht]) (h2.symm.trans hn) Kt Kf
theorem g_icmpLt (act : Act ss TBL g cl bl xs d p l s m args meth c) (hG : G_icmpLt ss TBL cl ft mdl d pc w) {x y : Int32} {tgt : Nat} (ht : fa w = tgt) (hn : nxt w = n) (Kt : x < y → WpN g cl p l e R s m args below meth c Q d.2.2.1 kc0 ks0 tgt L h S) (Kf : ¬ (x < y) → WpN g cl p l e R s m args below meth c Q d.2.2.1 kc0 ks0 n L h S) : WpN g cl p l e R s m args below meth c Q d.2.2.1 kc0 ks0 pc L h (.int y :: .int x :: S) := by
  obtain ⟨off, hd, h2, h3⟩ := hG
  exact n_icmpLt act hd (by rw [h3, ht]) (h2.symm.trans hn) Kt Kf
theorem g_ifGe (act : Act ss TBL g cl bl xs d p l s m args meth c) (hG : G_ifGe ss TBL cl ft mdl d pc w) {x : Int32} {tgt : Nat} (ht : fa w = tgt) (hn : nxt w = n) (Kt : 0 ≤ x → WpN g cl p l e R s m args below meth c Q d.2.2.1 kc0 ks0 tgt L h S) (Kf : ¬ (0 ≤ x) → WpN g cl p l e R s m args below meth c Q d.2.2.1 kc0 ks0 n L h S) : WpN g cl p l e R s m args below meth c Q d.2.2.1 kc0 ks0 pc L h (.int x :: S) := by
  obtain ⟨off, hd, h2, h3⟩ := hG
  exact n_ifGe act hd (by rw [h3, ht]) (h2.symm.trans hn) Kt Kf
theorem g_icmpGe (act : Act ss TBL g cl bl xs d p l s m args meth c) (hG : G_icmpGe ss TBL cl ft mdl d pc w) {x y : Int32} {tgt : Nat} (ht : fa w = tgt) (hn : nxt w = n) (Kt : y ≤ x → WpN g cl p l e R s m args below meth c Q d.2.2.1 kc0 ks0 tgt L h S) (Kf : ¬ (y ≤ x) → WpN g cl p l e R s m args below meth c Q d.2.2.1 kc0 ks0 n L h S) : WpN g cl p l e R s m args below meth c Q d.2.2.1 kc0 ks0 pc L h (.int y :: .int x :: S) := by
  obtain ⟨off, hd, h2, h3⟩ := hG
  exact n_icmpGe act hd (by rw [h3, ht]) (h2.symm.trans hn) Kt Kf
theorem g_ifGt (act : Act ss TBL g cl bl xs d p l s m args meth c) (hG : G_ifGt ss TBL cl ft mdl d pc w) {x : Int32} {tgt : Nat} (ht : fa w = tgt) (hn : nxt w = n) (Kt : 0 < x → WpN g cl p l e R s m args below meth c Q d.2.2.1 kc0 ks0 tgt L h S) (Kf : ¬ (0 < x) → WpN g cl p l e R s m args below meth c Q d.2.2.1 kc0 ks0 n L h S) : WpN g cl p l e R s m args below meth c Q d.2.2.1 kc0 ks0 pc L h (.int x :: S) := by
  obtain ⟨off, hd, h2, h3⟩ := hG
  exact n_ifGt act hd (by rw [h3, ht]) (h2.symm.trans hn) Kt Kf
theorem g_icmpGt (act : Act ss TBL g cl bl xs d p l s m args meth c) (hG : G_icmpGt ss TBL cl ft mdl d pc w) {x y : Int32} {tgt : Nat} (ht : fa w = tgt) (hn : nxt w = n) (Kt : y < x → WpN g cl p l e R s m args below meth c Q d.2.2.1 kc0 ks0 tgt L h S) (Kf : ¬ (y < x) → WpN g cl p l e R s m args below meth c Q d.2.2.1 kc0 ks0 n L h S) : WpN g cl p l e R s m args below meth c Q d.2.2.1 kc0 ks0 pc L h (.int y :: .int x :: S) := by
  obtain ⟨off, hd, h2, h3⟩ := hG
  exact n_icmpGt act hd (by rw [h3, ht]) (h2.symm.trans hn) Kt Kf
theorem g_ifLe (act : Act ss TBL g cl bl xs d p l s m args meth c) (hG : G_ifLe ss TBL cl ft mdl d pc w) {x : Int32} {tgt : Nat} (ht : fa w = tgt) (hn : nxt w = n) (Kt : x ≤ 0 → WpN g cl p l e R s m args below meth c Q d.2.2.1 kc0 ks0 tgt L h S) (Kf : ¬ (x ≤ 0) → WpN g cl p l e R s m args below meth c Q d.2.2.1 kc0 ks0 n L h S) : WpN g cl p l e R s m args below meth c Q d.2.2.1 kc0 ks0 pc L h (.int x :: S) := by
  obtain ⟨off, hd, h2, h3⟩ := hG
  exact n_ifLe act hd (by rw [h3, ht]) (h2.symm.trans hn) Kt Kf
theorem g_icmpLe (act : Act ss TBL g cl bl xs d p l s m args meth c) (hG : G_icmpLe ss TBL cl ft mdl d pc w) {x y : Int32} {tgt : Nat} (ht : fa w = tgt) (hn : nxt w = n) (Kt : x ≤ y → WpN g cl p l e R s m args below meth c Q d.2.2.1 kc0 ks0 tgt L h S) (Kf : ¬ (x ≤ y) → WpN g cl p l e R s m args below meth c Q d.2.2.1 kc0 ks0 n L h S) : WpN g cl p l e R s m args below meth c Q d.2.2.1 kc0 ks0 pc L h (.int y :: .int x :: S) := by
  obtain ⟨off, hd, h2, h3⟩ := hG
  exact n_icmpLe act hd (by rw [h3, ht]) (h2.symm.trans hn) Kt Kf
theorem g_nnR (act : Act ss TBL g cl bl xs d p l s m args meth c) (hG : G_ifnonnull ss TBL cl ft mdl d pc w) {q tgt : Nat} (ht : fa w = tgt) (K : WpN g cl p l e R s m args below meth c Q d.2.2.1 kc0 ks0 tgt L h S) : WpN g cl p l e R s m args below meth c Q d.2.2.1 kc0 ks0 pc L h (.ref q :: S) := by
  obtain ⟨off, hd, h2, h3⟩ := hG
  exact n_ifnonnull act hd (by rw [h3, ht]) K
theorem g_nnN (act : Act ss TBL g cl bl xs d p l s m args meth c) (hG : G_ifnonnull ss TBL cl ft mdl d pc w) (hn : nxt w = n) (K : WpN g cl p l e R s m args below meth c Q d.2.2.1 kc0 ks0 n L h S) : WpN g cl p l e R s m args below meth c Q d.2.2.1 kc0 ks0 pc L h (.null :: S) := by
  obtain ⟨off, hd, h2, h3⟩ := hG
  exact n_ifnonnullN act hd (h2.symm.trans hn) K
theorem g_getf (act : Act ss TBL g cl bl xs d p l s m args meth c) (hG : G_getf ss TBL cl ft mdl d pc w) {k ci j N : Nat} {f : Nat → Value} (hc : fa w % 64 = ci) (hj : fa w / 64 = j) (hn : nxt w = n) (hk : h.1[k]? = some (ci, N, f)) (hjN : j < N) (K : WpN g cl p l e R s m args below meth c Q d.2.2.1 kc0 ks0 n L h (f j :: S)) : WpN g cl p l e R s m args below meth c Q d.2.2.1 kc0 ks0 pc L h (.ref k :: S) := by
  subst hc hj
  have h2 : nxt w = pc + 3 := by obtain ⟨_, _, _, _, _, _, q, _⟩ := hG; exact q
  exact n_getf act hG hk hjN (by omega) K
theorem g_putf (act : Act ss TBL g cl bl xs d p l s m args meth c) (hG : G_putf ss TBL cl ft mdl d pc w) {k ci j N : Nat} {f : Nat → Value} {v : Value} (hc : fa w % 64 = ci) (hj : fa w / 64 = j) (hn : nxt w = n) (hk : h.1[k]? = some (ci, N, f)) (hjN : j < N) (hf : fitV (fb w) v) (K : WpN g cl p l e R s m args below meth c Q d.2.2.1 kc0 ks0 n L (h.1.set k (ci, N, upV f j v), h.2) S) : WpN g cl p l e R s m args below meth c Q d.2.2.1 kc0 ks0 pc L h (v :: .ref k :: S) := by
  subst hc hj
  have h2 : nxt w = pc + 3 := by obtain ⟨_, _, _, _, _, _, _, q, _⟩ := hG; exact q
  exact n_putf act hG hk hjN hf (by omega) K
theorem g_iald (act : Act ss TBL g cl bl xs d p l s m args meth c) (hG : G_iald ss TBL cl ft mdl d pc w) {k N : Nat} {f : Nat → Value} {i : Int32} (hn : nxt w = n) (hk : h.1[k]? = some (32, N, f)) (h1 : 0 ≤ i.toInt) (h2 : i.toInt < N) (K : WpN g cl p l e R s m args below meth c Q d.2.2.1 kc0 ks0 n L h (f i.toInt.toNat :: S)) : WpN g cl p l e R s m args below meth c Q d.2.2.1 kc0 ks0 pc L h (.int i :: .ref k :: S) := n_iald act hG.1 hk h1 h2 (hG.2.symm.trans hn) K
theorem g_lald (act : Act ss TBL g cl bl xs d p l s m args meth c) (hG : G_lald ss TBL cl ft mdl d pc w) {k N : Nat} {f : Nat → Value} {i : Int32} (hn : nxt w = n) (hk : h.1[k]? = some (33, N, f)) (h1 : 0 ≤ i.toInt) (h2 : i.toInt < N) (K : WpN g cl p l e R s m args below meth c Q d.2.2.1 kc0 ks0 n L h (f i.toInt.toNat :: S)) : WpN g cl p l e R s m args below meth c Q d.2.2.1 kc0 ks0 pc L h (.int i :: .ref k :: S) := n_lald act hG.1 hk h1 h2 (hG.2.symm.trans hn) K
theorem g_bald (act : Act ss TBL g cl bl xs d p l s m args meth c) (hG : G_bald ss TBL cl ft mdl d pc w) {k N : Nat} {f : Nat → Value} {i : Int32} (hn : nxt w = n) (hk : h.1[k]? = some (34, N, f)) (h1 : 0 ≤ i.toInt) (h2 : i.toInt < N) (K : WpN g cl p l e R s m args below meth c Q d.2.2.1 kc0 ks0 n L h (f i.toInt.toNat :: S)) : WpN g cl p l e R s m args below meth c Q d.2.2.1 kc0 ks0 pc L h (.int i :: .ref k :: S) := n_bald act hG.1 hk h1 h2 (hG.2.symm.trans hn) K
theorem g_zald (act : Act ss TBL g cl bl xs d p l s m args meth c) (hG : G_bald ss TBL cl ft mdl d pc w) {k N : Nat} {f : Nat → Value} {i : Int32} (hn : nxt w = n) (hk : h.1[k]? = some (35, N, f)) (h1 : 0 ≤ i.toInt) (h2 : i.toInt < N) (K : WpN g cl p l e R s m args below meth c Q d.2.2.1 kc0 ks0 n L h (f i.toInt.toNat :: S)) : WpN g cl p l e R s m args below meth c Q d.2.2.1 kc0 ks0 pc L h (.int i :: .ref k :: S) := n_zald act hG.1 hk h1 h2 (hG.2.symm.trans hn) K
theorem g_aald (act : Act ss TBL g cl bl xs d p l s m args meth c) (hG : G_aald ss TBL cl ft mdl d pc w) {k N c9 : Nat} {f : Nat → Value} {i : Int32} (hn : nxt w = n) (hk : h.1[k]? = some (c9, N, f)) (h37 : 37 ≤ c9) (h1 : 0 ≤ i.toInt) (h2 : i.toInt < N) (K : WpN g cl p l e R s m args below meth c Q d.2.2.1 kc0 ks0 n L h (f i.toInt.toNat :: S)) : WpN g cl p l e R s m args below meth c Q d.2.2.1 kc0 ks0 pc L h (.int i :: .ref k :: S) := n_aald act hG.1 hk h37 h1 h2 (hG.2.symm.trans hn) K
theorem g_iast (act : Act ss TBL g cl bl xs d p l s m args meth c) (hG : G_iast ss TBL cl ft mdl d pc w) {k N : Nat} {f : Nat → Value} {i : Int32} {x : Int32} (hn : nxt w = n) (hk : h.1[k]? = some (32, N, f)) (h1 : 0 ≤ i.toInt) (h2 : i.toInt < N) (K : WpN g cl p l e R s m args below meth c Q d.2.2.1 kc0 ks0 n L (h.1.set k (32, N, upV f i.toInt.toNat (.int x)), h.2) S) : WpN g cl p l e R s m args below meth c Q d.2.2.1 kc0 ks0 pc L h (.int x :: .int i :: .ref k :: S) := n_iast act hG.1 hk h1 h2 (hG.2.symm.trans hn) K
theorem g_last (act : Act ss TBL g cl bl xs d p l s m args meth c) (hG : G_last ss TBL cl ft mdl d pc w) {k N : Nat} {f : Nat → Value} {i : Int32} {x : Int64} (hn : nxt w = n) (hk : h.1[k]? = some (33, N, f)) (h1 : 0 ≤ i.toInt) (h2 : i.toInt < N) (K : WpN g cl p l e R s m args below meth c Q d.2.2.1 kc0 ks0 n L (h.1.set k (33, N, upV f i.toInt.toNat (.long x)), h.2) S) : WpN g cl p l e R s m args below meth c Q d.2.2.1 kc0 ks0 pc L h (.long x :: .int i :: .ref k :: S) := n_last act hG.1 hk h1 h2 (hG.2.symm.trans hn) K
theorem g_bast (act : Act ss TBL g cl bl xs d p l s m args meth c) (hG : G_bast ss TBL cl ft mdl d pc w) {k N : Nat} {f : Nat → Value} {i : Int32} {x : Int32} (hn : nxt w = n) (hk : h.1[k]? = some (34, N, f)) (h1 : 0 ≤ i.toInt) (h2 : i.toInt < N) (K : WpN g cl p l e R s m args below meth c Q d.2.2.1 kc0 ks0 n L (h.1.set k (34, N, upV f i.toInt.toNat (.int (vp_nar .byte x))), h.2) S) : WpN g cl p l e R s m args below meth c Q d.2.2.1 kc0 ks0 pc L h (.int x :: .int i :: .ref k :: S) := n_bast act hG.1 hk h1 h2 (hG.2.symm.trans hn) K
theorem g_zast (act : Act ss TBL g cl bl xs d p l s m args meth c) (hG : G_bast ss TBL cl ft mdl d pc w) {k N : Nat} {f : Nat → Value} {i : Int32} {x : Int32} (hn : nxt w = n) (hk : h.1[k]? = some (35, N, f)) (h1 : 0 ≤ i.toInt) (h2 : i.toInt < N) (K : WpN g cl p l e R s m args below meth c Q d.2.2.1 kc0 ks0 n L (h.1.set k (35, N, upV f i.toInt.toNat (.int (vp_nar .boolean x))), h.2) S) : WpN g cl p l e R s m args below meth c Q d.2.2.1 kc0 ks0 pc L h (.int x :: .int i :: .ref k :: S) := n_zast act hG.1 hk h1 h2 (hG.2.symm.trans hn) K
theorem g_alen (act : Act ss TBL g cl bl xs d p l s m args meth c) (hG : G_alen ss TBL cl ft mdl d pc w) {k N c9 : Nat} {f : Nat → Value} (hn : nxt w = n) (hk : h.1[k]? = some (c9, N, f)) (h32 : 32 ≤ c9) (K : WpN g cl p l e R s m args below meth c Q d.2.2.1 kc0 ks0 n L h (.int (Int32.ofNat N) :: S)) : WpN g cl p l e R s m args below meth c Q d.2.2.1 kc0 ks0 pc L h (.ref k :: S) := n_alen act hG.1 hk h32 (hG.2.symm.trans hn) K
theorem g_slen (act : Act ss TBL g cl bl xs d p l s m args meth c) (hG : G_alen ss TBL cl ft mdl d pc w) (hn : nxt w = n) (K : WpN g cl p l e R s m args below meth c Q d.2.2.1 kc0 ks0 n L h (.int (Int32.ofNat bl) :: S)) : WpN g cl p l e R s m args below meth c Q d.2.2.1 kc0 ks0 pc L h (.ref 7000000000003 :: S) := n_slen act hG.1 (hG.2.symm.trans hn) K
theorem g_retI {f lam KC KS : Nat} {PO : Nat → Option Value → List CE → Prop} (hEnd : EndN ss TBL g cl d p l e R s m args below meth c Q kc0 ks0 f lam KC KS PO) (hG : G_retI ss TBL cl ft mdl d pc w) {x : Int32} (hP : PO 0 (some (.int x)) h.1) (h1 : h.2.1 ≤ KC) (h2 : h.2.2 ≤ KS) : WpN g cl p l e R s m args below meth c Q d.2.2.1 kc0 ks0 pc L h [.int x] := n_iret hEnd hG.1 hG.2 hP h1 h2
theorem g_retL {f lam KC KS : Nat} {PO : Nat → Option Value → List CE → Prop} (hEnd : EndN ss TBL g cl d p l e R s m args below meth c Q kc0 ks0 f lam KC KS PO) (hG : G_retL ss TBL cl ft mdl d pc w) {x : Int64} (hP : PO 0 (some (.long x)) h.1) (h1 : h.2.1 ≤ KC) (h2 : h.2.2 ≤ KS) : WpN g cl p l e R s m args below meth c Q d.2.2.1 kc0 ks0 pc L h [.long x] := n_lret hEnd hG.1 hG.2 hP h1 h2
theorem g_retD {f lam KC KS : Nat} {PO : Nat → Option Value → List CE → Prop} (hEnd : EndN ss TBL g cl d p l e R s m args below meth c Q kc0 ks0 f lam KC KS PO) (hG : G_retD ss TBL cl ft mdl d pc w) {x : UInt64} (hP : PO 0 (some (.double x)) h.1) (h1 : h.2.1 ≤ KC) (h2 : h.2.2 ≤ KS) : WpN g cl p l e R s m args below meth c Q d.2.2.1 kc0 ks0 pc L h [.double x] := n_dret hEnd hG.1 hG.2 hP h1 h2
theorem g_retZ {f lam KC KS : Nat} {PO : Nat → Option Value → List CE → Prop} (hEnd : EndN ss TBL g cl d p l e R s m args below meth c Q kc0 ks0 f lam KC KS PO) (hG : G_retZ ss TBL cl ft mdl d pc w) {x : Int32} (hx : x = 0 ∨ x = 1) (hP : PO 0 (some (.int x)) h.1) (h1 : h.2.1 ≤ KC) (h2 : h.2.2 ≤ KS) : WpN g cl p l e R s m args below meth c Q d.2.2.1 kc0 ks0 pc L h [.int x] := n_zret hEnd hG.1 hG.2 hx hP h1 h2
theorem g_retV {f lam KC KS : Nat} {PO : Nat → Option Value → List CE → Prop} (hEnd : EndN ss TBL g cl d p l e R s m args below meth c Q kc0 ks0 f lam KC KS PO) (hG : G_retV ss TBL cl ft mdl d pc w) (hP : PO 0 none h.1) (h1 : h.2.1 ≤ KC) (h2 : h.2.2 ≤ KS) : WpN g cl p l e R s m args below meth c Q d.2.2.1 kc0 ks0 pc L h [] := n_vret hEnd hG.1 hG.2 hP h1 h2
theorem g_retA {f lam KC KS : Nat} {PO : Nat → Option Value → List CE → Prop} (hEnd : EndN ss TBL g cl d p l e R s m args below meth c Q kc0 ks0 f lam KC KS PO) (hG : G_retA ss TBL cl ft mdl d pc w) {v : Value} (hv : v = .null ∨ ∃ k : Nat, v = .ref k) (hP : PO 0 (some v) h.1) (h1 : h.2.1 ≤ KC) (h2 : h.2.2 ≤ KS) : WpN g cl p l e R s m args below meth c Q d.2.2.1 kc0 ks0 pc L h [v] := by
  obtain ⟨hd, rt, hr, hk⟩ := hG
  exact n_aret hEnd hd hr hk hv hP h1 h2
theorem g_throw {f lam KC KS : Nat} {PO : Nat → Option Value → List CE → Prop} (hEnd : EndN ss TBL g cl d p l e R s m args below meth c Q kc0 ks0 f lam KC KS PO) (hG : G_throw ss TBL cl ft mdl d pc w) {x : Nat} (hx : fa w = x) (hP : PO (1 + x) none h.1) (h1 : h.2.1 + 1 ≤ KC) (h2 : h.2.2 + 6 ≤ KS) (h8 : 8 ≤ f) (hl : 120 ≤ lam) : WpN g cl p l e R s m args below meth c Q d.2.2.1 kc0 ks0 pc L h [] := by
  subst hx
  exact n_throw hEnd hG.1 hG.2 hP h1 h2 h8 hl
end GROWS
/-- a word of a program -/
theorem gx {ss : SS} {TBL : List Cond} {cl : List vw_C} {ft : Nat → Nat → Nat} {mdl : Nat → Option MD} {d : MD} {pr pc w : Nat} {P : SS → List Cond → List vw_C → (Nat → Nat → Nat) → (Nat → Option MD) → MD → Nat → Nat → Prop} (h : GPd ss TBL cl ft mdl d pr) (hw : ftc pr pc = w) (h0 : w ≠ 0) (hP : GL[w % 256]? = some P) : P ss TBL cl ft mdl d pc w := by
  subst hw
  obtain ⟨P', h1, h2⟩ := h pc h0
  rw [hP] at h1
  cases h1
  exact h2

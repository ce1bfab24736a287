/-! System.arraycopy within an array of references; remove(0) of a full list. -/
theorem tw_901 : (Cond.methodLink "java/util/ArrayList" 112 arraycopyName) ∈ TBL := isw_t (i := 901) (by decide +kernel)
theorem tw_902 : (Cond.static arraycopyName) ∈ TBL := isw_t (i := 902) (by decide +kernel)
theorem tw_903 : (Cond.native arraycopyName) ∈ TBL := isw_t (i := 903) (by decide +kernel)
theorem tw_150 : (Cond.initialized "java/lang/System") ∈ TBL := isw_t (i := 150) (by decide +kernel)
/-- n places from a on, laid from b on -/
def cpyV (f : Nat → Value) (a b n : Nat) : Nat → Value := fun j => if b ≤ j ∧ j < b + n then f (a + (j - b)) else f j
def cpw (hs : List CE) (k a b n : Nat) : List CE := match hs[k]? with
  | some c => hs.set k (c.1, c.2.1, cpyV c.2.2 a b n)
  | none => hs
theorem cpw_at {hs : List CE} {k c N a b n : Nat} (h : shp hs k = some (c, N)) : cpw hs k a b n = hs.set k (c, N, cpyV (rd hs k) a b n) := by
  unfold cpw; rw [shp_at h]
theorem cpw_ne {hs : List CE} {k k' a b n : Nat} (h : k ≠ k') : (cpw hs k a b n)[k']? = hs[k']? := by
  unfold cpw
  split
  · rw [List.getElem?_set_ne h]
  · rfl
theorem cpw_len (hs : List CE) (k a b n : Nat) : (cpw hs k a b n).length = hs.length := by
  unfold cpw
  split
  · rw [List.length_set]
  · rfl
theorem shp_cpw (hs : List CE) (k a b n k' : Nat) : shp (cpw hs k a b n) k' = shp hs k' := by
  by_cases h : k = k'
  · subst h
    cases hc : hs[k]? with
    | none => unfold cpw; rw [hc]
    | some c =>
      have hl := (List.getElem?_eq_some_iff.mp hc).1
      unfold shp cpw
      rw [hc]
      show ((hs.set k (c.1, c.2.1, cpyV c.2.2 a b n))[k]?).map _ = _
      rw [List.getElem?_set_self hl]
      rfl
  · unfold shp; rw [cpw_ne h]
theorem rd_cpw_ne {hs : List CE} {k k' a b n j : Nat} (h : k ≠ k') : rd (cpw hs k a b n) k' j = rd hs k' j := by
  unfold rd; rw [cpw_ne h]
theorem rd_cpw {hs : List CE} {k c N a b n j : Nat} (h : shp hs k = some (c, N)) : rd (cpw hs k a b n) k j = cpyV (rd hs k) a b n j := by
  rw [cpw_at h]
  show (match (hs.set k (c, N, cpyV (rd hs k) a b n))[k]? with | some c => c.2.2 j | none => _) = _
  rw [List.getElem?_set_self (shp_lt h)]
theorem hty_cpw {R : List Nat} {hs : List CE} (h : HTy KC R hs) {k a b n : Nat} (hk : R[k]? = some 402) : HTy KC R (cpw hs k a b n) := by
  obtain ⟨h1, h2, h3⟩ := h
  refine ⟨by rw [cpw_len]; exact h1, fun k' r' hk' hr' => ?_, h3⟩
  obtain ⟨s, t⟩ := h2 k' r' hk' hr'
  refine ⟨by rw [shp_cpw]; exact s, fun j hj => ?_⟩
  by_cases e : k = k'
  · subst e
    rw [hk] at hk'
    cases hk'
    exact Or.inl rfl
  · rw [rd_cpw_ne e]; exact t j hj
theorem lsx_cpw {R : List Nat} {hs0 hs : List CE} (h : LSX R hs0 hs) {k a b n : Nat} (hk : R[k]? = some 402) : LSX R hs0 (cpw hs k a b n) := by
  obtain ⟨p1, p2, p3⟩ := h
  refine ⟨hty_cpw p1 hk, fun k' r' h1 h2 h3 => ?_, by rw [cpw_len]; exact p3⟩
  rw [cpw_ne (fun z => by subst z; rw [hk] at h1; cases h1; omega)]
  exact p2 k' r' h1 h2 h3
theorem n_acopy {ss : SS} {g : GG} {cl : List vw_C} {bl : Nat} {xs : Nat → Int32} {d : MD} {p : Program} {l : Launch} {e : Env} {R : Room} {s : State} {m : MethodId} {args : Array Value} {below : List Frame} {meth : Method} {c : Code} {Q : State → Prop} {kc0 ks0 pc n : Nat} {L : LN} {hs : List CE} {kc ks : Nat} {S : List Value} (act : Act ss TBL g cl bl xs d p l s m args meth c) {ix k N a b n9 : Nat} {sp dp nn : Int32} {rc8 : vw_C} (hc8 : cl[8]? = some rc8) (hca : Cond.castable rc8.1 "java/lang/Object" ∈ TBL)
    (hk : shp hs k = some (39, N)) (hsp : sp.toInt = (a : Int)) (hdp : dp.toInt = (b : Int)) (hnn : nn.toInt = (n9 : Int)) (h4 : a + n9 ≤ N) (h5 : b + n9 ≤ N) (hel : ∀ j : Nat, a ≤ j → j < a + n9 → ∃ ke N8 : Nat, rd hs k j = .ref ke ∧ shp hs ke = some (8, N8))
    (hd : decode d.2.1 pc = .ok (.invokestatic ix, 3)) (hlk : Cond.methodLink d.1.cls ix arraycopyName ∈ TBL) (hf : 1 ≤ R.frames) (hl : 38 ≤ R.locals) (hcat : (S.map fun v => v.category).sum ≤ 20) (hn : pc + 3 = n)
    (K : WpN g cl p l e R s m args below meth c Q d.2.2.1 kc0 ks0 n L (cpw hs k a b n9, kc, ks) S) : WpN g cl p l e R s m args below meth c Q d.2.2.1 kc0 ks0 pc L (hs, kc, ks) (.int nn :: .int dp :: .ref k :: .int sp :: .ref k :: S) := by
  obtain ⟨hx, hb, hr, hml, hown, hts, hK, hE, hlocks, hnm, htab, htr⟩ := act
  subst hn
  intro ls st H locs cells slots r
  obtain ⟨ws, hL, ⟨v0, st0, rfl, h0, v1, st1, rfl, h1, v2, st2, rfl, h2, v3, st3, rfl, h3, v4, st4, rfl, h4v, hS⟩, hH, hP, hD, hSS, hc1, hc2⟩ := r
  have h0 : v0 = .int nn := h0
  subst h0
  have h1 : v1 = .int dp := h1
  subst h1
  have h3 : v3 = .int sp := h3
  subst h3
  have hk9 := shp_at hk
  obtain ⟨q1, q2⟩ := hH.at hk9
  obtain ⟨a9, e1, he, rfl⟩ := h2.cell q1
  obtain ⟨a8, e8, he8, rfl⟩ := h4v.cell q1
  rw [he] at he8
  cases he8
  obtain ⟨cA, f1, rfl, h7, h8⟩ := (q2 _ _ he).rfs (by show 37 ≤ 39; decide)
  have h7 : g.2.1[7]? = some (cA, .object "java/lang/Object") := h7
  have he : ws[k]? = some (a9, .inl (cA, N, .inr (.inr (.inr (.inr f1))))) := he
  have sx : sp.toNatClampNeg = a := by show sp.toInt.toNat = a; rw [hsp]; rfl
  have dx : dp.toNatClampNeg = b := by show dp.toInt.toNat = b; rw [hdp]; rfl
  have nx : nn.toNatClampNeg = n9 := by show nn.toInt.toNat = n9; rw [hnn]; rfl
  have neg : ∀ {x : Int32} {y : Nat}, x.toInt = (y : Int) → ¬ x < 0 := fun {x y} hx9 => by
    rw [Int32.lt_iff_toInt_lt, hx9]
    show ¬ (y : Int) < 0
    omega
  have hcat9 := hS.cats
  refine va_copyq hx hb (hml.trans hL.size.symm) hown (hts _ hlk) (hts _ tw_903) (hts _ tw_902) (hts _ tw_150) hK hP hD hSS k k 7 7 he he h7 h7 (C := rc8.1) (neg hsp) (neg hdp) (neg hnn) (by rw [sx, nx]; exact h4) (by rw [dx, nx]; exact h5) (fun i hi y hy => ?_) (vb_asgC (va_Nw.of rfl (hts _ hca))) hf (by rw [show nativeFrameWords "java/lang/System" "arraycopy" 5 = 7 from by decide]; omega) hd (fun H1 locs1 hP1 hD1 hS1 => ?_)
  · rw [nx] at hi
    rw [sx] at hy
    obtain ⟨ke, N8, w1, w2⟩ := hel (a + i) (by omega) (by omega)
    have w3 := h8 (a + i) (by show a + i < N; omega)
    have w3 : VN g ws (rd hs k (a + i)) (va_rf (f1 (a + i))) := w3
    rw [w1, hy] at w3
    obtain ⟨q3, q4⟩ := hH.at (shp_at w2)
    obtain ⟨b9, e2, hve, hvr⟩ := w3.cell q3
    obtain ⟨vs, rfl, -, -⟩ := (q4 _ _ hve).obj (by show 8 < 32; decide)
    have hvr : Value.ref y = Value.ref b9 := hvr
    cases hvr
    have hve : ws[ke]? = some (y, .inr (8, vs)) := hve
    obtain ⟨cell, g1, g2, g3⟩ := va_recv hK hP hc8 hve
    exact ⟨cell, g1, g2, g3⟩
  · rw [sx, dx, nx] at hP1 hD1
    have hle : wsle ws (ws.set k (a9, .inl (cA, N, .inr (.inr (.inr (.inr (va_cpy f1 f1 a b n9))))))) := wsle.set he
    refine K _ _ _ _ _ _ ⟨_, hL.mono hle, SRN.mono hle hS, ?_, hP1, hD1, hS1, hc1, hc2⟩
    show HNR g _ (cpw hs k a b n9)
    rw [cpw_at hk]
    refine hH.set he (Or.inr <| Or.inr <| Or.inr <| Or.inr ⟨by show 37 ≤ 39; decide, cA, _, rfl, h7, fun j hj => ?_⟩)
    have hj : j < N := hj
    show VN g _ (cpyV (rd hs k) a b n9 j) (va_rf (va_cpy f1 f1 a b n9 j))
    unfold cpyV va_cpy
    by_cases hq : b ≤ j ∧ j < b + n9
    · rw [if_pos hq, if_pos hq]
      exact (h8 _ (by show a + (j - b) < N; omega)).mono hle
    · rw [if_neg hq, if_neg hq]
      exact (h8 j hj).mono hle
section REM
variable {g0 : GG} {bl : Nat} {xs : Nat → Int32} {l : Launch} {hs : List CE} {k ka : Nat} {n9 m9 i9 : Int32}

theorem b_prc (h0 : 0 ≤ i9.toInt) (h1 : i9.toInt < n9.toInt) : BodyN SSX TBL g0 CLS bl xs l D_303 0 0 0 0 [.int i9, .int n9, .null] hs (fun kd r h2 => kd = 0 ∧ hs = h2 ∧ r = some (.int i9)) := by
  intro wp p e R s m args below meth c Q kc0 ks0 kc ks act hf hl hc hsl hEnd
  have hf : 0 ≤ R.frames := hf
  have hl : 0 ≤ R.locals := hl
  show WpN (gp g0 wp) CLS p l e R s m args below meth c Q D_303.2.2.1 kc0 ks0 0 [some (.int i9), some (.int n9), some (.null)] (hs, kc, ks) []
  refine g_loadI act (gx gp_303 (w := 0x102) rfl (by decide) rfl) (a := 0) (n := 1) rfl rfl rfl ?_
  refine g_ifLt act (gx gp_303 (w := 0x900042a) rfl (by decide) rfl) (tgt := 9) (n := 4) rfl rfl (fun h2 => ?_) (fun h2 => ?_)
  · simp only [i_lt, i0] at h2
    exfalso; omega
  · simp only [i_lt, i0] at h2
    refine g_loadI act (gx gp_303 (w := 0x502) rfl (by decide) rfl) (a := 0) (n := 5) rfl rfl rfl ?_
    refine g_loadI act (gx gp_303 (w := 0x1000602) rfl (by decide) rfl) (a := 1) (n := 6) rfl rfl rfl ?_
    refine g_icmpLt act (gx gp_303 (w := 0x10000920) rfl (by decide) rfl) (tgt := 16) (n := 9) rfl rfl (fun h5 => ?_) (fun h5 => ?_)
    · simp only [i_lt] at h5
      refine g_loadI act (gx gp_303 (w := 0x1102) rfl (by decide) rfl) (a := 0) (n := 17) rfl rfl rfl ?_
      exact g_retI hEnd (gx gp_303 (w := 0x2f) rfl (by decide) rfl) ⟨rfl, rfl, rfl⟩ (by show kc ≤ kc + 0; omega) (by show ks ≤ ks + 0; omega)
    · simp only [i_lt] at h5
      exfalso; omega

theorem b_chi (h0 : 0 ≤ i9.toInt) (h1 : i9.toInt < n9.toInt) : BodyN SSX TBL g0 CLS bl xs l D_302 1 22 0 0 [.int i9, .int n9] hs (fun kd r h2 => kd = 0 ∧ hs = h2 ∧ r = some (.int i9)) := by
  intro wp p e R s m args below meth c Q kc0 ks0 kc ks act hf hl hc hsl hEnd
  have hf : 1 ≤ R.frames := hf
  have hl : 22 ≤ R.locals := hl
  show WpN (gp g0 wp) CLS p l e R s m args below meth c Q D_302.2.2.1 kc0 ks0 0 [some (.int i9), some (.int n9)] (hs, kc, ks) []
  refine g_loadI act (gx gp_302 (w := 0x102) rfl (by decide) rfl) (a := 0) (n := 1) rfl rfl rfl ?_
  refine g_loadI act (gx gp_302 (w := 0x1000202) rfl (by decide) rfl) (a := 1) (n := 2) rfl rfl rfl ?_
  refine g_null act (gx gp_302 (w := 0x4000000000301) rfl (by decide) rfl) (n := 3) (by decide) rfl ?_
  refine n_call tb_pres act hEnd (gx (P := G_call) gp_302 (w := 0x40c3300012f00060f) rfl (by decide) rfl) (d' := D_303) rfl (f' := 0) (lam' := 0) (mc := 0) (ms := 0) (as := [.int i9, .int n9, .null]) (rest := []) (b_prc h0 h1) (show (3 : Nat) = fb 0x40c3300012f00060f % 16 by decide) (by show (3 : Nat) ≤ 3; decide) (fun q => absurd q (by decide)) (by omega) (by show 8 + (3 + 11) + 0 ≤ R.locals; omega) (by show (0 : Nat) ≤ 8; decide) (by show kc + 0 ≤ _; omega) (by show ks + 0 ≤ _; omega) (fun r9 hs9 hpo hr9 => ?_) (fun x9 hs9 hx9 hpo => ?_)
  · obtain ⟨-, rfl, rfl⟩ := hpo
    show WpN (gp g0 wp) CLS p l e R s m args below meth c Q D_302.2.2.1 kc0 ks0 6 [some (.int i9), some (.int n9)] (hs, kc, ks) [.int i9]
    exact g_retI hEnd (gx gp_302 (w := 0x2f) rfl (by decide) rfl) ⟨rfl, rfl, rfl⟩ (by show kc ≤ kc + 0; omega) (by show ks ≤ ks + 0; omega)
  · exact absurd hpo.1 (by omega)

theorem b_fst (hk : shp hs k = some (10, 3)) (ha : shp hs ka = some (39, 10)) (hka : k ≠ ka) (e1 : rd hs k 1 = .int n9) (e2 : rd hs k 2 = .int m9) (hn : n9.toInt = 10) (hel : ∀ j : Nat, j < 10 → ∃ ke N8 : Nat, rd hs ka j = .ref ke ∧ shp hs ke = some (8, N8)) : BodyN SSX TBL g0 CLS bl xs l D_296 1 38 0 0 [.ref k, .ref ka, .int (0 : Int32)] hs (fun kd r h2 => kd = 0 ∧ r = none ∧ h2 = (wr (wr (cpw (wr hs k 2 (.int (m9 + (1 : Int32)))) ka 1 0 9) k 1 (.int (n9 - (1 : Int32)))) ka 9 .null)) := by
  intro wp p e R s m args below meth c Q kc0 ks0 kc ks act hf hl hc hsl hEnd
  have hf : 1 ≤ R.frames := hf
  have hl : 38 ≤ R.locals := hl
  have sub9 : (n9 - (1 : Int32)).toInt = 9 := by
    rw [i_sub (by rw [hn]; decide) (by rw [hn]; decide), hn]; rfl
  have sub8 : (n9 - (1 : Int32) - (0 : Int32)).toInt = 9 := by
    rw [i_sub (by rw [sub9]; decide) (by rw [sub9]; decide), sub9]; rfl
  have hel1 : ∀ j : Nat, 1 ≤ j → j < 1 + 9 → ∃ ke N8 : Nat, rd (wr hs k 2 (.int (m9 + (1 : Int32)))) ka j = .ref ke ∧ shp (wr hs k 2 (.int (m9 + (1 : Int32)))) ke = some (8, N8) := fun j _ hj => by
    obtain ⟨ke, N8, w1, w2⟩ := hel j (by omega)
    exact ⟨ke, N8, by rw [rd_ne _ _ (Or.inl (fun z => hka z.symm))]; exact w1, by rw [shp_wr]; exact w2⟩
  show WpN (gp g0 wp) CLS p l e R s m args below meth c Q D_296.2.2.1 kc0 ks0 0 [some (.ref k), some (.ref ka), some (.int (0 : Int32)), none] (hs, kc, ks) []
  refine g_loadA act (gx gp_296 (w := 0x103) rfl (by decide) rfl) (a := 0) (n := 1) rfl rfl rfl ?_
  refine g_dup act (gx gp_296 (w := 0x222) rfl (by decide) rfl) (n := 2) rfl rfl ?_
  refine r_getf act (gx gp_296 (w := 0x8a000504) rfl (by decide) rfl) (n := 5) (ci := 10) (j := 2) (N := 3) rfl rfl rfl hk (by decide) (v := .int m9) e2 ?_
  refine g_constI act (gx gp_296 (w := 0x40000000c00000009000000000601) rfl (by decide) rfl) (n := 6) (x := (1 : Int32)) (by decide) rfl ?_
  refine g_iadd act (gx gp_296 (w := 0x70a) rfl (by decide) rfl) (n := 7) rfl ?_
  refine r_putf act (gx gp_296 (w := 0x8a000a13) rfl (by decide) rfl) (n := 10) (ci := 10) (j := 2) (N := 3) rfl rfl rfl hk (by decide) (Or.inl ⟨rfl, _, rfl⟩) ?_
  refine g_loadA act (gx gp_296 (w := 0xb03) rfl (by decide) rfl) (a := 0) (n := 11) rfl rfl rfl ?_
  refine r_getf act (gx gp_296 (w := 0x4a000e04) rfl (by decide) rfl) (n := 14) (ci := 10) (j := 1) (N := 3) rfl rfl rfl (by rw [shp_wr]; exact hk) (by decide) (v := .int n9) (by rw [rd_ne _ _ (Or.inr (by decide))]; exact e1) ?_
  refine g_constI act (gx gp_296 (w := 0x40000000c00000009000000000f01) rfl (by decide) rfl) (n := 15) (x := (1 : Int32)) (by decide) rfl ?_
  refine g_isub act (gx gp_296 (w := 0x1026) rfl (by decide) rfl) (n := 16) rfl ?_
  refine g_dup act (gx gp_296 (w := 0x1122) rfl (by decide) rfl) (n := 17) rfl rfl ?_
  refine g_storeI act (gx gp_296 (w := 0x3001210) rfl (by decide) rfl) (a := 3) (n := 18) rfl rfl (L2 := [some (.ref k), some (.ref ka), some (.int (0 : Int32)), some (.int (n9 - (1 : Int32)))]) rfl ?_
  refine g_loadI act (gx gp_296 (w := 0x2001302) rfl (by decide) rfl) (a := 2) (n := 19) rfl rfl rfl ?_
  refine g_icmpLe act (gx gp_296 (w := 0x2200163c) rfl (by decide) rfl) (tgt := 34) (n := 22) rfl rfl (fun h9 => absurd (i_le.mp h9) (by rw [sub9]; decide)) (fun _ => ?_)
  refine g_loadA act (gx gp_296 (w := 0x1001703) rfl (by decide) rfl) (a := 1) (n := 23) rfl rfl rfl ?_
  refine g_loadI act (gx gp_296 (w := 0x2001802) rfl (by decide) rfl) (a := 2) (n := 24) rfl rfl rfl ?_
  refine g_constI act (gx gp_296 (w := 0x40000000c00000009000000001901) rfl (by decide) rfl) (n := 25) (x := (1 : Int32)) (by decide) rfl ?_
  refine g_iadd act (gx gp_296 (w := 0x1a0a) rfl (by decide) rfl) (n := 26) rfl ?_
  refine g_loadA act (gx gp_296 (w := 0x1001b03) rfl (by decide) rfl) (a := 1) (n := 27) rfl rfl rfl ?_
  refine g_loadI act (gx gp_296 (w := 0x2001c02) rfl (by decide) rfl) (a := 2) (n := 28) rfl rfl rfl ?_
  refine g_loadI act (gx gp_296 (w := 0x3001d02) rfl (by decide) rfl) (a := 3) (n := 29) rfl rfl rfl ?_
  refine g_loadI act (gx gp_296 (w := 0x2001e02) rfl (by decide) rfl) (a := 2) (n := 30) rfl rfl rfl ?_
  refine g_isub act (gx gp_296 (w := 0x1f26) rfl (by decide) rfl) (n := 31) rfl ?_
  refine n_acopy act (ix := 112) (k := ka) (N := 10) (a := 1) (b := 0) (n9 := 9) (rc8 := C_8) rfl (isw_t (i := 2043) (by decide +kernel)) (by rw [shp_wr]; exact ha) (by decide) (by decide) (by rw [sub8]; rfl) (by decide) (by decide) hel1 (by decide +kernel) tw_901 (by omega) (by omega) (by decide) (n := 34) rfl ?_
  refine g_loadA act (gx gp_296 (w := 0x1002303) rfl (by decide) rfl) (a := 1) (n := 35) rfl rfl rfl ?_
  refine g_loadA act (gx gp_296 (w := 0x2403) rfl (by decide) rfl) (a := 0) (n := 36) rfl rfl rfl ?_
  refine g_loadI act (gx gp_296 (w := 0x3002502) rfl (by decide) rfl) (a := 3) (n := 37) rfl rfl rfl ?_
  refine g_dupx1 act (gx gp_296 (w := 0x264f) rfl (by decide) rfl) (n := 38) rfl rfl rfl ?_
  refine r_putf act (gx gp_296 (w := 0x4a002913) rfl (by decide) rfl) (n := 41) (ci := 10) (j := 1) (N := 3) rfl rfl rfl (by rw [shp_cpw, shp_wr]; exact hk) (by decide) (Or.inl ⟨rfl, _, rfl⟩) ?_
  refine g_null act (gx gp_296 (w := 0x4000000002a01) rfl (by decide) rfl) (n := 42) (by decide) rfl ?_
  refine r_aastN act (gx gp_296 (w := 0x2b35) rfl (by decide) rfl) (n := 43) (N := 10) (c9 := 39) rfl (by rw [shp_wr, shp_cpw, shp_wr]; exact ha) (by decide) (j := 9) (by rw [sub9]; rfl) (by decide) ?_
  exact g_retV hEnd (gx gp_296 (w := 0x18) rfl (by decide) rfl) ⟨rfl, rfl, rfl⟩ (by show kc ≤ kc + 0; omega) (by show ks ≤ ks + 0; omega)

theorem b_rm0 (hk : shp hs k = some (10, 3)) (ha : shp hs ka = some (39, 10)) (hka : k ≠ ka) (e0 : rd hs k 0 = .ref ka) (e1 : rd hs k 1 = .int n9) (e2 : rd hs k 2 = .int m9) (hn : n9.toInt = 10) (hel : ∀ j : Nat, j < 10 → ∃ ke N8 : Nat, rd hs ka j = .ref ke ∧ shp hs ke = some (8, N8)) : BodyN SSX TBL g0 CLS bl xs l D_300 3 90 0 0 [.ref k, .int (0 : Int32)] hs (fun kd r h2 => kd = 0 ∧ (∃ x : Nat, r = some (.ref x)) ∧ h2 = (wr (wr (cpw (wr hs k 2 (.int (m9 + (1 : Int32)))) ka 1 0 9) k 1 (.int (n9 - (1 : Int32)))) ka 9 .null)) := by
  intro wp p e R s m args below meth c Q kc0 ks0 kc ks act hf hl hc hsl hEnd
  have hf : 3 ≤ R.frames := hf
  have hl : 90 ≤ R.locals := hl
  obtain ⟨k0, N0, ek0, -⟩ := hel 0 (by decide)
  show WpN (gp g0 wp) CLS p l e R s m args below meth c Q D_300.2.2.1 kc0 ks0 0 [some (.ref k), some (.int (0 : Int32)), none, none] (hs, kc, ks) []
  refine g_loadI act (gx gp_300 (w := 0x1000102) rfl (by decide) rfl) (a := 1) (n := 1) rfl rfl rfl ?_
  refine g_loadA act (gx gp_300 (w := 0x203) rfl (by decide) rfl) (a := 0) (n := 2) rfl rfl rfl ?_
  refine r_getf act (gx gp_300 (w := 0x4a000504) rfl (by decide) rfl) (n := 5) (ci := 10) (j := 1) (N := 3) rfl rfl rfl hk (by decide) (v := .int n9) e1 ?_
  refine n_call tb_pres act hEnd (gx (P := G_call) gp_300 (w := 0x4082200012e00080f) rfl (by decide) rfl) (d' := D_302) rfl (f' := 1) (lam' := 22) (mc := 0) (ms := 0) (as := [.int (0 : Int32), .int n9]) (rest := []) (b_chi (by decide) (by rw [hn]; decide)) (show (2 : Nat) = fb 0x4082200012e00080f % 16 by decide) (by show (2 : Nat) ≤ 2; decide) (fun q => absurd q (by decide)) (by omega) (by show 8 + (2 + 11) + 22 ≤ R.locals; omega) (by show (0 : Nat) ≤ 8; decide) (by show kc + 0 ≤ _; omega) (by show ks + 0 ≤ _; omega) (fun r9 hs9 hpo hr9 => ?_) (fun x9 hs9 hx9 hpo => ?_)
  · obtain ⟨-, rfl, rfl⟩ := hpo
    show WpN (gp g0 wp) CLS p l e R s m args below meth c Q D_300.2.2.1 kc0 ks0 8 [some (.ref k), some (.int (0 : Int32)), none, none] (hs, kc, ks) [.int (0 : Int32)]
    refine g_pop act (gx gp_300 (w := 0x93f) rfl (by decide) rfl) (n := 9) rfl rfl ?_
    refine g_loadA act (gx gp_300 (w := 0xa03) rfl (by decide) rfl) (a := 0) (n := 10) rfl rfl rfl ?_
    refine r_getf act (gx gp_300 (w := 0x300000a000d04) rfl (by decide) rfl) (n := 13) (ci := 10) (j := 0) (N := 3) rfl rfl rfl hk (by decide) (v := .ref ka) e0 ?_
    refine g_storeA act (gx gp_300 (w := 0x2000e2d) rfl (by decide) rfl) (a := 2) (n := 14) rfl rfl (L2 := [some (.ref k), some (.int (0 : Int32)), some (.ref ka), none]) rfl ?_
    refine g_loadA act (gx gp_300 (w := 0x2000f03) rfl (by decide) rfl) (a := 2) (n := 15) rfl rfl rfl ?_
    refine g_loadI act (gx gp_300 (w := 0x1001002) rfl (by decide) rfl) (a := 1) (n := 16) rfl rfl rfl ?_
    refine r_aald act (gx gp_300 (w := 0x1112) rfl (by decide) rfl) (n := 17) (c9 := 39) (N := 10) (j := 0) rfl ha (by decide) (by decide) (by decide) ek0 ?_
    refine g_storeA act (gx gp_300 (w := 0x300122d) rfl (by decide) rfl) (a := 3) (n := 18) rfl rfl (L2 := [some (.ref k), some (.int (0 : Int32)), some (.ref ka), some (.ref k0)]) rfl ?_
    refine g_loadA act (gx gp_300 (w := 0x1303) rfl (by decide) rfl) (a := 0) (n := 19) rfl rfl rfl ?_
    refine g_loadA act (gx gp_300 (w := 0x2001403) rfl (by decide) rfl) (a := 2) (n := 20) rfl rfl rfl ?_
    refine g_loadI act (gx gp_300 (w := 0x1001502) rfl (by decide) rfl) (a := 1) (n := 21) rfl rfl rfl ?_
    refine n_call tb_pres act hEnd (gx (P := G_call) gp_300 (w := 0xb0000000000008103300012800180f) rfl (by decide) rfl) (d' := D_296) rfl (f' := 1) (lam' := 38) (mc := 0) (ms := 0) (as := [.ref k, .ref ka, .int (0 : Int32)]) (rest := []) (b_fst hk ha hka e1 e2 hn hel) (show (3 : Nat) = fb 0xb0000000000008103300012800180f % 16 by decide) (by show (3 : Nat) ≤ 4; decide) (fun _ => ⟨_, _, rfl, _, shp_at hk, Or.inr (show fb 0xb0000000000008103300012800180f >>> 68 = 11 by decide)⟩) (by omega) (by show 8 + (4 + 11) + 38 ≤ R.locals; omega) (by show (0 : Nat) ≤ 8; decide) (by show kc + 0 ≤ _; omega) (by show ks + 0 ≤ _; omega) (fun r9 hs9 hpo hr9 => ?_) (fun x9 hs9 hx9 hpo => ?_)
    · obtain rfl : r9 = none := hr9.elim (fun q => q.2) (fun q => absurd rfl q.1)
      obtain ⟨-, -, rfl⟩ := hpo
      show WpN (gp g0 wp) CLS p l e R s m args below meth c Q D_300.2.2.1 kc0 ks0 24 [some (.ref k), some (.int (0 : Int32)), some (.ref ka), some (.ref k0)] ((wr (wr (cpw (wr hs k 2 (.int (m9 + (1 : Int32)))) ka 1 0 9) k 1 (.int (n9 - (1 : Int32)))) ka 9 .null), kc, ks) []
      refine g_loadA act (gx gp_300 (w := 0x3001903) rfl (by decide) rfl) (a := 3) (n := 25) rfl rfl rfl ?_
      exact g_retA hEnd (gx gp_300 (w := 0x31) rfl (by decide) rfl) (Or.inr ⟨_, rfl⟩) ⟨rfl, ⟨_, rfl⟩, rfl⟩ (by show kc ≤ kc + 0; omega) (by show ks ≤ ks + 0; omega)
    · exact absurd hpo.1 (by omega)
  · exact absurd hpo.1 (by omega)
end REM

theorem remP : RemP := by
  intro g0 bl xs l hs R k n9 hTY hT hInv hk4 e1 hn
  obtain ⟨n, m, q1, q2, q3, q4, q5⟩ := hInv.2.2 k hk4
  rw [e1] at q1
  cases q1
  have hk : shp hs k = some (10, 3) := ty_shp hT hk4 (by decide) rfl rfl
  rcases q5 with ⟨-, z⟩ | ⟨ka, e0, ra, q7⟩
  · omega
  have ha : shp hs ka = some (39, 10) := ty_shp hT ra (by decide) rfl rfl
  have hka : k ≠ ka := fun z => by subst z; rw [hk4] at ra; cases ra
  have hel : ∀ j : Nat, j < 10 → ∃ ke N8 : Nat, rd hs ka j = .ref ke ∧ shp hs ke = some (8, N8) := fun j hj => by
    obtain ⟨kc, rc, w1, w2, w3, w4⟩ := q7 j (by omega)
    refine ⟨kc, 5, w1, ?_⟩
    rcases (show rc = 20 ∨ rc = 21 ∨ rc = 22 ∨ rc = 23 ∨ rc = 24 by omega) with rfl | rfl | rfl | rfl | rfl
    all_goals exact ty_shp hT w2 (by decide) rfl rfl
  refine (b_rm0 hk ha hka e0 e1 q2 hn hel).imp ?_
  rintro kd r h2 ⟨rfl, hx, rfl⟩
  have hX : LSX R hs hs := ⟨hT, fun _ _ _ _ _ => rfl, rfl⟩
  have hX1 := lsx_wr (j := 2) (v := .int (m + (1 : Int32))) hX hk4 (Or.inl rfl)
  have hX2 := lsx_cpw (a := 1) (b := 0) (n := 9) hX1 ra
  have hX3 := lsx_wr (j := 1) (v := .int (n9 - (1 : Int32))) hX2 hk4 (Or.inl rfl)
  have hX4 := lsx_wr (j := 9) (v := .null) hX3 ra (Or.inr rfl)
  have sub9 : (n9 - (1 : Int32)).toInt = 9 := by
    rw [i_sub (by rw [hn]; decide) (by rw [hn]; decide), hn]; rfl
  have w1 : rd (wr (wr (cpw (wr hs k 2 (.int (m + (1 : Int32)))) ka 1 0 9) k 1 (.int (n9 - (1 : Int32)))) ka 9 .null) k 1 = .int (n9 - (1 : Int32)) := by
    rw [rd_ne _ _ (Or.inl hka)]
    exact rd_same (c := 10) (N := 3) (by rw [shp_cpw, shp_wr]; exact hk)
  have w2 : rd (wr (wr (cpw (wr hs k 2 (.int (m + (1 : Int32)))) ka 1 0 9) k 1 (.int (n9 - (1 : Int32)))) ka 9 .null) k 2 = .int (m + (1 : Int32)) := by
    rw [rd_ne _ _ (Or.inl hka), rd_ne _ _ (Or.inr (by decide)), rd_cpw_ne (fun z => hka z.symm)]
    exact rd_same hk
  have w0 : rd (wr (wr (cpw (wr hs k 2 (.int (m + (1 : Int32)))) ka 1 0 9) k 1 (.int (n9 - (1 : Int32)))) ka 9 .null) k 0 = .ref ka := by
    rw [rd_ne _ _ (Or.inl hka), rd_ne _ _ (Or.inr (by decide)), rd_cpw_ne (fun z => hka z.symm), rd_ne _ _ (Or.inr (by decide))]
    exact e0
  refine ⟨rfl, hx, hX4, ⟨hInv.2.1, fun k' hk' => ?_⟩, _, w1, by omega⟩
  obtain rfl := hInv.2.1 k k' hk4 hk'
  refine ⟨_, _, w1, w2, by omega, by omega, Or.inr ⟨ka, w0, ra, fun j hj => ?_⟩⟩
  rw [sub9] at hj
  obtain ⟨kc, rc, y1, y2, y3, y4⟩ := q7 (j + 1) (by omega)
  refine ⟨kc, rc, ?_, y2, y3, y4⟩
  rw [rd_ne _ _ (Or.inr (by omega)), rd_ne _ _ (Or.inl (fun z => hka z.symm)), rd_cpw (c := 39) (N := 10) (by rw [shp_wr]; exact ha)]
  unfold cpyV
  rw [if_pos ⟨Nat.zero_le _, by omega⟩, rd_ne _ _ (Or.inl (fun z => hka z.symm)), show 1 + (j - 0) = j + 1 by omega]
  exact y1

/-! The class's undo. -/
theorem tw_854 : Cond.classLink "GridPrices" 165 "GridPrices$Change" ∈ TBL := isw_t (i := 854) (by decide +kernel)
theorem n_cast {ss : SS} {g : GG} {cl : List vw_C} {bl : Nat} {xs : Nat → Int32} {d : MD} {p : Program} {l : Launch} {e : Env} {R : Room} {s : State} {m : MethodId} {args : Array Value} {below : List Frame} {meth : Method} {c : Code} {Q : State → Prop} {kc0 ks0 pc n : Nat} {L : LN} {hs : List CE} {kc ks : Nat} {S : List Value} (act : Act ss TBL g cl bl xs d p l s m args meth c) {ix k ci N : Nat} {rc : vw_C} (hci : cl[ci]? = some rc) (h32 : ci < 32) (hk : shp hs k = some (ci, N)) (hlk : Cond.classLink d.1.cls ix rc.1 ∈ TBL) (hd : decode d.2.1 pc = .ok (.checkcast ix, 3)) (hn : pc + 3 = n)
    (K : WpN g cl p l e R s m args below meth c Q d.2.2.1 kc0 ks0 n L (hs, kc, ks) (.ref k :: S)) : WpN g cl p l e R s m args below meth c Q d.2.2.1 kc0 ks0 pc L (hs, kc, ks) (.ref k :: S) := by
  obtain ⟨hx, hb, hr, hml, hown, hts, hK, hE, hlocks, hnm, htab, htr⟩ := act
  subst hn
  intro ls st H locs cells slots r
  obtain ⟨ws, hL, ⟨v0, st0, rfl, h0, hS⟩, hH, hP, hD, hSS, hc1, hc2⟩ := r
  obtain ⟨q1, q2⟩ := hH.at (shp_at hk)
  obtain ⟨a9, e1, he, rfl⟩ := h0.cell q1
  obtain ⟨vs, rfl, -, -⟩ := (q2 _ _ he).obj (by show ci < 32; exact h32)
  have he : ws[k]? = some (a9, .inr (ci, vs)) := he
  obtain ⟨cell, g1, g2, g3⟩ := va_recv hK hP hci he
  exact va_castE hx hb hown (hts _ hlk) ⟨cell, g1, g2, g3⟩ hd (K _ _ _ _ _ _ ⟨ws, hL, ⟨_, _, rfl, h0, hS⟩, hH, hP, hD, hSS, hc1, hc2⟩)
theorem sem_void {c : CT9} (hp1 : c.2.2.1 = [((0, [], [], c.2.1.2.2, c.2.1.1) : PS9)]) (h1 : c.2.1.2.2 = rgA (c.2.1.1.length - 7)) {R : List Nat} {hs h2 : List CE} {kd : Nat} {r : Option Value} (h : PoU c R hs kd r h2) : kd = 0 ∧ r = none ∧ ∃ R2 : List Nat, HX KC InvC R hs R2 h2 ∧ h2.length ≤ hs.length + c.2.2.2.2.2.1 ∧ rd h2 54 0 = rd hs 54 0 := by
  obtain ⟨R', pt, hm, hk, hX, hl, -, hn, h0⟩ := h
  rw [hp1] at hm
  obtain rfl := List.mem_singleton.mp hm
  exact ⟨hk.symm, hn rfl, R', hX, hl, (h0 (c.2.1.1.length - 7) 0 (by show c.2.1.2.2[0]? = _; rw [h1]; rfl)).1 rfl rfl⟩
section UND
variable {g0 : GG} {bl : Nat} {xs : Nat → Int32} {l : Launch} {hs : List CE} {k ka k9 j9 : Nat} {n9 m9 i9 : Int32}

theorem b_fsl (hk : shp hs k = some (10, 3)) (ha : shp hs ka = some (39, 10)) (e1 : rd hs k 1 = .int n9) (e2 : rd hs k 2 = .int m9) (hn1 : 1 ≤ n9.toInt) (hn : n9.toInt ≤ 10) (hi : i9.toInt = n9.toInt - 1) (hj : i9.toInt = (j9 : Int)) : BodyN SSX TBL g0 CLS bl xs l D_296 0 0 0 0 [.ref k, .ref ka, .int i9] hs (fun kd r h2 => kd = 0 ∧ r = none ∧ h2 = (wr (wr (wr hs k 2 (.int (m9 + (1 : Int32)))) k 1 (.int (n9 - (1 : Int32)))) ka j9 .null)) := by
  intro wp p e R s m args below meth c Q kc0 ks0 kc ks act hf hl hc hsl hEnd
  have hf : 0 ≤ R.frames := hf
  have hl : 0 ≤ R.locals := hl
  have sub9 : (n9 - (1 : Int32)).toInt = i9.toInt := by
    rw [i_sub (by show _ ≤ _ - (1 : Int); omega) (by show _ - (1 : Int) < _; omega), hi]; rfl
  show WpN (gp g0 wp) CLS p l e R s m args below meth c Q D_296.2.2.1 kc0 ks0 0 [some (.ref k), some (.ref ka), some (.int i9), none] (hs, kc, ks) []
  refine g_loadA act (gx gp_296 (w := 0x103) rfl (by decide) rfl) (a := 0) (n := 1) rfl rfl rfl ?_
  refine g_dup act (gx gp_296 (w := 0x222) rfl (by decide) rfl) (n := 2) rfl rfl ?_
  refine r_getf act (gx gp_296 (w := 0x8a000504) rfl (by decide) rfl) (n := 5) (ci := 10) (j := 2) (N := 3) rfl rfl rfl hk (by decide) (v := .int m9) e2 ?_
  refine g_constI act (gx gp_296 (w := 0x40000000c00000009000000000601) rfl (by decide) rfl) (n := 6) (x := (1 : Int32)) (by decide) rfl ?_
  refine g_iadd act (gx gp_296 (w := 0x70a) rfl (by decide) rfl) (n := 7) rfl ?_
  refine r_putf act (gx gp_296 (w := 0x8a000a13) rfl (by decide) rfl) (n := 10) (ci := 10) (j := 2) (N := 3) rfl rfl rfl hk (by decide) (Or.inl ⟨rfl, _, rfl⟩) ?_
  refine g_loadA act (gx gp_296 (w := 0xb03) rfl (by decide) rfl) (a := 0) (n := 11) rfl rfl rfl ?_
  refine r_getf act (gx gp_296 (w := 0x4a000e04) rfl (by decide) rfl) (n := 14) (ci := 10) (j := 1) (N := 3) rfl rfl rfl (by rw [shp_wr]; exact hk) (by decide) (v := .int n9) (by rw [rd_ne _ _ (Or.inr (by decide))]; exact e1) ?_
  refine g_constI act (gx gp_296 (w := 0x40000000c00000009000000000f01) rfl (by decide) rfl) (n := 15) (x := (1 : Int32)) (by decide) rfl ?_
  refine g_isub act (gx gp_296 (w := 0x1026) rfl (by decide) rfl) (n := 16) rfl ?_
  refine g_dup act (gx gp_296 (w := 0x1122) rfl (by decide) rfl) (n := 17) rfl rfl ?_
  refine g_storeI act (gx gp_296 (w := 0x3001210) rfl (by decide) rfl) (a := 3) (n := 18) rfl rfl (L2 := [some (.ref k), some (.ref ka), some (.int i9), some (.int (n9 - (1 : Int32)))]) rfl ?_
  refine g_loadI act (gx gp_296 (w := 0x2001302) rfl (by decide) rfl) (a := 2) (n := 19) rfl rfl rfl ?_
  refine g_icmpLe act (gx gp_296 (w := 0x2200163c) rfl (by decide) rfl) (tgt := 34) (n := 22) rfl rfl (fun _ => ?_) (fun h9 => absurd (i_le.mpr (by rw [sub9]; exact Int.le_refl _)) h9)
  refine g_loadA act (gx gp_296 (w := 0x1002303) rfl (by decide) rfl) (a := 1) (n := 35) rfl rfl rfl ?_
  refine g_loadA act (gx gp_296 (w := 0x2403) rfl (by decide) rfl) (a := 0) (n := 36) rfl rfl rfl ?_
  refine g_loadI act (gx gp_296 (w := 0x3002502) rfl (by decide) rfl) (a := 3) (n := 37) rfl rfl rfl ?_
  refine g_dupx1 act (gx gp_296 (w := 0x264f) rfl (by decide) rfl) (n := 38) rfl rfl rfl ?_
  refine r_putf act (gx gp_296 (w := 0x4a002913) rfl (by decide) rfl) (n := 41) (ci := 10) (j := 1) (N := 3) rfl rfl rfl (by rw [shp_wr]; exact hk) (by decide) (Or.inl ⟨rfl, _, rfl⟩) ?_
  refine g_null act (gx gp_296 (w := 0x4000000002a01) rfl (by decide) rfl) (n := 42) (by decide) rfl ?_
  refine r_aastN act (gx gp_296 (w := 0x2b35) rfl (by decide) rfl) (n := 43) (N := 10) (c9 := 39) rfl (by rw [shp_wr, shp_wr]; exact ha) (by decide) (j := j9) (by rw [sub9]; exact hj) (by omega) ?_
  exact g_retV hEnd (gx gp_296 (w := 0x18) rfl (by decide) rfl) ⟨rfl, rfl, rfl⟩ (by show kc ≤ kc + 0; omega) (by show ks ≤ ks + 0; omega)

theorem b_rml (hk : shp hs k = some (10, 3)) (ha : shp hs ka = some (39, 10)) (e1 : rd hs k 1 = .int n9) (e2 : rd hs k 2 = .int m9) (hn1 : 1 ≤ n9.toInt) (hn : n9.toInt ≤ 10) (hi : i9.toInt = n9.toInt - 1) (hj : i9.toInt = (j9 : Int)) (e0 : rd hs k 0 = .ref ka) (ek : rd hs ka j9 = .ref k9) : BodyN SSX TBL g0 CLS bl xs l D_300 3 90 0 0 [.ref k, .int i9] hs (fun kd r h2 => kd = 0 ∧ r = some (.ref k9) ∧ h2 = (wr (wr (wr hs k 2 (.int (m9 + (1 : Int32)))) k 1 (.int (n9 - (1 : Int32)))) ka j9 .null)) := by
  intro wp p e R s m args below meth c Q kc0 ks0 kc ks act hf hl hc hsl hEnd
  have hf : 3 ≤ R.frames := hf
  have hl : 90 ≤ R.locals := hl
  show WpN (gp g0 wp) CLS p l e R s m args below meth c Q D_300.2.2.1 kc0 ks0 0 [some (.ref k), some (.int i9), none, none] (hs, kc, ks) []
  refine g_loadI act (gx gp_300 (w := 0x1000102) rfl (by decide) rfl) (a := 1) (n := 1) rfl rfl rfl ?_
  refine g_loadA act (gx gp_300 (w := 0x203) rfl (by decide) rfl) (a := 0) (n := 2) rfl rfl rfl ?_
  refine r_getf act (gx gp_300 (w := 0x4a000504) rfl (by decide) rfl) (n := 5) (ci := 10) (j := 1) (N := 3) rfl rfl rfl hk (by decide) (v := .int n9) e1 ?_
  refine n_call tb_pres act hEnd (gx (P := G_call) gp_300 (w := 0x4082200012e00080f) rfl (by decide) rfl) (d' := D_302) rfl (f' := 1) (lam' := 22) (mc := 0) (ms := 0) (as := [.int i9, .int n9]) (rest := []) (b_chi (by omega) (by omega)) (show (2 : Nat) = fb 0x4082200012e00080f % 16 by decide) (by show (2 : Nat) ≤ 2; decide) (fun q => absurd q (by decide)) (by omega) (by show 8 + (2 + 11) + 22 ≤ R.locals; omega) (by show (0 : Nat) ≤ 8; decide) (by show kc + 0 ≤ _; omega) (by show ks + 0 ≤ _; omega) (fun r9 hs9 hpo hr9 => ?_) (fun x9 hs9 hx9 hpo => ?_)
  · obtain ⟨-, rfl, rfl⟩ := hpo
    show WpN (gp g0 wp) CLS p l e R s m args below meth c Q D_300.2.2.1 kc0 ks0 8 [some (.ref k), some (.int i9), none, none] (hs, kc, ks) [.int i9]
    refine g_pop act (gx gp_300 (w := 0x93f) rfl (by decide) rfl) (n := 9) rfl rfl ?_
    refine g_loadA act (gx gp_300 (w := 0xa03) rfl (by decide) rfl) (a := 0) (n := 10) rfl rfl rfl ?_
    refine r_getf act (gx gp_300 (w := 0x300000a000d04) rfl (by decide) rfl) (n := 13) (ci := 10) (j := 0) (N := 3) rfl rfl rfl hk (by decide) (v := .ref ka) e0 ?_
    refine g_storeA act (gx gp_300 (w := 0x2000e2d) rfl (by decide) rfl) (a := 2) (n := 14) rfl rfl (L2 := [some (.ref k), some (.int i9), some (.ref ka), none]) rfl ?_
    refine g_loadA act (gx gp_300 (w := 0x2000f03) rfl (by decide) rfl) (a := 2) (n := 15) rfl rfl rfl ?_
    refine g_loadI act (gx gp_300 (w := 0x1001002) rfl (by decide) rfl) (a := 1) (n := 16) rfl rfl rfl ?_
    refine r_aald act (gx gp_300 (w := 0x1112) rfl (by decide) rfl) (n := 17) (c9 := 39) (N := 10) (j := j9) rfl ha (by decide) hj (by omega) ek ?_
    refine g_storeA act (gx gp_300 (w := 0x300122d) rfl (by decide) rfl) (a := 3) (n := 18) rfl rfl (L2 := [some (.ref k), some (.int i9), some (.ref ka), some (.ref k9)]) rfl ?_
    refine g_loadA act (gx gp_300 (w := 0x1303) rfl (by decide) rfl) (a := 0) (n := 19) rfl rfl rfl ?_
    refine g_loadA act (gx gp_300 (w := 0x2001403) rfl (by decide) rfl) (a := 2) (n := 20) rfl rfl rfl ?_
    refine g_loadI act (gx gp_300 (w := 0x1001502) rfl (by decide) rfl) (a := 1) (n := 21) rfl rfl rfl ?_
    refine n_call tb_pres act hEnd (gx (P := G_call) gp_300 (w := 0xb0000000000008103300012800180f) rfl (by decide) rfl) (d' := D_296) rfl (f' := 0) (lam' := 0) (mc := 0) (ms := 0) (as := [.ref k, .ref ka, .int i9]) (rest := []) (b_fsl hk ha e1 e2 hn1 hn hi hj) (show (3 : Nat) = fb 0xb0000000000008103300012800180f % 16 by decide) (by show (3 : Nat) ≤ 4; decide) (fun _ => ⟨_, _, rfl, _, shp_at hk, Or.inr (show fb 0xb0000000000008103300012800180f >>> 68 = 11 by decide)⟩) (by omega) (by show 8 + (4 + 11) + 0 ≤ R.locals; omega) (by show (0 : Nat) ≤ 8; decide) (by show kc + 0 ≤ _; omega) (by show ks + 0 ≤ _; omega) (fun r9 hs9 hpo hr9 => ?_) (fun x9 hs9 hx9 hpo => ?_)
    · obtain rfl : r9 = none := hr9.elim (fun q => q.2) (fun q => absurd rfl q.1)
      obtain ⟨-, -, rfl⟩ := hpo
      show WpN (gp g0 wp) CLS p l e R s m args below meth c Q D_300.2.2.1 kc0 ks0 24 [some (.ref k), some (.int i9), some (.ref ka), some (.ref k9)] ((wr (wr (wr hs k 2 (.int (m9 + (1 : Int32)))) k 1 (.int (n9 - (1 : Int32)))) ka j9 .null), kc, ks) []
      refine g_loadA act (gx gp_300 (w := 0x3001903) rfl (by decide) rfl) (a := 3) (n := 25) rfl rfl rfl ?_
      exact g_retA hEnd (gx gp_300 (w := 0x31) rfl (by decide) rfl) (Or.inr ⟨_, rfl⟩) ⟨rfl, rfl, rfl⟩ (by show kc ≤ kc + 0; omega) (by show ks ≤ ks + 0; omega)
    · exact absurd hpo.1 (by omega)
  · exact absurd hpo.1 (by omega)

theorem b_ise (hk : shp hs k = some (10, 3)) (e1 : rd hs k 1 = .int n9) : BodyN SSX TBL g0 CLS bl xs l D_299 0 0 0 0 [.ref k] hs (fun kd r h2 => kd = 0 ∧ hs = h2 ∧ ∃ x : Int32, r = some (.int x) ∧ ((x.toInt = 0 ∧ n9.toInt ≠ 0) ∨ (x.toInt = 1 ∧ n9.toInt = 0))) := by
  intro wp p e R s m args below meth c Q kc0 ks0 kc ks act hf hl hc hsl hEnd
  have hf : 0 ≤ R.frames := hf
  have hl : 0 ≤ R.locals := hl
  show WpN (gp g0 wp) CLS p l e R s m args below meth c Q D_299.2.2.1 kc0 ks0 0 [some (.ref k)] (hs, kc, ks) []
  refine g_loadA act (gx gp_299 (w := 0x103) rfl (by decide) rfl) (a := 0) (n := 1) rfl rfl rfl ?_
  refine r_getf act (gx gp_299 (w := 0x4a000404) rfl (by decide) rfl) (n := 4) (ci := 10) (j := 1) (N := 3) rfl rfl rfl hk (by decide) (v := .int n9) e1 ?_
  refine g_ifNe act (gx gp_299 (w := 0xb00071d) rfl (by decide) rfl) (tgt := 11) (n := 7) rfl rfl (fun h2 => ?_) (fun h2 => ?_)
  · simp only [i_eq, i0] at h2
    refine g_constI act (gx gp_299 (w := 0x40000000400000001000000000c01) rfl (by decide) rfl) (n := 12) (x := (0 : Int32)) (by decide) rfl ?_
    exact g_retZ hEnd (gx gp_299 (w := 0x23) rfl (by decide) rfl) (Or.inl rfl) ⟨rfl, rfl, _, rfl, Or.inl ⟨by decide, by omega⟩⟩ (by show kc ≤ kc + 0; omega) (by show ks ≤ ks + 0; omega)
  · simp only [i_eq, i0] at h2
    refine g_constI act (gx gp_299 (w := 0x40000000c00000009000000000801) rfl (by decide) rfl) (n := 8) (x := (1 : Int32)) (by decide) rfl ?_
    refine g_goto act (gx gp_299 (w := 0xc07) rfl (by decide) rfl) (n := 12) rfl ?_
    exact g_retZ hEnd (gx gp_299 (w := 0x23) rfl (by decide) rfl) (Or.inr rfl) ⟨rfl, rfl, _, rfl, Or.inr ⟨by decide, by omega⟩⟩ (by show kc ≤ kc + 0; omega) (by show ks ≤ ks + 0; omega)

end UND
theorem b_tkb {g0 : GG} {bl : Nat} {xs : Nat → Int32} {l : Launch} {hs : List CE} {R : List Nat} {kp ke rc : Nat} (hTY : TYg g0) (hT : HTy KC R hs) (hI : InvC R hs) (hlen : hs.length ≤ 6999999999999) (hkp : R[kp]? = some 1) (hke : R[ke]? = some rc) (h20 : 20 ≤ rc) (h24 : rc ≤ 24) : BodyN SSX TBL g0 CLS bl xs l D_63 0 0 0 0 [.ref kp, .ref ke] hs (fun kd r h2 => kd = 0 ∧ r = none ∧ ∃ R2 : List Nat, HX KC InvC R hs R2 h2 ∧ h2.length ≤ hs.length ∧ rd h2 54 0 = rd hs 54 0) := by
  rcases (show rc = 20 ∨ rc = 21 ∨ rc = 22 ∨ rc = 23 ∨ rc = 24 by omega) with rfl | rfl | rfl | rfl | rfl
  · refine (sem_use (c := c63_0) (es := []) (vs := []) (sc63_0 (handsB_KC invC_KC)) (d := D_63) rfl rfl rfl rfl (by decide) hTY hT hI hlen (fun i hi => absurd hi (Nat.not_lt_zero _)) ?_).imp ?_
    · exact Or.inl ⟨rfl, ⟨kp, 1, rfl, hkp, by decide, by decide⟩, Or.inl ⟨rfl, ⟨ke, 20, rfl, hke, by decide, by decide⟩, trivial⟩⟩
    · intro kd r h2 h
      exact sem_void rfl rfl h
  · refine (sem_use (c := c63_1) (es := []) (vs := []) (sc63_1 (handsB_KC invC_KC)) (d := D_63) rfl rfl rfl rfl (by decide) hTY hT hI hlen (fun i hi => absurd hi (Nat.not_lt_zero _)) ?_).imp ?_
    · exact Or.inl ⟨rfl, ⟨kp, 1, rfl, hkp, by decide, by decide⟩, Or.inl ⟨rfl, ⟨ke, 21, rfl, hke, by decide, by decide⟩, trivial⟩⟩
    · intro kd r h2 h
      exact sem_void rfl rfl h
  · refine (sem_use (c := c63_2) (es := []) (vs := []) (sc63_2 (handsB_KC invC_KC)) (d := D_63) rfl rfl rfl rfl (by decide) hTY hT hI hlen (fun i hi => absurd hi (Nat.not_lt_zero _)) ?_).imp ?_
    · exact Or.inl ⟨rfl, ⟨kp, 1, rfl, hkp, by decide, by decide⟩, Or.inl ⟨rfl, ⟨ke, 22, rfl, hke, by decide, by decide⟩, trivial⟩⟩
    · intro kd r h2 h
      exact sem_void rfl rfl h
  · refine (sem_use (c := c63_3) (es := []) (vs := []) (sc63_3 (handsB_KC invC_KC)) (d := D_63) rfl rfl rfl rfl (by decide) hTY hT hI hlen (fun i hi => absurd hi (Nat.not_lt_zero _)) ?_).imp ?_
    · exact Or.inl ⟨rfl, ⟨kp, 1, rfl, hkp, by decide, by decide⟩, Or.inl ⟨rfl, ⟨ke, 23, rfl, hke, by decide, by decide⟩, trivial⟩⟩
    · intro kd r h2 h
      exact sem_void rfl rfl h
  · refine (sem_use (c := c63_4) (es := []) (vs := []) (sc63_4 (handsB_KC invC_KC)) (d := D_63) rfl rfl rfl rfl (by decide) hTY hT hI hlen (fun i hi => absurd hi (Nat.not_lt_zero _)) ?_).imp ?_
    · exact Or.inl ⟨rfl, ⟨kp, 1, rfl, hkp, by decide, by decide⟩, Or.inl ⟨rfl, ⟨ke, 24, rfl, hke, by decide, by decide⟩, trivial⟩⟩
    · intro kd r h2 h
      exact sem_void rfl rfl h
theorem b_undo {g0 : GG} {bl : Nat} {xs : Nat → Int32} {l : Launch} {hs : List CE} {R0 : List Nat} {kp : Nat} (hTY0 : TYg g0) (hT : HTy KC R0 hs) (hInv : InvC R0 hs) (hlen : hs.length + 1 ≤ 6999999999999) (hkp : R0[kp]? = some 1) : BodyN SSX TBL g0 CLS bl xs l D_68 8 140 1 11 [.ref kp] hs (fun kd r h2 => ((kd = 0 ∧ ∃ x : Int32, r = some (.int x)) ∨ (kd = 1 ∧ r = none)) ∧ ∃ R2 : List Nat, HX KC InvC R0 hs R2 h2 ∧ h2.length ≤ hs.length + 1 ∧ rd h2 54 0 = rd hs 54 0) := by
  obtain ⟨k, e_k, rk⟩ := ty_ref (r2 := 401) (j := 4) hT hkp (by decide) (by decide) (Or.inl rfl) rfl (by decide)
  have hk : shp hs k = some (10, 3) := ty_shp hT rk (by decide) rfl rfl
  obtain ⟨n9, m9, e1, e2, q3, q4, q5⟩ := hInv.2.2 k rk
  intro wp p e R s m args below meth c Q kc0 ks0 kc ks act hf hl hc hsl hEnd
  have hf : 8 ≤ R.frames := hf
  have hl : 140 ≤ R.locals := hl
  have hTY : TYg (gp g0 wp) := hTY0
  show WpN (gp g0 wp) CLS p l e R s m args below meth c Q D_68.2.2.1 kc0 ks0 0 [some (.ref kp)] (hs, kc, ks) []
  refine g_loadA act (gx gp_68 (w := 0x103) rfl (by decide) rfl) (a := 0) (n := 1) rfl rfl rfl ?_
  refine r_getf act (gx gp_68 (w := 0x3000100000404) rfl (by decide) rfl) (n := 4) (ci := 0) (j := 4) (N := 7) rfl rfl rfl (ty_shp hT hkp (by decide) rfl rfl) (by decide) (v := .ref k) e_k ?_
  refine n_call tb_pres act hEnd (gx (P := G_call) gp_68 (w := 0xb000000000000c041100012b00070f) rfl (by decide) rfl) (d' := D_299) rfl (f' := 0) (lam' := 0) (mc := 0) (ms := 0) (as := [.ref k]) (rest := []) (b_ise hk e1) (show (1 : Nat) = fb 0xb000000000000c041100012b00070f % 16 by decide) (by show (1 : Nat) ≤ 1; decide) (fun _ => ⟨_, _, rfl, _, shp_at hk, Or.inr (show fb 0xb000000000000c041100012b00070f >>> 68 = 11 by decide)⟩) (by omega) (by show 8 + (1 + 11) + 0 ≤ R.locals; omega) (by show (0 : Nat) ≤ 8; decide) (by show kc + 0 ≤ _; omega) (by show ks + 0 ≤ _; omega) (fun r9 hs9 hpo hr9 => ?_) (fun x9 hs9 hx9 hpo => ?_)
  · obtain ⟨-, rfl, ev, rfl, hev⟩ := hpo
    show WpN (gp g0 wp) CLS p l e R s m args below meth c Q D_68.2.2.1 kc0 ks0 7 [some (.ref kp)] (hs, kc, ks) [.int ev]
    refine g_ifEq act (gx gp_68 (w := 0x14000a0e) rfl (by decide) rfl) (tgt := 20) (n := 10) rfl rfl (fun h2 => ?_) (fun h2 => ?_)
    · simp only [i_eq, i0] at h2
      have hn9 : n9.toInt ≠ 0 := by omega
      have q5' := q5.resolve_left (fun z => hn9 z.2)
      obtain ⟨ka, e0, ra, q7⟩ := q5'
      have ha : shp hs ka = some (39, 10) := ty_shp hT ra (by decide) rfl rfl
      have sub1 : (n9 - (1 : Int32)).toInt = n9.toInt - 1 := by
        rw [i_sub (by show _ ≤ _ - (1 : Int); omega) (by show _ - (1 : Int) < _; omega)]
        rfl
      obtain ⟨j9, hj9a⟩ := Int.eq_ofNat_of_zero_le (show 0 ≤ n9.toInt - 1 by omega)
      have hj9 : (n9 - (1 : Int32)).toInt = (j9 : Int) := sub1.trans hj9a
      obtain ⟨k9, rc9, ek, rk9, r20, r24⟩ := q7 j9 (by omega)
      have hka : k ≠ ka := fun z => by subst z; rw [rk] at ra; cases ra
      have hrr : ∀ h1 : List CE, h1 = (wr (wr (wr hs k 2 (.int (m9 + (1 : Int32)))) k 1 (.int (n9 - (1 : Int32)))) ka j9 .null) → rd h1 54 0 = rd hs 54 0 := fun h1 eh1 => by
        have hne : ∀ q r, R0[q]? = some r → r = 401 ∨ r = 402 → 54 ≠ q := fun q r h1 h2 z => by
          subst z
          rw [(hT.2.2 (6, 54, 0) (by decide)).2.1] at h1
          cases h1
          omega
        rw [eh1, rd_ne _ _ (Or.inl (hne ka 402 ra (Or.inr rfl))), rd_ne _ _ (Or.inl (hne k 401 rk (Or.inl rfl))), rd_ne _ _ (Or.inl (hne k 401 rk (Or.inl rfl)))]
      have hxr : ∀ h1 : List CE, h1 = (wr (wr (wr hs k 2 (.int (m9 + (1 : Int32)))) k 1 (.int (n9 - (1 : Int32)))) ka j9 .null) → HX KC InvC R0 hs R0 h1 := fun h1 eh1 => by
        have hX : LSX R0 hs hs := ⟨hT, fun _ _ _ _ _ => rfl, rfl⟩
        have hXa := lsx_wr (j := 2) (v := .int (m9 + (1 : Int32))) hX rk (Or.inl rfl)
        have hXb := lsx_wr (j := 1) (v := .int (n9 - (1 : Int32))) hXa rk (Or.inl rfl)
        have hXc := lsx_wr (j := j9) (v := .null) hXb ra (Or.inr rfl)
        rw [eh1]
        refine lsx_hx hXc hInv ⟨hInv.2.1, fun k' hk' => ?_⟩
        obtain rfl := hInv.2.1 k k' rk hk'
        refine ⟨_, _, (rd_ne _ _ (Or.inl hka)).trans (rd_same (c := 10) (N := 3) (by rw [shp_wr]; exact hk)), (rd_ne _ _ (Or.inl hka)).trans ((rd_ne _ _ (Or.inr (by decide))).trans (rd_same hk)), by omega, by omega, Or.inr ⟨ka, (rd_ne _ _ (Or.inl hka)).trans ((rd_ne _ _ (Or.inr (by decide))).trans ((rd_ne _ _ (Or.inr (by decide))).trans e0)), ra, fun j hj => ?_⟩⟩
        obtain ⟨kc, rc, y1, y2, y3, y4⟩ := q7 j (by omega)
        exact ⟨kc, rc, (rd_ne _ _ (Or.inr (by omega))).trans ((rd_ne _ _ (Or.inl (fun z => hka z.symm))).trans ((rd_ne _ _ (Or.inl (fun z => hka z.symm))).trans y1)), y2, y3, y4⟩
      refine g_loadA act (gx gp_68 (w := 0x1503) rfl (by decide) rfl) (a := 0) (n := 21) rfl rfl rfl ?_
      refine g_loadA act (gx gp_68 (w := 0x1603) rfl (by decide) rfl) (a := 0) (n := 22) rfl rfl rfl ?_
      refine r_getf act (gx gp_68 (w := 0x3000100001904) rfl (by decide) rfl) (n := 25) (ci := 0) (j := 4) (N := 7) rfl rfl rfl (ty_shp hT hkp (by decide) rfl rfl) (by decide) (v := .ref k) e_k ?_
      refine g_loadA act (gx gp_68 (w := 0x1a03) rfl (by decide) rfl) (a := 0) (n := 26) rfl rfl rfl ?_
      refine r_getf act (gx gp_68 (w := 0x3000100001d04) rfl (by decide) rfl) (n := 29) (ci := 0) (j := 4) (N := 7) rfl rfl rfl (ty_shp hT hkp (by decide) rfl rfl) (by decide) (v := .ref k) e_k ?_
      refine n_call tb_pres act hEnd (gx (P := G_call) gp_68 (w := 0xb000000000000c041100012d00200f) rfl (by decide) rfl) (d' := D_301) rfl (f' := 0) (lam' := 0) (mc := 0) (ms := 0) (as := [.ref k]) (rest := [.ref k, .ref kp]) (b_siz hk e1) (show (1 : Nat) = fb 0xb000000000000c041100012d00200f % 16 by decide) (by show (1 : Nat) ≤ 1; decide) (fun _ => ⟨_, _, rfl, _, shp_at hk, Or.inr (show fb 0xb000000000000c041100012d00200f >>> 68 = 11 by decide)⟩) (by omega) (by show 8 + (1 + 11) + 0 ≤ R.locals; omega) (by show (2 : Nat) ≤ 8; decide) (by show kc + 0 ≤ _; omega) (by show ks + 0 ≤ _; omega) (fun r9 hs9 hpo hr9 => ?_) (fun x9 hs9 hx9 hpo => ?_)
      · obtain ⟨-, rfl, rfl⟩ := hpo
        show WpN (gp g0 wp) CLS p l e R s m args below meth c Q D_68.2.2.1 kc0 ks0 32 [some (.ref kp)] (hs, kc, ks) [.int n9, .ref k, .ref kp]
        refine g_constI act (gx gp_68 (w := 0x40000000c00000009000000002101) rfl (by decide) rfl) (n := 33) (x := (1 : Int32)) (by decide) rfl ?_
        refine g_isub act (gx gp_68 (w := 0x2226) rfl (by decide) rfl) (n := 34) rfl ?_
        refine n_call tb_pres act hEnd (gx (P := G_call) gp_68 (w := 0xb000000000000c102200012c00250f) rfl (by decide) rfl) (d' := D_300) rfl (f' := 3) (lam' := 90) (mc := 0) (ms := 0) (as := [.ref k, .int (n9 - (1 : Int32))]) (rest := [.ref kp]) (b_rml hk ha e1 e2 (by omega) (by omega) (by omega) hj9 e0 ek) (show (2 : Nat) = fb 0xb000000000000c102200012c00250f % 16 by decide) (by show (2 : Nat) ≤ 4; decide) (fun _ => ⟨_, _, rfl, _, shp_at hk, Or.inr (show fb 0xb000000000000c102200012c00250f >>> 68 = 11 by decide)⟩) (by omega) (by show 8 + (4 + 11) + 90 ≤ R.locals; omega) (by show (1 : Nat) ≤ 8; decide) (by show kc + 0 ≤ _; omega) (by show ks + 0 ≤ _; omega) (fun r9 h1 hpo hr9 => ?_) (fun x9 hs9 hx9 hpo => ?_)
        · obtain ⟨-, rfl, eh1⟩ := hpo
          have hX1 := hxr h1 eh1
          have hkp1 := hX1.2.1 _ _ hkp
          have ln1 : h1.length ≤ hs.length := by rw [eh1, wr_len, wr_len, wr_len]; exact Nat.le_refl _
          have rg1 : rd h1 54 0 = rd hs 54 0 := hrr h1 eh1
          show WpN (gp g0 wp) CLS p l e R s m args below meth c Q D_68.2.2.1 kc0 ks0 37 [some (.ref kp)] (h1, kc, ks) [.ref k9, .ref kp]
          refine n_cast act (ix := 165) (ci := 8) (N := 5) (rc := C_8) rfl (by decide) (ty_shp hX1.1 (hX1.2.1 _ _ rk9) (by omega) (by rcases (show rc9 = 20 ∨ rc9 = 21 ∨ rc9 = 22 ∨ rc9 = 23 ∨ rc9 = 24 by omega) with rfl | rfl | rfl | rfl | rfl <;> rfl) (by rcases (show rc9 = 20 ∨ rc9 = 21 ∨ rc9 = 22 ∨ rc9 = 23 ∨ rc9 = 24 by omega) with rfl | rfl | rfl | rfl | rfl <;> rfl)) tw_854 (by decide +kernel) (n := 40) rfl ?_
          refine n_call tb_pres act hEnd (gx (P := G_call) gp_68 (w := 0x10000000000008082200003f002b0f) rfl (by decide) rfl) (d' := D_63) rfl (f' := 0) (lam' := 0) (mc := 0) (ms := 0) (as := [.ref kp, .ref k9]) (rest := []) (b_tkb hTY hX1.1 hX1.2.2.2 (by show h1.length ≤ _; omega) hkp1 (hX1.2.1 _ _ rk9) r20 r24) (show (2 : Nat) = fb 0x10000000000008082200003f002b0f % 16 by decide) (by show (2 : Nat) ≤ 2; decide) (fun _ => ⟨_, _, rfl, _, shp_at (ty_shp hX1.1 hkp1 (by decide) (a := 0) (b := 7) rfl rfl), Or.inr (show fb 0x10000000000008082200003f002b0f >>> 68 = 1 by decide)⟩) (by omega) (by show 8 + (2 + 11) + 0 ≤ R.locals; omega) (by show (0 : Nat) ≤ 8; decide) (by show kc + 0 ≤ _; omega) (by show ks + 0 ≤ _; omega) (fun r9 h2 hpo hr9 => ?_) (fun x9 hs9 hx9 hpo => ?_)
          · obtain rfl : r9 = none := hr9.elim (fun q => q.2) (fun q => absurd rfl q.1)
            obtain ⟨-, -, R2, hX2a, ln2, rg2⟩ := hpo
            have ln2 : h2.length ≤ h1.length := ln2
            have rg2 : rd h2 54 0 = rd h1 54 0 := rg2
            have hX2 := hX1.tr hX2a
            have hkp2 := hX2.2.1 _ _ hkp
            show WpN (gp g0 wp) CLS p l e R s m args below meth c Q D_68.2.2.1 kc0 ks0 43 [some (.ref kp)] (h2, kc, ks) []
            refine g_loadA act (gx gp_68 (w := 0x2c03) rfl (by decide) rfl) (a := 0) (n := 44) rfl rfl rfl ?_
            refine n_call tb_pres act hEnd (gx (P := G_call) gp_68 (w := 0x100000000000080411000010002f0f) rfl (by decide) rfl) (d' := D_16) rfl (f' := 3) (lam' := 74) (mc := 0) (ms := 0) (as := [.ref kp]) (rest := []) ((sem_use (c := c16_0) (es := []) (vs := []) (ws := [.ref kp]) (sc16_0 handsC_KC) (d := D_16) rfl rfl rfl rfl (by decide) hTY hX2.1 hX2.2.2.2 (by show h2.length + 0 ≤ _; omega) (fun i hi => absurd hi (Nat.not_lt_zero _)) (Or.inl ⟨rfl, ⟨kp, 1, rfl, hkp2, by decide, by decide⟩, trivial⟩)).imp (fun kd r h3 h => sem_void rfl rfl h)) (show (1 : Nat) = fb 0x100000000000080411000010002f0f % 16 by decide) (by show (1 : Nat) ≤ 1; decide) (fun _ => ⟨_, _, rfl, _, shp_at (ty_shp hX2.1 hkp2 (by decide) (a := 0) (b := 7) rfl rfl), Or.inr (show fb 0x100000000000080411000010002f0f >>> 68 = 1 by decide)⟩) (by omega) (by show 8 + (1 + 11) + 74 ≤ R.locals; omega) (by show (0 : Nat) ≤ 8; decide) (by show kc + 0 ≤ _; omega) (by show ks + 0 ≤ _; omega) (fun r9 h3 hpo hr9 => ?_) (fun x9 hs9 hx9 hpo => ?_)
            · obtain rfl : r9 = none := hr9.elim (fun q => q.2) (fun q => absurd rfl q.1)
              obtain ⟨-, -, R3, hX3a, ln3, rg3⟩ := hpo
              have ln3 : h3.length ≤ h2.length + 0 := ln3
              have hX3 := hX2.tr hX3a
              have hkp3 := hX3.2.1 _ _ hkp
              show WpN (gp g0 wp) CLS p l e R s m args below meth c Q D_68.2.2.1 kc0 ks0 47 [some (.ref kp)] (h3, kc, ks) []
              refine g_loadA act (gx gp_68 (w := 0x3003) rfl (by decide) rfl) (a := 0) (n := 48) rfl rfl rfl ?_
              refine n_call tb_pres act hEnd (gx (P := G_call) gp_68 (w := 0x10000000000008081100001e00330f) rfl (by decide) rfl) (d' := D_30) rfl (f' := 0) (lam' := 0) (mc := 0) (ms := 0) (as := [.ref kp]) (rest := []) ((sem_use (c := c30_0) (es := []) (vs := []) (ws := [.ref kp]) (sc30_0 (handsB_KC invC_KC)) (d := D_30) rfl rfl rfl rfl (by decide) hTY hX3.1 hX3.2.2.2 (by show h3.length + 0 ≤ _; omega) (fun i hi => absurd hi (Nat.not_lt_zero _)) (Or.inl ⟨rfl, ⟨kp, 1, rfl, hkp3, by decide, by decide⟩, trivial⟩)).imp (fun kd r h4 h => sem_void rfl rfl h)) (show (1 : Nat) = fb 0x10000000000008081100001e00330f % 16 by decide) (by show (1 : Nat) ≤ 2; decide) (fun _ => ⟨_, _, rfl, _, shp_at (ty_shp hX3.1 hkp3 (by decide) (a := 0) (b := 7) rfl rfl), Or.inr (show fb 0x10000000000008081100001e00330f >>> 68 = 1 by decide)⟩) (by omega) (by show 8 + (2 + 11) + 0 ≤ R.locals; omega) (by show (0 : Nat) ≤ 8; decide) (by show kc + 0 ≤ _; omega) (by show ks + 0 ≤ _; omega) (fun r9 h4 hpo hr9 => ?_) (fun x9 hs9 hx9 hpo => ?_)
              · obtain rfl : r9 = none := hr9.elim (fun q => q.2) (fun q => absurd rfl q.1)
                obtain ⟨-, -, R4, hX4a, ln4, rg4⟩ := hpo
                have ln4 : h4.length ≤ h3.length + 0 := ln4
                have hX4 := hX3.tr hX4a
                have hkp4 := hX4.2.1 _ _ hkp
                obtain ⟨k4, e_k4, rk4⟩ := ty_ref (r2 := 401) (j := 4) hX4.1 hkp4 (by decide) (by decide) (Or.inl rfl) rfl (by decide)
                have hk4 : shp h4 k4 = some (10, 3) := ty_shp hX4.1 rk4 (by decide) rfl rfl
                obtain ⟨n4, m4, e14, -⟩ := hX4.2.2.2.2.2 k4 rk4
                show WpN (gp g0 wp) CLS p l e R s m args below meth c Q D_68.2.2.1 kc0 ks0 51 [some (.ref kp)] (h4, kc, ks) []
                refine g_loadA act (gx gp_68 (w := 0x3403) rfl (by decide) rfl) (a := 0) (n := 52) rfl rfl rfl ?_
                refine r_getf act (gx gp_68 (w := 0x3000100003704) rfl (by decide) rfl) (n := 55) (ci := 0) (j := 4) (N := 7) rfl rfl rfl (ty_shp hX4.1 hkp4 (by decide) rfl rfl) (by decide) (v := .ref k4) e_k4 ?_
                refine n_call tb_pres act hEnd (gx (P := G_call) gp_68 (w := 0xb000000000000c041100012d003a0f) rfl (by decide) rfl) (d' := D_301) rfl (f' := 0) (lam' := 0) (mc := 0) (ms := 0) (as := [.ref k4]) (rest := []) (b_siz hk4 e14) (show (1 : Nat) = fb 0xb000000000000c041100012d003a0f % 16 by decide) (by show (1 : Nat) ≤ 1; decide) (fun _ => ⟨_, _, rfl, _, shp_at hk4, Or.inr (show fb 0xb000000000000c041100012d003a0f >>> 68 = 11 by decide)⟩) (by omega) (by show 8 + (1 + 11) + 0 ≤ R.locals; omega) (by show (0 : Nat) ≤ 8; decide) (by show kc + 0 ≤ _; omega) (by show ks + 0 ≤ _; omega) (fun r9 hs9 hpo hr9 => ?_) (fun x9 hs9 hx9 hpo => ?_)
                · obtain ⟨-, rfl, rfl⟩ := hpo
                  show WpN (gp g0 wp) CLS p l e R s m args below meth c Q D_68.2.2.1 kc0 ks0 58 [some (.ref kp)] (h4, kc, ks) [.int n4]
                  exact g_retI hEnd (gx gp_68 (w := 0x2f) rfl (by decide) rfl) ⟨Or.inl ⟨rfl, _, rfl⟩, R4, hX4, (by show h4.length ≤ hs.length + 1; have w1 : h4.length ≤ h3.length := ln4; have w2 : h3.length ≤ h2.length := ln3; omega), (by show rd h4 54 0 = rd hs 54 0; rw [rg4, rg3, rg2, rg1])⟩ (by show kc ≤ kc + 1; omega) (by show ks ≤ ks + 11; omega)
                · exact absurd hpo.1 (by omega)
              · exact absurd hpo.1 (by omega)
            · exact absurd hpo.1 (by omega)
          · exact absurd hpo.1 (by omega)
        · exact absurd hpo.1 (by omega)
      · exact absurd hpo.1 (by omega)
    · simp only [i_eq, i0] at h2
      exact g_throw hEnd (gx gp_68 (w := 0x38) rfl (by decide) rfl) rfl ⟨Or.inr ⟨rfl, rfl⟩, R0, ⟨hT, fun _ _ h => h, fun _ _ _ _ => rfl, hInv⟩, Nat.le_succ _, rfl⟩ (by show kc + 1 ≤ kc + 1; omega) (by show ks + 6 ≤ ks + 11; omega) (by decide) (by decide)
  · exact absurd hpo.1 (by omega)


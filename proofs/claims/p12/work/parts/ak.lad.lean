/-! ArrayList.add. -/
theorem n_est {ss : SS} {TBL : List Cond} {g : GG} {cl : List vw_C} {ft : Nat → Nat → Nat} {mdl : Nat → Option MD} {bl : Nat} {xs : Nat → Int32} {d : MD} {p : Program} {l : Launch} {e : Env} {R : Room} {s : State} {m : MethodId} {args : Array Value} {below : List Frame} {meth : Method} {c : Code} {Q : State → Prop} {kc0 ks0 pc n w : Nat} {L : LN} {h : HN} {S : List Value} (act : Act ss TBL g cl bl xs d p l s m args meth c) (hG : G_const ss TBL cl ft mdl d pc w) (hv : fb w = 15) (hn : nxt w = n) (K : WpN g cl p l e R s m args below meth c Q d.2.2.1 kc0 ks0 n L h (.ref 7000000000002 :: S)) : WpN g cl p l e R s m args below meth c Q d.2.2.1 kc0 ks0 pc L h S := by
  obtain ⟨hx, hb, hr, hml, hown, hts, hK, hE, hlocks, hnm, htab, htr⟩ := act
  rcases hG with ⟨i, hd, h2, h3⟩ | ⟨i, hd, h2, h3⟩ | ⟨i, hd, h2, h3⟩ | ⟨i, hd, h2, h3⟩ | ⟨hd, h2, h3⟩ | ⟨hd, h2, h3⟩ | ⟨hd, h2, h3⟩ | ⟨i, v, hd, h2, hc, h3⟩ | ⟨i, v, hd, h2, hc, h3⟩ | ⟨i, v, hd, h2, hc, h3⟩ | ⟨i, tx, hd, h2, hc, h3⟩ | ⟨i, hd, h2, hc, h3⟩
  · exfalso; rw [h3] at hv; rw [mkI_def] at hv; omega
  · exfalso; rw [h3] at hv; rw [mkI_def] at hv; omega
  · exfalso; rw [h3] at hv; rw [mkI_def] at hv; omega
  · exfalso; rw [h3] at hv; rw [mkL_def] at hv; omega
  · exfalso; rw [h3] at hv; omega
  · exfalso; rw [h3] at hv; omega
  · exfalso; rw [h3] at hv; omega
  · exfalso; rw [h3] at hv; rw [mkI_def] at hv; omega
  · exfalso; rw [h3] at hv; rw [mkI_def] at hv; omega
  · exfalso; rw [h3] at hv; rw [mkL_def] at hv; omega
  · exfalso; rw [h3] at hv; omega
  · subst hn
    intro ls st H locs cells slots r
    obtain ⟨ws, hL, hS, hH, hP, hD, hSS, hc1, hc2⟩ := r
    refine va_gets hx hb hE.2.2.1 hSS hown (hts _ hc) (fun _ q => q) hd ?_
    rw [← h2]
    exact K _ _ _ _ _ _ ⟨ws, hL, SRN.push hS (Or.inr (Or.inr (Or.inl ⟨rfl, rfl⟩))), hH, hP, hD, hSS, hc1, hc2⟩
section LAD
variable {g0 : GG} {bl : Nat} {xs : Nat → Int32} {l : Launch} {hs : List CE} {k ka ke : Nat} {n9 m9 c9 : Int32}

theorem b_gro (hTY0 : TYg g0) (hlen : hs.length + 1 ≤ 6999999999999) (hk : shp hs k = some (10, 3)) (e0 : rd hs k 0 = .ref 7000000000002) (hc1 : c9.toInt = 1) : BodyN SSX TBL g0 CLS bl xs l D_298 1 21 1 10 [.ref k, .int c9] hs (fun kd r h2 => kd = 0 ∧ r = some (.ref hs.length) ∧ h2 = wr (hs ++ [((39, 10, dfN 39) : CE)]) k 0 (.ref hs.length)) := by
  intro wp p e R s m args below meth c Q kc0 ks0 kc ks act hf hl hc hsl hEnd
  have hf : 1 ≤ R.frames := hf
  have hl : 21 ≤ R.locals := hl
  have hTY : TYg (gp g0 wp) := hTY0
  show WpN (gp g0 wp) CLS p l e R s m args below meth c Q D_298.2.2.1 kc0 ks0 0 [some (.ref k), some (.int c9), none, none] (hs, kc, ks) []
  refine g_loadA act (gx gp_298 (w := 0x103) rfl (by decide) rfl) (a := 0) (n := 1) rfl rfl rfl ?_
  refine r_getf act (gx gp_298 (w := 0x300000a000404) rfl (by decide) rfl) (n := 4) (ci := 10) (j := 0) (N := 3) rfl rfl rfl hk (by decide) (v := .ref 7000000000002) e0 ?_
  refine n_elen act (gx gp_298 (w := 0x532) rfl (by decide) rfl) (n := 5) rfl ?_
  refine g_storeI act (gx gp_298 (w := 0x2000610) rfl (by decide) rfl) (a := 2) (n := 6) rfl rfl (L2 := [some (.ref k), some (.int c9), some (.int (0 : Int32)), none]) rfl ?_
  refine g_loadI act (gx gp_298 (w := 0x2000702) rfl (by decide) rfl) (a := 2) (n := 7) rfl rfl rfl ?_
  refine g_ifGt act (gx gp_298 (w := 0x14000a43) rfl (by decide) rfl) (tgt := 20) (n := 10) rfl rfl (fun q => absurd q (by decide)) (fun _ => ?_)
  refine g_loadA act (gx gp_298 (w := 0xb03) rfl (by decide) rfl) (a := 0) (n := 11) rfl rfl rfl ?_
  refine r_getf act (gx gp_298 (w := 0x300000a000e04) rfl (by decide) rfl) (n := 14) (ci := 10) (j := 0) (N := 3) rfl rfl rfl hk (by decide) (v := .ref 7000000000002) e0 ?_
  refine n_est act (gx gp_298 (w := 0xf000000001101) rfl (by decide) rfl) (n := 17) (by decide) rfl ?_
  refine n_aeq act (gx (P := G_acmpeq) gp_298 (w := 0x2d00144e) rfl (by decide) rfl) (tgt := 45) rfl ?_
  refine g_loadA act (gx gp_298 (w := 0x2e03) rfl (by decide) rfl) (a := 0) (n := 46) rfl rfl rfl ?_
  refine g_constI act (gx gp_298 (w := 0x40000005400000051000000003001) rfl (by decide) rfl) (n := 48) (x := (10 : Int32)) (by decide) rfl ?_
  refine g_loadI act (gx gp_298 (w := 0x1003102) rfl (by decide) rfl) (a := 1) (n := 49) rfl rfl rfl ?_
  refine n_mmax act (gx gp_298 (w := 0x344a) rfl (by decide) rfl) (by omega) (by omega) (by show (1 : Nat) ≤ 8; decide) (by show kc ≤ _; omega) (by show ks ≤ _; omega) rfl ?_
  refine r_newa act hTY (gx gp_298 (w := 0x2700371c) rfl (by decide) rfl) (n := 55) (N := 10) (kd := 39) (by rw [if_neg (fun q => by have := i_lt.mp q; rw [show (10 : Int32).toInt = 10 from by decide] at this; omega)]; decide) (by decide) (by decide) (by omega) (by omega) (by omega) rfl ?_
  refine g_dupx1 act (gx gp_298 (w := 0x384f) rfl (by decide) rfl) (n := 56) rfl rfl rfl ?_
  refine r_putf act (gx gp_298 (w := 0x300000a003b13) rfl (by decide) rfl) (n := 59) (ci := 10) (j := 0) (N := 3) rfl rfl rfl (by rw [shp_app (shp_lt hk)]; exact hk) (by decide) (Or.inr (Or.inr (Or.inr ⟨rfl, Or.inr ⟨_, rfl⟩⟩))) ?_
  exact g_retA hEnd (gx gp_298 (w := 0x31) rfl (by decide) rfl) (Or.inr ⟨_, rfl⟩) ⟨rfl, rfl, rfl⟩ (by show kc + 1 ≤ kc + 1; omega) (by show ks + 10 ≤ ks + 10; omega)

theorem b_gro0 (hTY0 : TYg g0) (hlen : hs.length + 1 ≤ 6999999999999) (hk : shp hs k = some (10, 3)) (e0 : rd hs k 0 = .ref 7000000000002) (e1 : rd hs k 1 = .int n9) (hn : n9.toInt = 0) : BodyN SSX TBL g0 CLS bl xs l D_297 2 44 1 10 [.ref k] hs (fun kd r h2 => kd = 0 ∧ r = some (.ref hs.length) ∧ h2 = wr (hs ++ [((39, 10, dfN 39) : CE)]) k 0 (.ref hs.length)) := by
  intro wp p e R s m args below meth c Q kc0 ks0 kc ks act hf hl hc hsl hEnd
  have hf : 2 ≤ R.frames := hf
  have hl : 44 ≤ R.locals := hl
  have hTY : TYg (gp g0 wp) := hTY0
  show WpN (gp g0 wp) CLS p l e R s m args below meth c Q D_297.2.2.1 kc0 ks0 0 [some (.ref k)] (hs, kc, ks) []
  refine g_loadA act (gx gp_297 (w := 0x103) rfl (by decide) rfl) (a := 0) (n := 1) rfl rfl rfl ?_
  refine g_loadA act (gx gp_297 (w := 0x203) rfl (by decide) rfl) (a := 0) (n := 2) rfl rfl rfl ?_
  refine r_getf act (gx gp_297 (w := 0x4a000504) rfl (by decide) rfl) (n := 5) (ci := 10) (j := 1) (N := 3) rfl rfl rfl hk (by decide) (v := .int n9) e1 ?_
  refine g_constI act (gx gp_297 (w := 0x40000000c00000009000000000601) rfl (by decide) rfl) (n := 6) (x := (1 : Int32)) (by decide) rfl ?_
  refine g_iadd act (gx gp_297 (w := 0x70a) rfl (by decide) rfl) (n := 7) rfl ?_
  refine n_call tb_pres act hEnd (gx (P := G_call) gp_297 (w := 0xb000000000000c102200012a000a0f) rfl (by decide) rfl) (d' := D_298) rfl (f' := 1) (lam' := 21) (mc := 1) (ms := 10) (as := [.ref k, .int (n9 + (1 : Int32))]) (rest := []) (b_gro hTY hlen hk e0 (by rw [i_add (by show _ ≤ _ + (1 : Int); omega) (by show _ + (1 : Int) < _; omega)]; show n9.toInt + (1 : Int) = 1; omega)) (show (2 : Nat) = fb 0xb000000000000c102200012a000a0f % 16 by decide) (by show (2 : Nat) ≤ 4; decide) (fun _ => ⟨_, _, rfl, _, shp_at hk, Or.inr (show fb 0xb000000000000c102200012a000a0f >>> 68 = 11 by decide)⟩) (by omega) (by show 8 + (4 + 11) + 21 ≤ R.locals; omega) (by show (0 : Nat) ≤ 8; decide) (by show kc + 1 ≤ _; omega) (by show ks + 10 ≤ _; omega) (fun r9 hs9 hpo hr9 => ?_) (fun x9 hs9 hx9 hpo => ?_)
  · obtain ⟨-, rfl, rfl⟩ := hpo
    show WpN (gp g0 wp) CLS p l e R s m args below meth c Q D_297.2.2.1 kc0 ks0 10 [some (.ref k)] ((wr (hs ++ [((39, 10, dfN 39) : CE)]) k 0 (.ref hs.length)), kc + 1, ks + 10) [.ref hs.length]
    exact g_retA hEnd (gx gp_297 (w := 0x31) rfl (by decide) rfl) (Or.inr ⟨_, rfl⟩) ⟨rfl, rfl, rfl⟩ (by show kc + 1 ≤ kc + 1; omega) (by show ks + 10 ≤ ks + 10; omega)
  · exact absurd hpo.1 (by omega)

theorem b_ad3A (hk : shp hs k = some (10, 3)) (ha : shp hs ka = some (39, 10)) (he : shp hs ke = some (8, 5)) (n0 : 0 ≤ n9.toInt) (hn : n9.toInt ≤ 9) : BodyN SSX TBL g0 CLS bl xs l D_294 3 64 1 10 [.ref k, .ref ke, .ref ka, .int n9] hs (fun kd r h2 => kd = 0 ∧ r = none ∧ h2 = (wr (wr hs ka n9.toInt.toNat (.ref ke)) k 1 (.int (n9 + (1 : Int32))))) := by
  intro wp p e R s m args below meth c Q kc0 ks0 kc ks act hf hl hc hsl hEnd
  have hf : 3 ≤ R.frames := hf
  have hl : 64 ≤ R.locals := hl
  show WpN (gp g0 wp) CLS p l e R s m args below meth c Q D_294.2.2.1 kc0 ks0 0 [some (.ref k), some (.ref ke), some (.ref ka), some (.int n9)] (hs, kc, ks) []
  refine g_loadI act (gx gp_294 (w := 0x3000102) rfl (by decide) rfl) (a := 3) (n := 1) rfl rfl rfl ?_
  refine g_loadA act (gx gp_294 (w := 0x2000203) rfl (by decide) rfl) (a := 2) (n := 2) rfl rfl rfl ?_
  refine r_alen act (gx gp_294 (w := 0x332) rfl (by decide) rfl) (n := 3) (N := 10) (c9 := 39) rfl ha (by decide) ?_
  refine g_icmpNe act (gx gp_294 (w := 0xb000621) rfl (by decide) rfl) (tgt := 11) (n := 6) rfl rfl (fun h3 => ?_) (fun h3 => ?_)
  · simp only [i_eq] at h3
    refine g_loadA act (gx gp_294 (w := 0x2000c03) rfl (by decide) rfl) (a := 2) (n := 12) rfl rfl rfl ?_
    refine g_loadI act (gx gp_294 (w := 0x3000d02) rfl (by decide) rfl) (a := 3) (n := 13) rfl rfl rfl ?_
    refine g_loadA act (gx gp_294 (w := 0x1000e03) rfl (by decide) rfl) (a := 1) (n := 14) rfl rfl rfl ?_
    refine r_aastR act (gx gp_294 (w := 0xf35) rfl (by decide) rfl) (n := 15) (N := 10) (c9 := 39) (c2 := 8) (N2 := 5) rfl ha he (Or.inl ⟨rfl, rfl⟩) (j := n9.toInt.toNat) (by omega) (by omega) ?_
    refine g_loadA act (gx gp_294 (w := 0x1003) rfl (by decide) rfl) (a := 0) (n := 16) rfl rfl rfl ?_
    refine g_loadI act (gx gp_294 (w := 0x3001102) rfl (by decide) rfl) (a := 3) (n := 17) rfl rfl rfl ?_
    refine g_constI act (gx gp_294 (w := 0x40000000c00000009000000001201) rfl (by decide) rfl) (n := 18) (x := (1 : Int32)) (by decide) rfl ?_
    refine g_iadd act (gx gp_294 (w := 0x130a) rfl (by decide) rfl) (n := 19) rfl ?_
    refine r_putf act (gx gp_294 (w := 0x4a001613) rfl (by decide) rfl) (n := 22) (ci := 10) (j := 1) (N := 3) rfl rfl rfl (by rw [shp_wr]; exact hk) (by decide) (Or.inl ⟨rfl, _, rfl⟩) ?_
    exact g_retV hEnd (gx gp_294 (w := 0x18) rfl (by decide) rfl) ⟨rfl, rfl, rfl⟩ (by show kc ≤ kc + 1; omega) (by show ks ≤ ks + 10; omega)
  · simp only [i_eq] at h3
    exfalso; have z9 : (Int32.ofNat 10).toInt = 10 := by decide
    omega

theorem b_ad3B (hTY0 : TYg g0) (hlen : hs.length + 1 ≤ 6999999999999) (hk : shp hs k = some (10, 3)) (e0 : rd hs k 0 = .ref 7000000000002) (e1 : rd hs k 1 = .int n9) (hn : n9.toInt = 0) (he : shp hs ke = some (8, 5)) : BodyN SSX TBL g0 CLS bl xs l D_294 3 64 1 10 [.ref k, .ref ke, .ref 7000000000002, .int n9] hs (fun kd r h2 => kd = 0 ∧ r = none ∧ h2 = (wr (wr (wr (hs ++ [((39, 10, dfN 39) : CE)]) k 0 (.ref hs.length)) hs.length 0 (.ref ke)) k 1 (.int (n9 + (1 : Int32))))) := by
  intro wp p e R s m args below meth c Q kc0 ks0 kc ks act hf hl hc hsl hEnd
  have hf : 3 ≤ R.frames := hf
  have hl : 64 ≤ R.locals := hl
  have hTY : TYg (gp g0 wp) := hTY0
  show WpN (gp g0 wp) CLS p l e R s m args below meth c Q D_294.2.2.1 kc0 ks0 0 [some (.ref k), some (.ref ke), some (.ref 7000000000002), some (.int n9)] (hs, kc, ks) []
  refine g_loadI act (gx gp_294 (w := 0x3000102) rfl (by decide) rfl) (a := 3) (n := 1) rfl rfl rfl ?_
  refine g_loadA act (gx gp_294 (w := 0x2000203) rfl (by decide) rfl) (a := 2) (n := 2) rfl rfl rfl ?_
  refine n_elen act (gx gp_294 (w := 0x332) rfl (by decide) rfl) (n := 3) rfl ?_
  refine g_icmpNe act (gx gp_294 (w := 0xb000621) rfl (by decide) rfl) (tgt := 11) (n := 6) rfl rfl (fun h3 => ?_) (fun h3 => ?_)
  · simp only [i_eq, show (0 : Int32).toInt = 0 from by decide] at h3
    exfalso; have z9 : (0 : Int32).toInt = 0 := by decide
    omega
  · simp only [i_eq, show (0 : Int32).toInt = 0 from by decide] at h3
    refine g_loadA act (gx gp_294 (w := 0x703) rfl (by decide) rfl) (a := 0) (n := 7) rfl rfl rfl ?_
    refine n_call tb_pres act hEnd (gx (P := G_call) gp_294 (w := 0xb000000000000c0411000129000a0f) rfl (by decide) rfl) (d' := D_297) rfl (f' := 2) (lam' := 44) (mc := 1) (ms := 10) (as := [.ref k]) (rest := []) (b_gro0 hTY hlen hk e0 e1 hn) (show (1 : Nat) = fb 0xb000000000000c0411000129000a0f % 16 by decide) (by show (1 : Nat) ≤ 1; decide) (fun _ => ⟨_, _, rfl, _, shp_at hk, Or.inr (show fb 0xb000000000000c0411000129000a0f >>> 68 = 11 by decide)⟩) (by omega) (by show 8 + (1 + 11) + 44 ≤ R.locals; omega) (by show (0 : Nat) ≤ 8; decide) (by show kc + 1 ≤ _; omega) (by show ks + 10 ≤ _; omega) (fun r9 hs9 hpo hr9 => ?_) (fun x9 hs9 hx9 hpo => ?_)
    · obtain ⟨-, rfl, rfl⟩ := hpo
      show WpN (gp g0 wp) CLS p l e R s m args below meth c Q D_294.2.2.1 kc0 ks0 10 [some (.ref k), some (.ref ke), some (.ref 7000000000002), some (.int n9)] ((wr (hs ++ [((39, 10, dfN 39) : CE)]) k 0 (.ref hs.length)), kc + 1, ks + 10) [.ref hs.length]
      refine g_storeA act (gx gp_294 (w := 0x2000b2d) rfl (by decide) rfl) (a := 2) (n := 11) rfl rfl (L2 := [some (.ref k), some (.ref ke), some (.ref hs.length), some (.int n9)]) rfl ?_
      refine g_loadA act (gx gp_294 (w := 0x2000c03) rfl (by decide) rfl) (a := 2) (n := 12) rfl rfl rfl ?_
      refine g_loadI act (gx gp_294 (w := 0x3000d02) rfl (by decide) rfl) (a := 3) (n := 13) rfl rfl rfl ?_
      refine g_loadA act (gx gp_294 (w := 0x1000e03) rfl (by decide) rfl) (a := 1) (n := 14) rfl rfl rfl ?_
      refine r_aastR act (gx gp_294 (w := 0xf35) rfl (by decide) rfl) (n := 15) (N := 10) (c9 := 39) (c2 := 8) (N2 := 5) rfl (by rw [shp_wr]; exact shp_of (app_at _ _)) (by rw [shp_wr, shp_app (shp_lt he)]; exact he) (Or.inl ⟨rfl, rfl⟩) (j := 0) (by omega) (by decide) ?_
      refine g_loadA act (gx gp_294 (w := 0x1003) rfl (by decide) rfl) (a := 0) (n := 16) rfl rfl rfl ?_
      refine g_loadI act (gx gp_294 (w := 0x3001102) rfl (by decide) rfl) (a := 3) (n := 17) rfl rfl rfl ?_
      refine g_constI act (gx gp_294 (w := 0x40000000c00000009000000001201) rfl (by decide) rfl) (n := 18) (x := (1 : Int32)) (by decide) rfl ?_
      refine g_iadd act (gx gp_294 (w := 0x130a) rfl (by decide) rfl) (n := 19) rfl ?_
      refine r_putf act (gx gp_294 (w := 0x4a001613) rfl (by decide) rfl) (n := 22) (ci := 10) (j := 1) (N := 3) rfl rfl rfl (by rw [shp_wr, shp_wr, shp_app (shp_lt hk)]; exact hk) (by decide) (Or.inl ⟨rfl, _, rfl⟩) ?_
      exact g_retV hEnd (gx gp_294 (w := 0x18) rfl (by decide) rfl) ⟨rfl, rfl, rfl⟩ (by show kc + 1 ≤ kc + 1; omega) (by show ks + 10 ≤ ks + 10; omega)
    · exact absurd hpo.1 (by omega)

end LAD

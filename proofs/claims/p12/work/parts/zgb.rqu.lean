/-! The reference's plain questions, exactly. -/
def MTX (hs : List CE) (tx : Nat → Int) (L : Nat) (ec ep : Int) : Prop := IArr hs 130 700 tx ∧ (∃ x : Int32, rd hs 124 10 = .int x ∧ x.toInt = (L : Int)) ∧ (∃ x : Int32, rd hs 124 11 = .int x) ∧ (∃ x : Int32, rd hs 124 12 = .int x ∧ x.toInt = ec) ∧ (∃ x : Int32, rd hs 124 13 = .int x ∧ x.toInt = ep) ∧ (∃ x : Int32, rd hs 124 14 = .int x) ∧ (∃ x : Int32, rd hs 124 15 = .int x) ∧ (∃ f : Nat → Int, IArr hs 126 46 f) ∧ ∃ f : Nat → Int, IArr hs 128 39 f
/-- a question's end: c the throw, or the answer -/
def QEnd (hs h2 : List CE) (tl wl pv : Nat → Int) (nl n ng nr np : Nat) (c : Int32) (r : Option Value) (v : Int) : Prop := (∃ x : Int32, r = some (.int x) ∧ x.toInt = v) ∧ rd h2 124 0 = .int c ∧ FrS WZ0 hs h2 ∧ MXS h2 tl wl pv nl n ng nr np
section PUBQ
variable {g0 : GG} {bl : Nat} {xs : Nat → Int32} {l : Launch} {hs : List CE} {L : Int}

theorem bx_errorCode {tl wl pv : Nat → Int} {nl n ng nr np : Nat} {ec : Int} {c9 : Int32} (e12 : rd hs 124 12 = .int c9) (hec : c9.toInt = ec) (hX0 : MXS hs tl wl pv nl n ng nr np) : BodyN SSX TBL g0 CLS bl xs l D_202 0 0 0 0 [.ref 124] hs (fun kd r h2 => kd = 0 ∧ ((True ∧ QEnd hs h2 tl wl pv nl n ng nr np 0 r (ec)))) := by
  intro wp p e R s m args below meth c Q kc0 ks0 kc ks act hf hl hc hsl hEnd
  have hf : 0 ≤ R.frames := hf
  have hl : 0 ≤ R.locals := hl
  have hk1 : kc ≤ kc + 0 := by omega
  have hk2 : ks ≤ ks + 0 := by omega
  obtain ⟨⟨rw0, hTo, hW⟩, hPa, ⟨p9, e6, hp9⟩, hp10, hNW, hM⟩ := hX0
  obtain ⟨⟨x0, e0, hx0⟩, -⟩ := id hM
  have hN9 := hNW.1
  obtain ⟨n0, n1, n2, n3, n4, n5, n6, n7, n8, hG0, nL, nC, nP, nD⟩ := hN9
  have hGn := hG0.1
  have hGn3 := hG0.2.1
  have hGl := hG0.2.2.1
  have hfr1 := FrS.rf WZ0 hs
  show WpN (gp g0 wp) CLS p l e R s m args below meth c Q D_202.2.2.1 kc0 ks0 0 [some (.ref 124)] (hs, kc, ks) []
  refine g_loadA act (gx gp_202 (w := 0x103) rfl (by decide) rfl) (a := 0) (n := 1) rfl rfl rfl ?_
  refine g_constI act (gx gp_202 (w := 0x40000000400000001000000000201) rfl (by decide) rfl) (n := 2) (x := (0 : Int32)) (by decide) rfl ?_
  refine r_putf act (gx gp_202 (w := 0x9000513) rfl (by decide) rfl) (n := 5) (ci := 9) (j := 0) (N := 39) rfl rfl rfl rw0.1 (by decide) (Or.inl ⟨rfl, _, rfl⟩) ?_
  have rw_1 := RW.wr (k := 124) (j := 0) (v := .int (0 : Int32)) rw0 (Or.inr (by decide))
  have f_2 := hTo.ne (k := 124) (j := 0) (v := .int (0 : Int32)) (by decide)
  have f_3 := hW.ne (k := 124) (j := 0) (v := .int (0 : Int32)) (by decide)
  have f_4 := hPa.ne (k := 124) (j := 0) (v := .int (0 : Int32)) (by decide)
  have f_6 := (rd_ne hs (k := 124) (j := 0) (.int (0 : Int32)) (Or.inr (by decide))).trans e6
  have f_7 := (rd_ne hs (k := 124) (j := 0) (.int (0 : Int32)) (Or.inr (by decide))).trans e12
  have f_8 := rd_same (j := 0) (v := .int (0 : Int32)) rw0.1
  have fr_9 := hfr1.wr (k := 124) (j := 0) (.int (0 : Int32)) (by unfold WZ0; omega)
  clear hTo hW hPa e0 e6 e12
  generalize (wr hs 124 0 (.int (0 : Int32))) = hs_10 at *
  refine g_loadA act (gx gp_202 (w := 0x603) rfl (by decide) rfl) (a := 0) (n := 6) rfl rfl rfl ?_
  refine r_getf act (gx gp_202 (w := 0x309000904) rfl (by decide) rfl) (n := 9) (ci := 9) (j := 12) (N := 39) rfl rfl rfl rw_1.1 (by decide) (v := .int c9) f_7 ?_
  exact g_retI hEnd (gx gp_202 (w := 0x2f) rfl (by decide) rfl) (by
    first
    | exact ⟨rfl, ⟨trivial, ⟨_, rfl, hec⟩, f_8, fr_9, ⟨⟨rw_1, f_2, f_3⟩, f_4, ⟨_, f_6, hp9⟩, by omega, hNW, hM.frw fr_9.st0.stR ⟨_, f_8, by have w9 := (show (0 : Int32).toInt = ((0 : Nat) : Int) from by decide); omega, by have w9 := (show (0 : Int32).toInt = ((0 : Nat) : Int) from by decide); omega⟩⟩⟩⟩) hk1 hk2

theorem bx_errorPosition {tl wl pv : Nat → Int} {nl n ng nr np : Nat} {ec : Int} {c9 : Int32} (e13 : rd hs 124 13 = .int c9) (hec : c9.toInt = ec) (hX0 : MXS hs tl wl pv nl n ng nr np) : BodyN SSX TBL g0 CLS bl xs l D_203 0 0 0 0 [.ref 124] hs (fun kd r h2 => kd = 0 ∧ ((True ∧ QEnd hs h2 tl wl pv nl n ng nr np 0 r (ec)))) := by
  intro wp p e R s m args below meth c Q kc0 ks0 kc ks act hf hl hc hsl hEnd
  have hf : 0 ≤ R.frames := hf
  have hl : 0 ≤ R.locals := hl
  have hk1 : kc ≤ kc + 0 := by omega
  have hk2 : ks ≤ ks + 0 := by omega
  obtain ⟨⟨rw0, hTo, hW⟩, hPa, ⟨p9, e6, hp9⟩, hp10, hNW, hM⟩ := hX0
  obtain ⟨⟨x0, e0, hx0⟩, -⟩ := id hM
  have hN9 := hNW.1
  obtain ⟨n0, n1, n2, n3, n4, n5, n6, n7, n8, hG0, nL, nC, nP, nD⟩ := hN9
  have hGn := hG0.1
  have hGn3 := hG0.2.1
  have hGl := hG0.2.2.1
  have hfr1 := FrS.rf WZ0 hs
  show WpN (gp g0 wp) CLS p l e R s m args below meth c Q D_203.2.2.1 kc0 ks0 0 [some (.ref 124)] (hs, kc, ks) []
  refine g_loadA act (gx gp_203 (w := 0x103) rfl (by decide) rfl) (a := 0) (n := 1) rfl rfl rfl ?_
  refine g_constI act (gx gp_203 (w := 0x40000000400000001000000000201) rfl (by decide) rfl) (n := 2) (x := (0 : Int32)) (by decide) rfl ?_
  refine r_putf act (gx gp_203 (w := 0x9000513) rfl (by decide) rfl) (n := 5) (ci := 9) (j := 0) (N := 39) rfl rfl rfl rw0.1 (by decide) (Or.inl ⟨rfl, _, rfl⟩) ?_
  have rw_1 := RW.wr (k := 124) (j := 0) (v := .int (0 : Int32)) rw0 (Or.inr (by decide))
  have f_2 := hTo.ne (k := 124) (j := 0) (v := .int (0 : Int32)) (by decide)
  have f_3 := hW.ne (k := 124) (j := 0) (v := .int (0 : Int32)) (by decide)
  have f_4 := hPa.ne (k := 124) (j := 0) (v := .int (0 : Int32)) (by decide)
  have f_6 := (rd_ne hs (k := 124) (j := 0) (.int (0 : Int32)) (Or.inr (by decide))).trans e6
  have f_7 := (rd_ne hs (k := 124) (j := 0) (.int (0 : Int32)) (Or.inr (by decide))).trans e13
  have f_8 := rd_same (j := 0) (v := .int (0 : Int32)) rw0.1
  have fr_9 := hfr1.wr (k := 124) (j := 0) (.int (0 : Int32)) (by unfold WZ0; omega)
  clear hTo hW hPa e0 e6 e13
  generalize (wr hs 124 0 (.int (0 : Int32))) = hs_10 at *
  refine g_loadA act (gx gp_203 (w := 0x603) rfl (by decide) rfl) (a := 0) (n := 6) rfl rfl rfl ?_
  refine r_getf act (gx gp_203 (w := 0x349000904) rfl (by decide) rfl) (n := 9) (ci := 9) (j := 13) (N := 39) rfl rfl rfl rw_1.1 (by decide) (v := .int c9) f_7 ?_
  exact g_retI hEnd (gx gp_203 (w := 0x2f) rfl (by decide) rfl) (by
    first
    | exact ⟨rfl, ⟨trivial, ⟨_, rfl, hec⟩, f_8, fr_9, ⟨⟨rw_1, f_2, f_3⟩, f_4, ⟨_, f_6, hp9⟩, by omega, hNW, hM.frw fr_9.st0.stR ⟨_, f_8, by have w9 := (show (0 : Int32).toInt = ((0 : Nat) : Int) from by decide); omega, by have w9 := (show (0 : Int32).toInt = ((0 : Nat) : Int) from by decide); omega⟩⟩⟩⟩) hk1 hk2

theorem bx_outage {tl wl pv : Nat → Int} {nl n ng nr np : Nat} (hX0 : MXS hs tl wl pv nl n ng nr np) : BodyN SSX TBL g0 CLS bl xs l D_246 0 0 0 0 [.ref 124] hs (fun kd r h2 => kd = 0 ∧ ((True ∧ QEnd hs h2 tl wl pv nl n ng nr np 0 r (wl 38)))) := by
  intro wp p e R s m args below meth c Q kc0 ks0 kc ks act hf hl hc hsl hEnd
  have hf : 0 ≤ R.frames := hf
  have hl : 0 ≤ R.locals := hl
  have hk1 : kc ≤ kc + 0 := by omega
  have hk2 : ks ≤ ks + 0 := by omega
  obtain ⟨⟨rw0, hTo, hW⟩, hPa, ⟨p9, e6, hp9⟩, hp10, hNW, hM⟩ := hX0
  obtain ⟨⟨x0, e0, hx0⟩, -⟩ := id hM
  have hN9 := hNW.1
  obtain ⟨n0, n1, n2, n3, n4, n5, n6, n7, n8, hG0, nL, nC, nP, nD⟩ := hN9
  have hGn := hG0.1
  have hGn3 := hG0.2.1
  have hGl := hG0.2.2.1
  have hfr1 := FrS.rf WZ0 hs
  show WpN (gp g0 wp) CLS p l e R s m args below meth c Q D_246.2.2.1 kc0 ks0 0 [some (.ref 124)] (hs, kc, ks) []
  refine g_loadA act (gx gp_246 (w := 0x103) rfl (by decide) rfl) (a := 0) (n := 1) rfl rfl rfl ?_
  refine g_constI act (gx gp_246 (w := 0x40000000400000001000000000201) rfl (by decide) rfl) (n := 2) (x := (0 : Int32)) (by decide) rfl ?_
  refine r_putf act (gx gp_246 (w := 0x9000513) rfl (by decide) rfl) (n := 5) (ci := 9) (j := 0) (N := 39) rfl rfl rfl rw0.1 (by decide) (Or.inl ⟨rfl, _, rfl⟩) ?_
  have rw_1 := RW.wr (k := 124) (j := 0) (v := .int (0 : Int32)) rw0 (Or.inr (by decide))
  have f_2 := hTo.ne (k := 124) (j := 0) (v := .int (0 : Int32)) (by decide)
  have f_3 := hW.ne (k := 124) (j := 0) (v := .int (0 : Int32)) (by decide)
  have f_4 := hPa.ne (k := 124) (j := 0) (v := .int (0 : Int32)) (by decide)
  have f_6 := (rd_ne hs (k := 124) (j := 0) (.int (0 : Int32)) (Or.inr (by decide))).trans e6
  have f_7 := rd_same (j := 0) (v := .int (0 : Int32)) rw0.1
  have fr_8 := hfr1.wr (k := 124) (j := 0) (.int (0 : Int32)) (by unfold WZ0; omega)
  clear hTo hW hPa e0 e6
  generalize (wr hs 124 0 (.int (0 : Int32))) = hs_9 at *
  refine g_loadA act (gx gp_246 (w := 0x603) rfl (by decide) rfl) (a := 0) (n := 6) rfl rfl rfl ?_
  refine r_getf act (gx gp_246 (w := 0x30000c9000904) rfl (by decide) rfl) (n := 9) (ci := 9) (j := 3) (N := 39) rfl rfl rfl rw_1.1 (by decide) (rw_1.2 (3, 127, 32, 39) (by decide)).1 ?_
  refine g_constI act (gx gp_246 (w := 0x40000013400000131000000000b01) rfl (by decide) rfl) (n := 11) (x := (38 : Int32)) (by decide) rfl ?_
  obtain ⟨x_10, e_11, hx_12⟩ := f_3 38 (by omega)
  refine r_iald act (gx gp_246 (w := 0xc1a) rfl (by decide) rfl) (n := 12) (j := 38) rfl (rw_1.2 (3, 127, 32, 39) (by decide)).2 (show (38 : Int32).toInt = ((38 : Nat) : Int) from by decide) (show 38 < 39 by omega) (v := .int x_10) e_11 ?_
  exact g_retI hEnd (gx gp_246 (w := 0x2f) rfl (by decide) rfl) (by
    first
    | exact ⟨rfl, ⟨trivial, ⟨_, rfl, hx_12⟩, f_7, fr_8, ⟨⟨rw_1, f_2, f_3⟩, f_4, ⟨_, f_6, hp9⟩, by omega, hNW, hM.frw fr_8.st0.stR ⟨_, f_7, by have w9 := (show (0 : Int32).toInt = ((0 : Nat) : Int) from by decide); omega, by have w9 := (show (0 : Int32).toInt = ((0 : Nat) : Int) from by decide); omega⟩⟩⟩⟩) hk1 hk2

theorem bx_count {tl wl pv : Nat → Int} {nl n ng nr np : Nat} {i1 : Int32} (hX0 : MXS hs tl wl pv nl n ng nr np) : BodyN SSX TBL g0 CLS bl xs l D_195 1 22 0 0 [.ref 124, .int i1] hs (fun kd r h2 => kd = 0 ∧ (((0 ≤ i1.toInt ∧ i1.toInt ≤ 4) ∧ QEnd hs h2 tl wl pv nl n ng nr np 0 r (tl (i1.toInt.toNat))) ∨ (¬ (0 ≤ i1.toInt ∧ i1.toInt ≤ 4) ∧ QEnd hs h2 tl wl pv nl n ng nr np 1 r (0)))) := by
  intro wp p e R s m args below meth c Q kc0 ks0 kc ks act hf hl hc hsl hEnd
  have hf : 1 ≤ R.frames := hf
  have hl : 22 ≤ R.locals := hl
  have hk1 : kc ≤ kc + 0 := by omega
  have hk2 : ks ≤ ks + 0 := by omega
  obtain ⟨⟨rw0, hTo, hW⟩, hPa, ⟨p9, e6, hp9⟩, hp10, hNW, hM⟩ := hX0
  obtain ⟨⟨x0, e0, hx0⟩, -⟩ := id hM
  have hN9 := hNW.1
  obtain ⟨n0, n1, n2, n3, n4, n5, n6, n7, n8, hG0, nL, nC, nP, nD⟩ := hN9
  have hGn := hG0.1
  have hGn3 := hG0.2.1
  have hGl := hG0.2.2.1
  have hfr1 := FrS.rf WZ0 hs
  show WpN (gp g0 wp) CLS p l e R s m args below meth c Q D_195.2.2.1 kc0 ks0 0 [some (.ref 124), some (.int i1)] (hs, kc, ks) []
  refine g_loadA act (gx gp_195 (w := 0x103) rfl (by decide) rfl) (a := 0) (n := 1) rfl rfl rfl ?_
  refine g_loadI act (gx gp_195 (w := 0x1000202) rfl (by decide) rfl) (a := 1) (n := 2) rfl rfl rfl ?_
  refine g_constI act (gx gp_195 (w := 0x40000000400000001000000000301) rfl (by decide) rfl) (n := 3) (x := (0 : Int32)) (by decide) rfl ?_
  refine g_constI act (gx gp_195 (w := 0x40000002400000021000000000401) rfl (by decide) rfl) (n := 4) (x := (4 : Int32)) (by decide) rfl ?_
  refine n_call tb_pres act hEnd (gx (P := G_call) gp_195 (w := 0x40c330000d900070f) rfl (by decide) rfl) (d' := D_217) rfl (as := [.int i1, .int (0 : Int32), .int (4 : Int32)]) (rest := [.ref 124]) (b_in (rfl : Int32.toInt i1 = _) (show (0 : Int32).toInt = ((0 : Nat) : Int) from by decide) (show (4 : Int32).toInt = ((4 : Nat) : Int) from by decide)) (show (3 : Nat) = fb 0x40c330000d900070f % 16 by decide) (by show (3 : Nat) ≤ 3; decide) (fun q => absurd q (by decide)) (by omega) (by show 8 + (3 + 11) + 0 ≤ R.locals; omega) (by show (1 : Nat) ≤ 8; decide) (by show kc + 0 ≤ _; omega) (by show ks + 0 ≤ _; omega) (fun r9 h3 hpo hr9 => ?_) (fun x9 hs9 hx9 hpo => ?_)
  · obtain ⟨-, rfl, hin9⟩ := hpo
    obtain ⟨rv_1, rfl, hr_2⟩ := in1_x hin9
    show WpN (gp g0 wp) CLS p l e R s m args below meth c Q D_195.2.2.1 kc0 ks0 7 [some (.ref 124), some (.int i1)] (hs, kc, ks) [.int rv_1, .ref 124]
    refine g_ifEq act (gx gp_195 (w := 0xe000a0e) rfl (by decide) rfl) (tgt := 14) (n := 10) rfl rfl (fun h5 => ?_) (fun h5 => ?_)
    · simp only [i_eq, i0] at h5
      refine g_constI act (gx gp_195 (w := 0x40000000c00000009000000000f01) rfl (by decide) rfl) (n := 15) (x := (1 : Int32)) (by decide) rfl ?_
      refine r_putf act (gx gp_195 (w := 0x9001213) rfl (by decide) rfl) (n := 18) (ci := 9) (j := 0) (N := 39) rfl rfl rfl rw0.1 (by decide) (Or.inl ⟨rfl, _, rfl⟩) ?_
      have rw_3 := RW.wr (k := 124) (j := 0) (v := .int (1 : Int32)) rw0 (Or.inr (by decide))
      have f_4 := hTo.ne (k := 124) (j := 0) (v := .int (1 : Int32)) (by decide)
      have f_5 := hW.ne (k := 124) (j := 0) (v := .int (1 : Int32)) (by decide)
      have f_6 := hPa.ne (k := 124) (j := 0) (v := .int (1 : Int32)) (by decide)
      have f_8 := (rd_ne hs (k := 124) (j := 0) (.int (1 : Int32)) (Or.inr (by decide))).trans e6
      have f_9 := rd_same (j := 0) (v := .int (1 : Int32)) rw0.1
      have fr_10 := hfr1.wr (k := 124) (j := 0) (.int (1 : Int32)) (by unfold WZ0; omega)
      clear hTo hW hPa e0 e6
      generalize (wr hs 124 0 (.int (1 : Int32))) = hs_11 at *
      refine g_loadA act (gx gp_195 (w := 0x1303) rfl (by decide) rfl) (a := 0) (n := 19) rfl rfl rfl ?_
      refine r_getf act (gx gp_195 (w := 0x9001604) rfl (by decide) rfl) (n := 22) (ci := 9) (j := 0) (N := 39) rfl rfl rfl rw_3.1 (by decide) (v := .int (1 : Int32)) f_9 ?_
      refine g_ifLe act (gx gp_195 (w := 0x1d00193d) rfl (by decide) rfl) (tgt := 29) (n := 25) rfl rfl (fun q => absurd q (by decide)) (fun _ => ?_)
      refine g_constI act (gx gp_195 (w := 0x40000000400000001000000001a01) rfl (by decide) rfl) (n := 26) (x := (0 : Int32)) (by decide) rfl ?_
      refine g_goto act (gx gp_195 (w := 0x2307) rfl (by decide) rfl) (n := 35) rfl ?_
      exact g_retI hEnd (gx gp_195 (w := 0x2f) rfl (by decide) rfl) (by
        first
        | exact ⟨rfl, Or.inr (⟨by omega, ⟨_, rfl, by have w9 := (show (0 : Int32).toInt = ((0 : Nat) : Int) from by decide); omega⟩, f_9, fr_10, ⟨⟨rw_3, f_4, f_5⟩, f_6, ⟨_, f_8, hp9⟩, by omega, hNW, hM.frw fr_10.st0.stR ⟨_, f_9, by have w9 := (show (1 : Int32).toInt = ((1 : Nat) : Int) from by decide); omega, by have w9 := (show (1 : Int32).toInt = ((1 : Nat) : Int) from by decide); omega⟩⟩⟩)⟩) hk1 hk2
    · simp only [i_eq, i0] at h5
      refine g_constI act (gx gp_195 (w := 0x40000000400000001000000000b01) rfl (by decide) rfl) (n := 11) (x := (0 : Int32)) (by decide) rfl ?_
      refine g_goto act (gx gp_195 (w := 0xf07) rfl (by decide) rfl) (n := 15) rfl ?_
      refine r_putf act (gx gp_195 (w := 0x9001213) rfl (by decide) rfl) (n := 18) (ci := 9) (j := 0) (N := 39) rfl rfl rfl rw0.1 (by decide) (Or.inl ⟨rfl, _, rfl⟩) ?_
      have rw_12 := RW.wr (k := 124) (j := 0) (v := .int (0 : Int32)) rw0 (Or.inr (by decide))
      have f_13 := hTo.ne (k := 124) (j := 0) (v := .int (0 : Int32)) (by decide)
      have f_14 := hW.ne (k := 124) (j := 0) (v := .int (0 : Int32)) (by decide)
      have f_15 := hPa.ne (k := 124) (j := 0) (v := .int (0 : Int32)) (by decide)
      have f_17 := (rd_ne hs (k := 124) (j := 0) (.int (0 : Int32)) (Or.inr (by decide))).trans e6
      have f_18 := rd_same (j := 0) (v := .int (0 : Int32)) rw0.1
      have fr_19 := hfr1.wr (k := 124) (j := 0) (.int (0 : Int32)) (by unfold WZ0; omega)
      clear hTo hW hPa e0 e6
      generalize (wr hs 124 0 (.int (0 : Int32))) = hs_20 at *
      refine g_loadA act (gx gp_195 (w := 0x1303) rfl (by decide) rfl) (a := 0) (n := 19) rfl rfl rfl ?_
      refine r_getf act (gx gp_195 (w := 0x9001604) rfl (by decide) rfl) (n := 22) (ci := 9) (j := 0) (N := 39) rfl rfl rfl rw_12.1 (by decide) (v := .int (0 : Int32)) f_18 ?_
      refine g_ifLe act (gx gp_195 (w := 0x1d00193d) rfl (by decide) rfl) (tgt := 29) (n := 25) rfl rfl (fun _ => ?_) (fun q => absurd (by decide) q)
      refine g_loadA act (gx gp_195 (w := 0x1e03) rfl (by decide) rfl) (a := 0) (n := 30) rfl rfl rfl ?_
      refine r_getf act (gx gp_195 (w := 0x3000049002104) rfl (by decide) rfl) (n := 33) (ci := 9) (j := 1) (N := 39) rfl rfl rfl rw_12.1 (by decide) (rw_12.2 (1, 125, 32, 46) (by decide)).1 ?_
      refine g_loadI act (gx gp_195 (w := 0x1002202) rfl (by decide) rfl) (a := 1) (n := 34) rfl rfl rfl ?_
      obtain ⟨j_21, hj_22⟩ := Int.eq_ofNat_of_zero_le (show (0 : Int) ≤ (Int32.toInt i1) by omega)
      obtain ⟨x_23, e_24, hx_25⟩ := f_13 j_21 (by omega)
      refine r_iald act (gx gp_195 (w := 0x231a) rfl (by decide) rfl) (n := 35) (j := j_21) rfl (rw_12.2 (1, 125, 32, 46) (by decide)).2 ((rfl : Int32.toInt i1 = _).trans hj_22) (show j_21 < 46 by omega) (v := .int x_23) e_24 ?_
      exact g_retI hEnd (gx gp_195 (w := 0x2f) rfl (by decide) rfl) (by
        first
        | (obtain rfl : j_21 = i1.toInt.toNat := (by omega); exact ⟨rfl, Or.inl ⟨by omega, ⟨_, rfl, hx_25⟩, f_18, fr_19, ⟨⟨rw_12, f_13, f_14⟩, f_15, ⟨_, f_17, hp9⟩, by omega, hNW, hM.frw fr_19.st0.stR ⟨_, f_18, by have w9 := (show (0 : Int32).toInt = ((0 : Nat) : Int) from by decide); omega, by have w9 := (show (0 : Int32).toInt = ((0 : Nat) : Int) from by decide); omega⟩⟩⟩⟩)) hk1 hk2
  · exact absurd hpo.1 (by omega)

theorem bx_line {tl wl pv : Nat → Int} {nl n ng nr np : Nat} {i1 i2 : Int32} (hX0 : MXS hs tl wl pv nl n ng nr np) : BodyN SSX TBL g0 CLS bl xs l D_237 2 43 0 0 [.ref 124, .int i1, .int i2] hs (fun kd r h2 => kd = 0 ∧ ((((0 ≤ i1.toInt ∧ i1.toInt < (nl : Int)) ∧ i2.toInt = 0) ∧ QEnd hs h2 tl wl pv nl n ng nr np 0 r (tl (5 + i1.toInt.toNat))) ∨ (((0 ≤ i1.toInt ∧ i1.toInt < (nl : Int)) ∧ i2.toInt = 1) ∧ QEnd hs h2 tl wl pv nl n ng nr np 0 r (tl (11 + i1.toInt.toNat))) ∨ (((0 ≤ i1.toInt ∧ i1.toInt < (nl : Int)) ∧ i2.toInt = 2) ∧ QEnd hs h2 tl wl pv nl n ng nr np 0 r (wl (i1.toInt.toNat))) ∨ (((0 ≤ i1.toInt ∧ i1.toInt < (nl : Int)) ∧ i2.toInt = 3) ∧ QEnd hs h2 tl wl pv nl n ng nr np 0 r (wl (6 + i1.toInt.toNat))) ∨ (¬ (0 ≤ i1.toInt ∧ i1.toInt < (nl : Int)) ∧ QEnd hs h2 tl wl pv nl n ng nr np 1 r (0)) ∨ (((0 ≤ i1.toInt ∧ i1.toInt < (nl : Int)) ∧ ¬ (0 ≤ i2.toInt ∧ i2.toInt ≤ 3)) ∧ QEnd hs h2 tl wl pv nl n ng nr np 2 r (0)))) := by
  intro wp p e R s m args below meth c Q kc0 ks0 kc ks act hf hl hc hsl hEnd
  have hf : 2 ≤ R.frames := hf
  have hl : 43 ≤ R.locals := hl
  have hk1 : kc ≤ kc + 0 := by omega
  have hk2 : ks ≤ ks + 0 := by omega
  obtain ⟨⟨rw0, hTo, hW⟩, hPa, ⟨p9, e6, hp9⟩, hp10, hNW, hM⟩ := hX0
  obtain ⟨⟨x0, e0, hx0⟩, -⟩ := id hM
  have hN9 := hNW.1
  obtain ⟨n0, n1, n2, n3, n4, n5, n6, n7, n8, hG0, nL, nC, nP, nD⟩ := hN9
  have hGn := hG0.1
  have hGn3 := hG0.2.1
  have hGl := hG0.2.2.1
  have hfr1 := FrS.rf WZ0 hs
  show WpN (gp g0 wp) CLS p l e R s m args below meth c Q D_237.2.2.1 kc0 ks0 0 [some (.ref 124), some (.int i1), some (.int i2)] (hs, kc, ks) []
  refine g_loadA act (gx gp_237 (w := 0x103) rfl (by decide) rfl) (a := 0) (n := 1) rfl rfl rfl ?_
  refine g_loadA act (gx gp_237 (w := 0x203) rfl (by decide) rfl) (a := 0) (n := 2) rfl rfl rfl ?_
  refine g_loadI act (gx gp_237 (w := 0x1000302) rfl (by decide) rfl) (a := 1) (n := 3) rfl rfl rfl ?_
  refine n_call tb_pres act hEnd (gx (P := G_call) gp_237 (w := 0xa000000000000c08220000e200060f) rfl (by decide) rfl) (d' := D_226) rfl (as := [.ref 124, .int i1]) (rest := [.ref 124]) (b_isLine rw0 hTo (rfl : Int32.toInt i1 = _) (by omega) (by omega)) (show (2 : Nat) = fb 0xa000000000000c08220000e200060f % 16 by decide) (by show (2 : Nat) ≤ 2; decide) (fun _ => ⟨_, _, rfl, _, shp_at rw0.1, Or.inr (show fb 0xa000000000000c08220000e200060f >>> 68 = 10 by decide)⟩) (by omega) (by show 8 + (2 + 11) + 22 ≤ R.locals; omega) (by show (1 : Nat) ≤ 8; decide) (by show kc + 0 ≤ _; omega) (by show ks + 0 ≤ _; omega) (fun r9 h3 hpo hr9 => ?_) (fun x9 hs9 hx9 hpo => ?_)
  · obtain ⟨-, rfl, hin9⟩ := hpo
    obtain ⟨rv_1, rfl, hr_2⟩ := in1_x hin9
    show WpN (gp g0 wp) CLS p l e R s m args below meth c Q D_237.2.2.1 kc0 ks0 6 [some (.ref 124), some (.int i1), some (.int i2)] (hs, kc, ks) [.int rv_1, .ref 124]
    refine g_ifNe act (gx gp_237 (w := 0xd00091d) rfl (by decide) rfl) (tgt := 13) (n := 9) rfl rfl (fun h4 => ?_) (fun h4 => ?_)
    · simp only [i_eq, i0] at h4
      refine g_loadI act (gx gp_237 (w := 0x2000e02) rfl (by decide) rfl) (a := 2) (n := 14) rfl rfl rfl ?_
      refine g_constI act (gx gp_237 (w := 0x40000000400000001000000000f01) rfl (by decide) rfl) (n := 15) (x := (0 : Int32)) (by decide) rfl ?_
      refine g_constI act (gx gp_237 (w := 0x40000001c00000019000000001001) rfl (by decide) rfl) (n := 16) (x := (3 : Int32)) (by decide) rfl ?_
      refine n_call tb_pres act hEnd (gx (P := G_call) gp_237 (w := 0x40c330000d900130f) rfl (by decide) rfl) (d' := D_217) rfl (as := [.int i2, .int (0 : Int32), .int (3 : Int32)]) (rest := [.ref 124]) (b_in (rfl : Int32.toInt i2 = _) (show (0 : Int32).toInt = ((0 : Nat) : Int) from by decide) (show (3 : Int32).toInt = ((3 : Nat) : Int) from by decide)) (show (3 : Nat) = fb 0x40c330000d900130f % 16 by decide) (by show (3 : Nat) ≤ 3; decide) (fun q => absurd q (by decide)) (by omega) (by show 8 + (3 + 11) + 0 ≤ R.locals; omega) (by show (1 : Nat) ≤ 8; decide) (by show kc + 0 ≤ _; omega) (by show ks + 0 ≤ _; omega) (fun r9 h3 hpo hr9 => ?_) (fun x9 hs9 hx9 hpo => ?_)
      · obtain ⟨-, rfl, hin9⟩ := hpo
        obtain ⟨rv_3, rfl, hr_4⟩ := in1_x hin9
        show WpN (gp g0 wp) CLS p l e R s m args below meth c Q D_237.2.2.1 kc0 ks0 19 [some (.ref 124), some (.int i1), some (.int i2)] (hs, kc, ks) [.int rv_3, .ref 124]
        refine g_ifEq act (gx gp_237 (w := 0x1a00160e) rfl (by decide) rfl) (tgt := 26) (n := 22) rfl rfl (fun h8 => ?_) (fun h8 => ?_)
        · simp only [i_eq, i0] at h8
          refine g_constI act (gx gp_237 (w := 0x40000001400000011000000001b01) rfl (by decide) rfl) (n := 27) (x := (2 : Int32)) (by decide) rfl ?_
          refine r_putf act (gx gp_237 (w := 0x9001e13) rfl (by decide) rfl) (n := 30) (ci := 9) (j := 0) (N := 39) rfl rfl rfl rw0.1 (by decide) (Or.inl ⟨rfl, _, rfl⟩) ?_
          have rw_5 := RW.wr (k := 124) (j := 0) (v := .int (2 : Int32)) rw0 (Or.inr (by decide))
          have f_6 := hTo.ne (k := 124) (j := 0) (v := .int (2 : Int32)) (by decide)
          have f_7 := hW.ne (k := 124) (j := 0) (v := .int (2 : Int32)) (by decide)
          have f_8 := hPa.ne (k := 124) (j := 0) (v := .int (2 : Int32)) (by decide)
          have f_10 := (rd_ne hs (k := 124) (j := 0) (.int (2 : Int32)) (Or.inr (by decide))).trans e6
          have f_11 := rd_same (j := 0) (v := .int (2 : Int32)) rw0.1
          have fr_12 := hfr1.wr (k := 124) (j := 0) (.int (2 : Int32)) (by unfold WZ0; omega)
          clear hTo hW hPa e0 e6
          generalize (wr hs 124 0 (.int (2 : Int32))) = hs_13 at *
          refine g_loadA act (gx gp_237 (w := 0x1f03) rfl (by decide) rfl) (a := 0) (n := 31) rfl rfl rfl ?_
          refine r_getf act (gx gp_237 (w := 0x9002204) rfl (by decide) rfl) (n := 34) (ci := 9) (j := 0) (N := 39) rfl rfl rfl rw_5.1 (by decide) (v := .int (2 : Int32)) f_11 ?_
          refine g_ifLe act (gx gp_237 (w := 0x2700253d) rfl (by decide) rfl) (tgt := 39) (n := 37) rfl rfl (fun q => absurd q (by decide)) (fun _ => ?_)
          refine g_constI act (gx gp_237 (w := 0x40000000400000001000000002601) rfl (by decide) rfl) (n := 38) (x := (0 : Int32)) (by decide) rfl ?_
          exact g_retI hEnd (gx gp_237 (w := 0x2f) rfl (by decide) rfl) (by
            first
            | exact ⟨rfl, Or.inr (Or.inr (Or.inr (Or.inr (Or.inr (⟨by omega, ⟨_, rfl, by have w9 := (show (0 : Int32).toInt = ((0 : Nat) : Int) from by decide); omega⟩, f_11, fr_12, ⟨⟨rw_5, f_6, f_7⟩, f_8, ⟨_, f_10, hp9⟩, by omega, hNW, hM.frw fr_12.st0.stR ⟨_, f_11, by have w9 := (show (2 : Int32).toInt = ((2 : Nat) : Int) from by decide); omega, by have w9 := (show (2 : Int32).toInt = ((2 : Nat) : Int) from by decide); omega⟩⟩⟩)))))⟩) hk1 hk2
        · simp only [i_eq, i0] at h8
          refine g_constI act (gx gp_237 (w := 0x40000000400000001000000001701) rfl (by decide) rfl) (n := 23) (x := (0 : Int32)) (by decide) rfl ?_
          refine g_goto act (gx gp_237 (w := 0x1b07) rfl (by decide) rfl) (n := 27) rfl ?_
          refine r_putf act (gx gp_237 (w := 0x9001e13) rfl (by decide) rfl) (n := 30) (ci := 9) (j := 0) (N := 39) rfl rfl rfl rw0.1 (by decide) (Or.inl ⟨rfl, _, rfl⟩) ?_
          have rw_14 := RW.wr (k := 124) (j := 0) (v := .int (0 : Int32)) rw0 (Or.inr (by decide))
          have f_15 := hTo.ne (k := 124) (j := 0) (v := .int (0 : Int32)) (by decide)
          have f_16 := hW.ne (k := 124) (j := 0) (v := .int (0 : Int32)) (by decide)
          have f_17 := hPa.ne (k := 124) (j := 0) (v := .int (0 : Int32)) (by decide)
          have f_19 := (rd_ne hs (k := 124) (j := 0) (.int (0 : Int32)) (Or.inr (by decide))).trans e6
          have f_20 := rd_same (j := 0) (v := .int (0 : Int32)) rw0.1
          have fr_21 := hfr1.wr (k := 124) (j := 0) (.int (0 : Int32)) (by unfold WZ0; omega)
          clear hTo hW hPa e0 e6
          generalize (wr hs 124 0 (.int (0 : Int32))) = hs_22 at *
          refine g_loadA act (gx gp_237 (w := 0x1f03) rfl (by decide) rfl) (a := 0) (n := 31) rfl rfl rfl ?_
          refine r_getf act (gx gp_237 (w := 0x9002204) rfl (by decide) rfl) (n := 34) (ci := 9) (j := 0) (N := 39) rfl rfl rfl rw_14.1 (by decide) (v := .int (0 : Int32)) f_20 ?_
          refine g_ifLe act (gx gp_237 (w := 0x2700253d) rfl (by decide) rfl) (tgt := 39) (n := 37) rfl rfl (fun _ => ?_) (fun q => absurd (by decide) q)
          refine g_loadI act (gx gp_237 (w := 0x2002802) rfl (by decide) rfl) (a := 2) (n := 40) rfl rfl rfl ?_
          refine g_ifNe act (gx gp_237 (w := 0x36002b1d) rfl (by decide) rfl) (tgt := 54) (n := 43) rfl rfl (fun h18 => ?_) (fun h18 => ?_)
          · simp only [i_eq, i0] at h18
            refine g_loadI act (gx gp_237 (w := 0x2003702) rfl (by decide) rfl) (a := 2) (n := 55) rfl rfl rfl ?_
            refine g_constI act (gx gp_237 (w := 0x40000000c00000009000000003801) rfl (by decide) rfl) (n := 56) (x := (1 : Int32)) (by decide) rfl ?_
            refine g_icmpNe act (gx gp_237 (w := 0x47003b21) rfl (by decide) rfl) (tgt := 71) (n := 59) rfl rfl (fun h21 => ?_) (fun h21 => ?_)
            · simp only [i_eq, show (1 : Int32).toInt = 1 from by decide] at h21
              refine g_loadI act (gx gp_237 (w := 0x2004802) rfl (by decide) rfl) (a := 2) (n := 72) rfl rfl rfl ?_
              refine g_constI act (gx gp_237 (w := 0x40000001400000011000000004901) rfl (by decide) rfl) (n := 73) (x := (2 : Int32)) (by decide) rfl ?_
              refine g_icmpNe act (gx gp_237 (w := 0x57004c21) rfl (by decide) rfl) (tgt := 87) (n := 76) rfl rfl (fun h24 => ?_) (fun h24 => ?_)
              · simp only [i_eq, show (2 : Int32).toInt = 2 from by decide] at h24
                refine g_loadA act (gx gp_237 (w := 0x5803) rfl (by decide) rfl) (a := 0) (n := 88) rfl rfl rfl ?_
                refine r_getf act (gx gp_237 (w := 0x30000c9005b04) rfl (by decide) rfl) (n := 91) (ci := 9) (j := 3) (N := 39) rfl rfl rfl rw_14.1 (by decide) (rw_14.2 (3, 127, 32, 39) (by decide)).1 ?_
                refine g_constI act (gx gp_237 (w := 0x40000003400000031000000005d01) rfl (by decide) rfl) (n := 93) (x := (6 : Int32)) (by decide) rfl ?_
                refine g_loadI act (gx gp_237 (w := 0x1005e02) rfl (by decide) rfl) (a := 1) (n := 94) rfl rfl rfl ?_
                refine g_iadd act (gx gp_237 (w := 0x5f0a) rfl (by decide) rfl) (n := 95) rfl ?_
                have v_23 := iv_add (show (6 : Int32).toInt = ((6 : Nat) : Int) from by decide) (rfl : Int32.toInt i1 = _) (show -2147483648 ≤ (((6 : Nat) : Int) + (Int32.toInt i1)) by omega) (show (((6 : Nat) : Int) + (Int32.toInt i1)) < 2147483648 by omega)
                obtain ⟨j_24, hj_25⟩ := Int.eq_ofNat_of_zero_le (show (0 : Int) ≤ (((6 : Nat) : Int) + (Int32.toInt i1)) by omega)
                obtain ⟨x_26, e_27, hx_28⟩ := f_16 j_24 (by omega)
                refine r_iald act (gx gp_237 (w := 0x601a) rfl (by decide) rfl) (n := 96) (j := j_24) rfl (rw_14.2 (3, 127, 32, 39) (by decide)).2 (v_23.trans hj_25) (show j_24 < 39 by omega) (v := .int x_26) e_27 ?_
                exact g_retI hEnd (gx gp_237 (w := 0x2f) rfl (by decide) rfl) (by
                  first
                  | (obtain rfl : j_24 = 6 + i1.toInt.toNat := (by omega); exact ⟨rfl, Or.inr (Or.inr (Or.inr (Or.inl ⟨by omega, ⟨_, rfl, hx_28⟩, f_20, fr_21, ⟨⟨rw_14, f_15, f_16⟩, f_17, ⟨_, f_19, hp9⟩, by omega, hNW, hM.frw fr_21.st0.stR ⟨_, f_20, by have w9 := (show (0 : Int32).toInt = ((0 : Nat) : Int) from by decide); omega, by have w9 := (show (0 : Int32).toInt = ((0 : Nat) : Int) from by decide); omega⟩⟩⟩)))⟩)) hk1 hk2
              · simp only [i_eq, show (2 : Int32).toInt = 2 from by decide] at h24
                refine g_loadA act (gx gp_237 (w := 0x4d03) rfl (by decide) rfl) (a := 0) (n := 77) rfl rfl rfl ?_
                refine r_getf act (gx gp_237 (w := 0x30000c9005004) rfl (by decide) rfl) (n := 80) (ci := 9) (j := 3) (N := 39) rfl rfl rfl rw_14.1 (by decide) (rw_14.2 (3, 127, 32, 39) (by decide)).1 ?_
                refine g_constI act (gx gp_237 (w := 0x40000000400000001000000005101) rfl (by decide) rfl) (n := 81) (x := (0 : Int32)) (by decide) rfl ?_
                refine g_loadI act (gx gp_237 (w := 0x1005202) rfl (by decide) rfl) (a := 1) (n := 82) rfl rfl rfl ?_
                refine g_iadd act (gx gp_237 (w := 0x530a) rfl (by decide) rfl) (n := 83) rfl ?_
                have v_29 := iv_add (show (0 : Int32).toInt = ((0 : Nat) : Int) from by decide) (rfl : Int32.toInt i1 = _) (show -2147483648 ≤ (((0 : Nat) : Int) + (Int32.toInt i1)) by omega) (show (((0 : Nat) : Int) + (Int32.toInt i1)) < 2147483648 by omega)
                obtain ⟨j_30, hj_31⟩ := Int.eq_ofNat_of_zero_le (show (0 : Int) ≤ (((0 : Nat) : Int) + (Int32.toInt i1)) by omega)
                obtain ⟨x_32, e_33, hx_34⟩ := f_16 j_30 (by omega)
                refine r_iald act (gx gp_237 (w := 0x541a) rfl (by decide) rfl) (n := 84) (j := j_30) rfl (rw_14.2 (3, 127, 32, 39) (by decide)).2 (v_29.trans hj_31) (show j_30 < 39 by omega) (v := .int x_32) e_33 ?_
                refine g_goto act (gx gp_237 (w := 0x6007) rfl (by decide) rfl) (n := 96) rfl ?_
                exact g_retI hEnd (gx gp_237 (w := 0x2f) rfl (by decide) rfl) (by
                  first
                  | (obtain rfl : j_30 = i1.toInt.toNat := (by omega); exact ⟨rfl, Or.inr (Or.inr (Or.inl ⟨by omega, ⟨_, rfl, hx_34⟩, f_20, fr_21, ⟨⟨rw_14, f_15, f_16⟩, f_17, ⟨_, f_19, hp9⟩, by omega, hNW, hM.frw fr_21.st0.stR ⟨_, f_20, by have w9 := (show (0 : Int32).toInt = ((0 : Nat) : Int) from by decide); omega, by have w9 := (show (0 : Int32).toInt = ((0 : Nat) : Int) from by decide); omega⟩⟩⟩))⟩)) hk1 hk2
            · simp only [i_eq, show (1 : Int32).toInt = 1 from by decide] at h21
              refine g_loadA act (gx gp_237 (w := 0x3c03) rfl (by decide) rfl) (a := 0) (n := 60) rfl rfl rfl ?_
              refine r_getf act (gx gp_237 (w := 0x3000049003f04) rfl (by decide) rfl) (n := 63) (ci := 9) (j := 1) (N := 39) rfl rfl rfl rw_14.1 (by decide) (rw_14.2 (1, 125, 32, 46) (by decide)).1 ?_
              refine g_constI act (gx gp_237 (w := 0x40000005c00000059000000004101) rfl (by decide) rfl) (n := 65) (x := (11 : Int32)) (by decide) rfl ?_
              refine g_loadI act (gx gp_237 (w := 0x1004202) rfl (by decide) rfl) (a := 1) (n := 66) rfl rfl rfl ?_
              refine g_iadd act (gx gp_237 (w := 0x430a) rfl (by decide) rfl) (n := 67) rfl ?_
              have v_35 := iv_add (show (11 : Int32).toInt = ((11 : Nat) : Int) from by decide) (rfl : Int32.toInt i1 = _) (show -2147483648 ≤ (((11 : Nat) : Int) + (Int32.toInt i1)) by omega) (show (((11 : Nat) : Int) + (Int32.toInt i1)) < 2147483648 by omega)
              obtain ⟨j_36, hj_37⟩ := Int.eq_ofNat_of_zero_le (show (0 : Int) ≤ (((11 : Nat) : Int) + (Int32.toInt i1)) by omega)
              obtain ⟨x_38, e_39, hx_40⟩ := f_15 j_36 (by omega)
              refine r_iald act (gx gp_237 (w := 0x441a) rfl (by decide) rfl) (n := 68) (j := j_36) rfl (rw_14.2 (1, 125, 32, 46) (by decide)).2 (v_35.trans hj_37) (show j_36 < 46 by omega) (v := .int x_38) e_39 ?_
              refine g_goto act (gx gp_237 (w := 0x6007) rfl (by decide) rfl) (n := 96) rfl ?_
              exact g_retI hEnd (gx gp_237 (w := 0x2f) rfl (by decide) rfl) (by
                first
                | (obtain rfl : j_36 = 11 + i1.toInt.toNat := (by omega); exact ⟨rfl, Or.inr (Or.inl ⟨by omega, ⟨_, rfl, hx_40⟩, f_20, fr_21, ⟨⟨rw_14, f_15, f_16⟩, f_17, ⟨_, f_19, hp9⟩, by omega, hNW, hM.frw fr_21.st0.stR ⟨_, f_20, by have w9 := (show (0 : Int32).toInt = ((0 : Nat) : Int) from by decide); omega, by have w9 := (show (0 : Int32).toInt = ((0 : Nat) : Int) from by decide); omega⟩⟩⟩)⟩)) hk1 hk2
          · simp only [i_eq, i0] at h18
            refine g_loadA act (gx gp_237 (w := 0x2c03) rfl (by decide) rfl) (a := 0) (n := 44) rfl rfl rfl ?_
            refine r_getf act (gx gp_237 (w := 0x3000049002f04) rfl (by decide) rfl) (n := 47) (ci := 9) (j := 1) (N := 39) rfl rfl rfl rw_14.1 (by decide) (rw_14.2 (1, 125, 32, 46) (by decide)).1 ?_
            refine g_constI act (gx gp_237 (w := 0x40000002c00000029000000003001) rfl (by decide) rfl) (n := 48) (x := (5 : Int32)) (by decide) rfl ?_
            refine g_loadI act (gx gp_237 (w := 0x1003102) rfl (by decide) rfl) (a := 1) (n := 49) rfl rfl rfl ?_
            refine g_iadd act (gx gp_237 (w := 0x320a) rfl (by decide) rfl) (n := 50) rfl ?_
            have v_41 := iv_add (show (5 : Int32).toInt = ((5 : Nat) : Int) from by decide) (rfl : Int32.toInt i1 = _) (show -2147483648 ≤ (((5 : Nat) : Int) + (Int32.toInt i1)) by omega) (show (((5 : Nat) : Int) + (Int32.toInt i1)) < 2147483648 by omega)
            obtain ⟨j_42, hj_43⟩ := Int.eq_ofNat_of_zero_le (show (0 : Int) ≤ (((5 : Nat) : Int) + (Int32.toInt i1)) by omega)
            obtain ⟨x_44, e_45, hx_46⟩ := f_15 j_42 (by omega)
            refine r_iald act (gx gp_237 (w := 0x331a) rfl (by decide) rfl) (n := 51) (j := j_42) rfl (rw_14.2 (1, 125, 32, 46) (by decide)).2 (v_41.trans hj_43) (show j_42 < 46 by omega) (v := .int x_44) e_45 ?_
            refine g_goto act (gx gp_237 (w := 0x6007) rfl (by decide) rfl) (n := 96) rfl ?_
            exact g_retI hEnd (gx gp_237 (w := 0x2f) rfl (by decide) rfl) (by
              first
              | (obtain rfl : j_42 = 5 + i1.toInt.toNat := (by omega); exact ⟨rfl, Or.inl ⟨by omega, ⟨_, rfl, hx_46⟩, f_20, fr_21, ⟨⟨rw_14, f_15, f_16⟩, f_17, ⟨_, f_19, hp9⟩, by omega, hNW, hM.frw fr_21.st0.stR ⟨_, f_20, by have w9 := (show (0 : Int32).toInt = ((0 : Nat) : Int) from by decide); omega, by have w9 := (show (0 : Int32).toInt = ((0 : Nat) : Int) from by decide); omega⟩⟩⟩⟩)) hk1 hk2
      · exact absurd hpo.1 (by omega)
    · simp only [i_eq, i0] at h4
      refine g_constI act (gx gp_237 (w := 0x40000000c00000009000000000a01) rfl (by decide) rfl) (n := 10) (x := (1 : Int32)) (by decide) rfl ?_
      refine g_goto act (gx gp_237 (w := 0x1b07) rfl (by decide) rfl) (n := 27) rfl ?_
      refine r_putf act (gx gp_237 (w := 0x9001e13) rfl (by decide) rfl) (n := 30) (ci := 9) (j := 0) (N := 39) rfl rfl rfl rw0.1 (by decide) (Or.inl ⟨rfl, _, rfl⟩) ?_
      have rw_47 := RW.wr (k := 124) (j := 0) (v := .int (1 : Int32)) rw0 (Or.inr (by decide))
      have f_48 := hTo.ne (k := 124) (j := 0) (v := .int (1 : Int32)) (by decide)
      have f_49 := hW.ne (k := 124) (j := 0) (v := .int (1 : Int32)) (by decide)
      have f_50 := hPa.ne (k := 124) (j := 0) (v := .int (1 : Int32)) (by decide)
      have f_52 := (rd_ne hs (k := 124) (j := 0) (.int (1 : Int32)) (Or.inr (by decide))).trans e6
      have f_53 := rd_same (j := 0) (v := .int (1 : Int32)) rw0.1
      have fr_54 := hfr1.wr (k := 124) (j := 0) (.int (1 : Int32)) (by unfold WZ0; omega)
      clear hTo hW hPa e0 e6
      generalize (wr hs 124 0 (.int (1 : Int32))) = hs_55 at *
      refine g_loadA act (gx gp_237 (w := 0x1f03) rfl (by decide) rfl) (a := 0) (n := 31) rfl rfl rfl ?_
      refine r_getf act (gx gp_237 (w := 0x9002204) rfl (by decide) rfl) (n := 34) (ci := 9) (j := 0) (N := 39) rfl rfl rfl rw_47.1 (by decide) (v := .int (1 : Int32)) f_53 ?_
      refine g_ifLe act (gx gp_237 (w := 0x2700253d) rfl (by decide) rfl) (tgt := 39) (n := 37) rfl rfl (fun q => absurd q (by decide)) (fun _ => ?_)
      refine g_constI act (gx gp_237 (w := 0x40000000400000001000000002601) rfl (by decide) rfl) (n := 38) (x := (0 : Int32)) (by decide) rfl ?_
      exact g_retI hEnd (gx gp_237 (w := 0x2f) rfl (by decide) rfl) (by
        first
        | exact ⟨rfl, Or.inr (Or.inr (Or.inr (Or.inr (Or.inl ⟨by omega, ⟨_, rfl, by have w9 := (show (0 : Int32).toInt = ((0 : Nat) : Int) from by decide); omega⟩, f_53, fr_54, ⟨⟨rw_47, f_48, f_49⟩, f_50, ⟨_, f_52, hp9⟩, by omega, hNW, hM.frw fr_54.st0.stR ⟨_, f_53, by have w9 := (show (1 : Int32).toInt = ((1 : Nat) : Int) from by decide); omega, by have w9 := (show (1 : Int32).toInt = ((1 : Nat) : Int) from by decide); omega⟩⟩⟩))))⟩) hk1 hk2
  · exact absurd hpo.1 (by omega)

theorem bx_generator {tl wl pv : Nat → Int} {nl n ng nr np : Nat} {i1 i2 : Int32} (hX0 : MXS hs tl wl pv nl n ng nr np) : BodyN SSX TBL g0 CLS bl xs l D_213 2 43 0 0 [.ref 124, .int i1, .int i2] hs (fun kd r h2 => kd = 0 ∧ ((((0 ≤ i1.toInt ∧ i1.toInt < (ng : Int)) ∧ i2.toInt = 0) ∧ QEnd hs h2 tl wl pv nl n ng nr np 0 r (tl (17 + i1.toInt.toNat))) ∨ (((0 ≤ i1.toInt ∧ i1.toInt < (ng : Int)) ∧ i2.toInt = 1) ∧ QEnd hs h2 tl wl pv nl n ng nr np 0 r (wl (12 + i1.toInt.toNat))) ∨ (((0 ≤ i1.toInt ∧ i1.toInt < (ng : Int)) ∧ i2.toInt = 2) ∧ QEnd hs h2 tl wl pv nl n ng nr np 0 r (wl (17 + i1.toInt.toNat))) ∨ (¬ (0 ≤ i1.toInt ∧ i1.toInt < (ng : Int)) ∧ QEnd hs h2 tl wl pv nl n ng nr np 1 r (0)) ∨ (((0 ≤ i1.toInt ∧ i1.toInt < (ng : Int)) ∧ ¬ (0 ≤ i2.toInt ∧ i2.toInt ≤ 2)) ∧ QEnd hs h2 tl wl pv nl n ng nr np 2 r (0)))) := by
  intro wp p e R s m args below meth c Q kc0 ks0 kc ks act hf hl hc hsl hEnd
  have hf : 2 ≤ R.frames := hf
  have hl : 43 ≤ R.locals := hl
  have hk1 : kc ≤ kc + 0 := by omega
  have hk2 : ks ≤ ks + 0 := by omega
  obtain ⟨⟨rw0, hTo, hW⟩, hPa, ⟨p9, e6, hp9⟩, hp10, hNW, hM⟩ := hX0
  obtain ⟨⟨x0, e0, hx0⟩, -⟩ := id hM
  have hN9 := hNW.1
  obtain ⟨n0, n1, n2, n3, n4, n5, n6, n7, n8, hG0, nL, nC, nP, nD⟩ := hN9
  have hGn := hG0.1
  have hGn3 := hG0.2.1
  have hGl := hG0.2.2.1
  have hfr1 := FrS.rf WZ0 hs
  show WpN (gp g0 wp) CLS p l e R s m args below meth c Q D_213.2.2.1 kc0 ks0 0 [some (.ref 124), some (.int i1), some (.int i2)] (hs, kc, ks) []
  refine g_loadA act (gx gp_213 (w := 0x103) rfl (by decide) rfl) (a := 0) (n := 1) rfl rfl rfl ?_
  refine g_loadA act (gx gp_213 (w := 0x203) rfl (by decide) rfl) (a := 0) (n := 2) rfl rfl rfl ?_
  refine g_loadI act (gx gp_213 (w := 0x1000302) rfl (by decide) rfl) (a := 1) (n := 3) rfl rfl rfl ?_
  refine n_call tb_pres act hEnd (gx (P := G_call) gp_213 (w := 0xa000000000000c08220000de00060f) rfl (by decide) rfl) (d' := D_222) rfl (as := [.ref 124, .int i1]) (rest := [.ref 124]) (b_isGenerator rw0 hTo (rfl : Int32.toInt i1 = _) (by omega) (by omega)) (show (2 : Nat) = fb 0xa000000000000c08220000de00060f % 16 by decide) (by show (2 : Nat) ≤ 2; decide) (fun _ => ⟨_, _, rfl, _, shp_at rw0.1, Or.inr (show fb 0xa000000000000c08220000de00060f >>> 68 = 10 by decide)⟩) (by omega) (by show 8 + (2 + 11) + 22 ≤ R.locals; omega) (by show (1 : Nat) ≤ 8; decide) (by show kc + 0 ≤ _; omega) (by show ks + 0 ≤ _; omega) (fun r9 h3 hpo hr9 => ?_) (fun x9 hs9 hx9 hpo => ?_)
  · obtain ⟨-, rfl, hin9⟩ := hpo
    obtain ⟨rv_1, rfl, hr_2⟩ := in1_x hin9
    show WpN (gp g0 wp) CLS p l e R s m args below meth c Q D_213.2.2.1 kc0 ks0 6 [some (.ref 124), some (.int i1), some (.int i2)] (hs, kc, ks) [.int rv_1, .ref 124]
    refine g_ifNe act (gx gp_213 (w := 0xd00091d) rfl (by decide) rfl) (tgt := 13) (n := 9) rfl rfl (fun h4 => ?_) (fun h4 => ?_)
    · simp only [i_eq, i0] at h4
      refine g_loadI act (gx gp_213 (w := 0x2000e02) rfl (by decide) rfl) (a := 2) (n := 14) rfl rfl rfl ?_
      refine g_constI act (gx gp_213 (w := 0x40000000400000001000000000f01) rfl (by decide) rfl) (n := 15) (x := (0 : Int32)) (by decide) rfl ?_
      refine g_constI act (gx gp_213 (w := 0x40000001400000011000000001001) rfl (by decide) rfl) (n := 16) (x := (2 : Int32)) (by decide) rfl ?_
      refine n_call tb_pres act hEnd (gx (P := G_call) gp_213 (w := 0x40c330000d900130f) rfl (by decide) rfl) (d' := D_217) rfl (as := [.int i2, .int (0 : Int32), .int (2 : Int32)]) (rest := [.ref 124]) (b_in (rfl : Int32.toInt i2 = _) (show (0 : Int32).toInt = ((0 : Nat) : Int) from by decide) (show (2 : Int32).toInt = ((2 : Nat) : Int) from by decide)) (show (3 : Nat) = fb 0x40c330000d900130f % 16 by decide) (by show (3 : Nat) ≤ 3; decide) (fun q => absurd q (by decide)) (by omega) (by show 8 + (3 + 11) + 0 ≤ R.locals; omega) (by show (1 : Nat) ≤ 8; decide) (by show kc + 0 ≤ _; omega) (by show ks + 0 ≤ _; omega) (fun r9 h3 hpo hr9 => ?_) (fun x9 hs9 hx9 hpo => ?_)
      · obtain ⟨-, rfl, hin9⟩ := hpo
        obtain ⟨rv_3, rfl, hr_4⟩ := in1_x hin9
        show WpN (gp g0 wp) CLS p l e R s m args below meth c Q D_213.2.2.1 kc0 ks0 19 [some (.ref 124), some (.int i1), some (.int i2)] (hs, kc, ks) [.int rv_3, .ref 124]
        refine g_ifEq act (gx gp_213 (w := 0x1a00160e) rfl (by decide) rfl) (tgt := 26) (n := 22) rfl rfl (fun h8 => ?_) (fun h8 => ?_)
        · simp only [i_eq, i0] at h8
          refine g_constI act (gx gp_213 (w := 0x40000001400000011000000001b01) rfl (by decide) rfl) (n := 27) (x := (2 : Int32)) (by decide) rfl ?_
          refine r_putf act (gx gp_213 (w := 0x9001e13) rfl (by decide) rfl) (n := 30) (ci := 9) (j := 0) (N := 39) rfl rfl rfl rw0.1 (by decide) (Or.inl ⟨rfl, _, rfl⟩) ?_
          have rw_5 := RW.wr (k := 124) (j := 0) (v := .int (2 : Int32)) rw0 (Or.inr (by decide))
          have f_6 := hTo.ne (k := 124) (j := 0) (v := .int (2 : Int32)) (by decide)
          have f_7 := hW.ne (k := 124) (j := 0) (v := .int (2 : Int32)) (by decide)
          have f_8 := hPa.ne (k := 124) (j := 0) (v := .int (2 : Int32)) (by decide)
          have f_10 := (rd_ne hs (k := 124) (j := 0) (.int (2 : Int32)) (Or.inr (by decide))).trans e6
          have f_11 := rd_same (j := 0) (v := .int (2 : Int32)) rw0.1
          have fr_12 := hfr1.wr (k := 124) (j := 0) (.int (2 : Int32)) (by unfold WZ0; omega)
          clear hTo hW hPa e0 e6
          generalize (wr hs 124 0 (.int (2 : Int32))) = hs_13 at *
          refine g_loadA act (gx gp_213 (w := 0x1f03) rfl (by decide) rfl) (a := 0) (n := 31) rfl rfl rfl ?_
          refine r_getf act (gx gp_213 (w := 0x9002204) rfl (by decide) rfl) (n := 34) (ci := 9) (j := 0) (N := 39) rfl rfl rfl rw_5.1 (by decide) (v := .int (2 : Int32)) f_11 ?_
          refine g_ifLe act (gx gp_213 (w := 0x2700253d) rfl (by decide) rfl) (tgt := 39) (n := 37) rfl rfl (fun q => absurd q (by decide)) (fun _ => ?_)
          refine g_constI act (gx gp_213 (w := 0x40000000400000001000000002601) rfl (by decide) rfl) (n := 38) (x := (0 : Int32)) (by decide) rfl ?_
          exact g_retI hEnd (gx gp_213 (w := 0x2f) rfl (by decide) rfl) (by
            first
            | exact ⟨rfl, Or.inr (Or.inr (Or.inr (Or.inr (⟨by omega, ⟨_, rfl, by have w9 := (show (0 : Int32).toInt = ((0 : Nat) : Int) from by decide); omega⟩, f_11, fr_12, ⟨⟨rw_5, f_6, f_7⟩, f_8, ⟨_, f_10, hp9⟩, by omega, hNW, hM.frw fr_12.st0.stR ⟨_, f_11, by have w9 := (show (2 : Int32).toInt = ((2 : Nat) : Int) from by decide); omega, by have w9 := (show (2 : Int32).toInt = ((2 : Nat) : Int) from by decide); omega⟩⟩⟩))))⟩) hk1 hk2
        · simp only [i_eq, i0] at h8
          refine g_constI act (gx gp_213 (w := 0x40000000400000001000000001701) rfl (by decide) rfl) (n := 23) (x := (0 : Int32)) (by decide) rfl ?_
          refine g_goto act (gx gp_213 (w := 0x1b07) rfl (by decide) rfl) (n := 27) rfl ?_
          refine r_putf act (gx gp_213 (w := 0x9001e13) rfl (by decide) rfl) (n := 30) (ci := 9) (j := 0) (N := 39) rfl rfl rfl rw0.1 (by decide) (Or.inl ⟨rfl, _, rfl⟩) ?_
          have rw_14 := RW.wr (k := 124) (j := 0) (v := .int (0 : Int32)) rw0 (Or.inr (by decide))
          have f_15 := hTo.ne (k := 124) (j := 0) (v := .int (0 : Int32)) (by decide)
          have f_16 := hW.ne (k := 124) (j := 0) (v := .int (0 : Int32)) (by decide)
          have f_17 := hPa.ne (k := 124) (j := 0) (v := .int (0 : Int32)) (by decide)
          have f_19 := (rd_ne hs (k := 124) (j := 0) (.int (0 : Int32)) (Or.inr (by decide))).trans e6
          have f_20 := rd_same (j := 0) (v := .int (0 : Int32)) rw0.1
          have fr_21 := hfr1.wr (k := 124) (j := 0) (.int (0 : Int32)) (by unfold WZ0; omega)
          clear hTo hW hPa e0 e6
          generalize (wr hs 124 0 (.int (0 : Int32))) = hs_22 at *
          refine g_loadA act (gx gp_213 (w := 0x1f03) rfl (by decide) rfl) (a := 0) (n := 31) rfl rfl rfl ?_
          refine r_getf act (gx gp_213 (w := 0x9002204) rfl (by decide) rfl) (n := 34) (ci := 9) (j := 0) (N := 39) rfl rfl rfl rw_14.1 (by decide) (v := .int (0 : Int32)) f_20 ?_
          refine g_ifLe act (gx gp_213 (w := 0x2700253d) rfl (by decide) rfl) (tgt := 39) (n := 37) rfl rfl (fun _ => ?_) (fun q => absurd (by decide) q)
          refine g_loadI act (gx gp_213 (w := 0x2002802) rfl (by decide) rfl) (a := 2) (n := 40) rfl rfl rfl ?_
          refine g_ifNe act (gx gp_213 (w := 0x37002b1d) rfl (by decide) rfl) (tgt := 55) (n := 43) rfl rfl (fun h18 => ?_) (fun h18 => ?_)
          · simp only [i_eq, i0] at h18
            refine g_loadI act (gx gp_213 (w := 0x2003802) rfl (by decide) rfl) (a := 2) (n := 56) rfl rfl rfl ?_
            refine g_constI act (gx gp_213 (w := 0x40000000c00000009000000003901) rfl (by decide) rfl) (n := 57) (x := (1 : Int32)) (by decide) rfl ?_
            refine g_icmpNe act (gx gp_213 (w := 0x48003c21) rfl (by decide) rfl) (tgt := 72) (n := 60) rfl rfl (fun h21 => ?_) (fun h21 => ?_)
            · simp only [i_eq, show (1 : Int32).toInt = 1 from by decide] at h21
              refine g_loadA act (gx gp_213 (w := 0x4903) rfl (by decide) rfl) (a := 0) (n := 73) rfl rfl rfl ?_
              refine r_getf act (gx gp_213 (w := 0x30000c9004c04) rfl (by decide) rfl) (n := 76) (ci := 9) (j := 3) (N := 39) rfl rfl rfl rw_14.1 (by decide) (rw_14.2 (3, 127, 32, 39) (by decide)).1 ?_
              refine g_constI act (gx gp_213 (w := 0x40000008c00000089000000004e01) rfl (by decide) rfl) (n := 78) (x := (17 : Int32)) (by decide) rfl ?_
              refine g_loadI act (gx gp_213 (w := 0x1004f02) rfl (by decide) rfl) (a := 1) (n := 79) rfl rfl rfl ?_
              refine g_iadd act (gx gp_213 (w := 0x500a) rfl (by decide) rfl) (n := 80) rfl ?_
              have v_23 := iv_add (show (17 : Int32).toInt = ((17 : Nat) : Int) from by decide) (rfl : Int32.toInt i1 = _) (show -2147483648 ≤ (((17 : Nat) : Int) + (Int32.toInt i1)) by omega) (show (((17 : Nat) : Int) + (Int32.toInt i1)) < 2147483648 by omega)
              obtain ⟨j_24, hj_25⟩ := Int.eq_ofNat_of_zero_le (show (0 : Int) ≤ (((17 : Nat) : Int) + (Int32.toInt i1)) by omega)
              obtain ⟨x_26, e_27, hx_28⟩ := f_16 j_24 (by omega)
              refine r_iald act (gx gp_213 (w := 0x511a) rfl (by decide) rfl) (n := 81) (j := j_24) rfl (rw_14.2 (3, 127, 32, 39) (by decide)).2 (v_23.trans hj_25) (show j_24 < 39 by omega) (v := .int x_26) e_27 ?_
              exact g_retI hEnd (gx gp_213 (w := 0x2f) rfl (by decide) rfl) (by
                first
                | (obtain rfl : j_24 = 17 + i1.toInt.toNat := (by omega); exact ⟨rfl, Or.inr (Or.inr (Or.inl ⟨by omega, ⟨_, rfl, hx_28⟩, f_20, fr_21, ⟨⟨rw_14, f_15, f_16⟩, f_17, ⟨_, f_19, hp9⟩, by omega, hNW, hM.frw fr_21.st0.stR ⟨_, f_20, by have w9 := (show (0 : Int32).toInt = ((0 : Nat) : Int) from by decide); omega, by have w9 := (show (0 : Int32).toInt = ((0 : Nat) : Int) from by decide); omega⟩⟩⟩))⟩)) hk1 hk2
            · simp only [i_eq, show (1 : Int32).toInt = 1 from by decide] at h21
              refine g_loadA act (gx gp_213 (w := 0x3d03) rfl (by decide) rfl) (a := 0) (n := 61) rfl rfl rfl ?_
              refine r_getf act (gx gp_213 (w := 0x30000c9004004) rfl (by decide) rfl) (n := 64) (ci := 9) (j := 3) (N := 39) rfl rfl rfl rw_14.1 (by decide) (rw_14.2 (3, 127, 32, 39) (by decide)).1 ?_
              refine g_constI act (gx gp_213 (w := 0x40000006400000061000000004201) rfl (by decide) rfl) (n := 66) (x := (12 : Int32)) (by decide) rfl ?_
              refine g_loadI act (gx gp_213 (w := 0x1004302) rfl (by decide) rfl) (a := 1) (n := 67) rfl rfl rfl ?_
              refine g_iadd act (gx gp_213 (w := 0x440a) rfl (by decide) rfl) (n := 68) rfl ?_
              have v_29 := iv_add (show (12 : Int32).toInt = ((12 : Nat) : Int) from by decide) (rfl : Int32.toInt i1 = _) (show -2147483648 ≤ (((12 : Nat) : Int) + (Int32.toInt i1)) by omega) (show (((12 : Nat) : Int) + (Int32.toInt i1)) < 2147483648 by omega)
              obtain ⟨j_30, hj_31⟩ := Int.eq_ofNat_of_zero_le (show (0 : Int) ≤ (((12 : Nat) : Int) + (Int32.toInt i1)) by omega)
              obtain ⟨x_32, e_33, hx_34⟩ := f_16 j_30 (by omega)
              refine r_iald act (gx gp_213 (w := 0x451a) rfl (by decide) rfl) (n := 69) (j := j_30) rfl (rw_14.2 (3, 127, 32, 39) (by decide)).2 (v_29.trans hj_31) (show j_30 < 39 by omega) (v := .int x_32) e_33 ?_
              refine g_goto act (gx gp_213 (w := 0x5107) rfl (by decide) rfl) (n := 81) rfl ?_
              exact g_retI hEnd (gx gp_213 (w := 0x2f) rfl (by decide) rfl) (by
                first
                | (obtain rfl : j_30 = 12 + i1.toInt.toNat := (by omega); exact ⟨rfl, Or.inr (Or.inl ⟨by omega, ⟨_, rfl, hx_34⟩, f_20, fr_21, ⟨⟨rw_14, f_15, f_16⟩, f_17, ⟨_, f_19, hp9⟩, by omega, hNW, hM.frw fr_21.st0.stR ⟨_, f_20, by have w9 := (show (0 : Int32).toInt = ((0 : Nat) : Int) from by decide); omega, by have w9 := (show (0 : Int32).toInt = ((0 : Nat) : Int) from by decide); omega⟩⟩⟩)⟩)) hk1 hk2
          · simp only [i_eq, i0] at h18
            refine g_loadA act (gx gp_213 (w := 0x2c03) rfl (by decide) rfl) (a := 0) (n := 44) rfl rfl rfl ?_
            refine r_getf act (gx gp_213 (w := 0x3000049002f04) rfl (by decide) rfl) (n := 47) (ci := 9) (j := 1) (N := 39) rfl rfl rfl rw_14.1 (by decide) (rw_14.2 (1, 125, 32, 46) (by decide)).1 ?_
            refine g_constI act (gx gp_213 (w := 0x40000008c00000089000000003101) rfl (by decide) rfl) (n := 49) (x := (17 : Int32)) (by decide) rfl ?_
            refine g_loadI act (gx gp_213 (w := 0x1003202) rfl (by decide) rfl) (a := 1) (n := 50) rfl rfl rfl ?_
            refine g_iadd act (gx gp_213 (w := 0x330a) rfl (by decide) rfl) (n := 51) rfl ?_
            have v_35 := iv_add (show (17 : Int32).toInt = ((17 : Nat) : Int) from by decide) (rfl : Int32.toInt i1 = _) (show -2147483648 ≤ (((17 : Nat) : Int) + (Int32.toInt i1)) by omega) (show (((17 : Nat) : Int) + (Int32.toInt i1)) < 2147483648 by omega)
            obtain ⟨j_36, hj_37⟩ := Int.eq_ofNat_of_zero_le (show (0 : Int) ≤ (((17 : Nat) : Int) + (Int32.toInt i1)) by omega)
            obtain ⟨x_38, e_39, hx_40⟩ := f_15 j_36 (by omega)
            refine r_iald act (gx gp_213 (w := 0x341a) rfl (by decide) rfl) (n := 52) (j := j_36) rfl (rw_14.2 (1, 125, 32, 46) (by decide)).2 (v_35.trans hj_37) (show j_36 < 46 by omega) (v := .int x_38) e_39 ?_
            refine g_goto act (gx gp_213 (w := 0x5107) rfl (by decide) rfl) (n := 81) rfl ?_
            exact g_retI hEnd (gx gp_213 (w := 0x2f) rfl (by decide) rfl) (by
              first
              | (obtain rfl : j_36 = 17 + i1.toInt.toNat := (by omega); exact ⟨rfl, Or.inl ⟨by omega, ⟨_, rfl, hx_40⟩, f_20, fr_21, ⟨⟨rw_14, f_15, f_16⟩, f_17, ⟨_, f_19, hp9⟩, by omega, hNW, hM.frw fr_21.st0.stR ⟨_, f_20, by have w9 := (show (0 : Int32).toInt = ((0 : Nat) : Int) from by decide); omega, by have w9 := (show (0 : Int32).toInt = ((0 : Nat) : Int) from by decide); omega⟩⟩⟩⟩)) hk1 hk2
      · exact absurd hpo.1 (by omega)
    · simp only [i_eq, i0] at h4
      refine g_constI act (gx gp_213 (w := 0x40000000c00000009000000000a01) rfl (by decide) rfl) (n := 10) (x := (1 : Int32)) (by decide) rfl ?_
      refine g_goto act (gx gp_213 (w := 0x1b07) rfl (by decide) rfl) (n := 27) rfl ?_
      refine r_putf act (gx gp_213 (w := 0x9001e13) rfl (by decide) rfl) (n := 30) (ci := 9) (j := 0) (N := 39) rfl rfl rfl rw0.1 (by decide) (Or.inl ⟨rfl, _, rfl⟩) ?_
      have rw_41 := RW.wr (k := 124) (j := 0) (v := .int (1 : Int32)) rw0 (Or.inr (by decide))
      have f_42 := hTo.ne (k := 124) (j := 0) (v := .int (1 : Int32)) (by decide)
      have f_43 := hW.ne (k := 124) (j := 0) (v := .int (1 : Int32)) (by decide)
      have f_44 := hPa.ne (k := 124) (j := 0) (v := .int (1 : Int32)) (by decide)
      have f_46 := (rd_ne hs (k := 124) (j := 0) (.int (1 : Int32)) (Or.inr (by decide))).trans e6
      have f_47 := rd_same (j := 0) (v := .int (1 : Int32)) rw0.1
      have fr_48 := hfr1.wr (k := 124) (j := 0) (.int (1 : Int32)) (by unfold WZ0; omega)
      clear hTo hW hPa e0 e6
      generalize (wr hs 124 0 (.int (1 : Int32))) = hs_49 at *
      refine g_loadA act (gx gp_213 (w := 0x1f03) rfl (by decide) rfl) (a := 0) (n := 31) rfl rfl rfl ?_
      refine r_getf act (gx gp_213 (w := 0x9002204) rfl (by decide) rfl) (n := 34) (ci := 9) (j := 0) (N := 39) rfl rfl rfl rw_41.1 (by decide) (v := .int (1 : Int32)) f_47 ?_
      refine g_ifLe act (gx gp_213 (w := 0x2700253d) rfl (by decide) rfl) (tgt := 39) (n := 37) rfl rfl (fun q => absurd q (by decide)) (fun _ => ?_)
      refine g_constI act (gx gp_213 (w := 0x40000000400000001000000002601) rfl (by decide) rfl) (n := 38) (x := (0 : Int32)) (by decide) rfl ?_
      exact g_retI hEnd (gx gp_213 (w := 0x2f) rfl (by decide) rfl) (by
        first
        | exact ⟨rfl, Or.inr (Or.inr (Or.inr (Or.inl ⟨by omega, ⟨_, rfl, by have w9 := (show (0 : Int32).toInt = ((0 : Nat) : Int) from by decide); omega⟩, f_47, fr_48, ⟨⟨rw_41, f_42, f_43⟩, f_44, ⟨_, f_46, hp9⟩, by omega, hNW, hM.frw fr_48.st0.stR ⟨_, f_47, by have w9 := (show (1 : Int32).toInt = ((1 : Nat) : Int) from by decide); omega, by have w9 := (show (1 : Int32).toInt = ((1 : Nat) : Int) from by decide); omega⟩⟩⟩)))⟩) hk1 hk2
  · exact absurd hpo.1 (by omega)

theorem bx_demand {tl wl pv : Nat → Int} {nl n ng nr np : Nat} {i1 i2 : Int32} (hX0 : MXS hs tl wl pv nl n ng nr np) : BodyN SSX TBL g0 CLS bl xs l D_198 2 43 0 0 [.ref 124, .int i1, .int i2] hs (fun kd r h2 => kd = 0 ∧ ((((0 ≤ i1.toInt ∧ i1.toInt < tl 1) ∧ (0 ≤ i2.toInt ∧ i2.toInt < (n : Int) + 1)) ∧ QEnd hs h2 tl wl pv nl n ng nr np 0 r (wl (22 + 4 * i1.toInt.toNat + i2.toInt.toNat))) ∨ (¬ ((0 ≤ i1.toInt ∧ i1.toInt < tl 1) ∧ (0 ≤ i2.toInt ∧ i2.toInt < (n : Int) + 1)) ∧ QEnd hs h2 tl wl pv nl n ng nr np 1 r (0)))) := by
  intro wp p e R s m args below meth c Q kc0 ks0 kc ks act hf hl hc hsl hEnd
  have hf : 2 ≤ R.frames := hf
  have hl : 43 ≤ R.locals := hl
  have hk1 : kc ≤ kc + 0 := by omega
  have hk2 : ks ≤ ks + 0 := by omega
  obtain ⟨⟨rw0, hTo, hW⟩, hPa, ⟨p9, e6, hp9⟩, hp10, hNW, hM⟩ := hX0
  obtain ⟨⟨x0, e0, hx0⟩, -⟩ := id hM
  have hN9 := hNW.1
  obtain ⟨n0, n1, n2, n3, n4, n5, n6, n7, n8, hG0, nL, nC, nP, nD⟩ := hN9
  have hGn := hG0.1
  have hGn3 := hG0.2.1
  have hGl := hG0.2.2.1
  have hfr1 := FrS.rf WZ0 hs
  show WpN (gp g0 wp) CLS p l e R s m args below meth c Q D_198.2.2.1 kc0 ks0 0 [some (.ref 124), some (.int i1), some (.int i2)] (hs, kc, ks) []
  refine g_loadA act (gx gp_198 (w := 0x103) rfl (by decide) rfl) (a := 0) (n := 1) rfl rfl rfl ?_
  refine g_loadA act (gx gp_198 (w := 0x203) rfl (by decide) rfl) (a := 0) (n := 2) rfl rfl rfl ?_
  refine g_loadI act (gx gp_198 (w := 0x1000302) rfl (by decide) rfl) (a := 1) (n := 3) rfl rfl rfl ?_
  refine n_call tb_pres act hEnd (gx (P := G_call) gp_198 (w := 0xa000000000000c08220000e000060f) rfl (by decide) rfl) (d' := D_224) rfl (as := [.ref 124, .int i1]) (rest := [.ref 124]) (b_isInterval rw0 hTo (rfl : Int32.toInt i1 = _) (by omega) (by omega)) (show (2 : Nat) = fb 0xa000000000000c08220000e000060f % 16 by decide) (by show (2 : Nat) ≤ 2; decide) (fun _ => ⟨_, _, rfl, _, shp_at rw0.1, Or.inr (show fb 0xa000000000000c08220000e000060f >>> 68 = 10 by decide)⟩) (by omega) (by show 8 + (2 + 11) + 22 ≤ R.locals; omega) (by show (1 : Nat) ≤ 8; decide) (by show kc + 0 ≤ _; omega) (by show ks + 0 ≤ _; omega) (fun r9 h3 hpo hr9 => ?_) (fun x9 hs9 hx9 hpo => ?_)
  · obtain ⟨-, rfl, hin9⟩ := hpo
    obtain ⟨rv_1, rfl, hr_2⟩ := in1_x hin9
    show WpN (gp g0 wp) CLS p l e R s m args below meth c Q D_198.2.2.1 kc0 ks0 6 [some (.ref 124), some (.int i1), some (.int i2)] (hs, kc, ks) [.int rv_1, .ref 124]
    refine g_ifEq act (gx gp_198 (w := 0x1500090e) rfl (by decide) rfl) (tgt := 21) (n := 9) rfl rfl (fun h4 => ?_) (fun h4 => ?_)
    · simp only [i_eq, i0] at h4
      refine g_constI act (gx gp_198 (w := 0x40000000c00000009000000001601) rfl (by decide) rfl) (n := 22) (x := (1 : Int32)) (by decide) rfl ?_
      refine r_putf act (gx gp_198 (w := 0x9001913) rfl (by decide) rfl) (n := 25) (ci := 9) (j := 0) (N := 39) rfl rfl rfl rw0.1 (by decide) (Or.inl ⟨rfl, _, rfl⟩) ?_
      have rw_3 := RW.wr (k := 124) (j := 0) (v := .int (1 : Int32)) rw0 (Or.inr (by decide))
      have f_4 := hTo.ne (k := 124) (j := 0) (v := .int (1 : Int32)) (by decide)
      have f_5 := hW.ne (k := 124) (j := 0) (v := .int (1 : Int32)) (by decide)
      have f_6 := hPa.ne (k := 124) (j := 0) (v := .int (1 : Int32)) (by decide)
      have f_8 := (rd_ne hs (k := 124) (j := 0) (.int (1 : Int32)) (Or.inr (by decide))).trans e6
      have f_9 := rd_same (j := 0) (v := .int (1 : Int32)) rw0.1
      have fr_10 := hfr1.wr (k := 124) (j := 0) (.int (1 : Int32)) (by unfold WZ0; omega)
      clear hTo hW hPa e0 e6
      generalize (wr hs 124 0 (.int (1 : Int32))) = hs_11 at *
      refine g_loadA act (gx gp_198 (w := 0x1a03) rfl (by decide) rfl) (a := 0) (n := 26) rfl rfl rfl ?_
      refine r_getf act (gx gp_198 (w := 0x9001d04) rfl (by decide) rfl) (n := 29) (ci := 9) (j := 0) (N := 39) rfl rfl rfl rw_3.1 (by decide) (v := .int (1 : Int32)) f_9 ?_
      refine g_ifLe act (gx gp_198 (w := 0x2400203d) rfl (by decide) rfl) (tgt := 36) (n := 32) rfl rfl (fun q => absurd q (by decide)) (fun _ => ?_)
      refine g_constI act (gx gp_198 (w := 0x40000000400000001000000002101) rfl (by decide) rfl) (n := 33) (x := (0 : Int32)) (by decide) rfl ?_
      refine g_goto act (gx gp_198 (w := 0x2a07) rfl (by decide) rfl) (n := 42) rfl ?_
      exact g_retI hEnd (gx gp_198 (w := 0x2f) rfl (by decide) rfl) (by
        first
        | exact ⟨rfl, Or.inr (⟨by omega, ⟨_, rfl, by have w9 := (show (0 : Int32).toInt = ((0 : Nat) : Int) from by decide); omega⟩, f_9, fr_10, ⟨⟨rw_3, f_4, f_5⟩, f_6, ⟨_, f_8, hp9⟩, by omega, hNW, hM.frw fr_10.st0.stR ⟨_, f_9, by have w9 := (show (1 : Int32).toInt = ((1 : Nat) : Int) from by decide); omega, by have w9 := (show (1 : Int32).toInt = ((1 : Nat) : Int) from by decide); omega⟩⟩⟩)⟩) hk1 hk2
    · simp only [i_eq, i0] at h4
      refine g_loadA act (gx gp_198 (w := 0xa03) rfl (by decide) rfl) (a := 0) (n := 10) rfl rfl rfl ?_
      refine g_loadI act (gx gp_198 (w := 0x2000b02) rfl (by decide) rfl) (a := 2) (n := 11) rfl rfl rfl ?_
      refine n_call tb_pres act hEnd (gx (P := G_call) gp_198 (w := 0xa000000000000c08220000e3000e0f) rfl (by decide) rfl) (d' := D_227) rfl (as := [.ref 124, .int i2]) (rest := [.ref 124]) (b_isNode rw0 hTo (rfl : Int32.toInt i2 = _) (by omega) (by omega)) (show (2 : Nat) = fb 0xa000000000000c08220000e3000e0f % 16 by decide) (by show (2 : Nat) ≤ 2; decide) (fun _ => ⟨_, _, rfl, _, shp_at rw0.1, Or.inr (show fb 0xa000000000000c08220000e3000e0f >>> 68 = 10 by decide)⟩) (by omega) (by show 8 + (2 + 11) + 22 ≤ R.locals; omega) (by show (1 : Nat) ≤ 8; decide) (by show kc + 0 ≤ _; omega) (by show ks + 0 ≤ _; omega) (fun r9 h3 hpo hr9 => ?_) (fun x9 hs9 hx9 hpo => ?_)
      · obtain ⟨-, rfl, hin9⟩ := hpo
        obtain ⟨rv_12, rfl, hr_13⟩ := in1_x hin9
        show WpN (gp g0 wp) CLS p l e R s m args below meth c Q D_198.2.2.1 kc0 ks0 14 [some (.ref 124), some (.int i1), some (.int i2)] (hs, kc, ks) [.int rv_12, .ref 124]
        refine g_ifEq act (gx gp_198 (w := 0x1500110e) rfl (by decide) rfl) (tgt := 21) (n := 17) rfl rfl (fun h12 => ?_) (fun h12 => ?_)
        · simp only [i_eq, i0] at h12
          refine g_constI act (gx gp_198 (w := 0x40000000c00000009000000001601) rfl (by decide) rfl) (n := 22) (x := (1 : Int32)) (by decide) rfl ?_
          refine r_putf act (gx gp_198 (w := 0x9001913) rfl (by decide) rfl) (n := 25) (ci := 9) (j := 0) (N := 39) rfl rfl rfl rw0.1 (by decide) (Or.inl ⟨rfl, _, rfl⟩) ?_
          have rw_14 := RW.wr (k := 124) (j := 0) (v := .int (1 : Int32)) rw0 (Or.inr (by decide))
          have f_15 := hTo.ne (k := 124) (j := 0) (v := .int (1 : Int32)) (by decide)
          have f_16 := hW.ne (k := 124) (j := 0) (v := .int (1 : Int32)) (by decide)
          have f_17 := hPa.ne (k := 124) (j := 0) (v := .int (1 : Int32)) (by decide)
          have f_19 := (rd_ne hs (k := 124) (j := 0) (.int (1 : Int32)) (Or.inr (by decide))).trans e6
          have f_20 := rd_same (j := 0) (v := .int (1 : Int32)) rw0.1
          have fr_21 := hfr1.wr (k := 124) (j := 0) (.int (1 : Int32)) (by unfold WZ0; omega)
          clear hTo hW hPa e0 e6
          generalize (wr hs 124 0 (.int (1 : Int32))) = hs_22 at *
          refine g_loadA act (gx gp_198 (w := 0x1a03) rfl (by decide) rfl) (a := 0) (n := 26) rfl rfl rfl ?_
          refine r_getf act (gx gp_198 (w := 0x9001d04) rfl (by decide) rfl) (n := 29) (ci := 9) (j := 0) (N := 39) rfl rfl rfl rw_14.1 (by decide) (v := .int (1 : Int32)) f_20 ?_
          refine g_ifLe act (gx gp_198 (w := 0x2400203d) rfl (by decide) rfl) (tgt := 36) (n := 32) rfl rfl (fun q => absurd q (by decide)) (fun _ => ?_)
          refine g_constI act (gx gp_198 (w := 0x40000000400000001000000002101) rfl (by decide) rfl) (n := 33) (x := (0 : Int32)) (by decide) rfl ?_
          refine g_goto act (gx gp_198 (w := 0x2a07) rfl (by decide) rfl) (n := 42) rfl ?_
          exact g_retI hEnd (gx gp_198 (w := 0x2f) rfl (by decide) rfl) (by
            first
            | exact ⟨rfl, Or.inr (⟨by omega, ⟨_, rfl, by have w9 := (show (0 : Int32).toInt = ((0 : Nat) : Int) from by decide); omega⟩, f_20, fr_21, ⟨⟨rw_14, f_15, f_16⟩, f_17, ⟨_, f_19, hp9⟩, by omega, hNW, hM.frw fr_21.st0.stR ⟨_, f_20, by have w9 := (show (1 : Int32).toInt = ((1 : Nat) : Int) from by decide); omega, by have w9 := (show (1 : Int32).toInt = ((1 : Nat) : Int) from by decide); omega⟩⟩⟩)⟩) hk1 hk2
        · simp only [i_eq, i0] at h12
          refine g_constI act (gx gp_198 (w := 0x40000000400000001000000001201) rfl (by decide) rfl) (n := 18) (x := (0 : Int32)) (by decide) rfl ?_
          refine g_goto act (gx gp_198 (w := 0x1607) rfl (by decide) rfl) (n := 22) rfl ?_
          refine r_putf act (gx gp_198 (w := 0x9001913) rfl (by decide) rfl) (n := 25) (ci := 9) (j := 0) (N := 39) rfl rfl rfl rw0.1 (by decide) (Or.inl ⟨rfl, _, rfl⟩) ?_
          have rw_23 := RW.wr (k := 124) (j := 0) (v := .int (0 : Int32)) rw0 (Or.inr (by decide))
          have f_24 := hTo.ne (k := 124) (j := 0) (v := .int (0 : Int32)) (by decide)
          have f_25 := hW.ne (k := 124) (j := 0) (v := .int (0 : Int32)) (by decide)
          have f_26 := hPa.ne (k := 124) (j := 0) (v := .int (0 : Int32)) (by decide)
          have f_28 := (rd_ne hs (k := 124) (j := 0) (.int (0 : Int32)) (Or.inr (by decide))).trans e6
          have f_29 := rd_same (j := 0) (v := .int (0 : Int32)) rw0.1
          have fr_30 := hfr1.wr (k := 124) (j := 0) (.int (0 : Int32)) (by unfold WZ0; omega)
          clear hTo hW hPa e0 e6
          generalize (wr hs 124 0 (.int (0 : Int32))) = hs_31 at *
          refine g_loadA act (gx gp_198 (w := 0x1a03) rfl (by decide) rfl) (a := 0) (n := 26) rfl rfl rfl ?_
          refine r_getf act (gx gp_198 (w := 0x9001d04) rfl (by decide) rfl) (n := 29) (ci := 9) (j := 0) (N := 39) rfl rfl rfl rw_23.1 (by decide) (v := .int (0 : Int32)) f_29 ?_
          refine g_ifLe act (gx gp_198 (w := 0x2400203d) rfl (by decide) rfl) (tgt := 36) (n := 32) rfl rfl (fun _ => ?_) (fun q => absurd (by decide) q)
          refine g_loadA act (gx gp_198 (w := 0x2503) rfl (by decide) rfl) (a := 0) (n := 37) rfl rfl rfl ?_
          refine g_loadI act (gx gp_198 (w := 0x1002602) rfl (by decide) rfl) (a := 1) (n := 38) rfl rfl rfl ?_
          refine g_loadI act (gx gp_198 (w := 0x2002702) rfl (by decide) rfl) (a := 2) (n := 39) rfl rfl rfl ?_
          obtain ⟨j_34, hj_35⟩ := Int.eq_ofNat_of_zero_le (show (0 : Int) ≤ (Int32.toInt i1) by omega)
          obtain ⟨j_36, hj_37⟩ := Int.eq_ofNat_of_zero_le (show (0 : Int) ≤ (Int32.toInt i2) by omega)
          refine n_call tb_pres act hEnd (gx (P := G_call) gp_198 (w := 0xa000000000000c0c330000c8002a0f) rfl (by decide) rfl) (d' := D_200) rfl (as := [.ref 124, .int i1, .int i2]) (rest := []) (b_demandOf rw_23 f_25 ((rfl : Int32.toInt i1 = _).trans hj_35) ((rfl : Int32.toInt i2 = _).trans hj_37) (by omega) (by omega)) (show (3 : Nat) = fb 0xa000000000000c0c330000c8002a0f % 16 by decide) (by show (3 : Nat) ≤ 3; decide) (fun _ => ⟨_, _, rfl, _, shp_at rw_23.1, Or.inr (show fb 0xa000000000000c0c330000c8002a0f >>> 68 = 10 by decide)⟩) (by omega) (by show 8 + (3 + 11) + 0 ≤ R.locals; omega) (by show (0 : Nat) ≤ 8; decide) (by show kc + 0 ≤ _; omega) (by show ks + 0 ≤ _; omega) (fun r9 h3 hpo hr9 => ?_) (fun x9 hs9 hx9 hpo => ?_)
          · obtain ⟨-, rfl, rv_32, rfl, hv_33⟩ := hpo
            obtain rfl : j_34 = i1.toInt.toNat := by omega
            obtain rfl : j_36 = i2.toInt.toNat := by omega
            have hv_33b : Int32.toInt rv_32 = wl (22 + 4 * i1.toInt.toNat + i2.toInt.toNat) := hv_33
            show WpN (gp g0 wp) CLS p l e R s m args below meth c Q D_198.2.2.1 kc0 ks0 42 [some (.ref 124), some (.int i1), some (.int i2)] (hs_31, kc, ks) [.int rv_32]
            exact g_retI hEnd (gx gp_198 (w := 0x2f) rfl (by decide) rfl) (by
              first
              | exact ⟨rfl, Or.inl ⟨by omega, ⟨_, rfl, hv_33b⟩, f_29, fr_30, ⟨⟨rw_23, f_24, f_25⟩, f_26, ⟨_, f_28, hp9⟩, by omega, hNW, hM.frw fr_30.st0.stR ⟨_, f_29, by have w9 := (show (0 : Int32).toInt = ((0 : Nat) : Int) from by decide); omega, by have w9 := (show (0 : Int32).toInt = ((0 : Nat) : Int) from by decide); omega⟩⟩⟩⟩) hk1 hk2
          · exact absurd hpo.1 (by omega)
      · exact absurd hpo.1 (by omega)
  · exact absurd hpo.1 (by omega)

end PUBQ

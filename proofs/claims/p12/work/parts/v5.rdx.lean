/-! The reference reads lines, generators, demands, rights, exactly. -/
section PARX3
variable {g0 : GG} {bl : Nat} {xs : Nat → Int32} {l : Launch} {hs : List CE} {tx : Nat → Int} {L A b ec ep na : Int}
variable {fv gv : Nat → Int} {nl ng nr : Nat}

theorem bx_readLines (hP : PSX hs tx L A b ec ep na) (hF : IArr hs 126 46 fv) (hG : IArr hs 128 39 gv) (hI0 : FVI fv gv b nl ng nr) : BodyN SSX TBL g0 CLS bl xs l D_260 4 91 0 0 [.ref 124] hs (fun kd r h2 => kd = 0 ∧ r = none ∧ ∃ (A2 b2 ec2 ep2 na2 : Int) (fv2 gv2 : Nat → Int) (nl2 ng2 nr2 : Nat), PSX h2 tx L A2 b2 ec2 ep2 na2 ∧ FrS WRd hs h2 ∧ IArr h2 126 46 fv2 ∧ IArr h2 128 39 gv2 ∧ FVI fv2 gv2 b2 nl2 ng2 nr2 ∧ b ≤ b2 ∧ (∀ j, (j = 0 ∨ j = 1 ∨ j = 3 ∨ j = 4 ∨ 17 ≤ j) → fv2 j = fv j) ∧ LEx tx L b ec ep (sLines tx L (6 + 1 - nl) (skp tx L A) nl (fv, gv)) A2 b2 ec2 ep2 ((fv2, gv2), nl2)) := by
  intro wp p e R s m args below meth c Q kc0 ks0 kc ks act hf hl hc hsl hEnd
  have hf : 4 ≤ R.frames := hf
  have hl : 91 ≤ R.locals := hl
  have hk1 : kc ≤ kc + 0 := by omega
  have hk2 : ks ≤ ks + 0 := by omega
  have hb01 : b = 0 ∨ b = 1 := by
    have hP0 := hP
    obtain ⟨-, -, -, -, -, -, -, -, -, -, -, -, g1, g2⟩ := hP0
    omega
  have loop : ∀ (hj : List CE) (Aj : Int) (bj : Int) (ecj : Int) (epj : Int) (naj : Int) (fj : Nat → Int) (gj : Nat → Int) (nlj : Nat) (ngj : Nat) (nrj : Nat), PSX hj tx L Aj bj ecj epj naj → FrS WRd hs hj → IArr hj 126 46 fj → IArr hj 128 39 gj → FVI fj gj bj nlj ngj nrj → b ≤ bj → (∀ j, (j = 0 ∨ j = 1 ∨ j = 3 ∨ j = 4 ∨ 17 ≤ j) → fj j = fv j) → LVx b ec ep (sLines tx L (6 + 1 - nl) (skp tx L A) nl (fv, gv)) (sLines tx L (6 + 1 - nlj) (skp tx L Aj) nlj (fj, gj)) bj ecj epj → WpN (gp g0 wp) CLS p l e R s m args below meth c Q D_260.2.2.1 kc0 ks0 0 [some (.ref 124), none] (hj, kc, ks) [] := by
    intro hj Aj bj ecj epj naj fj gj nlj ngj nrj hPj hfr hFj hGj hI w1 w2 hLV
    generalize hm : 6 - nlj = m9
    induction m9 using Nat.strongRecOn generalizing hj Aj bj ecj epj naj fj gj nlj ngj nrj with
    | _ m9 ih =>
    subst hm
    obtain ⟨rw_1, hT_1, ⟨L9_1, e10_1, hL_1⟩, ⟨A9_1, e11_1, hA_1⟩, ⟨b9_1, e14_1, hb_1⟩, ⟨c9_1, e12_1, hc_1⟩, ⟨d9_1, e13_1, hd_1⟩, ⟨f9_1, e15_1, hn_1⟩, q1_1, q2_1, q3_1, q4_1, q5_1, q6_1⟩ := hPj
    have hI9 := hI
    obtain ⟨a0, a1, a2, a3, a4, a5, a6, a7, a8, a9, a10, a11, a12, a13, a14⟩ := hI9
    have hbj1 : bj = 0 ∨ bj = 1 := by omega
    refine g_loadA act (gx gp_260 (w := 0x103) rfl (by decide) rfl) (a := 0) (n := 1) rfl rfl rfl ?_
    refine g_constL act (gx gp_260 (w := 0x400000000001dae22000000000401) rfl (by decide) rfl) (n := 4) (x := (243140 : Int64)) (by decide) rfl ?_
    refine g_constI act (gx gp_260 (w := 0x40000001400000011000000000501) rfl (by decide) rfl) (n := 5) (x := (2 : Int32)) (by decide) rfl ?_
    refine g_constI act (gx gp_260 (w := 0x40000003400000031000000000701) rfl (by decide) rfl) (n := 7) (x := (6 : Int32)) (by decide) rfl ?_
    refine n_call tb_pres act hEnd (gx (P := G_call) gp_260 (w := 0xa000000000000c14540000b0000a0f) rfl (by decide) rfl) (d' := D_176) rfl (as := [.ref 124, .long (243140 : Int64), .int (2 : Int32), .int (6 : Int32)]) (rest := []) (bx_adds (n9 := (243140 : Int64)) (show PSX hj tx L Aj bj ecj epj naj from ⟨rw_1, hT_1, ⟨_, e10_1, hL_1⟩, ⟨_, e11_1, hA_1⟩, ⟨_, e14_1, hb_1⟩, ⟨_, e12_1, hc_1⟩, ⟨_, e13_1, hd_1⟩, ⟨_, e15_1, hn_1⟩, by omega, by omega, by omega, by omega, by omega, by omega⟩) (show (243140 : Int64).toInt = wLINE from by decide) (by decide) hFj (show (2 : Int32).toInt = ((2 : Nat) : Int) from by decide) (by decide) (show (6 : Int32).toInt = ((6 : Nat) : Int) from by decide)) (show (4 : Nat) = fb 0xa000000000000c14540000b0000a0f % 16 by decide) (by show (5 : Nat) ≤ 5; decide) (fun _ => ⟨_, _, rfl, _, shp_at rw_1.1, Or.inr (show fb 0xa000000000000c14540000b0000a0f >>> 68 = 10 by decide)⟩) (by omega) (by show 8 + (5 + 11) + 67 ≤ R.locals; omega) (by show (0 : Nat) ≤ 8; decide) (by show kc + 0 ≤ _; omega) (by show ks + 0 ≤ _; omega) (fun r9 hs_c2 hpo hr9 => ?_) (fun x9 hs9 hx9 hpo => ?_)
    · obtain ⟨-, A_c2, b_c2, ec_c2, ep_c2, rv_c2, rfl, hP_c2, fr_c2, q7_c2, q8_c2, q9_c2, q10_c2, qt_c2⟩ := hpo
      try replace q8_c2 := q8_c2 (by omega)
      have rw_3 := rw_1.fr fr_c2 WP_rw
      have f_4 := hT_1.fr (fun j9 _ => fr_c2.2.2 130 j9 (by unfold WP; omega))
      have f_5 := rd_fr fr_c2 e10_1 (by unfold WP; omega)
      have f_6 := hFj.fr (fun j9 _ => fr_c2.2.2 126 j9 (by unfold WP; omega))
      have f_7 := hGj.fr (fun j9 _ => fr_c2.2.2 128 j9 (by unfold WP; omega))
      have fr_8 := hfr.tr (fr_c2.mono (fun k9 j9 h9 => by unfold WP at h9; unfold WRd; omega))
      obtain ⟨-, -, -, ⟨A9_c2, e11_c2, hA_c2⟩, ⟨b9_c2, e14_c2, hb_c2⟩, ⟨c9_c2, e12_c2, hc_c2⟩, ⟨d9_c2, e13_c2, hd_c2⟩, ⟨f9_c2, e15_c2, hn_c2⟩, -, -, q3_c2, q4_c2, q5_c2, q6_c2⟩ := hP_c2
      clear rw_1 hT_1 e10_1 e11_1 e14_1 e12_1 e13_1 e15_1 hfr
      show WpN (gp g0 wp) CLS p l e R s m args below meth c Q D_260.2.2.1 kc0 ks0 10 [some (.ref 124), none] (hs_c2, kc, ks) [.int rv_c2]
      refine g_ifEq act (gx gp_260 (w := 0x83000d0e) rfl (by decide) rfl) (tgt := 131) (n := 13) rfl rfl (fun h5 => ?_) (fun h5 => ?_)
      · simp only [i_eq, i0] at h5
        have hI2 := hI.bad (b2 := b_c2) (by omega)
        exact g_retV hEnd (gx gp_260 (w := 0x18) rfl (by decide) rfl) ⟨rfl, rfl, A_c2, b_c2, ec_c2, ep_c2, naj, _, _, _, _, _, (show PSX hs_c2 tx L A_c2 b_c2 ec_c2 ep_c2 naj from ⟨rw_3, f_4, ⟨_, f_5, hL_1⟩, ⟨_, e11_c2, hA_c2⟩, ⟨_, e14_c2, hb_c2⟩, ⟨_, e12_c2, hc_c2⟩, ⟨_, e13_c2, hd_c2⟩, ⟨_, e15_c2, hn_c2⟩, by omega, by omega, by omega, by omega, by omega, by omega⟩), fr_8, f_6, f_7, hI2, by omega, (fun j hj9 => by have q := w2 j hj9; omega), lns_end hb01 hbj1 (by omega) hLV a2 (by omega) qt_c2⟩ hk1 hk2
      · simp only [i_eq, i0] at h5
        refine g_loadA act (gx gp_260 (w := 0xe03) rfl (by decide) rfl) (a := 0) (n := 14) rfl rfl rfl ?_
        refine r_getf act (gx gp_260 (w := 0x3000089001104) rfl (by decide) rfl) (n := 17) (ci := 9) (j := 2) (N := 39) rfl rfl rfl rw_3.1 (by decide) (rw_3.2 (2, 126, 32, 46) (by decide)).1 ?_
        refine g_constI act (gx gp_260 (w := 0x40000001400000011000000001201) rfl (by decide) rfl) (n := 18) (x := (2 : Int32)) (by decide) rfl ?_
        obtain ⟨x_9, e_10, hx_11⟩ := f_6 2 (by omega)
        refine r_iald act (gx gp_260 (w := 0x131a) rfl (by decide) rfl) (n := 19) (j := 2) rfl (rw_3.2 (2, 126, 32, 46) (by decide)).2 (show (2 : Int32).toInt = ((2 : Nat) : Int) from by decide) (show 2 < 46 by omega) (v := .int x_9) e_10 ?_
        refine g_storeI act (gx gp_260 (w := 0x1001410) rfl (by decide) rfl) (a := 1) (n := 20) rfl rfl (L2 := [some (.ref 124), some (.int x_9)]) rfl ?_
        refine g_loadA act (gx gp_260 (w := 0x1503) rfl (by decide) rfl) (a := 0) (n := 21) rfl rfl rfl ?_
        refine r_getf act (gx gp_260 (w := 0x3000089001804) rfl (by decide) rfl) (n := 24) (ci := 9) (j := 2) (N := 39) rfl rfl rfl rw_3.1 (by decide) (rw_3.2 (2, 126, 32, 46) (by decide)).1 ?_
        refine g_constI act (gx gp_260 (w := 0x40000002c00000029000000001901) rfl (by decide) rfl) (n := 25) (x := (5 : Int32)) (by decide) rfl ?_
        refine g_loadI act (gx gp_260 (w := 0x1001a02) rfl (by decide) rfl) (a := 1) (n := 26) rfl rfl rfl ?_
        refine g_iadd act (gx gp_260 (w := 0x1b0a) rfl (by decide) rfl) (n := 27) rfl ?_
        have v_12 := iv_addN (show (5 : Int32).toInt = ((5 : Nat) : Int) from by decide) (hx_11.trans a2) (show (5 + nlj) < 2147483648 by omega)
        refine g_loadA act (gx gp_260 (w := 0x1c03) rfl (by decide) rfl) (a := 0) (n := 28) rfl rfl rfl ?_
        refine n_call tb_pres act hEnd (gx (P := G_call) gp_260 (w := 0xa000000000000c04110000f3001f0f) rfl (by decide) rfl) (d' := D_243) rfl (as := [.ref 124]) (rest := [.int ((5 : Int32) + x_9), .ref 126]) (bx_node (show PSX hs_c2 tx L A_c2 b_c2 ec_c2 ep_c2 naj from ⟨rw_3, f_4, ⟨_, f_5, hL_1⟩, ⟨_, e11_c2, hA_c2⟩, ⟨_, e14_c2, hb_c2⟩, ⟨_, e12_c2, hc_c2⟩, ⟨_, e13_c2, hd_c2⟩, ⟨_, e15_c2, hn_c2⟩, by omega, by omega, by omega, by omega, by omega, by omega⟩) f_6 (by omega) (by omega)) (show (1 : Nat) = fb 0xa000000000000c04110000f3001f0f % 16 by decide) (by show (1 : Nat) ≤ 1; decide) (fun _ => ⟨_, _, rfl, _, shp_at rw_3.1, Or.inr (show fb 0xa000000000000c04110000f3001f0f >>> 68 = 10 by decide)⟩) (by omega) (by show 8 + (1 + 11) + 47 ≤ R.locals; omega) (by show (2 : Nat) ≤ 8; decide) (by show kc + 0 ≤ _; omega) (by show ks + 0 ≤ _; omega) (fun r9 hs_c13 hpo hr9 => ?_) (fun x9 hs9 hx9 hpo => ?_)
        · obtain ⟨-, A_c13, b_c13, ec_c13, ep_c13, na_c13, rv_c13, rfl, hP_c13, fr_c13, q7_c13, q8_c13, q9_c13, q10_c13, q11_c13, qr_c13⟩ := hpo
          try replace q8_c13 := q8_c13 (by omega)
          have rw_14 := rw_3.fr fr_c13 WP_rw
          have f_15 := f_4.fr (fun j9 _ => fr_c13.2.2 130 j9 (by unfold WP; omega))
          have f_16 := rd_fr fr_c13 f_5 (by unfold WP; omega)
          have f_17 := f_6.fr (fun j9 _ => fr_c13.2.2 126 j9 (by unfold WP; omega))
          have f_18 := f_7.fr (fun j9 _ => fr_c13.2.2 128 j9 (by unfold WP; omega))
          have fr_19 := fr_8.tr (fr_c13.mono (fun k9 j9 h9 => by unfold WP at h9; unfold WRd; omega))
          obtain ⟨-, -, -, ⟨A9_c13, e11_c13, hA_c13⟩, ⟨b9_c13, e14_c13, hb_c13⟩, ⟨c9_c13, e12_c13, hc_c13⟩, ⟨d9_c13, e13_c13, hd_c13⟩, ⟨f9_c13, e15_c13, hn_c13⟩, -, -, q3_c13, q4_c13, q5_c13, q6_c13⟩ := hP_c13
          clear rw_3 f_4 f_5 f_6 f_7 e11_c2 e14_c2 e12_c2 e13_c2 e15_c2 fr_8
          show WpN (gp g0 wp) CLS p l e R s m args below meth c Q D_260.2.2.1 kc0 ks0 31 [some (.ref 124), some (.int x_9)] (hs_c13, kc, ks) [.int rv_c13, .int ((5 : Int32) + x_9), .ref 126]
          refine r_iast act (gx gp_260 (w := 0x2024) rfl (by decide) rfl) (n := 32) (j := (5 + nlj)) rfl (rw_14.2 (2, 126, 32, 46) (by decide)).2 v_12 (show (5 + nlj) < 46 by omega) ?_
          have rw_20 := RW.wr (k := 126) (j := (5 + nlj)) (v := .int rv_c13) rw_14 (Or.inl (by decide))
          have f_21 := f_15.ne (k := 126) (j := (5 + nlj)) (v := .int rv_c13) (by decide)
          have f_22 := (rd_ne hs_c13 (k := 126) (j := (5 + nlj)) (.int rv_c13) (Or.inl (by decide))).trans f_16
          have f_23 := f_17.put (j := (5 + nlj)) (rw_14.2 (2, 126, 32, 46) (by decide)).2 (rfl : Int32.toInt rv_c13 = _)
          have f_24 := f_18.ne (k := 126) (j := (5 + nlj)) (v := .int rv_c13) (by decide)
          have f_25 := (rd_ne hs_c13 (k := 126) (j := (5 + nlj)) (.int rv_c13) (Or.inl (by decide))).trans e11_c13
          have f_26 := (rd_ne hs_c13 (k := 126) (j := (5 + nlj)) (.int rv_c13) (Or.inl (by decide))).trans e14_c13
          have f_27 := (rd_ne hs_c13 (k := 126) (j := (5 + nlj)) (.int rv_c13) (Or.inl (by decide))).trans e12_c13
          have f_28 := (rd_ne hs_c13 (k := 126) (j := (5 + nlj)) (.int rv_c13) (Or.inl (by decide))).trans e13_c13
          have f_29 := (rd_ne hs_c13 (k := 126) (j := (5 + nlj)) (.int rv_c13) (Or.inl (by decide))).trans e15_c13
          have fr_30 := fr_19.wr (k := 126) (j := (5 + nlj)) (.int rv_c13) (by unfold WRd; omega)
          clear rw_14 fr_19 f_15 f_16 f_17 f_18 e11_c13 e14_c13 e12_c13 e13_c13 e15_c13
          generalize (wr hs_c13 126 (5 + nlj) (.int rv_c13)) = hs_31 at *
          refine g_loadA act (gx gp_260 (w := 0x2103) rfl (by decide) rfl) (a := 0) (n := 33) rfl rfl rfl ?_
          refine r_getf act (gx gp_260 (w := 0x3000089002404) rfl (by decide) rfl) (n := 36) (ci := 9) (j := 2) (N := 39) rfl rfl rfl rw_20.1 (by decide) (rw_20.2 (2, 126, 32, 46) (by decide)).1 ?_
          refine g_constI act (gx gp_260 (w := 0x40000005c00000059000000002601) rfl (by decide) rfl) (n := 38) (x := (11 : Int32)) (by decide) rfl ?_
          refine g_loadI act (gx gp_260 (w := 0x1002702) rfl (by decide) rfl) (a := 1) (n := 39) rfl rfl rfl ?_
          refine g_iadd act (gx gp_260 (w := 0x280a) rfl (by decide) rfl) (n := 40) rfl ?_
          have v_32 := iv_addN (show (11 : Int32).toInt = ((11 : Nat) : Int) from by decide) (hx_11.trans a2) (show (11 + nlj) < 2147483648 by omega)
          refine g_loadA act (gx gp_260 (w := 0x2903) rfl (by decide) rfl) (a := 0) (n := 41) rfl rfl rfl ?_
          refine g_loadA act (gx gp_260 (w := 0x2a03) rfl (by decide) rfl) (a := 0) (n := 42) rfl rfl rfl ?_
          refine r_getf act (gx gp_260 (w := 0x3000089002d04) rfl (by decide) rfl) (n := 45) (ci := 9) (j := 2) (N := 39) rfl rfl rfl rw_20.1 (by decide) (rw_20.2 (2, 126, 32, 46) (by decide)).1 ?_
          refine g_constI act (gx gp_260 (w := 0x40000002c00000029000000002e01) rfl (by decide) rfl) (n := 46) (x := (5 : Int32)) (by decide) rfl ?_
          refine g_loadI act (gx gp_260 (w := 0x1002f02) rfl (by decide) rfl) (a := 1) (n := 47) rfl rfl rfl ?_
          refine g_iadd act (gx gp_260 (w := 0x300a) rfl (by decide) rfl) (n := 48) rfl ?_
          have v_33 := iv_addN (show (5 : Int32).toInt = ((5 : Nat) : Int) from by decide) (hx_11.trans a2) (show (5 + nlj) < 2147483648 by omega)
          obtain ⟨x_34, e_35, hx_36⟩ := f_23 (5 + nlj) (by omega)
          refine r_iald act (gx gp_260 (w := 0x311a) rfl (by decide) rfl) (n := 49) (j := (5 + nlj)) rfl (rw_20.2 (2, 126, 32, 46) (by decide)).2 v_33 (show (5 + nlj) < 46 by omega) (v := .int x_34) e_35 ?_
          refine n_call tb_pres act hEnd (gx (P := G_call) gp_260 (w := 0xa000000000000c0c220000f500340f) rfl (by decide) rfl) (d' := D_245) rfl (as := [.ref 124, .int x_34]) (rest := [.int ((11 : Int32) + x_9), .ref 126]) (bx_other (show PSX hs_31 tx L A_c13 b_c13 ec_c13 ep_c13 na_c13 from ⟨rw_20, f_21, ⟨_, f_22, hL_1⟩, ⟨_, f_25, hA_c13⟩, ⟨_, f_26, hb_c13⟩, ⟨_, f_27, hc_c13⟩, ⟨_, f_28, hd_c13⟩, ⟨_, f_29, hn_c13⟩, by omega, by omega, by omega, by omega, by omega, by omega⟩) f_23 (hx_36.trans (show ((upI fj (5 + nlj) (Int32.toInt rv_c13)) (5 + nlj)) = (Int32.toInt rv_c13) from by simp only [upI, ↓reduceIte]; all_goals omega)) (by simp only [upI, ↓reduceIte]; all_goals omega) (by simp only [upI, ↓reduceIte]; all_goals omega)) (show (2 : Nat) = fb 0xa000000000000c0c220000f500340f % 16 by decide) (by show (2 : Nat) ≤ 3; decide) (fun _ => ⟨_, _, rfl, _, shp_at rw_20.1, Or.inr (show fb 0xa000000000000c0c220000f500340f >>> 68 = 10 by decide)⟩) (by omega) (by show 8 + (3 + 11) + 67 ≤ R.locals; omega) (by show (2 : Nat) ≤ 8; decide) (by show kc + 0 ≤ _; omega) (by show ks + 0 ≤ _; omega) (fun r9 hs_c37 hpo hr9 => ?_) (fun x9 hs9 hx9 hpo => ?_)
          · obtain ⟨-, A_c37, b_c37, ec_c37, ep_c37, na_c37, rv_c37, rfl, hP_c37, fr_c37, q7_c37, q8_c37, q9_c37, q10_c37, q11_c37, qr_c37⟩ := hpo
            try replace q8_c37 := q8_c37 (by omega)
            have q12_c37 : NE9 b_c37 (Int32.toInt rv_c37) (Int32.toInt rv_c13) := oth_ne (by omega) (by omega) qr_c37
            have q13_c37 : ((upI fj (5 + nlj) (Int32.toInt rv_c13))) 0 = fj 0 := by
              simp only [upI]
              first | rfl | (repeat rw [if_neg (by omega)])
            rw [q13_c37] at q11_c37 qr_c37
            have rw_38 := rw_20.fr fr_c37 WP_rw
            have f_39 := f_21.fr (fun j9 _ => fr_c37.2.2 130 j9 (by unfold WP; omega))
            have f_40 := rd_fr fr_c37 f_22 (by unfold WP; omega)
            have f_41 := f_23.fr (fun j9 _ => fr_c37.2.2 126 j9 (by unfold WP; omega))
            have f_42 := f_24.fr (fun j9 _ => fr_c37.2.2 128 j9 (by unfold WP; omega))
            have fr_43 := fr_30.tr (fr_c37.mono (fun k9 j9 h9 => by unfold WP at h9; unfold WRd; omega))
            obtain ⟨-, -, -, ⟨A9_c37, e11_c37, hA_c37⟩, ⟨b9_c37, e14_c37, hb_c37⟩, ⟨c9_c37, e12_c37, hc_c37⟩, ⟨d9_c37, e13_c37, hd_c37⟩, ⟨f9_c37, e15_c37, hn_c37⟩, -, -, q3_c37, q4_c37, q5_c37, q6_c37⟩ := hP_c37
            clear rw_20 f_21 f_22 f_23 f_24 f_25 f_26 f_27 f_28 f_29 fr_30
            show WpN (gp g0 wp) CLS p l e R s m args below meth c Q D_260.2.2.1 kc0 ks0 52 [some (.ref 124), some (.int x_9)] (hs_c37, kc, ks) [.int rv_c37, .int ((11 : Int32) + x_9), .ref 126]
            refine r_iast act (gx gp_260 (w := 0x3524) rfl (by decide) rfl) (n := 53) (j := (11 + nlj)) rfl (rw_38.2 (2, 126, 32, 46) (by decide)).2 v_32 (show (11 + nlj) < 46 by omega) ?_
            have rw_44 := RW.wr (k := 126) (j := (11 + nlj)) (v := .int rv_c37) rw_38 (Or.inl (by decide))
            have f_45 := f_39.ne (k := 126) (j := (11 + nlj)) (v := .int rv_c37) (by decide)
            have f_46 := (rd_ne hs_c37 (k := 126) (j := (11 + nlj)) (.int rv_c37) (Or.inl (by decide))).trans f_40
            have f_47 := f_41.put (j := (11 + nlj)) (rw_38.2 (2, 126, 32, 46) (by decide)).2 (rfl : Int32.toInt rv_c37 = _)
            have f_48 := f_42.ne (k := 126) (j := (11 + nlj)) (v := .int rv_c37) (by decide)
            have f_49 := (rd_ne hs_c37 (k := 126) (j := (11 + nlj)) (.int rv_c37) (Or.inl (by decide))).trans e11_c37
            have f_50 := (rd_ne hs_c37 (k := 126) (j := (11 + nlj)) (.int rv_c37) (Or.inl (by decide))).trans e14_c37
            have f_51 := (rd_ne hs_c37 (k := 126) (j := (11 + nlj)) (.int rv_c37) (Or.inl (by decide))).trans e12_c37
            have f_52 := (rd_ne hs_c37 (k := 126) (j := (11 + nlj)) (.int rv_c37) (Or.inl (by decide))).trans e13_c37
            have f_53 := (rd_ne hs_c37 (k := 126) (j := (11 + nlj)) (.int rv_c37) (Or.inl (by decide))).trans e15_c37
            have fr_54 := fr_43.wr (k := 126) (j := (11 + nlj)) (.int rv_c37) (by unfold WRd; omega)
            clear rw_38 fr_43 f_39 f_40 f_41 f_42 e11_c37 e14_c37 e12_c37 e13_c37 e15_c37
            generalize (wr hs_c37 126 (11 + nlj) (.int rv_c37)) = hs_55 at *
            refine g_loadA act (gx gp_260 (w := 0x3603) rfl (by decide) rfl) (a := 0) (n := 54) rfl rfl rfl ?_
            refine r_getf act (gx gp_260 (w := 0x3000109003904) rfl (by decide) rfl) (n := 57) (ci := 9) (j := 4) (N := 39) rfl rfl rfl rw_44.1 (by decide) (rw_44.2 (4, 128, 32, 39) (by decide)).1 ?_
            refine g_constI act (gx gp_260 (w := 0x40000000400000001000000003a01) rfl (by decide) rfl) (n := 58) (x := (0 : Int32)) (by decide) rfl ?_
            refine g_loadI act (gx gp_260 (w := 0x1003b02) rfl (by decide) rfl) (a := 1) (n := 59) rfl rfl rfl ?_
            refine g_iadd act (gx gp_260 (w := 0x3c0a) rfl (by decide) rfl) (n := 60) rfl ?_
            have v_56 := iv_addN (show (0 : Int32).toInt = ((0 : Nat) : Int) from by decide) (hx_11.trans a2) (show (0 + nlj) < 2147483648 by omega)
            refine g_loadA act (gx gp_260 (w := 0x3d03) rfl (by decide) rfl) (a := 0) (n := 61) rfl rfl rfl ?_
            refine g_constI act (gx gp_260 (w := 0x40000000c00000009000000003e01) rfl (by decide) rfl) (n := 62) (x := (1 : Int32)) (by decide) rfl ?_
            refine g_constI act (gx gp_260 (w := 0x40000064400000641000000004101) rfl (by decide) rfl) (n := 65) (x := (200 : Int32)) (by decide) rfl ?_
            refine n_call tb_pres act hEnd (gx (P := G_call) gp_260 (w := 0xa000000000000c18330000f400440f) rfl (by decide) rfl) (d' := D_244) rfl (as := [.ref 124, .int (1 : Int32), .int (200 : Int32)]) (rest := [.int ((0 : Int32) + x_9), .ref 128]) (bx_number (show PSX hs_55 tx L A_c37 b_c37 ec_c37 ep_c37 na_c37 from ⟨rw_44, f_45, ⟨_, f_46, hL_1⟩, ⟨_, f_49, hA_c37⟩, ⟨_, f_50, hb_c37⟩, ⟨_, f_51, hc_c37⟩, ⟨_, f_52, hd_c37⟩, ⟨_, f_53, hn_c37⟩, by omega, by omega, by omega, by omega, by omega, by omega⟩) (show (1 : Int32).toInt = ((1 : Nat) : Int) from by decide) (show (200 : Int32).toInt = ((200 : Nat) : Int) from by decide) (by omega)) (show (3 : Nat) = fb 0xa000000000000c18330000f400440f % 16 by decide) (by show (3 : Nat) ≤ 6; decide) (fun _ => ⟨_, _, rfl, _, shp_at rw_44.1, Or.inr (show fb 0xa000000000000c18330000f400440f >>> 68 = 10 by decide)⟩) (by omega) (by show 8 + (6 + 11) + 22 ≤ R.locals; omega) (by show (2 : Nat) ≤ 8; decide) (by show kc + 0 ≤ _; omega) (by show ks + 0 ≤ _; omega) (fun r9 hs_c57 hpo hr9 => ?_) (fun x9 hs9 hx9 hpo => ?_)
            · obtain ⟨-, A_c57, b_c57, ec_c57, ep_c57, na_c57, rv_c57, rfl, hP_c57, fr_c57, q7_c57, q8_c57, q9_c57, q10_c57, q11_c57, qr_c57⟩ := hpo
              try replace q8_c57 := q8_c57 (by omega)
              have rw_58 := rw_44.fr fr_c57 WP_rw
              have f_59 := f_45.fr (fun j9 _ => fr_c57.2.2 130 j9 (by unfold WP; omega))
              have f_60 := rd_fr fr_c57 f_46 (by unfold WP; omega)
              have f_61 := f_47.fr (fun j9 _ => fr_c57.2.2 126 j9 (by unfold WP; omega))
              have f_62 := f_48.fr (fun j9 _ => fr_c57.2.2 128 j9 (by unfold WP; omega))
              have fr_63 := fr_54.tr (fr_c57.mono (fun k9 j9 h9 => by unfold WP at h9; unfold WRd; omega))
              obtain ⟨-, -, -, ⟨A9_c57, e11_c57, hA_c57⟩, ⟨b9_c57, e14_c57, hb_c57⟩, ⟨c9_c57, e12_c57, hc_c57⟩, ⟨d9_c57, e13_c57, hd_c57⟩, ⟨f9_c57, e15_c57, hn_c57⟩, -, -, q3_c57, q4_c57, q5_c57, q6_c57⟩ := hP_c57
              clear rw_44 f_45 f_46 f_47 f_48 f_49 f_50 f_51 f_52 f_53 fr_54
              show WpN (gp g0 wp) CLS p l e R s m args below meth c Q D_260.2.2.1 kc0 ks0 68 [some (.ref 124), some (.int x_9)] (hs_c57, kc, ks) [.int rv_c57, .int ((0 : Int32) + x_9), .ref 128]
              refine r_iast act (gx gp_260 (w := 0x4524) rfl (by decide) rfl) (n := 69) (j := (0 + nlj)) rfl (rw_58.2 (4, 128, 32, 39) (by decide)).2 v_56 (show (0 + nlj) < 39 by omega) ?_
              have rw_64 := RW.wr (k := 128) (j := (0 + nlj)) (v := .int rv_c57) rw_58 (Or.inl (by decide))
              have f_65 := f_59.ne (k := 128) (j := (0 + nlj)) (v := .int rv_c57) (by decide)
              have f_66 := (rd_ne hs_c57 (k := 128) (j := (0 + nlj)) (.int rv_c57) (Or.inl (by decide))).trans f_60
              have f_67 := f_61.ne (k := 128) (j := (0 + nlj)) (v := .int rv_c57) (by decide)
              have f_68 := f_62.put (j := (0 + nlj)) (rw_58.2 (4, 128, 32, 39) (by decide)).2 (rfl : Int32.toInt rv_c57 = _)
              have f_69 := (rd_ne hs_c57 (k := 128) (j := (0 + nlj)) (.int rv_c57) (Or.inl (by decide))).trans e11_c57
              have f_70 := (rd_ne hs_c57 (k := 128) (j := (0 + nlj)) (.int rv_c57) (Or.inl (by decide))).trans e14_c57
              have f_71 := (rd_ne hs_c57 (k := 128) (j := (0 + nlj)) (.int rv_c57) (Or.inl (by decide))).trans e12_c57
              have f_72 := (rd_ne hs_c57 (k := 128) (j := (0 + nlj)) (.int rv_c57) (Or.inl (by decide))).trans e13_c57
              have f_73 := (rd_ne hs_c57 (k := 128) (j := (0 + nlj)) (.int rv_c57) (Or.inl (by decide))).trans e15_c57
              have fr_74 := fr_63.wr (k := 128) (j := (0 + nlj)) (.int rv_c57) (by unfold WRd; omega)
              clear rw_58 fr_63 f_59 f_60 f_61 f_62 e11_c57 e14_c57 e12_c57 e13_c57 e15_c57
              generalize (wr hs_c57 128 (0 + nlj) (.int rv_c57)) = hs_75 at *
              refine g_loadA act (gx gp_260 (w := 0x4603) rfl (by decide) rfl) (a := 0) (n := 70) rfl rfl rfl ?_
              refine r_getf act (gx gp_260 (w := 0x3000109004904) rfl (by decide) rfl) (n := 73) (ci := 9) (j := 4) (N := 39) rfl rfl rfl rw_64.1 (by decide) (rw_64.2 (4, 128, 32, 39) (by decide)).1 ?_
              refine g_constI act (gx gp_260 (w := 0x40000003400000031000000004b01) rfl (by decide) rfl) (n := 75) (x := (6 : Int32)) (by decide) rfl ?_
              refine g_loadI act (gx gp_260 (w := 0x1004c02) rfl (by decide) rfl) (a := 1) (n := 76) rfl rfl rfl ?_
              refine g_iadd act (gx gp_260 (w := 0x4d0a) rfl (by decide) rfl) (n := 77) rfl ?_
              have v_76 := iv_addN (show (6 : Int32).toInt = ((6 : Nat) : Int) from by decide) (hx_11.trans a2) (show (6 + nlj) < 2147483648 by omega)
              refine g_loadA act (gx gp_260 (w := 0x4e03) rfl (by decide) rfl) (a := 0) (n := 78) rfl rfl rfl ?_
              refine g_constL act (gx gp_260 (w := 0x400000b47b7a8edea000000005101) rfl (by decide) rfl) (n := 81) (x := (1550331485629 : Int64)) (by decide) rfl ?_
              refine n_call tb_pres act hEnd (gx (P := G_call) gp_260 (w := 0xa000000000000c0c3200011500540f) rfl (by decide) rfl) (d' := D_277) rfl (as := [.ref 124, .long (1550331485629 : Int64)]) (rest := [.int ((6 : Int32) + x_9), .ref 128]) (bx_takes (n9 := (1550331485629 : Int64)) (show PSX hs_75 tx L A_c57 b_c57 ec_c57 ep_c57 na_c57 from ⟨rw_64, f_65, ⟨_, f_66, hL_1⟩, ⟨_, f_69, hA_c57⟩, ⟨_, f_70, hb_c57⟩, ⟨_, f_71, hc_c57⟩, ⟨_, f_72, hd_c57⟩, ⟨_, f_73, hn_c57⟩, by omega, by omega, by omega, by omega, by omega, by omega⟩) (show (1550331485629 : Int64).toInt = wEMERGENCY from by decide) (by decide)) (show (2 : Nat) = fb 0xa000000000000c0c3200011500540f % 16 by decide) (by show (3 : Nat) ≤ 3; decide) (fun _ => ⟨_, _, rfl, _, shp_at rw_64.1, Or.inr (show fb 0xa000000000000c0c3200011500540f >>> 68 = 10 by decide)⟩) (by omega) (by show 8 + (3 + 11) + 67 ≤ R.locals; omega) (by show (2 : Nat) ≤ 8; decide) (by show kc + 0 ≤ _; omega) (by show ks + 0 ≤ _; omega) (fun r9 hs_c77 hpo hr9 => ?_) (fun x9 hs9 hx9 hpo => ?_)
              · obtain ⟨-, A_c77, rv_c77, rfl, hP_c77, fr_c77, q7_c77, q8_c77, q9_c77, qt_c77⟩ := hpo
                first | (replace q8_c77 := q8_c77 (by omega)) | clear q8_c77
                have rw_78 := rw_64.fr fr_c77 WP_rw
                have f_79 := f_65.fr (fun j9 _ => fr_c77.2.2 130 j9 (by unfold WP; omega))
                have f_80 := rd_fr fr_c77 f_66 (by unfold WP; omega)
                have f_81 := f_67.fr (fun j9 _ => fr_c77.2.2 126 j9 (by unfold WP; omega))
                have f_82 := f_68.fr (fun j9 _ => fr_c77.2.2 128 j9 (by unfold WP; omega))
                have fr_83 := fr_74.tr (fr_c77.mono (fun k9 j9 h9 => by unfold WP at h9; unfold WRd; omega))
                obtain ⟨-, -, -, ⟨A9_c77, e11_c77, hA_c77⟩, ⟨b9_c77, e14_c77, hb_c77⟩, ⟨c9_c77, e12_c77, hc_c77⟩, ⟨d9_c77, e13_c77, hd_c77⟩, ⟨f9_c77, e15_c77, hn_c77⟩, -, -, q3_c77, q4_c77, q5_c77, q6_c77⟩ := hP_c77
                clear rw_64 f_65 f_66 f_67 f_68 f_69 f_70 f_71 f_72 f_73 fr_74
                show WpN (gp g0 wp) CLS p l e R s m args below meth c Q D_260.2.2.1 kc0 ks0 84 [some (.ref 124), some (.int x_9)] (hs_c77, kc, ks) [.int rv_c77, .int ((6 : Int32) + x_9), .ref 128]
                refine g_ifEq act (gx gp_260 (w := 0x6900570e) rfl (by decide) rfl) (tgt := 105) (n := 87) rfl rfl (fun h31 => ?_) (fun h31 => ?_)
                · simp only [i_eq, i0] at h31
                  refine g_loadA act (gx gp_260 (w := 0x6a03) rfl (by decide) rfl) (a := 0) (n := 106) rfl rfl rfl ?_
                  refine r_getf act (gx gp_260 (w := 0x3000109006d04) rfl (by decide) rfl) (n := 109) (ci := 9) (j := 4) (N := 39) rfl rfl rfl rw_78.1 (by decide) (rw_78.2 (4, 128, 32, 39) (by decide)).1 ?_
                  refine g_constI act (gx gp_260 (w := 0x40000000400000001000000006e01) rfl (by decide) rfl) (n := 110) (x := (0 : Int32)) (by decide) rfl ?_
                  refine g_loadI act (gx gp_260 (w := 0x1006f02) rfl (by decide) rfl) (a := 1) (n := 111) rfl rfl rfl ?_
                  refine g_iadd act (gx gp_260 (w := 0x700a) rfl (by decide) rfl) (n := 112) rfl ?_
                  have v_84 := iv_addN (show (0 : Int32).toInt = ((0 : Nat) : Int) from by decide) (hx_11.trans a2) (show (0 + nlj) < 2147483648 by omega)
                  obtain ⟨x_85, e_86, hx_87⟩ := f_82 (0 + nlj) (by omega)
                  refine r_iald act (gx gp_260 (w := 0x711a) rfl (by decide) rfl) (n := 113) (j := (0 + nlj)) rfl (rw_78.2 (4, 128, 32, 39) (by decide)).2 v_84 (show (0 + nlj) < 39 by omega) (v := .int x_85) e_86 ?_
                  refine r_iast act (gx gp_260 (w := 0x7224) rfl (by decide) rfl) (n := 114) (j := (6 + nlj)) rfl (rw_78.2 (4, 128, 32, 39) (by decide)).2 v_76 (show (6 + nlj) < 39 by omega) ?_
                  have rw_88 := RW.wr (k := 128) (j := (6 + nlj)) (v := .int x_85) rw_78 (Or.inl (by decide))
                  have f_89 := f_79.ne (k := 128) (j := (6 + nlj)) (v := .int x_85) (by decide)
                  have f_90 := (rd_ne hs_c77 (k := 128) (j := (6 + nlj)) (.int x_85) (Or.inl (by decide))).trans f_80
                  have f_91 := f_81.ne (k := 128) (j := (6 + nlj)) (v := .int x_85) (by decide)
                  have f_92 := f_82.put (j := (6 + nlj)) (rw_78.2 (4, 128, 32, 39) (by decide)).2 (hx_87.trans (show ((upI gj (0 + nlj) (Int32.toInt rv_c57)) (0 + nlj)) = (Int32.toInt rv_c57) from by simp only [upI, ↓reduceIte]; all_goals omega))
                  have f_93 := (rd_ne hs_c77 (k := 128) (j := (6 + nlj)) (.int x_85) (Or.inl (by decide))).trans e11_c77
                  have f_94 := (rd_ne hs_c77 (k := 128) (j := (6 + nlj)) (.int x_85) (Or.inl (by decide))).trans e14_c77
                  have f_95 := (rd_ne hs_c77 (k := 128) (j := (6 + nlj)) (.int x_85) (Or.inl (by decide))).trans e12_c77
                  have f_96 := (rd_ne hs_c77 (k := 128) (j := (6 + nlj)) (.int x_85) (Or.inl (by decide))).trans e13_c77
                  have f_97 := (rd_ne hs_c77 (k := 128) (j := (6 + nlj)) (.int x_85) (Or.inl (by decide))).trans e15_c77
                  have fr_98 := fr_83.wr (k := 128) (j := (6 + nlj)) (.int x_85) (by unfold WRd; omega)
                  clear rw_78 fr_83 f_79 f_80 f_81 f_82 e11_c77 e14_c77 e12_c77 e13_c77 e15_c77
                  generalize (wr hs_c77 128 (6 + nlj) (.int x_85)) = hs_99 at *
                  refine g_loadA act (gx gp_260 (w := 0x7303) rfl (by decide) rfl) (a := 0) (n := 115) rfl rfl rfl ?_
                  refine n_call tb_pres act hEnd (gx (P := G_call) gp_260 (w := 0xa000000000000804110000c900760f) rfl (by decide) rfl) (d' := D_201) rfl (as := [.ref 124]) (rest := []) (bx_end (show PSX hs_99 tx L A_c77 b_c57 ec_c57 ep_c57 na_c57 from ⟨rw_88, f_89, ⟨_, f_90, hL_1⟩, ⟨_, f_93, hA_c77⟩, ⟨_, f_94, hb_c77⟩, ⟨_, f_95, hc_c77⟩, ⟨_, f_96, hd_c77⟩, ⟨_, f_97, hn_c77⟩, by omega, by omega, by omega, by omega, by omega, by omega⟩) (by omega)) (show (1 : Nat) = fb 0xa000000000000804110000c900760f % 16 by decide) (by show (1 : Nat) ≤ 1; decide) (fun _ => ⟨_, _, rfl, _, shp_at rw_88.1, Or.inr (show fb 0xa000000000000804110000c900760f >>> 68 = 10 by decide)⟩) (by omega) (by show 8 + (1 + 11) + 22 ≤ R.locals; omega) (by show (0 : Nat) ≤ 8; decide) (by show kc + 0 ≤ _; omega) (by show ks + 0 ≤ _; omega) (fun r9 hs_c100 hpo hr9 => ?_) (fun x9 hs9 hx9 hpo => ?_)
                  · obtain rfl : r9 = none := hr9.elim (fun q => q.2) (fun q => absurd rfl q.1)
                    obtain ⟨-, -, A_c100, b_c100, ec_c100, ep_c100, hP_c100, fr_c100, q7_c100, q8_c100, qr_c100⟩ := hpo
                    have rw_101 := rw_88.fr fr_c100 WP_rw
                    have f_102 := f_89.fr (fun j9 _ => fr_c100.2.2 130 j9 (by unfold WP; omega))
                    have f_103 := rd_fr fr_c100 f_90 (by unfold WP; omega)
                    have f_104 := f_91.fr (fun j9 _ => fr_c100.2.2 126 j9 (by unfold WP; omega))
                    have f_105 := f_92.fr (fun j9 _ => fr_c100.2.2 128 j9 (by unfold WP; omega))
                    have fr_106 := fr_98.tr (fr_c100.mono (fun k9 j9 h9 => by unfold WP at h9; unfold WRd; omega))
                    obtain ⟨-, -, -, ⟨A9_c100, e11_c100, hA_c100⟩, ⟨b9_c100, e14_c100, hb_c100⟩, ⟨c9_c100, e12_c100, hc_c100⟩, ⟨d9_c100, e13_c100, hd_c100⟩, ⟨f9_c100, e15_c100, hn_c100⟩, -, -, q3_c100, q4_c100, q5_c100, q6_c100⟩ := hP_c100
                    clear rw_88 f_89 f_90 f_91 f_92 f_93 f_94 f_95 f_96 f_97 fr_98
                    show WpN (gp g0 wp) CLS p l e R s m args below meth c Q D_260.2.2.1 kc0 ks0 118 [some (.ref 124), some (.int x_9)] (hs_c100, kc, ks) []
                    refine g_loadA act (gx gp_260 (w := 0x7703) rfl (by decide) rfl) (a := 0) (n := 119) rfl rfl rfl ?_
                    refine r_getf act (gx gp_260 (w := 0x3000089007a04) rfl (by decide) rfl) (n := 122) (ci := 9) (j := 2) (N := 39) rfl rfl rfl rw_101.1 (by decide) (rw_101.2 (2, 126, 32, 46) (by decide)).1 ?_
                    refine g_constI act (gx gp_260 (w := 0x40000001400000011000000007b01) rfl (by decide) rfl) (n := 123) (x := (2 : Int32)) (by decide) rfl ?_
                    refine g_dup2 act (gx gp_260 (w := 0x7c30) rfl (by decide) rfl) (n := 124) rfl rfl rfl ?_
                    obtain ⟨x_107, e_108, hx_109⟩ := f_104 2 (by omega)
                    refine r_iald act (gx gp_260 (w := 0x7d1a) rfl (by decide) rfl) (n := 125) (j := 2) rfl (rw_101.2 (2, 126, 32, 46) (by decide)).2 (show (2 : Int32).toInt = ((2 : Nat) : Int) from by decide) (show 2 < 46 by omega) (v := .int x_107) e_108 ?_
                    refine g_constI act (gx gp_260 (w := 0x40000000c00000009000000007e01) rfl (by decide) rfl) (n := 126) (x := (1 : Int32)) (by decide) rfl ?_
                    refine g_iadd act (gx gp_260 (w := 0x7f0a) rfl (by decide) rfl) (n := 127) rfl ?_
                    have v_110 := iv_addN (hx_109.trans (show ((upI (upI fj (5 + nlj) (Int32.toInt rv_c13)) (11 + nlj) (Int32.toInt rv_c37)) 2) = ((nlj : Nat) : Int) from by simp only [upI, ↓reduceIte]; all_goals omega)) (show (1 : Int32).toInt = ((1 : Nat) : Int) from by decide) (show (nlj + 1) < 2147483648 by omega)
                    refine r_iast act (gx gp_260 (w := 0x8024) rfl (by decide) rfl) (n := 128) (j := 2) rfl (rw_101.2 (2, 126, 32, 46) (by decide)).2 (show (2 : Int32).toInt = ((2 : Nat) : Int) from by decide) (show 2 < 46 by omega) ?_
                    have rw_111 := RW.wr (k := 126) (j := 2) (v := .int (x_107 + (1 : Int32))) rw_101 (Or.inl (by decide))
                    have f_112 := f_102.ne (k := 126) (j := 2) (v := .int (x_107 + (1 : Int32))) (by decide)
                    have f_113 := (rd_ne hs_c100 (k := 126) (j := 2) (.int (x_107 + (1 : Int32))) (Or.inl (by decide))).trans f_103
                    have f_114 := f_104.put (j := 2) (rw_101.2 (2, 126, 32, 46) (by decide)).2 v_110
                    have f_115 := f_105.ne (k := 126) (j := 2) (v := .int (x_107 + (1 : Int32))) (by decide)
                    have f_116 := (rd_ne hs_c100 (k := 126) (j := 2) (.int (x_107 + (1 : Int32))) (Or.inl (by decide))).trans e11_c100
                    have f_117 := (rd_ne hs_c100 (k := 126) (j := 2) (.int (x_107 + (1 : Int32))) (Or.inl (by decide))).trans e14_c100
                    have f_118 := (rd_ne hs_c100 (k := 126) (j := 2) (.int (x_107 + (1 : Int32))) (Or.inl (by decide))).trans e12_c100
                    have f_119 := (rd_ne hs_c100 (k := 126) (j := 2) (.int (x_107 + (1 : Int32))) (Or.inl (by decide))).trans e13_c100
                    have f_120 := (rd_ne hs_c100 (k := 126) (j := 2) (.int (x_107 + (1 : Int32))) (Or.inl (by decide))).trans e15_c100
                    have fr_121 := fr_106.wr (k := 126) (j := 2) (.int (x_107 + (1 : Int32))) (by unfold WRd; omega)
                    clear rw_101 fr_106 f_102 f_103 f_104 f_105 e11_c100 e14_c100 e12_c100 e13_c100 e15_c100
                    generalize (wr hs_c100 126 2 (.int (x_107 + (1 : Int32)))) = hs_122 at *
                    refine g_goto act (gx gp_260 (w := 0x7) rfl (by decide) rfl) (n := 0) rfl ?_
                    have hI2 := fvi_line (b2 := b_c100) (x := (Int32.toInt rv_c13)) (y := (Int32.toInt rv_c37)) (z := (Int32.toInt rv_c57)) (w := (Int32.toInt rv_c57)) hI (by omega) (by omega) (by omega) (by omega) (fun q9 => (NE9.at q12_c37 (by omega)).symm) (by omega) (by omega)
                    have hLV2 := lns_next hb01 hbj1 (by omega) hLV a2 (by omega) qt_c2 (fun qz => line_ok (nl := nlj) (d := (fj, gj)) qz (NUo.p qr_c13) (NUo.p qr_c37) (NUo.p qr_c57) (em_no (by omega) (by omega) qt_c77) qr_c100)
                    exact n_forget (d := D_260) (L2 := [some (.ref 124), none]) (fun i v hi => by
                      match i, hi with
                      | 0, hi => exact hi
                      | 1, hi => cases hi
                      | i + 2, hi => cases hi) (ih _ (by omega) _ A_c100 b_c100 ec_c100 ep_c100 na_c57 _ _ _ _ _ (show PSX hs_122 tx L A_c100 b_c100 ec_c100 ep_c100 na_c57 from ⟨rw_111, f_112, ⟨_, f_113, hL_1⟩, ⟨_, f_116, hA_c100⟩, ⟨_, f_117, hb_c100⟩, ⟨_, f_118, hc_c100⟩, ⟨_, f_119, hd_c100⟩, ⟨_, f_120, hn_c100⟩, by omega, by omega, by omega, by omega, by omega, by omega⟩) fr_121 f_114 f_115 hI2 (by omega) (fun j hj9 => by have q := w2 j hj9; simp only [upI]; omega) hLV2 rfl)
                  · exact absurd hpo.1 (by omega)
                · simp only [i_eq, i0] at h31
                  refine g_loadA act (gx gp_260 (w := 0x5803) rfl (by decide) rfl) (a := 0) (n := 88) rfl rfl rfl ?_
                  refine g_loadA act (gx gp_260 (w := 0x5903) rfl (by decide) rfl) (a := 0) (n := 89) rfl rfl rfl ?_
                  refine r_getf act (gx gp_260 (w := 0x3000109005c04) rfl (by decide) rfl) (n := 92) (ci := 9) (j := 4) (N := 39) rfl rfl rfl rw_78.1 (by decide) (rw_78.2 (4, 128, 32, 39) (by decide)).1 ?_
                  refine g_constI act (gx gp_260 (w := 0x40000000400000001000000005d01) rfl (by decide) rfl) (n := 93) (x := (0 : Int32)) (by decide) rfl ?_
                  refine g_loadI act (gx gp_260 (w := 0x1005e02) rfl (by decide) rfl) (a := 1) (n := 94) rfl rfl rfl ?_
                  refine g_iadd act (gx gp_260 (w := 0x5f0a) rfl (by decide) rfl) (n := 95) rfl ?_
                  have v_123 := iv_addN (show (0 : Int32).toInt = ((0 : Nat) : Int) from by decide) (hx_11.trans a2) (show (0 + nlj) < 2147483648 by omega)
                  obtain ⟨x_124, e_125, hx_126⟩ := f_82 (0 + nlj) (by omega)
                  refine r_iald act (gx gp_260 (w := 0x601a) rfl (by decide) rfl) (n := 96) (j := (0 + nlj)) rfl (rw_78.2 (4, 128, 32, 39) (by decide)).2 v_123 (show (0 + nlj) < 39 by omega) (v := .int x_124) e_125 ?_
                  refine g_constI act (gx gp_260 (w := 0x400000c8400000c81000000006301) rfl (by decide) rfl) (n := 99) (x := (400 : Int32)) (by decide) rfl ?_
                  refine n_call tb_pres act hEnd (gx (P := G_call) gp_260 (w := 0xa000000000000c18330000f400660f) rfl (by decide) rfl) (d' := D_244) rfl (as := [.ref 124, .int x_124, .int (400 : Int32)]) (rest := [.int ((6 : Int32) + x_9), .ref 128]) (bx_number (show PSX hs_c77 tx L A_c77 b_c57 ec_c57 ep_c57 na_c57 from ⟨rw_78, f_79, ⟨_, f_80, hL_1⟩, ⟨_, e11_c77, hA_c77⟩, ⟨_, e14_c77, hb_c77⟩, ⟨_, e12_c77, hc_c77⟩, ⟨_, e13_c77, hd_c77⟩, ⟨_, e15_c77, hn_c77⟩, by omega, by omega, by omega, by omega, by omega, by omega⟩) (hx_126.trans (show ((upI gj (0 + nlj) (Int32.toInt rv_c57)) (0 + nlj)) = (Int32.toInt rv_c57) from by simp only [upI, ↓reduceIte]; all_goals omega)) (show (400 : Int32).toInt = ((400 : Nat) : Int) from by decide) (by omega)) (show (3 : Nat) = fb 0xa000000000000c18330000f400660f % 16 by decide) (by show (3 : Nat) ≤ 6; decide) (fun _ => ⟨_, _, rfl, _, shp_at rw_78.1, Or.inr (show fb 0xa000000000000c18330000f400660f >>> 68 = 10 by decide)⟩) (by omega) (by show 8 + (6 + 11) + 22 ≤ R.locals; omega) (by show (2 : Nat) ≤ 8; decide) (by show kc + 0 ≤ _; omega) (by show ks + 0 ≤ _; omega) (fun r9 hs_c127 hpo hr9 => ?_) (fun x9 hs9 hx9 hpo => ?_)
                  · obtain ⟨-, A_c127, b_c127, ec_c127, ep_c127, na_c127, rv_c127, rfl, hP_c127, fr_c127, q7_c127, q8_c127, q9_c127, q10_c127, q11_c127, qr_c127⟩ := hpo
                    try replace q8_c127 := q8_c127 (by omega)
                    have rw_128 := rw_78.fr fr_c127 WP_rw
                    have f_129 := f_79.fr (fun j9 _ => fr_c127.2.2 130 j9 (by unfold WP; omega))
                    have f_130 := rd_fr fr_c127 f_80 (by unfold WP; omega)
                    have f_131 := f_81.fr (fun j9 _ => fr_c127.2.2 126 j9 (by unfold WP; omega))
                    have f_132 := f_82.fr (fun j9 _ => fr_c127.2.2 128 j9 (by unfold WP; omega))
                    have fr_133 := fr_83.tr (fr_c127.mono (fun k9 j9 h9 => by unfold WP at h9; unfold WRd; omega))
                    obtain ⟨-, -, -, ⟨A9_c127, e11_c127, hA_c127⟩, ⟨b9_c127, e14_c127, hb_c127⟩, ⟨c9_c127, e12_c127, hc_c127⟩, ⟨d9_c127, e13_c127, hd_c127⟩, ⟨f9_c127, e15_c127, hn_c127⟩, -, -, q3_c127, q4_c127, q5_c127, q6_c127⟩ := hP_c127
                    clear rw_78 f_79 f_80 f_81 f_82 e11_c77 e14_c77 e12_c77 e13_c77 e15_c77 fr_83
                    show WpN (gp g0 wp) CLS p l e R s m args below meth c Q D_260.2.2.1 kc0 ks0 102 [some (.ref 124), some (.int x_9)] (hs_c127, kc, ks) [.int rv_c127, .int ((6 : Int32) + x_9), .ref 128]
                    refine g_goto act (gx gp_260 (w := 0x7107) rfl (by decide) rfl) (n := 113) rfl ?_
                    refine r_iast act (gx gp_260 (w := 0x7224) rfl (by decide) rfl) (n := 114) (j := (6 + nlj)) rfl (rw_128.2 (4, 128, 32, 39) (by decide)).2 v_76 (show (6 + nlj) < 39 by omega) ?_
                    have rw_134 := RW.wr (k := 128) (j := (6 + nlj)) (v := .int rv_c127) rw_128 (Or.inl (by decide))
                    have f_135 := f_129.ne (k := 128) (j := (6 + nlj)) (v := .int rv_c127) (by decide)
                    have f_136 := (rd_ne hs_c127 (k := 128) (j := (6 + nlj)) (.int rv_c127) (Or.inl (by decide))).trans f_130
                    have f_137 := f_131.ne (k := 128) (j := (6 + nlj)) (v := .int rv_c127) (by decide)
                    have f_138 := f_132.put (j := (6 + nlj)) (rw_128.2 (4, 128, 32, 39) (by decide)).2 (rfl : Int32.toInt rv_c127 = _)
                    have f_139 := (rd_ne hs_c127 (k := 128) (j := (6 + nlj)) (.int rv_c127) (Or.inl (by decide))).trans e11_c127
                    have f_140 := (rd_ne hs_c127 (k := 128) (j := (6 + nlj)) (.int rv_c127) (Or.inl (by decide))).trans e14_c127
                    have f_141 := (rd_ne hs_c127 (k := 128) (j := (6 + nlj)) (.int rv_c127) (Or.inl (by decide))).trans e12_c127
                    have f_142 := (rd_ne hs_c127 (k := 128) (j := (6 + nlj)) (.int rv_c127) (Or.inl (by decide))).trans e13_c127
                    have f_143 := (rd_ne hs_c127 (k := 128) (j := (6 + nlj)) (.int rv_c127) (Or.inl (by decide))).trans e15_c127
                    have fr_144 := fr_133.wr (k := 128) (j := (6 + nlj)) (.int rv_c127) (by unfold WRd; omega)
                    clear rw_128 fr_133 f_129 f_130 f_131 f_132 e11_c127 e14_c127 e12_c127 e13_c127 e15_c127
                    generalize (wr hs_c127 128 (6 + nlj) (.int rv_c127)) = hs_145 at *
                    refine g_loadA act (gx gp_260 (w := 0x7303) rfl (by decide) rfl) (a := 0) (n := 115) rfl rfl rfl ?_
                    refine n_call tb_pres act hEnd (gx (P := G_call) gp_260 (w := 0xa000000000000804110000c900760f) rfl (by decide) rfl) (d' := D_201) rfl (as := [.ref 124]) (rest := []) (bx_end (show PSX hs_145 tx L A_c127 b_c127 ec_c127 ep_c127 na_c127 from ⟨rw_134, f_135, ⟨_, f_136, hL_1⟩, ⟨_, f_139, hA_c127⟩, ⟨_, f_140, hb_c127⟩, ⟨_, f_141, hc_c127⟩, ⟨_, f_142, hd_c127⟩, ⟨_, f_143, hn_c127⟩, by omega, by omega, by omega, by omega, by omega, by omega⟩) (by omega)) (show (1 : Nat) = fb 0xa000000000000804110000c900760f % 16 by decide) (by show (1 : Nat) ≤ 1; decide) (fun _ => ⟨_, _, rfl, _, shp_at rw_134.1, Or.inr (show fb 0xa000000000000804110000c900760f >>> 68 = 10 by decide)⟩) (by omega) (by show 8 + (1 + 11) + 22 ≤ R.locals; omega) (by show (0 : Nat) ≤ 8; decide) (by show kc + 0 ≤ _; omega) (by show ks + 0 ≤ _; omega) (fun r9 hs_c146 hpo hr9 => ?_) (fun x9 hs9 hx9 hpo => ?_)
                    · obtain rfl : r9 = none := hr9.elim (fun q => q.2) (fun q => absurd rfl q.1)
                      obtain ⟨-, -, A_c146, b_c146, ec_c146, ep_c146, hP_c146, fr_c146, q7_c146, q8_c146, qr_c146⟩ := hpo
                      have rw_147 := rw_134.fr fr_c146 WP_rw
                      have f_148 := f_135.fr (fun j9 _ => fr_c146.2.2 130 j9 (by unfold WP; omega))
                      have f_149 := rd_fr fr_c146 f_136 (by unfold WP; omega)
                      have f_150 := f_137.fr (fun j9 _ => fr_c146.2.2 126 j9 (by unfold WP; omega))
                      have f_151 := f_138.fr (fun j9 _ => fr_c146.2.2 128 j9 (by unfold WP; omega))
                      have fr_152 := fr_144.tr (fr_c146.mono (fun k9 j9 h9 => by unfold WP at h9; unfold WRd; omega))
                      obtain ⟨-, -, -, ⟨A9_c146, e11_c146, hA_c146⟩, ⟨b9_c146, e14_c146, hb_c146⟩, ⟨c9_c146, e12_c146, hc_c146⟩, ⟨d9_c146, e13_c146, hd_c146⟩, ⟨f9_c146, e15_c146, hn_c146⟩, -, -, q3_c146, q4_c146, q5_c146, q6_c146⟩ := hP_c146
                      clear rw_134 f_135 f_136 f_137 f_138 f_139 f_140 f_141 f_142 f_143 fr_144
                      show WpN (gp g0 wp) CLS p l e R s m args below meth c Q D_260.2.2.1 kc0 ks0 118 [some (.ref 124), some (.int x_9)] (hs_c146, kc, ks) []
                      refine g_loadA act (gx gp_260 (w := 0x7703) rfl (by decide) rfl) (a := 0) (n := 119) rfl rfl rfl ?_
                      refine r_getf act (gx gp_260 (w := 0x3000089007a04) rfl (by decide) rfl) (n := 122) (ci := 9) (j := 2) (N := 39) rfl rfl rfl rw_147.1 (by decide) (rw_147.2 (2, 126, 32, 46) (by decide)).1 ?_
                      refine g_constI act (gx gp_260 (w := 0x40000001400000011000000007b01) rfl (by decide) rfl) (n := 123) (x := (2 : Int32)) (by decide) rfl ?_
                      refine g_dup2 act (gx gp_260 (w := 0x7c30) rfl (by decide) rfl) (n := 124) rfl rfl rfl ?_
                      obtain ⟨x_153, e_154, hx_155⟩ := f_150 2 (by omega)
                      refine r_iald act (gx gp_260 (w := 0x7d1a) rfl (by decide) rfl) (n := 125) (j := 2) rfl (rw_147.2 (2, 126, 32, 46) (by decide)).2 (show (2 : Int32).toInt = ((2 : Nat) : Int) from by decide) (show 2 < 46 by omega) (v := .int x_153) e_154 ?_
                      refine g_constI act (gx gp_260 (w := 0x40000000c00000009000000007e01) rfl (by decide) rfl) (n := 126) (x := (1 : Int32)) (by decide) rfl ?_
                      refine g_iadd act (gx gp_260 (w := 0x7f0a) rfl (by decide) rfl) (n := 127) rfl ?_
                      have v_156 := iv_addN (hx_155.trans (show ((upI (upI fj (5 + nlj) (Int32.toInt rv_c13)) (11 + nlj) (Int32.toInt rv_c37)) 2) = ((nlj : Nat) : Int) from by simp only [upI, ↓reduceIte]; all_goals omega)) (show (1 : Int32).toInt = ((1 : Nat) : Int) from by decide) (show (nlj + 1) < 2147483648 by omega)
                      refine r_iast act (gx gp_260 (w := 0x8024) rfl (by decide) rfl) (n := 128) (j := 2) rfl (rw_147.2 (2, 126, 32, 46) (by decide)).2 (show (2 : Int32).toInt = ((2 : Nat) : Int) from by decide) (show 2 < 46 by omega) ?_
                      have rw_157 := RW.wr (k := 126) (j := 2) (v := .int (x_153 + (1 : Int32))) rw_147 (Or.inl (by decide))
                      have f_158 := f_148.ne (k := 126) (j := 2) (v := .int (x_153 + (1 : Int32))) (by decide)
                      have f_159 := (rd_ne hs_c146 (k := 126) (j := 2) (.int (x_153 + (1 : Int32))) (Or.inl (by decide))).trans f_149
                      have f_160 := f_150.put (j := 2) (rw_147.2 (2, 126, 32, 46) (by decide)).2 v_156
                      have f_161 := f_151.ne (k := 126) (j := 2) (v := .int (x_153 + (1 : Int32))) (by decide)
                      have f_162 := (rd_ne hs_c146 (k := 126) (j := 2) (.int (x_153 + (1 : Int32))) (Or.inl (by decide))).trans e11_c146
                      have f_163 := (rd_ne hs_c146 (k := 126) (j := 2) (.int (x_153 + (1 : Int32))) (Or.inl (by decide))).trans e14_c146
                      have f_164 := (rd_ne hs_c146 (k := 126) (j := 2) (.int (x_153 + (1 : Int32))) (Or.inl (by decide))).trans e12_c146
                      have f_165 := (rd_ne hs_c146 (k := 126) (j := 2) (.int (x_153 + (1 : Int32))) (Or.inl (by decide))).trans e13_c146
                      have f_166 := (rd_ne hs_c146 (k := 126) (j := 2) (.int (x_153 + (1 : Int32))) (Or.inl (by decide))).trans e15_c146
                      have fr_167 := fr_152.wr (k := 126) (j := 2) (.int (x_153 + (1 : Int32))) (by unfold WRd; omega)
                      clear rw_147 fr_152 f_148 f_149 f_150 f_151 e11_c146 e14_c146 e12_c146 e13_c146 e15_c146
                      generalize (wr hs_c146 126 2 (.int (x_153 + (1 : Int32)))) = hs_168 at *
                      refine g_goto act (gx gp_260 (w := 0x7) rfl (by decide) rfl) (n := 0) rfl ?_
                      have hI2 := fvi_line (b2 := b_c146) (x := (Int32.toInt rv_c13)) (y := (Int32.toInt rv_c37)) (z := (Int32.toInt rv_c57)) (w := (Int32.toInt rv_c127)) hI (by omega) (by omega) (by omega) (by omega) (fun q9 => (NE9.at q12_c37 (by omega)).symm) (by omega) (by omega)
                      have hLV2 := lns_next hb01 hbj1 (by omega) hLV a2 (by omega) qt_c2 (fun qz => line_ok (nl := nlj) (d := (fj, gj)) qz (NUo.p qr_c13) (NUo.p qr_c37) (NUo.p qr_c57) (em_yes (by omega) (by omega) qt_c77 (NUo.p qr_c127)) qr_c146)
                      exact n_forget (d := D_260) (L2 := [some (.ref 124), none]) (fun i v hi => by
                        match i, hi with
                        | 0, hi => exact hi
                        | 1, hi => cases hi
                        | i + 2, hi => cases hi) (ih _ (by omega) _ A_c146 b_c146 ec_c146 ep_c146 na_c127 _ _ _ _ _ (show PSX hs_168 tx L A_c146 b_c146 ec_c146 ep_c146 na_c127 from ⟨rw_157, f_158, ⟨_, f_159, hL_1⟩, ⟨_, f_162, hA_c146⟩, ⟨_, f_163, hb_c146⟩, ⟨_, f_164, hc_c146⟩, ⟨_, f_165, hd_c146⟩, ⟨_, f_166, hn_c146⟩, by omega, by omega, by omega, by omega, by omega, by omega⟩) fr_167 f_160 f_161 hI2 (by omega) (fun j hj9 => by have q := w2 j hj9; simp only [upI]; omega) hLV2 rfl)
                    · exact absurd hpo.1 (by omega)
                  · exact absurd hpo.1 (by omega)
              · exact absurd hpo.1 (by omega)
            · exact absurd hpo.1 (by omega)
          · exact absurd hpo.1 (by omega)
        · exact absurd hpo.1 (by omega)
    · exact absurd hpo.1 (by omega)
  exact loop hs A b ec ep na fv gv nl ng nr hP (FrS.rf WRd hs) hF hG hI0 (by omega) (fun _ _ => rfl) LVx.rf

theorem bx_readGenerators (hP : PSX hs tx L A b ec ep na) (hF : IArr hs 126 46 fv) (hG : IArr hs 128 39 gv) (hI0 : FVI fv gv b nl ng nr) : BodyN SSX TBL g0 CLS bl xs l D_258 4 91 0 0 [.ref 124] hs (fun kd r h2 => kd = 0 ∧ r = none ∧ ∃ (A2 b2 ec2 ep2 na2 : Int) (fv2 gv2 : Nat → Int) (nl2 ng2 nr2 : Nat), PSX h2 tx L A2 b2 ec2 ep2 na2 ∧ FrS WRd hs h2 ∧ IArr h2 126 46 fv2 ∧ IArr h2 128 39 gv2 ∧ FVI fv2 gv2 b2 nl2 ng2 nr2 ∧ b ≤ b2 ∧ (∀ j, (j ≤ 2 ∨ j = 4 ∨ (5 ≤ j ∧ j < 17) ∨ 22 ≤ j) → fv2 j = fv j) ∧ LEx tx L b ec ep (sGens tx L (5 + 1 - ng) (skp tx L A) ng (fv, gv)) A2 b2 ec2 ep2 ((fv2, gv2), ng2)) := by
  intro wp p e R s m args below meth c Q kc0 ks0 kc ks act hf hl hc hsl hEnd
  have hf : 4 ≤ R.frames := hf
  have hl : 91 ≤ R.locals := hl
  have hk1 : kc ≤ kc + 0 := by omega
  have hk2 : ks ≤ ks + 0 := by omega
  have hb01 : b = 0 ∨ b = 1 := by
    have hP0 := hP
    obtain ⟨-, -, -, -, -, -, -, -, -, -, -, -, g1, g2⟩ := hP0
    omega
  have loop : ∀ (hj : List CE) (Aj : Int) (bj : Int) (ecj : Int) (epj : Int) (naj : Int) (fj : Nat → Int) (gj : Nat → Int) (nlj : Nat) (ngj : Nat) (nrj : Nat), PSX hj tx L Aj bj ecj epj naj → FrS WRd hs hj → IArr hj 126 46 fj → IArr hj 128 39 gj → FVI fj gj bj nlj ngj nrj → b ≤ bj → (∀ j, (j ≤ 2 ∨ j = 4 ∨ (5 ≤ j ∧ j < 17) ∨ 22 ≤ j) → fj j = fv j) → LVx b ec ep (sGens tx L (5 + 1 - ng) (skp tx L A) ng (fv, gv)) (sGens tx L (5 + 1 - ngj) (skp tx L Aj) ngj (fj, gj)) bj ecj epj → WpN (gp g0 wp) CLS p l e R s m args below meth c Q D_258.2.2.1 kc0 ks0 0 [some (.ref 124), none] (hj, kc, ks) [] := by
    intro hj Aj bj ecj epj naj fj gj nlj ngj nrj hPj hfr hFj hGj hI w1 w2 hLV
    generalize hm : 5 - ngj = m9
    induction m9 using Nat.strongRecOn generalizing hj Aj bj ecj epj naj fj gj nlj ngj nrj with
    | _ m9 ih =>
    subst hm
    obtain ⟨rw_1, hT_1, ⟨L9_1, e10_1, hL_1⟩, ⟨A9_1, e11_1, hA_1⟩, ⟨b9_1, e14_1, hb_1⟩, ⟨c9_1, e12_1, hc_1⟩, ⟨d9_1, e13_1, hd_1⟩, ⟨f9_1, e15_1, hn_1⟩, q1_1, q2_1, q3_1, q4_1, q5_1, q6_1⟩ := hPj
    have hI9 := hI
    obtain ⟨a0, a1, a2, a3, a4, a5, a6, a7, a8, a9, a10, a11, a12, a13, a14⟩ := hI9
    have hbj1 : bj = 0 ∨ bj = 1 := by omega
    refine g_loadA act (gx gp_258 (w := 0x103) rfl (by decide) rfl) (a := 0) (n := 1) rfl rfl rfl ?_
    refine g_constL act (gx gp_258 (w := 0x400000ece22cec15a000000000401) rfl (by decide) rfl) (n := 4) (x := (2034813753387 : Int64)) (by decide) rfl ?_
    refine g_constI act (gx gp_258 (w := 0x40000001c00000019000000000501) rfl (by decide) rfl) (n := 5) (x := (3 : Int32)) (by decide) rfl ?_
    refine g_constI act (gx gp_258 (w := 0x40000002c00000029000000000601) rfl (by decide) rfl) (n := 6) (x := (5 : Int32)) (by decide) rfl ?_
    refine n_call tb_pres act hEnd (gx (P := G_call) gp_258 (w := 0xa000000000000c14540000b000090f) rfl (by decide) rfl) (d' := D_176) rfl (as := [.ref 124, .long (2034813753387 : Int64), .int (3 : Int32), .int (5 : Int32)]) (rest := []) (bx_adds (n9 := (2034813753387 : Int64)) (show PSX hj tx L Aj bj ecj epj naj from ⟨rw_1, hT_1, ⟨_, e10_1, hL_1⟩, ⟨_, e11_1, hA_1⟩, ⟨_, e14_1, hb_1⟩, ⟨_, e12_1, hc_1⟩, ⟨_, e13_1, hd_1⟩, ⟨_, e15_1, hn_1⟩, by omega, by omega, by omega, by omega, by omega, by omega⟩) (show (2034813753387 : Int64).toInt = wGENERATOR from by decide) (by decide) hFj (show (3 : Int32).toInt = ((3 : Nat) : Int) from by decide) (by decide) (show (5 : Int32).toInt = ((5 : Nat) : Int) from by decide)) (show (4 : Nat) = fb 0xa000000000000c14540000b000090f % 16 by decide) (by show (5 : Nat) ≤ 5; decide) (fun _ => ⟨_, _, rfl, _, shp_at rw_1.1, Or.inr (show fb 0xa000000000000c14540000b000090f >>> 68 = 10 by decide)⟩) (by omega) (by show 8 + (5 + 11) + 67 ≤ R.locals; omega) (by show (0 : Nat) ≤ 8; decide) (by show kc + 0 ≤ _; omega) (by show ks + 0 ≤ _; omega) (fun r9 hs_c2 hpo hr9 => ?_) (fun x9 hs9 hx9 hpo => ?_)
    · obtain ⟨-, A_c2, b_c2, ec_c2, ep_c2, rv_c2, rfl, hP_c2, fr_c2, q7_c2, q8_c2, q9_c2, q10_c2, qt_c2⟩ := hpo
      try replace q8_c2 := q8_c2 (by omega)
      have rw_3 := rw_1.fr fr_c2 WP_rw
      have f_4 := hT_1.fr (fun j9 _ => fr_c2.2.2 130 j9 (by unfold WP; omega))
      have f_5 := rd_fr fr_c2 e10_1 (by unfold WP; omega)
      have f_6 := hFj.fr (fun j9 _ => fr_c2.2.2 126 j9 (by unfold WP; omega))
      have f_7 := hGj.fr (fun j9 _ => fr_c2.2.2 128 j9 (by unfold WP; omega))
      have fr_8 := hfr.tr (fr_c2.mono (fun k9 j9 h9 => by unfold WP at h9; unfold WRd; omega))
      obtain ⟨-, -, -, ⟨A9_c2, e11_c2, hA_c2⟩, ⟨b9_c2, e14_c2, hb_c2⟩, ⟨c9_c2, e12_c2, hc_c2⟩, ⟨d9_c2, e13_c2, hd_c2⟩, ⟨f9_c2, e15_c2, hn_c2⟩, -, -, q3_c2, q4_c2, q5_c2, q6_c2⟩ := hP_c2
      clear rw_1 hT_1 e10_1 e11_1 e14_1 e12_1 e13_1 e15_1 hfr
      show WpN (gp g0 wp) CLS p l e R s m args below meth c Q D_258.2.2.1 kc0 ks0 9 [some (.ref 124), none] (hs_c2, kc, ks) [.int rv_c2]
      refine g_ifEq act (gx gp_258 (w := 0x52000c0e) rfl (by decide) rfl) (tgt := 82) (n := 12) rfl rfl (fun h5 => ?_) (fun h5 => ?_)
      · simp only [i_eq, i0] at h5
        have hI2 := hI.bad (b2 := b_c2) (by omega)
        exact g_retV hEnd (gx gp_258 (w := 0x18) rfl (by decide) rfl) ⟨rfl, rfl, A_c2, b_c2, ec_c2, ep_c2, naj, _, _, _, _, _, (show PSX hs_c2 tx L A_c2 b_c2 ec_c2 ep_c2 naj from ⟨rw_3, f_4, ⟨_, f_5, hL_1⟩, ⟨_, e11_c2, hA_c2⟩, ⟨_, e14_c2, hb_c2⟩, ⟨_, e12_c2, hc_c2⟩, ⟨_, e13_c2, hd_c2⟩, ⟨_, e15_c2, hn_c2⟩, by omega, by omega, by omega, by omega, by omega, by omega⟩), fr_8, f_6, f_7, hI2, by omega, (fun j hj9 => by have q := w2 j hj9; omega), gns_end hb01 hbj1 (by omega) hLV a3 (by omega) qt_c2⟩ hk1 hk2
      · simp only [i_eq, i0] at h5
        refine g_loadA act (gx gp_258 (w := 0xd03) rfl (by decide) rfl) (a := 0) (n := 13) rfl rfl rfl ?_
        refine r_getf act (gx gp_258 (w := 0x3000089001004) rfl (by decide) rfl) (n := 16) (ci := 9) (j := 2) (N := 39) rfl rfl rfl rw_3.1 (by decide) (rw_3.2 (2, 126, 32, 46) (by decide)).1 ?_
        refine g_constI act (gx gp_258 (w := 0x40000001c00000019000000001101) rfl (by decide) rfl) (n := 17) (x := (3 : Int32)) (by decide) rfl ?_
        obtain ⟨x_9, e_10, hx_11⟩ := f_6 3 (by omega)
        refine r_iald act (gx gp_258 (w := 0x121a) rfl (by decide) rfl) (n := 18) (j := 3) rfl (rw_3.2 (2, 126, 32, 46) (by decide)).2 (show (3 : Int32).toInt = ((3 : Nat) : Int) from by decide) (show 3 < 46 by omega) (v := .int x_9) e_10 ?_
        refine g_storeI act (gx gp_258 (w := 0x1001310) rfl (by decide) rfl) (a := 1) (n := 19) rfl rfl (L2 := [some (.ref 124), some (.int x_9)]) rfl ?_
        refine g_loadA act (gx gp_258 (w := 0x1403) rfl (by decide) rfl) (a := 0) (n := 20) rfl rfl rfl ?_
        refine r_getf act (gx gp_258 (w := 0x3000089001704) rfl (by decide) rfl) (n := 23) (ci := 9) (j := 2) (N := 39) rfl rfl rfl rw_3.1 (by decide) (rw_3.2 (2, 126, 32, 46) (by decide)).1 ?_
        refine g_constI act (gx gp_258 (w := 0x40000008c00000089000000001901) rfl (by decide) rfl) (n := 25) (x := (17 : Int32)) (by decide) rfl ?_
        refine g_loadI act (gx gp_258 (w := 0x1001a02) rfl (by decide) rfl) (a := 1) (n := 26) rfl rfl rfl ?_
        refine g_iadd act (gx gp_258 (w := 0x1b0a) rfl (by decide) rfl) (n := 27) rfl ?_
        have v_12 := iv_addN (show (17 : Int32).toInt = ((17 : Nat) : Int) from by decide) (hx_11.trans a3) (show (17 + ngj) < 2147483648 by omega)
        refine g_loadA act (gx gp_258 (w := 0x1c03) rfl (by decide) rfl) (a := 0) (n := 28) rfl rfl rfl ?_
        refine n_call tb_pres act hEnd (gx (P := G_call) gp_258 (w := 0xa000000000000c04110000f3001f0f) rfl (by decide) rfl) (d' := D_243) rfl (as := [.ref 124]) (rest := [.int ((17 : Int32) + x_9), .ref 126]) (bx_node (show PSX hs_c2 tx L A_c2 b_c2 ec_c2 ep_c2 naj from ⟨rw_3, f_4, ⟨_, f_5, hL_1⟩, ⟨_, e11_c2, hA_c2⟩, ⟨_, e14_c2, hb_c2⟩, ⟨_, e12_c2, hc_c2⟩, ⟨_, e13_c2, hd_c2⟩, ⟨_, e15_c2, hn_c2⟩, by omega, by omega, by omega, by omega, by omega, by omega⟩) f_6 (by omega) (by omega)) (show (1 : Nat) = fb 0xa000000000000c04110000f3001f0f % 16 by decide) (by show (1 : Nat) ≤ 1; decide) (fun _ => ⟨_, _, rfl, _, shp_at rw_3.1, Or.inr (show fb 0xa000000000000c04110000f3001f0f >>> 68 = 10 by decide)⟩) (by omega) (by show 8 + (1 + 11) + 47 ≤ R.locals; omega) (by show (2 : Nat) ≤ 8; decide) (by show kc + 0 ≤ _; omega) (by show ks + 0 ≤ _; omega) (fun r9 hs_c13 hpo hr9 => ?_) (fun x9 hs9 hx9 hpo => ?_)
        · obtain ⟨-, A_c13, b_c13, ec_c13, ep_c13, na_c13, rv_c13, rfl, hP_c13, fr_c13, q7_c13, q8_c13, q9_c13, q10_c13, q11_c13, qr_c13⟩ := hpo
          try replace q8_c13 := q8_c13 (by omega)
          have rw_14 := rw_3.fr fr_c13 WP_rw
          have f_15 := f_4.fr (fun j9 _ => fr_c13.2.2 130 j9 (by unfold WP; omega))
          have f_16 := rd_fr fr_c13 f_5 (by unfold WP; omega)
          have f_17 := f_6.fr (fun j9 _ => fr_c13.2.2 126 j9 (by unfold WP; omega))
          have f_18 := f_7.fr (fun j9 _ => fr_c13.2.2 128 j9 (by unfold WP; omega))
          have fr_19 := fr_8.tr (fr_c13.mono (fun k9 j9 h9 => by unfold WP at h9; unfold WRd; omega))
          obtain ⟨-, -, -, ⟨A9_c13, e11_c13, hA_c13⟩, ⟨b9_c13, e14_c13, hb_c13⟩, ⟨c9_c13, e12_c13, hc_c13⟩, ⟨d9_c13, e13_c13, hd_c13⟩, ⟨f9_c13, e15_c13, hn_c13⟩, -, -, q3_c13, q4_c13, q5_c13, q6_c13⟩ := hP_c13
          clear rw_3 f_4 f_5 f_6 f_7 e11_c2 e14_c2 e12_c2 e13_c2 e15_c2 fr_8
          show WpN (gp g0 wp) CLS p l e R s m args below meth c Q D_258.2.2.1 kc0 ks0 31 [some (.ref 124), some (.int x_9)] (hs_c13, kc, ks) [.int rv_c13, .int ((17 : Int32) + x_9), .ref 126]
          refine r_iast act (gx gp_258 (w := 0x2024) rfl (by decide) rfl) (n := 32) (j := (17 + ngj)) rfl (rw_14.2 (2, 126, 32, 46) (by decide)).2 v_12 (show (17 + ngj) < 46 by omega) ?_
          have rw_20 := RW.wr (k := 126) (j := (17 + ngj)) (v := .int rv_c13) rw_14 (Or.inl (by decide))
          have f_21 := f_15.ne (k := 126) (j := (17 + ngj)) (v := .int rv_c13) (by decide)
          have f_22 := (rd_ne hs_c13 (k := 126) (j := (17 + ngj)) (.int rv_c13) (Or.inl (by decide))).trans f_16
          have f_23 := f_17.put (j := (17 + ngj)) (rw_14.2 (2, 126, 32, 46) (by decide)).2 (rfl : Int32.toInt rv_c13 = _)
          have f_24 := f_18.ne (k := 126) (j := (17 + ngj)) (v := .int rv_c13) (by decide)
          have f_25 := (rd_ne hs_c13 (k := 126) (j := (17 + ngj)) (.int rv_c13) (Or.inl (by decide))).trans e11_c13
          have f_26 := (rd_ne hs_c13 (k := 126) (j := (17 + ngj)) (.int rv_c13) (Or.inl (by decide))).trans e14_c13
          have f_27 := (rd_ne hs_c13 (k := 126) (j := (17 + ngj)) (.int rv_c13) (Or.inl (by decide))).trans e12_c13
          have f_28 := (rd_ne hs_c13 (k := 126) (j := (17 + ngj)) (.int rv_c13) (Or.inl (by decide))).trans e13_c13
          have f_29 := (rd_ne hs_c13 (k := 126) (j := (17 + ngj)) (.int rv_c13) (Or.inl (by decide))).trans e15_c13
          have fr_30 := fr_19.wr (k := 126) (j := (17 + ngj)) (.int rv_c13) (by unfold WRd; omega)
          clear rw_14 fr_19 f_15 f_16 f_17 f_18 e11_c13 e14_c13 e12_c13 e13_c13 e15_c13
          generalize (wr hs_c13 126 (17 + ngj) (.int rv_c13)) = hs_31 at *
          refine g_loadA act (gx gp_258 (w := 0x2103) rfl (by decide) rfl) (a := 0) (n := 33) rfl rfl rfl ?_
          refine r_getf act (gx gp_258 (w := 0x3000109002404) rfl (by decide) rfl) (n := 36) (ci := 9) (j := 4) (N := 39) rfl rfl rfl rw_20.1 (by decide) (rw_20.2 (4, 128, 32, 39) (by decide)).1 ?_
          refine g_constI act (gx gp_258 (w := 0x40000006400000061000000002601) rfl (by decide) rfl) (n := 38) (x := (12 : Int32)) (by decide) rfl ?_
          refine g_loadI act (gx gp_258 (w := 0x1002702) rfl (by decide) rfl) (a := 1) (n := 39) rfl rfl rfl ?_
          refine g_iadd act (gx gp_258 (w := 0x280a) rfl (by decide) rfl) (n := 40) rfl ?_
          have v_32 := iv_addN (show (12 : Int32).toInt = ((12 : Nat) : Int) from by decide) (hx_11.trans a3) (show (12 + ngj) < 2147483648 by omega)
          refine g_loadA act (gx gp_258 (w := 0x2903) rfl (by decide) rfl) (a := 0) (n := 41) rfl rfl rfl ?_
          refine g_constI act (gx gp_258 (w := 0x40000000400000001000000002a01) rfl (by decide) rfl) (n := 42) (x := (0 : Int32)) (by decide) rfl ?_
          refine g_constI act (gx gp_258 (w := 0x40000031c00000319000000002c01) rfl (by decide) rfl) (n := 44) (x := (99 : Int32)) (by decide) rfl ?_
          refine n_call tb_pres act hEnd (gx (P := G_call) gp_258 (w := 0xa000000000000c18330000f4002f0f) rfl (by decide) rfl) (d' := D_244) rfl (as := [.ref 124, .int (0 : Int32), .int (99 : Int32)]) (rest := [.int ((12 : Int32) + x_9), .ref 128]) (bx_number (show PSX hs_31 tx L A_c13 b_c13 ec_c13 ep_c13 na_c13 from ⟨rw_20, f_21, ⟨_, f_22, hL_1⟩, ⟨_, f_25, hA_c13⟩, ⟨_, f_26, hb_c13⟩, ⟨_, f_27, hc_c13⟩, ⟨_, f_28, hd_c13⟩, ⟨_, f_29, hn_c13⟩, by omega, by omega, by omega, by omega, by omega, by omega⟩) (show (0 : Int32).toInt = ((0 : Nat) : Int) from by decide) (show (99 : Int32).toInt = ((99 : Nat) : Int) from by decide) (by omega)) (show (3 : Nat) = fb 0xa000000000000c18330000f4002f0f % 16 by decide) (by show (3 : Nat) ≤ 6; decide) (fun _ => ⟨_, _, rfl, _, shp_at rw_20.1, Or.inr (show fb 0xa000000000000c18330000f4002f0f >>> 68 = 10 by decide)⟩) (by omega) (by show 8 + (6 + 11) + 22 ≤ R.locals; omega) (by show (2 : Nat) ≤ 8; decide) (by show kc + 0 ≤ _; omega) (by show ks + 0 ≤ _; omega) (fun r9 hs_c33 hpo hr9 => ?_) (fun x9 hs9 hx9 hpo => ?_)
          · obtain ⟨-, A_c33, b_c33, ec_c33, ep_c33, na_c33, rv_c33, rfl, hP_c33, fr_c33, q7_c33, q8_c33, q9_c33, q10_c33, q11_c33, qr_c33⟩ := hpo
            try replace q8_c33 := q8_c33 (by omega)
            have rw_34 := rw_20.fr fr_c33 WP_rw
            have f_35 := f_21.fr (fun j9 _ => fr_c33.2.2 130 j9 (by unfold WP; omega))
            have f_36 := rd_fr fr_c33 f_22 (by unfold WP; omega)
            have f_37 := f_23.fr (fun j9 _ => fr_c33.2.2 126 j9 (by unfold WP; omega))
            have f_38 := f_24.fr (fun j9 _ => fr_c33.2.2 128 j9 (by unfold WP; omega))
            have fr_39 := fr_30.tr (fr_c33.mono (fun k9 j9 h9 => by unfold WP at h9; unfold WRd; omega))
            obtain ⟨-, -, -, ⟨A9_c33, e11_c33, hA_c33⟩, ⟨b9_c33, e14_c33, hb_c33⟩, ⟨c9_c33, e12_c33, hc_c33⟩, ⟨d9_c33, e13_c33, hd_c33⟩, ⟨f9_c33, e15_c33, hn_c33⟩, -, -, q3_c33, q4_c33, q5_c33, q6_c33⟩ := hP_c33
            clear rw_20 f_21 f_22 f_23 f_24 f_25 f_26 f_27 f_28 f_29 fr_30
            show WpN (gp g0 wp) CLS p l e R s m args below meth c Q D_258.2.2.1 kc0 ks0 47 [some (.ref 124), some (.int x_9)] (hs_c33, kc, ks) [.int rv_c33, .int ((12 : Int32) + x_9), .ref 128]
            refine r_iast act (gx gp_258 (w := 0x3024) rfl (by decide) rfl) (n := 48) (j := (12 + ngj)) rfl (rw_34.2 (4, 128, 32, 39) (by decide)).2 v_32 (show (12 + ngj) < 39 by omega) ?_
            have rw_40 := RW.wr (k := 128) (j := (12 + ngj)) (v := .int rv_c33) rw_34 (Or.inl (by decide))
            have f_41 := f_35.ne (k := 128) (j := (12 + ngj)) (v := .int rv_c33) (by decide)
            have f_42 := (rd_ne hs_c33 (k := 128) (j := (12 + ngj)) (.int rv_c33) (Or.inl (by decide))).trans f_36
            have f_43 := f_37.ne (k := 128) (j := (12 + ngj)) (v := .int rv_c33) (by decide)
            have f_44 := f_38.put (j := (12 + ngj)) (rw_34.2 (4, 128, 32, 39) (by decide)).2 (rfl : Int32.toInt rv_c33 = _)
            have f_45 := (rd_ne hs_c33 (k := 128) (j := (12 + ngj)) (.int rv_c33) (Or.inl (by decide))).trans e11_c33
            have f_46 := (rd_ne hs_c33 (k := 128) (j := (12 + ngj)) (.int rv_c33) (Or.inl (by decide))).trans e14_c33
            have f_47 := (rd_ne hs_c33 (k := 128) (j := (12 + ngj)) (.int rv_c33) (Or.inl (by decide))).trans e12_c33
            have f_48 := (rd_ne hs_c33 (k := 128) (j := (12 + ngj)) (.int rv_c33) (Or.inl (by decide))).trans e13_c33
            have f_49 := (rd_ne hs_c33 (k := 128) (j := (12 + ngj)) (.int rv_c33) (Or.inl (by decide))).trans e15_c33
            have fr_50 := fr_39.wr (k := 128) (j := (12 + ngj)) (.int rv_c33) (by unfold WRd; omega)
            clear rw_34 fr_39 f_35 f_36 f_37 f_38 e11_c33 e14_c33 e12_c33 e13_c33 e15_c33
            generalize (wr hs_c33 128 (12 + ngj) (.int rv_c33)) = hs_51 at *
            refine g_loadA act (gx gp_258 (w := 0x3103) rfl (by decide) rfl) (a := 0) (n := 49) rfl rfl rfl ?_
            refine r_getf act (gx gp_258 (w := 0x3000109003404) rfl (by decide) rfl) (n := 52) (ci := 9) (j := 4) (N := 39) rfl rfl rfl rw_40.1 (by decide) (rw_40.2 (4, 128, 32, 39) (by decide)).1 ?_
            refine g_constI act (gx gp_258 (w := 0x40000008c00000089000000003601) rfl (by decide) rfl) (n := 54) (x := (17 : Int32)) (by decide) rfl ?_
            refine g_loadI act (gx gp_258 (w := 0x1003702) rfl (by decide) rfl) (a := 1) (n := 55) rfl rfl rfl ?_
            refine g_iadd act (gx gp_258 (w := 0x380a) rfl (by decide) rfl) (n := 56) rfl ?_
            have v_52 := iv_addN (show (17 : Int32).toInt = ((17 : Nat) : Int) from by decide) (hx_11.trans a3) (show (17 + ngj) < 2147483648 by omega)
            refine g_loadA act (gx gp_258 (w := 0x3903) rfl (by decide) rfl) (a := 0) (n := 57) rfl rfl rfl ?_
            refine g_constI act (gx gp_258 (w := 0x40000000c00000009000000003a01) rfl (by decide) rfl) (n := 58) (x := (1 : Int32)) (by decide) rfl ?_
            refine g_constI act (gx gp_258 (w := 0x40000064400000641000000003d01) rfl (by decide) rfl) (n := 61) (x := (200 : Int32)) (by decide) rfl ?_
            refine n_call tb_pres act hEnd (gx (P := G_call) gp_258 (w := 0xa000000000000c18330000f400400f) rfl (by decide) rfl) (d' := D_244) rfl (as := [.ref 124, .int (1 : Int32), .int (200 : Int32)]) (rest := [.int ((17 : Int32) + x_9), .ref 128]) (bx_number (show PSX hs_51 tx L A_c33 b_c33 ec_c33 ep_c33 na_c33 from ⟨rw_40, f_41, ⟨_, f_42, hL_1⟩, ⟨_, f_45, hA_c33⟩, ⟨_, f_46, hb_c33⟩, ⟨_, f_47, hc_c33⟩, ⟨_, f_48, hd_c33⟩, ⟨_, f_49, hn_c33⟩, by omega, by omega, by omega, by omega, by omega, by omega⟩) (show (1 : Int32).toInt = ((1 : Nat) : Int) from by decide) (show (200 : Int32).toInt = ((200 : Nat) : Int) from by decide) (by omega)) (show (3 : Nat) = fb 0xa000000000000c18330000f400400f % 16 by decide) (by show (3 : Nat) ≤ 6; decide) (fun _ => ⟨_, _, rfl, _, shp_at rw_40.1, Or.inr (show fb 0xa000000000000c18330000f400400f >>> 68 = 10 by decide)⟩) (by omega) (by show 8 + (6 + 11) + 22 ≤ R.locals; omega) (by show (2 : Nat) ≤ 8; decide) (by show kc + 0 ≤ _; omega) (by show ks + 0 ≤ _; omega) (fun r9 hs_c53 hpo hr9 => ?_) (fun x9 hs9 hx9 hpo => ?_)
            · obtain ⟨-, A_c53, b_c53, ec_c53, ep_c53, na_c53, rv_c53, rfl, hP_c53, fr_c53, q7_c53, q8_c53, q9_c53, q10_c53, q11_c53, qr_c53⟩ := hpo
              try replace q8_c53 := q8_c53 (by omega)
              have rw_54 := rw_40.fr fr_c53 WP_rw
              have f_55 := f_41.fr (fun j9 _ => fr_c53.2.2 130 j9 (by unfold WP; omega))
              have f_56 := rd_fr fr_c53 f_42 (by unfold WP; omega)
              have f_57 := f_43.fr (fun j9 _ => fr_c53.2.2 126 j9 (by unfold WP; omega))
              have f_58 := f_44.fr (fun j9 _ => fr_c53.2.2 128 j9 (by unfold WP; omega))
              have fr_59 := fr_50.tr (fr_c53.mono (fun k9 j9 h9 => by unfold WP at h9; unfold WRd; omega))
              obtain ⟨-, -, -, ⟨A9_c53, e11_c53, hA_c53⟩, ⟨b9_c53, e14_c53, hb_c53⟩, ⟨c9_c53, e12_c53, hc_c53⟩, ⟨d9_c53, e13_c53, hd_c53⟩, ⟨f9_c53, e15_c53, hn_c53⟩, -, -, q3_c53, q4_c53, q5_c53, q6_c53⟩ := hP_c53
              clear rw_40 f_41 f_42 f_43 f_44 f_45 f_46 f_47 f_48 f_49 fr_50
              show WpN (gp g0 wp) CLS p l e R s m args below meth c Q D_258.2.2.1 kc0 ks0 64 [some (.ref 124), some (.int x_9)] (hs_c53, kc, ks) [.int rv_c53, .int ((17 : Int32) + x_9), .ref 128]
              refine r_iast act (gx gp_258 (w := 0x4124) rfl (by decide) rfl) (n := 65) (j := (17 + ngj)) rfl (rw_54.2 (4, 128, 32, 39) (by decide)).2 v_52 (show (17 + ngj) < 39 by omega) ?_
              have rw_60 := RW.wr (k := 128) (j := (17 + ngj)) (v := .int rv_c53) rw_54 (Or.inl (by decide))
              have f_61 := f_55.ne (k := 128) (j := (17 + ngj)) (v := .int rv_c53) (by decide)
              have f_62 := (rd_ne hs_c53 (k := 128) (j := (17 + ngj)) (.int rv_c53) (Or.inl (by decide))).trans f_56
              have f_63 := f_57.ne (k := 128) (j := (17 + ngj)) (v := .int rv_c53) (by decide)
              have f_64 := f_58.put (j := (17 + ngj)) (rw_54.2 (4, 128, 32, 39) (by decide)).2 (rfl : Int32.toInt rv_c53 = _)
              have f_65 := (rd_ne hs_c53 (k := 128) (j := (17 + ngj)) (.int rv_c53) (Or.inl (by decide))).trans e11_c53
              have f_66 := (rd_ne hs_c53 (k := 128) (j := (17 + ngj)) (.int rv_c53) (Or.inl (by decide))).trans e14_c53
              have f_67 := (rd_ne hs_c53 (k := 128) (j := (17 + ngj)) (.int rv_c53) (Or.inl (by decide))).trans e12_c53
              have f_68 := (rd_ne hs_c53 (k := 128) (j := (17 + ngj)) (.int rv_c53) (Or.inl (by decide))).trans e13_c53
              have f_69 := (rd_ne hs_c53 (k := 128) (j := (17 + ngj)) (.int rv_c53) (Or.inl (by decide))).trans e15_c53
              have fr_70 := fr_59.wr (k := 128) (j := (17 + ngj)) (.int rv_c53) (by unfold WRd; omega)
              clear rw_54 fr_59 f_55 f_56 f_57 f_58 e11_c53 e14_c53 e12_c53 e13_c53 e15_c53
              generalize (wr hs_c53 128 (17 + ngj) (.int rv_c53)) = hs_71 at *
              refine g_loadA act (gx gp_258 (w := 0x4203) rfl (by decide) rfl) (a := 0) (n := 66) rfl rfl rfl ?_
              refine n_call tb_pres act hEnd (gx (P := G_call) gp_258 (w := 0xa000000000000804110000c900450f) rfl (by decide) rfl) (d' := D_201) rfl (as := [.ref 124]) (rest := []) (bx_end (show PSX hs_71 tx L A_c53 b_c53 ec_c53 ep_c53 na_c53 from ⟨rw_60, f_61, ⟨_, f_62, hL_1⟩, ⟨_, f_65, hA_c53⟩, ⟨_, f_66, hb_c53⟩, ⟨_, f_67, hc_c53⟩, ⟨_, f_68, hd_c53⟩, ⟨_, f_69, hn_c53⟩, by omega, by omega, by omega, by omega, by omega, by omega⟩) (by omega)) (show (1 : Nat) = fb 0xa000000000000804110000c900450f % 16 by decide) (by show (1 : Nat) ≤ 1; decide) (fun _ => ⟨_, _, rfl, _, shp_at rw_60.1, Or.inr (show fb 0xa000000000000804110000c900450f >>> 68 = 10 by decide)⟩) (by omega) (by show 8 + (1 + 11) + 22 ≤ R.locals; omega) (by show (0 : Nat) ≤ 8; decide) (by show kc + 0 ≤ _; omega) (by show ks + 0 ≤ _; omega) (fun r9 hs_c72 hpo hr9 => ?_) (fun x9 hs9 hx9 hpo => ?_)
              · obtain rfl : r9 = none := hr9.elim (fun q => q.2) (fun q => absurd rfl q.1)
                obtain ⟨-, -, A_c72, b_c72, ec_c72, ep_c72, hP_c72, fr_c72, q7_c72, q8_c72, qr_c72⟩ := hpo
                have rw_73 := rw_60.fr fr_c72 WP_rw
                have f_74 := f_61.fr (fun j9 _ => fr_c72.2.2 130 j9 (by unfold WP; omega))
                have f_75 := rd_fr fr_c72 f_62 (by unfold WP; omega)
                have f_76 := f_63.fr (fun j9 _ => fr_c72.2.2 126 j9 (by unfold WP; omega))
                have f_77 := f_64.fr (fun j9 _ => fr_c72.2.2 128 j9 (by unfold WP; omega))
                have fr_78 := fr_70.tr (fr_c72.mono (fun k9 j9 h9 => by unfold WP at h9; unfold WRd; omega))
                obtain ⟨-, -, -, ⟨A9_c72, e11_c72, hA_c72⟩, ⟨b9_c72, e14_c72, hb_c72⟩, ⟨c9_c72, e12_c72, hc_c72⟩, ⟨d9_c72, e13_c72, hd_c72⟩, ⟨f9_c72, e15_c72, hn_c72⟩, -, -, q3_c72, q4_c72, q5_c72, q6_c72⟩ := hP_c72
                clear rw_60 f_61 f_62 f_63 f_64 f_65 f_66 f_67 f_68 f_69 fr_70
                show WpN (gp g0 wp) CLS p l e R s m args below meth c Q D_258.2.2.1 kc0 ks0 69 [some (.ref 124), some (.int x_9)] (hs_c72, kc, ks) []
                refine g_loadA act (gx gp_258 (w := 0x4603) rfl (by decide) rfl) (a := 0) (n := 70) rfl rfl rfl ?_
                refine r_getf act (gx gp_258 (w := 0x3000089004904) rfl (by decide) rfl) (n := 73) (ci := 9) (j := 2) (N := 39) rfl rfl rfl rw_73.1 (by decide) (rw_73.2 (2, 126, 32, 46) (by decide)).1 ?_
                refine g_constI act (gx gp_258 (w := 0x40000001c00000019000000004a01) rfl (by decide) rfl) (n := 74) (x := (3 : Int32)) (by decide) rfl ?_
                refine g_dup2 act (gx gp_258 (w := 0x4b30) rfl (by decide) rfl) (n := 75) rfl rfl rfl ?_
                obtain ⟨x_79, e_80, hx_81⟩ := f_76 3 (by omega)
                refine r_iald act (gx gp_258 (w := 0x4c1a) rfl (by decide) rfl) (n := 76) (j := 3) rfl (rw_73.2 (2, 126, 32, 46) (by decide)).2 (show (3 : Int32).toInt = ((3 : Nat) : Int) from by decide) (show 3 < 46 by omega) (v := .int x_79) e_80 ?_
                refine g_constI act (gx gp_258 (w := 0x40000000c00000009000000004d01) rfl (by decide) rfl) (n := 77) (x := (1 : Int32)) (by decide) rfl ?_
                refine g_iadd act (gx gp_258 (w := 0x4e0a) rfl (by decide) rfl) (n := 78) rfl ?_
                have v_82 := iv_addN (hx_81.trans (show ((upI fj (17 + ngj) (Int32.toInt rv_c13)) 3) = ((ngj : Nat) : Int) from by simp only [upI, ↓reduceIte]; all_goals omega)) (show (1 : Int32).toInt = ((1 : Nat) : Int) from by decide) (show (ngj + 1) < 2147483648 by omega)
                refine r_iast act (gx gp_258 (w := 0x4f24) rfl (by decide) rfl) (n := 79) (j := 3) rfl (rw_73.2 (2, 126, 32, 46) (by decide)).2 (show (3 : Int32).toInt = ((3 : Nat) : Int) from by decide) (show 3 < 46 by omega) ?_
                have rw_83 := RW.wr (k := 126) (j := 3) (v := .int (x_79 + (1 : Int32))) rw_73 (Or.inl (by decide))
                have f_84 := f_74.ne (k := 126) (j := 3) (v := .int (x_79 + (1 : Int32))) (by decide)
                have f_85 := (rd_ne hs_c72 (k := 126) (j := 3) (.int (x_79 + (1 : Int32))) (Or.inl (by decide))).trans f_75
                have f_86 := f_76.put (j := 3) (rw_73.2 (2, 126, 32, 46) (by decide)).2 v_82
                have f_87 := f_77.ne (k := 126) (j := 3) (v := .int (x_79 + (1 : Int32))) (by decide)
                have f_88 := (rd_ne hs_c72 (k := 126) (j := 3) (.int (x_79 + (1 : Int32))) (Or.inl (by decide))).trans e11_c72
                have f_89 := (rd_ne hs_c72 (k := 126) (j := 3) (.int (x_79 + (1 : Int32))) (Or.inl (by decide))).trans e14_c72
                have f_90 := (rd_ne hs_c72 (k := 126) (j := 3) (.int (x_79 + (1 : Int32))) (Or.inl (by decide))).trans e12_c72
                have f_91 := (rd_ne hs_c72 (k := 126) (j := 3) (.int (x_79 + (1 : Int32))) (Or.inl (by decide))).trans e13_c72
                have f_92 := (rd_ne hs_c72 (k := 126) (j := 3) (.int (x_79 + (1 : Int32))) (Or.inl (by decide))).trans e15_c72
                have fr_93 := fr_78.wr (k := 126) (j := 3) (.int (x_79 + (1 : Int32))) (by unfold WRd; omega)
                clear rw_73 fr_78 f_74 f_75 f_76 f_77 e11_c72 e14_c72 e12_c72 e13_c72 e15_c72
                generalize (wr hs_c72 126 3 (.int (x_79 + (1 : Int32)))) = hs_94 at *
                refine g_goto act (gx gp_258 (w := 0x7) rfl (by decide) rfl) (n := 0) rfl ?_
                have hI2 := fvi_gen (b2 := b_c72) (x := (Int32.toInt rv_c13)) (z := (Int32.toInt rv_c33)) (w := (Int32.toInt rv_c53)) hI (by omega) (by omega) (by omega) (by omega) (by omega)
                have hLV2 := gns_next hb01 hbj1 (by omega) hLV a3 (by omega) qt_c2 (fun qz => gen_ok (ng := ngj) (d := (fj, gj)) qz (NUo.p qr_c13) (NUo.p qr_c33) (NUo.p qr_c53) qr_c72)
                exact n_forget (d := D_258) (L2 := [some (.ref 124), none]) (fun i v hi => by
                  match i, hi with
                  | 0, hi => exact hi
                  | 1, hi => cases hi
                  | i + 2, hi => cases hi) (ih _ (by omega) _ A_c72 b_c72 ec_c72 ep_c72 na_c53 _ _ _ _ _ (show PSX hs_94 tx L A_c72 b_c72 ec_c72 ep_c72 na_c53 from ⟨rw_83, f_84, ⟨_, f_85, hL_1⟩, ⟨_, f_88, hA_c72⟩, ⟨_, f_89, hb_c72⟩, ⟨_, f_90, hc_c72⟩, ⟨_, f_91, hd_c72⟩, ⟨_, f_92, hn_c72⟩, by omega, by omega, by omega, by omega, by omega, by omega⟩) fr_93 f_86 f_87 hI2 (by omega) (fun j hj9 => by have q := w2 j hj9; simp only [upI]; omega) hLV2 rfl)
              · exact absurd hpo.1 (by omega)
            · exact absurd hpo.1 (by omega)
          · exact absurd hpo.1 (by omega)
        · exact absurd hpo.1 (by omega)
    · exact absurd hpo.1 (by omega)
  exact loop hs A b ec ep na fv gv nl ng nr hP (FrS.rf WRd hs) hF hG hI0 (by omega) (fun _ _ => rfl) LVx.rf

theorem bx_readDemands (hP : PSX hs tx L A b ec ep na) (hF : IArr hs 126 46 fv) (hG : IArr hs 128 39 gv) (hI0 : FVI fv gv b nl ng nr) : BodyN SSX TBL g0 CLS bl xs l D_257 4 89 0 0 [.ref 124] hs (fun kd r h2 => kd = 0 ∧ r = none ∧ ∃ (A2 b2 ec2 ep2 na2 : Int) (fv2 gv2 : Nat → Int) (nl2 ng2 nr2 : Nat), PSX h2 tx L A2 b2 ec2 ep2 na2 ∧ FrS WRd hs h2 ∧ IArr h2 126 46 fv2 ∧ IArr h2 128 39 gv2 ∧ FVI fv2 gv2 b2 nl2 ng2 nr2 ∧ b ≤ b2 ∧ (∀ j, (j ≤ 45) → fv2 j = fv j) ∧ LEx tx L b ec ep (sDems tx L 700 (skp tx L A) (fv, gv)) A2 b2 ec2 ep2 (fv2, gv2)) := by
  intro wp p e R s m args below meth c Q kc0 ks0 kc ks act hf hl hc hsl hEnd
  have hf : 4 ≤ R.frames := hf
  have hl : 89 ≤ R.locals := hl
  have hk1 : kc ≤ kc + 0 := by omega
  have hk2 : ks ≤ ks + 0 := by omega
  have hb01 : b = 0 ∨ b = 1 := by
    have hP0 := hP
    obtain ⟨-, -, -, -, -, -, -, -, -, -, -, -, g1, g2⟩ := hP0
    omega
  have loop : ∀ (hj : List CE) (Aj : Int) (bj : Int) (ecj : Int) (epj : Int) (naj : Int) (fj : Nat → Int) (gj : Nat → Int) (nlj : Nat) (ngj : Nat) (nrj : Nat) (fu : Nat), PSX hj tx L Aj bj ecj epj naj → FrS WRd hs hj → IArr hj 126 46 fj → IArr hj 128 39 gj → FVI fj gj bj nlj ngj nrj → b ≤ bj → (∀ j, (j ≤ 45) → fj j = fv j) → LVx b ec ep (sDems tx L 700 (skp tx L A) (fv, gv)) (sDems tx L fu (skp tx L Aj) (fj, gj)) bj ecj epj → (bj = 0 → L - Aj ≤ (fu : Int)) → WpN (gp g0 wp) CLS p l e R s m args below meth c Q D_257.2.2.1 kc0 ks0 0 [some (.ref 124), none, none] (hj, kc, ks) [] := by
    intro hj Aj bj ecj epj naj fj gj nlj ngj nrj fu hPj hfr hFj hGj hI w1 w2 hLV hfu
    generalize hm : (L + 2 - Aj).toNat = m9
    induction m9 using Nat.strongRecOn generalizing hj Aj bj ecj epj naj fj gj nlj ngj nrj fu with
    | _ m9 ih =>
    subst hm
    obtain ⟨rw_1, hT_1, ⟨L9_1, e10_1, hL_1⟩, ⟨A9_1, e11_1, hA_1⟩, ⟨b9_1, e14_1, hb_1⟩, ⟨c9_1, e12_1, hc_1⟩, ⟨d9_1, e13_1, hd_1⟩, ⟨f9_1, e15_1, hn_1⟩, q1_1, q2_1, q3_1, q4_1, q5_1, q6_1⟩ := hPj
    have hI9 := hI
    obtain ⟨a0, a1, a2, a3, a4, a5, a6, a7, a8, a9, a10, a11, a12, a13, a14⟩ := hI9
    have hbj1 : bj = 0 ∨ bj = 1 := by omega
    refine g_loadA act (gx gp_257 (w := 0x103) rfl (by decide) rfl) (a := 0) (n := 1) rfl rfl rfl ?_
    refine g_constL act (gx gp_257 (w := 0x4000000001cc209fa000000000401) rfl (by decide) rfl) (n := 4) (x := (60309823 : Int64)) (by decide) rfl ?_
    refine n_call tb_pres act hEnd (gx (P := G_call) gp_257 (w := 0xa000000000000c0c3200011500070f) rfl (by decide) rfl) (d' := D_277) rfl (as := [.ref 124, .long (60309823 : Int64)]) (rest := []) (bx_takes (n9 := (60309823 : Int64)) (show PSX hj tx L Aj bj ecj epj naj from ⟨rw_1, hT_1, ⟨_, e10_1, hL_1⟩, ⟨_, e11_1, hA_1⟩, ⟨_, e14_1, hb_1⟩, ⟨_, e12_1, hc_1⟩, ⟨_, e13_1, hd_1⟩, ⟨_, e15_1, hn_1⟩, by omega, by omega, by omega, by omega, by omega, by omega⟩) (show (60309823 : Int64).toInt = wDEMAND from by decide) (by decide)) (show (2 : Nat) = fb 0xa000000000000c0c3200011500070f % 16 by decide) (by show (3 : Nat) ≤ 3; decide) (fun _ => ⟨_, _, rfl, _, shp_at rw_1.1, Or.inr (show fb 0xa000000000000c0c3200011500070f >>> 68 = 10 by decide)⟩) (by omega) (by show 8 + (3 + 11) + 67 ≤ R.locals; omega) (by show (0 : Nat) ≤ 8; decide) (by show kc + 0 ≤ _; omega) (by show ks + 0 ≤ _; omega) (fun r9 hs_c2 hpo hr9 => ?_) (fun x9 hs9 hx9 hpo => ?_)
    · obtain ⟨-, A_c2, rv_c2, rfl, hP_c2, fr_c2, q7_c2, q8_c2, q9_c2, qt_c2⟩ := hpo
      first | (replace q8_c2 := q8_c2 (by omega)) | clear q8_c2
      have rw_3 := rw_1.fr fr_c2 WP_rw
      have f_4 := hT_1.fr (fun j9 _ => fr_c2.2.2 130 j9 (by unfold WP; omega))
      have f_5 := rd_fr fr_c2 e10_1 (by unfold WP; omega)
      have f_6 := hFj.fr (fun j9 _ => fr_c2.2.2 126 j9 (by unfold WP; omega))
      have f_7 := hGj.fr (fun j9 _ => fr_c2.2.2 128 j9 (by unfold WP; omega))
      have fr_8 := hfr.tr (fr_c2.mono (fun k9 j9 h9 => by unfold WP at h9; unfold WRd; omega))
      obtain ⟨-, -, -, ⟨A9_c2, e11_c2, hA_c2⟩, ⟨b9_c2, e14_c2, hb_c2⟩, ⟨c9_c2, e12_c2, hc_c2⟩, ⟨d9_c2, e13_c2, hd_c2⟩, ⟨f9_c2, e15_c2, hn_c2⟩, -, -, q3_c2, q4_c2, q5_c2, q6_c2⟩ := hP_c2
      clear rw_1 hT_1 e10_1 e11_1 e14_1 e12_1 e13_1 e15_1 hfr
      show WpN (gp g0 wp) CLS p l e R s m args below meth c Q D_257.2.2.1 kc0 ks0 7 [some (.ref 124), none, none] (hs_c2, kc, ks) [.int rv_c2]
      refine g_ifEq act (gx gp_257 (w := 0x39000a0e) rfl (by decide) rfl) (tgt := 57) (n := 10) rfl rfl (fun h3 => ?_) (fun h3 => ?_)
      · simp only [i_eq, i0] at h3
        have hI2 := hI.bad (b2 := bj) (by omega)
        exact g_retV hEnd (gx gp_257 (w := 0x18) rfl (by decide) rfl) ⟨rfl, rfl, A_c2, bj, ecj, epj, naj, _, _, _, _, _, (show PSX hs_c2 tx L A_c2 bj ecj epj naj from ⟨rw_3, f_4, ⟨_, f_5, hL_1⟩, ⟨_, e11_c2, hA_c2⟩, ⟨_, e14_c2, hb_c2⟩, ⟨_, e12_c2, hc_c2⟩, ⟨_, e13_c2, hd_c2⟩, ⟨_, e15_c2, hn_c2⟩, by omega, by omega, by omega, by omega, by omega, by omega⟩), fr_8, f_6, f_7, hI2, by omega, (fun j hj9 => by have q := w2 j hj9; omega), dms_end hb01 hbj1 hLV (by omega) qt_c2⟩ hk1 hk2
      · simp only [i_eq, i0] at h3
        refine g_loadA act (gx gp_257 (w := 0xb03) rfl (by decide) rfl) (a := 0) (n := 11) rfl rfl rfl ?_
        refine g_constI act (gx gp_257 (w := 0x40000000400000001000000000c01) rfl (by decide) rfl) (n := 12) (x := (0 : Int32)) (by decide) rfl ?_
        refine g_loadA act (gx gp_257 (w := 0xd03) rfl (by decide) rfl) (a := 0) (n := 13) rfl rfl rfl ?_
        refine r_getf act (gx gp_257 (w := 0x3000089001004) rfl (by decide) rfl) (n := 16) (ci := 9) (j := 2) (N := 39) rfl rfl rfl rw_3.1 (by decide) (rw_3.2 (2, 126, 32, 46) (by decide)).1 ?_
        refine g_constI act (gx gp_257 (w := 0x40000000c00000009000000001101) rfl (by decide) rfl) (n := 17) (x := (1 : Int32)) (by decide) rfl ?_
        obtain ⟨x_9, e_10, hx_11⟩ := f_6 1 (by omega)
        refine r_iald act (gx gp_257 (w := 0x121a) rfl (by decide) rfl) (n := 18) (j := 1) rfl (rw_3.2 (2, 126, 32, 46) (by decide)).2 (show (1 : Int32).toInt = ((1 : Nat) : Int) from by decide) (show 1 < 46 by omega) (v := .int x_9) e_10 ?_
        refine g_constI act (gx gp_257 (w := 0x40000000c00000009000000001301) rfl (by decide) rfl) (n := 19) (x := (1 : Int32)) (by decide) rfl ?_
        refine g_isub act (gx gp_257 (w := 0x1426) rfl (by decide) rfl) (n := 20) rfl ?_
        have v_12 := iv_sub hx_11 (show (1 : Int32).toInt = ((1 : Nat) : Int) from by decide) (show -2147483648 ≤ ((fj 1) - ((1 : Nat) : Int)) by omega) (show ((fj 1) - ((1 : Nat) : Int)) < 2147483648 by omega)
        refine n_call tb_pres act hEnd (gx (P := G_call) gp_257 (w := 0xa000000000000c18330000f400170f) rfl (by decide) rfl) (d' := D_244) rfl (as := [.ref 124, .int (0 : Int32), .int (x_9 - (1 : Int32))]) (rest := []) (bx_number (show PSX hs_c2 tx L A_c2 bj ecj epj naj from ⟨rw_3, f_4, ⟨_, f_5, hL_1⟩, ⟨_, e11_c2, hA_c2⟩, ⟨_, e14_c2, hb_c2⟩, ⟨_, e12_c2, hc_c2⟩, ⟨_, e13_c2, hd_c2⟩, ⟨_, e15_c2, hn_c2⟩, by omega, by omega, by omega, by omega, by omega, by omega⟩) (show (0 : Int32).toInt = ((0 : Nat) : Int) from by decide) v_12 (by omega)) (show (3 : Nat) = fb 0xa000000000000c18330000f400170f % 16 by decide) (by show (3 : Nat) ≤ 6; decide) (fun _ => ⟨_, _, rfl, _, shp_at rw_3.1, Or.inr (show fb 0xa000000000000c18330000f400170f >>> 68 = 10 by decide)⟩) (by omega) (by show 8 + (6 + 11) + 22 ≤ R.locals; omega) (by show (0 : Nat) ≤ 8; decide) (by show kc + 0 ≤ _; omega) (by show ks + 0 ≤ _; omega) (fun r9 hs_c13 hpo hr9 => ?_) (fun x9 hs9 hx9 hpo => ?_)
        · obtain ⟨-, A_c13, b_c13, ec_c13, ep_c13, na_c13, rv_c13, rfl, hP_c13, fr_c13, q7_c13, q8_c13, q9_c13, q10_c13, q11_c13, qr_c13⟩ := hpo
          try replace q8_c13 := q8_c13 (by omega)
          have rw_14 := rw_3.fr fr_c13 WP_rw
          have f_15 := f_4.fr (fun j9 _ => fr_c13.2.2 130 j9 (by unfold WP; omega))
          have f_16 := rd_fr fr_c13 f_5 (by unfold WP; omega)
          have f_17 := f_6.fr (fun j9 _ => fr_c13.2.2 126 j9 (by unfold WP; omega))
          have f_18 := f_7.fr (fun j9 _ => fr_c13.2.2 128 j9 (by unfold WP; omega))
          have fr_19 := fr_8.tr (fr_c13.mono (fun k9 j9 h9 => by unfold WP at h9; unfold WRd; omega))
          obtain ⟨-, -, -, ⟨A9_c13, e11_c13, hA_c13⟩, ⟨b9_c13, e14_c13, hb_c13⟩, ⟨c9_c13, e12_c13, hc_c13⟩, ⟨d9_c13, e13_c13, hd_c13⟩, ⟨f9_c13, e15_c13, hn_c13⟩, -, -, q3_c13, q4_c13, q5_c13, q6_c13⟩ := hP_c13
          clear rw_3 f_4 f_5 f_6 f_7 e11_c2 e14_c2 e12_c2 e13_c2 e15_c2 fr_8
          show WpN (gp g0 wp) CLS p l e R s m args below meth c Q D_257.2.2.1 kc0 ks0 23 [some (.ref 124), none, none] (hs_c13, kc, ks) [.int rv_c13]
          refine g_storeI act (gx gp_257 (w := 0x1001810) rfl (by decide) rfl) (a := 1) (n := 24) rfl rfl (L2 := [some (.ref 124), some (.int rv_c13), none]) rfl ?_
          refine g_loadA act (gx gp_257 (w := 0x1903) rfl (by decide) rfl) (a := 0) (n := 25) rfl rfl rfl ?_
          refine n_call tb_pres act hEnd (gx (P := G_call) gp_257 (w := 0xa000000000000c04110000f3001c0f) rfl (by decide) rfl) (d' := D_243) rfl (as := [.ref 124]) (rest := []) (bx_node (show PSX hs_c13 tx L A_c13 b_c13 ec_c13 ep_c13 na_c13 from ⟨rw_14, f_15, ⟨_, f_16, hL_1⟩, ⟨_, e11_c13, hA_c13⟩, ⟨_, e14_c13, hb_c13⟩, ⟨_, e12_c13, hc_c13⟩, ⟨_, e13_c13, hd_c13⟩, ⟨_, e15_c13, hn_c13⟩, by omega, by omega, by omega, by omega, by omega, by omega⟩) f_17 (by omega) (by omega)) (show (1 : Nat) = fb 0xa000000000000c04110000f3001c0f % 16 by decide) (by show (1 : Nat) ≤ 1; decide) (fun _ => ⟨_, _, rfl, _, shp_at rw_14.1, Or.inr (show fb 0xa000000000000c04110000f3001c0f >>> 68 = 10 by decide)⟩) (by omega) (by show 8 + (1 + 11) + 47 ≤ R.locals; omega) (by show (0 : Nat) ≤ 8; decide) (by show kc + 0 ≤ _; omega) (by show ks + 0 ≤ _; omega) (fun r9 hs_c20 hpo hr9 => ?_) (fun x9 hs9 hx9 hpo => ?_)
          · obtain ⟨-, A_c20, b_c20, ec_c20, ep_c20, na_c20, rv_c20, rfl, hP_c20, fr_c20, q7_c20, q8_c20, q9_c20, q10_c20, q11_c20, qr_c20⟩ := hpo
            try replace q8_c20 := q8_c20 (by omega)
            have rw_21 := rw_14.fr fr_c20 WP_rw
            have f_22 := f_15.fr (fun j9 _ => fr_c20.2.2 130 j9 (by unfold WP; omega))
            have f_23 := rd_fr fr_c20 f_16 (by unfold WP; omega)
            have f_24 := f_17.fr (fun j9 _ => fr_c20.2.2 126 j9 (by unfold WP; omega))
            have f_25 := f_18.fr (fun j9 _ => fr_c20.2.2 128 j9 (by unfold WP; omega))
            have fr_26 := fr_19.tr (fr_c20.mono (fun k9 j9 h9 => by unfold WP at h9; unfold WRd; omega))
            obtain ⟨-, -, -, ⟨A9_c20, e11_c20, hA_c20⟩, ⟨b9_c20, e14_c20, hb_c20⟩, ⟨c9_c20, e12_c20, hc_c20⟩, ⟨d9_c20, e13_c20, hd_c20⟩, ⟨f9_c20, e15_c20, hn_c20⟩, -, -, q3_c20, q4_c20, q5_c20, q6_c20⟩ := hP_c20
            clear rw_14 f_15 f_16 f_17 f_18 e11_c13 e14_c13 e12_c13 e13_c13 e15_c13 fr_19
            show WpN (gp g0 wp) CLS p l e R s m args below meth c Q D_257.2.2.1 kc0 ks0 28 [some (.ref 124), some (.int rv_c13), none] (hs_c20, kc, ks) [.int rv_c20]
            refine g_storeI act (gx gp_257 (w := 0x2001d10) rfl (by decide) rfl) (a := 2) (n := 29) rfl rfl (L2 := [some (.ref 124), some (.int rv_c13), some (.int rv_c20)]) rfl ?_
            refine g_loadA act (gx gp_257 (w := 0x1e03) rfl (by decide) rfl) (a := 0) (n := 30) rfl rfl rfl ?_
            refine r_getf act (gx gp_257 (w := 0x3000109002104) rfl (by decide) rfl) (n := 33) (ci := 9) (j := 4) (N := 39) rfl rfl rfl rw_21.1 (by decide) (rw_21.2 (4, 128, 32, 39) (by decide)).1 ?_
            refine g_constI act (gx gp_257 (w := 0x4000000b4000000b1000000002301) rfl (by decide) rfl) (n := 35) (x := (22 : Int32)) (by decide) rfl ?_
            refine g_constI act (gx gp_257 (w := 0x40000002400000021000000002401) rfl (by decide) rfl) (n := 36) (x := (4 : Int32)) (by decide) rfl ?_
            refine g_loadI act (gx gp_257 (w := 0x1002502) rfl (by decide) rfl) (a := 1) (n := 37) rfl rfl rfl ?_
            refine g_imul act (gx gp_257 (w := 0x2611) rfl (by decide) rfl) (n := 38) rfl ?_
            have v_27 := iv_mul (show (4 : Int32).toInt = ((4 : Nat) : Int) from by decide) (rfl : Int32.toInt rv_c13 = _) (show -2147483648 ≤ (((4 : Nat) : Int) * (Int32.toInt rv_c13)) by omega) (show (((4 : Nat) : Int) * (Int32.toInt rv_c13)) < 2147483648 by omega)
            refine g_iadd act (gx gp_257 (w := 0x270a) rfl (by decide) rfl) (n := 39) rfl ?_
            have v_28 := iv_add (show (22 : Int32).toInt = ((22 : Nat) : Int) from by decide) v_27 (show -2147483648 ≤ (((22 : Nat) : Int) + (((4 : Nat) : Int) * (Int32.toInt rv_c13))) by omega) (show (((22 : Nat) : Int) + (((4 : Nat) : Int) * (Int32.toInt rv_c13))) < 2147483648 by omega)
            refine g_loadI act (gx gp_257 (w := 0x2002802) rfl (by decide) rfl) (a := 2) (n := 40) rfl rfl rfl ?_
            refine g_iadd act (gx gp_257 (w := 0x290a) rfl (by decide) rfl) (n := 41) rfl ?_
            have v_29 := iv_add v_28 (rfl : Int32.toInt rv_c20 = _) (show -2147483648 ≤ ((((22 : Nat) : Int) + (((4 : Nat) : Int) * (Int32.toInt rv_c13))) + (Int32.toInt rv_c20)) by omega) (show ((((22 : Nat) : Int) + (((4 : Nat) : Int) * (Int32.toInt rv_c13))) + (Int32.toInt rv_c20)) < 2147483648 by omega)
            refine g_loadA act (gx gp_257 (w := 0x2a03) rfl (by decide) rfl) (a := 0) (n := 42) rfl rfl rfl ?_
            refine g_constI act (gx gp_257 (w := 0x40000000400000001000000002b01) rfl (by decide) rfl) (n := 43) (x := (0 : Int32)) (by decide) rfl ?_
            refine g_constI act (gx gp_257 (w := 0x40000064400000641000000002e01) rfl (by decide) rfl) (n := 46) (x := (200 : Int32)) (by decide) rfl ?_
            refine n_call tb_pres act hEnd (gx (P := G_call) gp_257 (w := 0xa000000000000c18330000f400310f) rfl (by decide) rfl) (d' := D_244) rfl (as := [.ref 124, .int (0 : Int32), .int (200 : Int32)]) (rest := [.int (((22 : Int32) + ((4 : Int32) * rv_c13)) + rv_c20), .ref 128]) (bx_number (show PSX hs_c20 tx L A_c20 b_c20 ec_c20 ep_c20 na_c20 from ⟨rw_21, f_22, ⟨_, f_23, hL_1⟩, ⟨_, e11_c20, hA_c20⟩, ⟨_, e14_c20, hb_c20⟩, ⟨_, e12_c20, hc_c20⟩, ⟨_, e13_c20, hd_c20⟩, ⟨_, e15_c20, hn_c20⟩, by omega, by omega, by omega, by omega, by omega, by omega⟩) (show (0 : Int32).toInt = ((0 : Nat) : Int) from by decide) (show (200 : Int32).toInt = ((200 : Nat) : Int) from by decide) (by omega)) (show (3 : Nat) = fb 0xa000000000000c18330000f400310f % 16 by decide) (by show (3 : Nat) ≤ 6; decide) (fun _ => ⟨_, _, rfl, _, shp_at rw_21.1, Or.inr (show fb 0xa000000000000c18330000f400310f >>> 68 = 10 by decide)⟩) (by omega) (by show 8 + (6 + 11) + 22 ≤ R.locals; omega) (by show (2 : Nat) ≤ 8; decide) (by show kc + 0 ≤ _; omega) (by show ks + 0 ≤ _; omega) (fun r9 hs_c30 hpo hr9 => ?_) (fun x9 hs9 hx9 hpo => ?_)
            · obtain ⟨-, A_c30, b_c30, ec_c30, ep_c30, na_c30, rv_c30, rfl, hP_c30, fr_c30, q7_c30, q8_c30, q9_c30, q10_c30, q11_c30, qr_c30⟩ := hpo
              try replace q8_c30 := q8_c30 (by omega)
              have rw_31 := rw_21.fr fr_c30 WP_rw
              have f_32 := f_22.fr (fun j9 _ => fr_c30.2.2 130 j9 (by unfold WP; omega))
              have f_33 := rd_fr fr_c30 f_23 (by unfold WP; omega)
              have f_34 := f_24.fr (fun j9 _ => fr_c30.2.2 126 j9 (by unfold WP; omega))
              have f_35 := f_25.fr (fun j9 _ => fr_c30.2.2 128 j9 (by unfold WP; omega))
              have fr_36 := fr_26.tr (fr_c30.mono (fun k9 j9 h9 => by unfold WP at h9; unfold WRd; omega))
              obtain ⟨-, -, -, ⟨A9_c30, e11_c30, hA_c30⟩, ⟨b9_c30, e14_c30, hb_c30⟩, ⟨c9_c30, e12_c30, hc_c30⟩, ⟨d9_c30, e13_c30, hd_c30⟩, ⟨f9_c30, e15_c30, hn_c30⟩, -, -, q3_c30, q4_c30, q5_c30, q6_c30⟩ := hP_c30
              clear rw_21 f_22 f_23 f_24 f_25 e11_c20 e14_c20 e12_c20 e13_c20 e15_c20 fr_26
              show WpN (gp g0 wp) CLS p l e R s m args below meth c Q D_257.2.2.1 kc0 ks0 49 [some (.ref 124), some (.int rv_c13), some (.int rv_c20)] (hs_c30, kc, ks) [.int rv_c30, .int (((22 : Int32) + ((4 : Int32) * rv_c13)) + rv_c20), .ref 128]
              obtain ⟨j_37, hj_38⟩ := Int.eq_ofNat_of_zero_le (show (0 : Int) ≤ ((((22 : Nat) : Int) + (((4 : Nat) : Int) * (Int32.toInt rv_c13))) + (Int32.toInt rv_c20)) by omega)
              have ht_j_37 := txn tx hj_38
              refine r_iast act (gx gp_257 (w := 0x3224) rfl (by decide) rfl) (n := 50) (j := j_37) rfl (rw_31.2 (4, 128, 32, 39) (by decide)).2 (v_29.trans hj_38) (show j_37 < 39 by omega) ?_
              have rw_39 := RW.wr (k := 128) (j := j_37) (v := .int rv_c30) rw_31 (Or.inl (by decide))
              have f_40 := f_32.ne (k := 128) (j := j_37) (v := .int rv_c30) (by decide)
              have f_41 := (rd_ne hs_c30 (k := 128) (j := j_37) (.int rv_c30) (Or.inl (by decide))).trans f_33
              have f_42 := f_34.ne (k := 128) (j := j_37) (v := .int rv_c30) (by decide)
              have f_43 := f_35.put (j := j_37) (rw_31.2 (4, 128, 32, 39) (by decide)).2 (rfl : Int32.toInt rv_c30 = _)
              have f_44 := (rd_ne hs_c30 (k := 128) (j := j_37) (.int rv_c30) (Or.inl (by decide))).trans e11_c30
              have f_45 := (rd_ne hs_c30 (k := 128) (j := j_37) (.int rv_c30) (Or.inl (by decide))).trans e14_c30
              have f_46 := (rd_ne hs_c30 (k := 128) (j := j_37) (.int rv_c30) (Or.inl (by decide))).trans e12_c30
              have f_47 := (rd_ne hs_c30 (k := 128) (j := j_37) (.int rv_c30) (Or.inl (by decide))).trans e13_c30
              have f_48 := (rd_ne hs_c30 (k := 128) (j := j_37) (.int rv_c30) (Or.inl (by decide))).trans e15_c30
              have fr_49 := fr_36.wr (k := 128) (j := j_37) (.int rv_c30) (by unfold WRd; omega)
              clear rw_31 fr_36 f_32 f_33 f_34 f_35 e11_c30 e14_c30 e12_c30 e13_c30 e15_c30
              generalize (wr hs_c30 128 j_37 (.int rv_c30)) = hs_50 at *
              refine g_loadA act (gx gp_257 (w := 0x3303) rfl (by decide) rfl) (a := 0) (n := 51) rfl rfl rfl ?_
              refine n_call tb_pres act hEnd (gx (P := G_call) gp_257 (w := 0xa000000000000804110000c900360f) rfl (by decide) rfl) (d' := D_201) rfl (as := [.ref 124]) (rest := []) (bx_end (show PSX hs_50 tx L A_c30 b_c30 ec_c30 ep_c30 na_c30 from ⟨rw_39, f_40, ⟨_, f_41, hL_1⟩, ⟨_, f_44, hA_c30⟩, ⟨_, f_45, hb_c30⟩, ⟨_, f_46, hc_c30⟩, ⟨_, f_47, hd_c30⟩, ⟨_, f_48, hn_c30⟩, by omega, by omega, by omega, by omega, by omega, by omega⟩) (by omega)) (show (1 : Nat) = fb 0xa000000000000804110000c900360f % 16 by decide) (by show (1 : Nat) ≤ 1; decide) (fun _ => ⟨_, _, rfl, _, shp_at rw_39.1, Or.inr (show fb 0xa000000000000804110000c900360f >>> 68 = 10 by decide)⟩) (by omega) (by show 8 + (1 + 11) + 22 ≤ R.locals; omega) (by show (0 : Nat) ≤ 8; decide) (by show kc + 0 ≤ _; omega) (by show ks + 0 ≤ _; omega) (fun r9 hs_c51 hpo hr9 => ?_) (fun x9 hs9 hx9 hpo => ?_)
              · obtain rfl : r9 = none := hr9.elim (fun q => q.2) (fun q => absurd rfl q.1)
                obtain ⟨-, -, A_c51, b_c51, ec_c51, ep_c51, hP_c51, fr_c51, q7_c51, q8_c51, qr_c51⟩ := hpo
                have rw_52 := rw_39.fr fr_c51 WP_rw
                have f_53 := f_40.fr (fun j9 _ => fr_c51.2.2 130 j9 (by unfold WP; omega))
                have f_54 := rd_fr fr_c51 f_41 (by unfold WP; omega)
                have f_55 := f_42.fr (fun j9 _ => fr_c51.2.2 126 j9 (by unfold WP; omega))
                have f_56 := f_43.fr (fun j9 _ => fr_c51.2.2 128 j9 (by unfold WP; omega))
                have fr_57 := fr_49.tr (fr_c51.mono (fun k9 j9 h9 => by unfold WP at h9; unfold WRd; omega))
                obtain ⟨-, -, -, ⟨A9_c51, e11_c51, hA_c51⟩, ⟨b9_c51, e14_c51, hb_c51⟩, ⟨c9_c51, e12_c51, hc_c51⟩, ⟨d9_c51, e13_c51, hd_c51⟩, ⟨f9_c51, e15_c51, hn_c51⟩, -, -, q3_c51, q4_c51, q5_c51, q6_c51⟩ := hP_c51
                clear rw_39 f_40 f_41 f_42 f_43 f_44 f_45 f_46 f_47 f_48 fr_49
                show WpN (gp g0 wp) CLS p l e R s m args below meth c Q D_257.2.2.1 kc0 ks0 54 [some (.ref 124), some (.int rv_c13), some (.int rv_c20)] (hs_c51, kc, ks) []
                refine g_goto act (gx gp_257 (w := 0x7) rfl (by decide) rfl) (n := 0) rfl ?_
                have hI2 := fvi_dem (b2 := b_c51) (w := (Int32.toInt rv_c30)) (i := j_37) hI (by omega) (by omega) (by omega)
                obtain ⟨fu9, hfu9⟩ : ∃ f : Nat, fu = f + 1 := ⟨fu - 1, by omega⟩
                have hLV2 := (show LVx b ec ep _ (sDems tx L fu9 (skp tx L A_c51) (fj, upI gj j_37 (Int32.toInt rv_c30))) b_c51 ec_c51 ep_c51 from by
                  rw [hfu9] at hLV
                  exact dms_next hb01 hbj1 hLV (by omega) qt_c2 (fun qz => by
                    have z9 := dem_ok (d := (fj, gj)) qz (NUo.p qr_c13) (NUo.p qr_c20) (NUo.p qr_c30) qr_c51
                    rw [show (22 + 4 * Int32.toInt rv_c13 + Int32.toInt rv_c20).toNat = j_37 from by omega] at z9
                    exact z9))
                exact n_forget (d := D_257) (L2 := [some (.ref 124), none, none]) (fun i v hi => by
                  match i, hi with
                  | 0, hi => exact hi
                  | 1, hi => cases hi
                  | 2, hi => cases hi
                  | i + 3, hi => cases hi) (ih _ (by omega) _ A_c51 b_c51 ec_c51 ep_c51 na_c30 _ _ _ _ _ fu9 (show PSX hs_c51 tx L A_c51 b_c51 ec_c51 ep_c51 na_c30 from ⟨rw_52, f_53, ⟨_, f_54, hL_1⟩, ⟨_, e11_c51, hA_c51⟩, ⟨_, e14_c51, hb_c51⟩, ⟨_, e12_c51, hc_c51⟩, ⟨_, e13_c51, hd_c51⟩, ⟨_, e15_c51, hn_c51⟩, by omega, by omega, by omega, by omega, by omega, by omega⟩) fr_57 f_55 f_56 hI2 (by omega) (fun j hj9 => by have q := w2 j hj9; omega) hLV2 (fun q9 => by omega) rfl)
              · exact absurd hpo.1 (by omega)
            · exact absurd hpo.1 (by omega)
          · exact absurd hpo.1 (by omega)
        · exact absurd hpo.1 (by omega)
    · exact absurd hpo.1 (by omega)
  exact loop hs A b ec ep na fv gv nl ng nr 700 hP (FrS.rf WRd hs) hF hG hI0 (by omega) (fun _ _ => rfl) LVx.rf (fun q => by
    have hP0 := hP
    obtain ⟨-, -, -, -, -, -, -, -, g1, g2, g3, g4, g5, g6⟩ := hP0
    omega)

theorem bx_readRights (hP : PSX hs tx L A b ec ep na) (hF : IArr hs 126 46 fv) (hG : IArr hs 128 39 gv) (hI0 : FVI fv gv b nl ng nr) : BodyN SSX TBL g0 CLS bl xs l D_262 4 91 0 0 [.ref 124] hs (fun kd r h2 => kd = 0 ∧ r = none ∧ ∃ (A2 b2 ec2 ep2 na2 : Int) (fv2 gv2 : Nat → Int) (nl2 ng2 nr2 : Nat), PSX h2 tx L A2 b2 ec2 ep2 na2 ∧ FrS WRd hs h2 ∧ IArr h2 126 46 fv2 ∧ IArr h2 128 39 gv2 ∧ FVI fv2 gv2 b2 nl2 ng2 nr2 ∧ b ≤ b2 ∧ (∀ j, (j ≤ 3 ∨ (5 ≤ j ∧ j < 22)) → fv2 j = fv j) ∧ LEx tx L b ec ep (sRigs tx L (6 + 1 - nr) (skp tx L A) nr (fv, gv)) A2 b2 ec2 ep2 ((fv2, gv2), nr2)) := by
  intro wp p e R s m args below meth c Q kc0 ks0 kc ks act hf hl hc hsl hEnd
  have hf : 4 ≤ R.frames := hf
  have hl : 91 ≤ R.locals := hl
  have hk1 : kc ≤ kc + 0 := by omega
  have hk2 : ks ≤ ks + 0 := by omega
  have hb01 : b = 0 ∨ b = 1 := by
    have hP0 := hP
    obtain ⟨-, -, -, -, -, -, -, -, -, -, -, -, g1, g2⟩ := hP0
    omega
  have loop : ∀ (hj : List CE) (Aj : Int) (bj : Int) (ecj : Int) (epj : Int) (naj : Int) (fj : Nat → Int) (gj : Nat → Int) (nlj : Nat) (ngj : Nat) (nrj : Nat), PSX hj tx L Aj bj ecj epj naj → FrS WRd hs hj → IArr hj 126 46 fj → IArr hj 128 39 gj → FVI fj gj bj nlj ngj nrj → b ≤ bj → (∀ j, (j ≤ 3 ∨ (5 ≤ j ∧ j < 22)) → fj j = fv j) → LVx b ec ep (sRigs tx L (6 + 1 - nr) (skp tx L A) nr (fv, gv)) (sRigs tx L (6 + 1 - nrj) (skp tx L Aj) nrj (fj, gj)) bj ecj epj → WpN (gp g0 wp) CLS p l e R s m args below meth c Q D_262.2.2.1 kc0 ks0 0 [some (.ref 124), none] (hj, kc, ks) [] := by
    intro hj Aj bj ecj epj naj fj gj nlj ngj nrj hPj hfr hFj hGj hI w1 w2 hLV
    generalize hm : 6 - nrj = m9
    induction m9 using Nat.strongRecOn generalizing hj Aj bj ecj epj naj fj gj nlj ngj nrj with
    | _ m9 ih =>
    subst hm
    obtain ⟨rw_1, hT_1, ⟨L9_1, e10_1, hL_1⟩, ⟨A9_1, e11_1, hA_1⟩, ⟨b9_1, e14_1, hb_1⟩, ⟨c9_1, e12_1, hc_1⟩, ⟨d9_1, e13_1, hd_1⟩, ⟨f9_1, e15_1, hn_1⟩, q1_1, q2_1, q3_1, q4_1, q5_1, q6_1⟩ := hPj
    have hI9 := hI
    obtain ⟨a0, a1, a2, a3, a4, a5, a6, a7, a8, a9, a10, a11, a12, a13, a14⟩ := hI9
    have hbj1 : bj = 0 ∨ bj = 1 := by omega
    refine g_loadA act (gx gp_262 (w := 0x103) rfl (by decide) rfl) (a := 0) (n := 1) rfl rfl rfl ?_
    refine g_constL act (gx gp_262 (w := 0x40000000004a5fe42000000000401) rfl (by decide) rfl) (n := 4) (x := (9748424 : Int64)) (by decide) rfl ?_
    refine g_constI act (gx gp_262 (w := 0x40000002400000021000000000501) rfl (by decide) rfl) (n := 5) (x := (4 : Int32)) (by decide) rfl ?_
    refine g_constI act (gx gp_262 (w := 0x40000003400000031000000000701) rfl (by decide) rfl) (n := 7) (x := (6 : Int32)) (by decide) rfl ?_
    refine n_call tb_pres act hEnd (gx (P := G_call) gp_262 (w := 0xa000000000000c14540000b0000a0f) rfl (by decide) rfl) (d' := D_176) rfl (as := [.ref 124, .long (9748424 : Int64), .int (4 : Int32), .int (6 : Int32)]) (rest := []) (bx_adds (n9 := (9748424 : Int64)) (show PSX hj tx L Aj bj ecj epj naj from ⟨rw_1, hT_1, ⟨_, e10_1, hL_1⟩, ⟨_, e11_1, hA_1⟩, ⟨_, e14_1, hb_1⟩, ⟨_, e12_1, hc_1⟩, ⟨_, e13_1, hd_1⟩, ⟨_, e15_1, hn_1⟩, by omega, by omega, by omega, by omega, by omega, by omega⟩) (show (9748424 : Int64).toInt = wRIGHT from by decide) (by decide) hFj (show (4 : Int32).toInt = ((4 : Nat) : Int) from by decide) (by decide) (show (6 : Int32).toInt = ((6 : Nat) : Int) from by decide)) (show (4 : Nat) = fb 0xa000000000000c14540000b0000a0f % 16 by decide) (by show (5 : Nat) ≤ 5; decide) (fun _ => ⟨_, _, rfl, _, shp_at rw_1.1, Or.inr (show fb 0xa000000000000c14540000b0000a0f >>> 68 = 10 by decide)⟩) (by omega) (by show 8 + (5 + 11) + 67 ≤ R.locals; omega) (by show (0 : Nat) ≤ 8; decide) (by show kc + 0 ≤ _; omega) (by show ks + 0 ≤ _; omega) (fun r9 hs_c2 hpo hr9 => ?_) (fun x9 hs9 hx9 hpo => ?_)
    · obtain ⟨-, A_c2, b_c2, ec_c2, ep_c2, rv_c2, rfl, hP_c2, fr_c2, q7_c2, q8_c2, q9_c2, q10_c2, qt_c2⟩ := hpo
      try replace q8_c2 := q8_c2 (by omega)
      have rw_3 := rw_1.fr fr_c2 WP_rw
      have f_4 := hT_1.fr (fun j9 _ => fr_c2.2.2 130 j9 (by unfold WP; omega))
      have f_5 := rd_fr fr_c2 e10_1 (by unfold WP; omega)
      have f_6 := hFj.fr (fun j9 _ => fr_c2.2.2 126 j9 (by unfold WP; omega))
      have f_7 := hGj.fr (fun j9 _ => fr_c2.2.2 128 j9 (by unfold WP; omega))
      have fr_8 := hfr.tr (fr_c2.mono (fun k9 j9 h9 => by unfold WP at h9; unfold WRd; omega))
      obtain ⟨-, -, -, ⟨A9_c2, e11_c2, hA_c2⟩, ⟨b9_c2, e14_c2, hb_c2⟩, ⟨c9_c2, e12_c2, hc_c2⟩, ⟨d9_c2, e13_c2, hd_c2⟩, ⟨f9_c2, e15_c2, hn_c2⟩, -, -, q3_c2, q4_c2, q5_c2, q6_c2⟩ := hP_c2
      clear rw_1 hT_1 e10_1 e11_1 e14_1 e12_1 e13_1 e15_1 hfr
      show WpN (gp g0 wp) CLS p l e R s m args below meth c Q D_262.2.2.1 kc0 ks0 10 [some (.ref 124), none] (hs_c2, kc, ks) [.int rv_c2]
      refine g_ifEq act (gx gp_262 (w := 0x65000d0e) rfl (by decide) rfl) (tgt := 101) (n := 13) rfl rfl (fun h5 => ?_) (fun h5 => ?_)
      · simp only [i_eq, i0] at h5
        have hI2 := hI.bad (b2 := b_c2) (by omega)
        exact g_retV hEnd (gx gp_262 (w := 0x18) rfl (by decide) rfl) ⟨rfl, rfl, A_c2, b_c2, ec_c2, ep_c2, naj, _, _, _, _, _, (show PSX hs_c2 tx L A_c2 b_c2 ec_c2 ep_c2 naj from ⟨rw_3, f_4, ⟨_, f_5, hL_1⟩, ⟨_, e11_c2, hA_c2⟩, ⟨_, e14_c2, hb_c2⟩, ⟨_, e12_c2, hc_c2⟩, ⟨_, e13_c2, hd_c2⟩, ⟨_, e15_c2, hn_c2⟩, by omega, by omega, by omega, by omega, by omega, by omega⟩), fr_8, f_6, f_7, hI2, by omega, (fun j hj9 => by have q := w2 j hj9; omega), rgs_end hb01 hbj1 (by omega) hLV a4 (by omega) qt_c2⟩ hk1 hk2
      · simp only [i_eq, i0] at h5
        refine g_constI act (gx gp_262 (w := 0x4000000b4000000b1000000000f01) rfl (by decide) rfl) (n := 15) (x := (22 : Int32)) (by decide) rfl ?_
        refine g_constI act (gx gp_262 (w := 0x40000002400000021000000001001) rfl (by decide) rfl) (n := 16) (x := (4 : Int32)) (by decide) rfl ?_
        refine g_loadA act (gx gp_262 (w := 0x1103) rfl (by decide) rfl) (a := 0) (n := 17) rfl rfl rfl ?_
        refine r_getf act (gx gp_262 (w := 0x3000089001404) rfl (by decide) rfl) (n := 20) (ci := 9) (j := 2) (N := 39) rfl rfl rfl rw_3.1 (by decide) (rw_3.2 (2, 126, 32, 46) (by decide)).1 ?_
        refine g_constI act (gx gp_262 (w := 0x40000002400000021000000001501) rfl (by decide) rfl) (n := 21) (x := (4 : Int32)) (by decide) rfl ?_
        obtain ⟨x_9, e_10, hx_11⟩ := f_6 4 (by omega)
        refine r_iald act (gx gp_262 (w := 0x161a) rfl (by decide) rfl) (n := 22) (j := 4) rfl (rw_3.2 (2, 126, 32, 46) (by decide)).2 (show (4 : Int32).toInt = ((4 : Nat) : Int) from by decide) (show 4 < 46 by omega) (v := .int x_9) e_10 ?_
        refine g_imul act (gx gp_262 (w := 0x1711) rfl (by decide) rfl) (n := 23) rfl ?_
        have v_12 := iv_mulN (show (4 : Int32).toInt = ((4 : Nat) : Int) from by decide) (hx_11.trans a4) (show (4 * nrj) < 2147483648 by omega)
        refine g_iadd act (gx gp_262 (w := 0x180a) rfl (by decide) rfl) (n := 24) rfl ?_
        have v_13 := iv_addN (show (22 : Int32).toInt = ((22 : Nat) : Int) from by decide) v_12 (show (22 + (4 * nrj)) < 2147483648 by omega)
        refine g_storeI act (gx gp_262 (w := 0x1001910) rfl (by decide) rfl) (a := 1) (n := 25) rfl rfl (L2 := [some (.ref 124), some (.int ((22 : Int32) + ((4 : Int32) * x_9)))]) rfl ?_
        refine g_loadA act (gx gp_262 (w := 0x1a03) rfl (by decide) rfl) (a := 0) (n := 26) rfl rfl rfl ?_
        refine r_getf act (gx gp_262 (w := 0x3000089001d04) rfl (by decide) rfl) (n := 29) (ci := 9) (j := 2) (N := 39) rfl rfl rfl rw_3.1 (by decide) (rw_3.2 (2, 126, 32, 46) (by decide)).1 ?_
        refine g_loadI act (gx gp_262 (w := 0x1001e02) rfl (by decide) rfl) (a := 1) (n := 30) rfl rfl rfl ?_
        refine g_loadA act (gx gp_262 (w := 0x1f03) rfl (by decide) rfl) (a := 0) (n := 31) rfl rfl rfl ?_
        refine g_constI act (gx gp_262 (w := 0x40000000400000001000000002001) rfl (by decide) rfl) (n := 32) (x := (0 : Int32)) (by decide) rfl ?_
        refine g_constI act (gx gp_262 (w := 0x40000001c00000019000000002101) rfl (by decide) rfl) (n := 33) (x := (3 : Int32)) (by decide) rfl ?_
        refine n_call tb_pres act hEnd (gx (P := G_call) gp_262 (w := 0xa000000000000c18330000f400240f) rfl (by decide) rfl) (d' := D_244) rfl (as := [.ref 124, .int (0 : Int32), .int (3 : Int32)]) (rest := [.int ((22 : Int32) + ((4 : Int32) * x_9)), .ref 126]) (bx_number (show PSX hs_c2 tx L A_c2 b_c2 ec_c2 ep_c2 naj from ⟨rw_3, f_4, ⟨_, f_5, hL_1⟩, ⟨_, e11_c2, hA_c2⟩, ⟨_, e14_c2, hb_c2⟩, ⟨_, e12_c2, hc_c2⟩, ⟨_, e13_c2, hd_c2⟩, ⟨_, e15_c2, hn_c2⟩, by omega, by omega, by omega, by omega, by omega, by omega⟩) (show (0 : Int32).toInt = ((0 : Nat) : Int) from by decide) (show (3 : Int32).toInt = ((3 : Nat) : Int) from by decide) (by omega)) (show (3 : Nat) = fb 0xa000000000000c18330000f400240f % 16 by decide) (by show (3 : Nat) ≤ 6; decide) (fun _ => ⟨_, _, rfl, _, shp_at rw_3.1, Or.inr (show fb 0xa000000000000c18330000f400240f >>> 68 = 10 by decide)⟩) (by omega) (by show 8 + (6 + 11) + 22 ≤ R.locals; omega) (by show (2 : Nat) ≤ 8; decide) (by show kc + 0 ≤ _; omega) (by show ks + 0 ≤ _; omega) (fun r9 hs_c14 hpo hr9 => ?_) (fun x9 hs9 hx9 hpo => ?_)
        · obtain ⟨-, A_c14, b_c14, ec_c14, ep_c14, na_c14, rv_c14, rfl, hP_c14, fr_c14, q7_c14, q8_c14, q9_c14, q10_c14, q11_c14, qr_c14⟩ := hpo
          try replace q8_c14 := q8_c14 (by omega)
          have rw_15 := rw_3.fr fr_c14 WP_rw
          have f_16 := f_4.fr (fun j9 _ => fr_c14.2.2 130 j9 (by unfold WP; omega))
          have f_17 := rd_fr fr_c14 f_5 (by unfold WP; omega)
          have f_18 := f_6.fr (fun j9 _ => fr_c14.2.2 126 j9 (by unfold WP; omega))
          have f_19 := f_7.fr (fun j9 _ => fr_c14.2.2 128 j9 (by unfold WP; omega))
          have fr_20 := fr_8.tr (fr_c14.mono (fun k9 j9 h9 => by unfold WP at h9; unfold WRd; omega))
          obtain ⟨-, -, -, ⟨A9_c14, e11_c14, hA_c14⟩, ⟨b9_c14, e14_c14, hb_c14⟩, ⟨c9_c14, e12_c14, hc_c14⟩, ⟨d9_c14, e13_c14, hd_c14⟩, ⟨f9_c14, e15_c14, hn_c14⟩, -, -, q3_c14, q4_c14, q5_c14, q6_c14⟩ := hP_c14
          clear rw_3 f_4 f_5 f_6 f_7 e11_c2 e14_c2 e12_c2 e13_c2 e15_c2 fr_8
          show WpN (gp g0 wp) CLS p l e R s m args below meth c Q D_262.2.2.1 kc0 ks0 36 [some (.ref 124), some (.int ((22 : Int32) + ((4 : Int32) * x_9)))] (hs_c14, kc, ks) [.int rv_c14, .int ((22 : Int32) + ((4 : Int32) * x_9)), .ref 126]
          refine r_iast act (gx gp_262 (w := 0x2524) rfl (by decide) rfl) (n := 37) (j := (22 + (4 * nrj))) rfl (rw_15.2 (2, 126, 32, 46) (by decide)).2 v_13 (show (22 + (4 * nrj)) < 46 by omega) ?_
          have rw_21 := RW.wr (k := 126) (j := (22 + (4 * nrj))) (v := .int rv_c14) rw_15 (Or.inl (by decide))
          have f_22 := f_16.ne (k := 126) (j := (22 + (4 * nrj))) (v := .int rv_c14) (by decide)
          have f_23 := (rd_ne hs_c14 (k := 126) (j := (22 + (4 * nrj))) (.int rv_c14) (Or.inl (by decide))).trans f_17
          have f_24 := f_18.put (j := (22 + (4 * nrj))) (rw_15.2 (2, 126, 32, 46) (by decide)).2 (rfl : Int32.toInt rv_c14 = _)
          have f_25 := f_19.ne (k := 126) (j := (22 + (4 * nrj))) (v := .int rv_c14) (by decide)
          have f_26 := (rd_ne hs_c14 (k := 126) (j := (22 + (4 * nrj))) (.int rv_c14) (Or.inl (by decide))).trans e11_c14
          have f_27 := (rd_ne hs_c14 (k := 126) (j := (22 + (4 * nrj))) (.int rv_c14) (Or.inl (by decide))).trans e14_c14
          have f_28 := (rd_ne hs_c14 (k := 126) (j := (22 + (4 * nrj))) (.int rv_c14) (Or.inl (by decide))).trans e12_c14
          have f_29 := (rd_ne hs_c14 (k := 126) (j := (22 + (4 * nrj))) (.int rv_c14) (Or.inl (by decide))).trans e13_c14
          have f_30 := (rd_ne hs_c14 (k := 126) (j := (22 + (4 * nrj))) (.int rv_c14) (Or.inl (by decide))).trans e15_c14
          have fr_31 := fr_20.wr (k := 126) (j := (22 + (4 * nrj))) (.int rv_c14) (by unfold WRd; omega)
          clear rw_15 fr_20 f_16 f_17 f_18 f_19 e11_c14 e14_c14 e12_c14 e13_c14 e15_c14
          generalize (wr hs_c14 126 (22 + (4 * nrj)) (.int rv_c14)) = hs_32 at *
          refine g_loadA act (gx gp_262 (w := 0x2603) rfl (by decide) rfl) (a := 0) (n := 38) rfl rfl rfl ?_
          refine r_getf act (gx gp_262 (w := 0x3000089002904) rfl (by decide) rfl) (n := 41) (ci := 9) (j := 2) (N := 39) rfl rfl rfl rw_21.1 (by decide) (rw_21.2 (2, 126, 32, 46) (by decide)).1 ?_
          refine g_loadI act (gx gp_262 (w := 0x1002a02) rfl (by decide) rfl) (a := 1) (n := 42) rfl rfl rfl ?_
          refine g_constI act (gx gp_262 (w := 0x40000000c00000009000000002b01) rfl (by decide) rfl) (n := 43) (x := (1 : Int32)) (by decide) rfl ?_
          refine g_iadd act (gx gp_262 (w := 0x2c0a) rfl (by decide) rfl) (n := 44) rfl ?_
          have v_33 := iv_addN v_13 (show (1 : Int32).toInt = ((1 : Nat) : Int) from by decide) (show ((22 + (4 * nrj)) + 1) < 2147483648 by omega)
          refine g_loadA act (gx gp_262 (w := 0x2d03) rfl (by decide) rfl) (a := 0) (n := 45) rfl rfl rfl ?_
          refine n_call tb_pres act hEnd (gx (P := G_call) gp_262 (w := 0xa000000000000c04110000f300300f) rfl (by decide) rfl) (d' := D_243) rfl (as := [.ref 124]) (rest := [.int (((22 : Int32) + ((4 : Int32) * x_9)) + (1 : Int32)), .ref 126]) (bx_node (show PSX hs_32 tx L A_c14 b_c14 ec_c14 ep_c14 na_c14 from ⟨rw_21, f_22, ⟨_, f_23, hL_1⟩, ⟨_, f_26, hA_c14⟩, ⟨_, f_27, hb_c14⟩, ⟨_, f_28, hc_c14⟩, ⟨_, f_29, hd_c14⟩, ⟨_, f_30, hn_c14⟩, by omega, by omega, by omega, by omega, by omega, by omega⟩) f_24 (by simp only [upI, ↓reduceIte]; all_goals omega) (by simp only [upI, ↓reduceIte]; all_goals omega)) (show (1 : Nat) = fb 0xa000000000000c04110000f300300f % 16 by decide) (by show (1 : Nat) ≤ 1; decide) (fun _ => ⟨_, _, rfl, _, shp_at rw_21.1, Or.inr (show fb 0xa000000000000c04110000f300300f >>> 68 = 10 by decide)⟩) (by omega) (by show 8 + (1 + 11) + 47 ≤ R.locals; omega) (by show (2 : Nat) ≤ 8; decide) (by show kc + 0 ≤ _; omega) (by show ks + 0 ≤ _; omega) (fun r9 hs_c34 hpo hr9 => ?_) (fun x9 hs9 hx9 hpo => ?_)
          · obtain ⟨-, A_c34, b_c34, ec_c34, ep_c34, na_c34, rv_c34, rfl, hP_c34, fr_c34, q7_c34, q8_c34, q9_c34, q10_c34, q11_c34, qr_c34⟩ := hpo
            try replace q8_c34 := q8_c34 (by omega)
            have q13_c34 : ((upI fj (22 + (4 * nrj)) (Int32.toInt rv_c14))) 0 = fj 0 := by
              simp only [upI]
              first | rfl | (repeat rw [if_neg (by omega)])
            rw [q13_c34] at q11_c34 qr_c34
            have rw_35 := rw_21.fr fr_c34 WP_rw
            have f_36 := f_22.fr (fun j9 _ => fr_c34.2.2 130 j9 (by unfold WP; omega))
            have f_37 := rd_fr fr_c34 f_23 (by unfold WP; omega)
            have f_38 := f_24.fr (fun j9 _ => fr_c34.2.2 126 j9 (by unfold WP; omega))
            have f_39 := f_25.fr (fun j9 _ => fr_c34.2.2 128 j9 (by unfold WP; omega))
            have fr_40 := fr_31.tr (fr_c34.mono (fun k9 j9 h9 => by unfold WP at h9; unfold WRd; omega))
            obtain ⟨-, -, -, ⟨A9_c34, e11_c34, hA_c34⟩, ⟨b9_c34, e14_c34, hb_c34⟩, ⟨c9_c34, e12_c34, hc_c34⟩, ⟨d9_c34, e13_c34, hd_c34⟩, ⟨f9_c34, e15_c34, hn_c34⟩, -, -, q3_c34, q4_c34, q5_c34, q6_c34⟩ := hP_c34
            clear rw_21 f_22 f_23 f_24 f_25 f_26 f_27 f_28 f_29 f_30 fr_31
            show WpN (gp g0 wp) CLS p l e R s m args below meth c Q D_262.2.2.1 kc0 ks0 48 [some (.ref 124), some (.int ((22 : Int32) + ((4 : Int32) * x_9)))] (hs_c34, kc, ks) [.int rv_c34, .int (((22 : Int32) + ((4 : Int32) * x_9)) + (1 : Int32)), .ref 126]
            refine r_iast act (gx gp_262 (w := 0x3124) rfl (by decide) rfl) (n := 49) (j := ((22 + (4 * nrj)) + 1)) rfl (rw_35.2 (2, 126, 32, 46) (by decide)).2 v_33 (show ((22 + (4 * nrj)) + 1) < 46 by omega) ?_
            have rw_41 := RW.wr (k := 126) (j := ((22 + (4 * nrj)) + 1)) (v := .int rv_c34) rw_35 (Or.inl (by decide))
            have f_42 := f_36.ne (k := 126) (j := ((22 + (4 * nrj)) + 1)) (v := .int rv_c34) (by decide)
            have f_43 := (rd_ne hs_c34 (k := 126) (j := ((22 + (4 * nrj)) + 1)) (.int rv_c34) (Or.inl (by decide))).trans f_37
            have f_44 := f_38.put (j := ((22 + (4 * nrj)) + 1)) (rw_35.2 (2, 126, 32, 46) (by decide)).2 (rfl : Int32.toInt rv_c34 = _)
            have f_45 := f_39.ne (k := 126) (j := ((22 + (4 * nrj)) + 1)) (v := .int rv_c34) (by decide)
            have f_46 := (rd_ne hs_c34 (k := 126) (j := ((22 + (4 * nrj)) + 1)) (.int rv_c34) (Or.inl (by decide))).trans e11_c34
            have f_47 := (rd_ne hs_c34 (k := 126) (j := ((22 + (4 * nrj)) + 1)) (.int rv_c34) (Or.inl (by decide))).trans e14_c34
            have f_48 := (rd_ne hs_c34 (k := 126) (j := ((22 + (4 * nrj)) + 1)) (.int rv_c34) (Or.inl (by decide))).trans e12_c34
            have f_49 := (rd_ne hs_c34 (k := 126) (j := ((22 + (4 * nrj)) + 1)) (.int rv_c34) (Or.inl (by decide))).trans e13_c34
            have f_50 := (rd_ne hs_c34 (k := 126) (j := ((22 + (4 * nrj)) + 1)) (.int rv_c34) (Or.inl (by decide))).trans e15_c34
            have fr_51 := fr_40.wr (k := 126) (j := ((22 + (4 * nrj)) + 1)) (.int rv_c34) (by unfold WRd; omega)
            clear rw_35 fr_40 f_36 f_37 f_38 f_39 e11_c34 e14_c34 e12_c34 e13_c34 e15_c34
            generalize (wr hs_c34 126 ((22 + (4 * nrj)) + 1) (.int rv_c34)) = hs_52 at *
            refine g_loadA act (gx gp_262 (w := 0x3203) rfl (by decide) rfl) (a := 0) (n := 50) rfl rfl rfl ?_
            refine r_getf act (gx gp_262 (w := 0x3000089003504) rfl (by decide) rfl) (n := 53) (ci := 9) (j := 2) (N := 39) rfl rfl rfl rw_41.1 (by decide) (rw_41.2 (2, 126, 32, 46) (by decide)).1 ?_
            refine g_loadI act (gx gp_262 (w := 0x1003602) rfl (by decide) rfl) (a := 1) (n := 54) rfl rfl rfl ?_
            refine g_constI act (gx gp_262 (w := 0x40000001400000011000000003701) rfl (by decide) rfl) (n := 55) (x := (2 : Int32)) (by decide) rfl ?_
            refine g_iadd act (gx gp_262 (w := 0x380a) rfl (by decide) rfl) (n := 56) rfl ?_
            have v_53 := iv_addN v_13 (show (2 : Int32).toInt = ((2 : Nat) : Int) from by decide) (show ((22 + (4 * nrj)) + 2) < 2147483648 by omega)
            refine g_loadA act (gx gp_262 (w := 0x3903) rfl (by decide) rfl) (a := 0) (n := 57) rfl rfl rfl ?_
            refine g_loadA act (gx gp_262 (w := 0x3a03) rfl (by decide) rfl) (a := 0) (n := 58) rfl rfl rfl ?_
            refine r_getf act (gx gp_262 (w := 0x3000089003d04) rfl (by decide) rfl) (n := 61) (ci := 9) (j := 2) (N := 39) rfl rfl rfl rw_41.1 (by decide) (rw_41.2 (2, 126, 32, 46) (by decide)).1 ?_
            refine g_loadI act (gx gp_262 (w := 0x1003e02) rfl (by decide) rfl) (a := 1) (n := 62) rfl rfl rfl ?_
            refine g_constI act (gx gp_262 (w := 0x40000000c00000009000000003f01) rfl (by decide) rfl) (n := 63) (x := (1 : Int32)) (by decide) rfl ?_
            refine g_iadd act (gx gp_262 (w := 0x400a) rfl (by decide) rfl) (n := 64) rfl ?_
            have v_54 := iv_addN v_13 (show (1 : Int32).toInt = ((1 : Nat) : Int) from by decide) (show ((22 + (4 * nrj)) + 1) < 2147483648 by omega)
            obtain ⟨x_55, e_56, hx_57⟩ := f_44 ((22 + (4 * nrj)) + 1) (by omega)
            refine r_iald act (gx gp_262 (w := 0x411a) rfl (by decide) rfl) (n := 65) (j := ((22 + (4 * nrj)) + 1)) rfl (rw_41.2 (2, 126, 32, 46) (by decide)).2 v_54 (show ((22 + (4 * nrj)) + 1) < 46 by omega) (v := .int x_55) e_56 ?_
            refine n_call tb_pres act hEnd (gx (P := G_call) gp_262 (w := 0xa000000000000c0c220000f500440f) rfl (by decide) rfl) (d' := D_245) rfl (as := [.ref 124, .int x_55]) (rest := [.int (((22 : Int32) + ((4 : Int32) * x_9)) + (2 : Int32)), .ref 126]) (bx_other (show PSX hs_52 tx L A_c34 b_c34 ec_c34 ep_c34 na_c34 from ⟨rw_41, f_42, ⟨_, f_43, hL_1⟩, ⟨_, f_46, hA_c34⟩, ⟨_, f_47, hb_c34⟩, ⟨_, f_48, hc_c34⟩, ⟨_, f_49, hd_c34⟩, ⟨_, f_50, hn_c34⟩, by omega, by omega, by omega, by omega, by omega, by omega⟩) f_44 (hx_57.trans (show ((upI (upI fj (22 + (4 * nrj)) (Int32.toInt rv_c14)) ((22 + (4 * nrj)) + 1) (Int32.toInt rv_c34)) ((22 + (4 * nrj)) + 1)) = (Int32.toInt rv_c34) from by simp only [upI, ↓reduceIte]; all_goals omega)) (by simp only [upI, ↓reduceIte]; all_goals omega) (by simp only [upI, ↓reduceIte]; all_goals omega)) (show (2 : Nat) = fb 0xa000000000000c0c220000f500440f % 16 by decide) (by show (2 : Nat) ≤ 3; decide) (fun _ => ⟨_, _, rfl, _, shp_at rw_41.1, Or.inr (show fb 0xa000000000000c0c220000f500440f >>> 68 = 10 by decide)⟩) (by omega) (by show 8 + (3 + 11) + 67 ≤ R.locals; omega) (by show (2 : Nat) ≤ 8; decide) (by show kc + 0 ≤ _; omega) (by show ks + 0 ≤ _; omega) (fun r9 hs_c58 hpo hr9 => ?_) (fun x9 hs9 hx9 hpo => ?_)
            · obtain ⟨-, A_c58, b_c58, ec_c58, ep_c58, na_c58, rv_c58, rfl, hP_c58, fr_c58, q7_c58, q8_c58, q9_c58, q10_c58, q11_c58, qr_c58⟩ := hpo
              try replace q8_c58 := q8_c58 (by omega)
              have q12_c58 : NE9 b_c58 (Int32.toInt rv_c58) (Int32.toInt rv_c34) := oth_ne (by omega) (by omega) qr_c58
              have q13_c58 : ((upI (upI fj (22 + (4 * nrj)) (Int32.toInt rv_c14)) ((22 + (4 * nrj)) + 1) (Int32.toInt rv_c34))) 0 = fj 0 := by
                simp only [upI]
                first | rfl | (repeat rw [if_neg (by omega)])
              rw [q13_c58] at q11_c58 qr_c58
              have rw_59 := rw_41.fr fr_c58 WP_rw
              have f_60 := f_42.fr (fun j9 _ => fr_c58.2.2 130 j9 (by unfold WP; omega))
              have f_61 := rd_fr fr_c58 f_43 (by unfold WP; omega)
              have f_62 := f_44.fr (fun j9 _ => fr_c58.2.2 126 j9 (by unfold WP; omega))
              have f_63 := f_45.fr (fun j9 _ => fr_c58.2.2 128 j9 (by unfold WP; omega))
              have fr_64 := fr_51.tr (fr_c58.mono (fun k9 j9 h9 => by unfold WP at h9; unfold WRd; omega))
              obtain ⟨-, -, -, ⟨A9_c58, e11_c58, hA_c58⟩, ⟨b9_c58, e14_c58, hb_c58⟩, ⟨c9_c58, e12_c58, hc_c58⟩, ⟨d9_c58, e13_c58, hd_c58⟩, ⟨f9_c58, e15_c58, hn_c58⟩, -, -, q3_c58, q4_c58, q5_c58, q6_c58⟩ := hP_c58
              clear rw_41 f_42 f_43 f_44 f_45 f_46 f_47 f_48 f_49 f_50 fr_51
              show WpN (gp g0 wp) CLS p l e R s m args below meth c Q D_262.2.2.1 kc0 ks0 68 [some (.ref 124), some (.int ((22 : Int32) + ((4 : Int32) * x_9)))] (hs_c58, kc, ks) [.int rv_c58, .int (((22 : Int32) + ((4 : Int32) * x_9)) + (2 : Int32)), .ref 126]
              refine r_iast act (gx gp_262 (w := 0x4524) rfl (by decide) rfl) (n := 69) (j := ((22 + (4 * nrj)) + 2)) rfl (rw_59.2 (2, 126, 32, 46) (by decide)).2 v_53 (show ((22 + (4 * nrj)) + 2) < 46 by omega) ?_
              have rw_65 := RW.wr (k := 126) (j := ((22 + (4 * nrj)) + 2)) (v := .int rv_c58) rw_59 (Or.inl (by decide))
              have f_66 := f_60.ne (k := 126) (j := ((22 + (4 * nrj)) + 2)) (v := .int rv_c58) (by decide)
              have f_67 := (rd_ne hs_c58 (k := 126) (j := ((22 + (4 * nrj)) + 2)) (.int rv_c58) (Or.inl (by decide))).trans f_61
              have f_68 := f_62.put (j := ((22 + (4 * nrj)) + 2)) (rw_59.2 (2, 126, 32, 46) (by decide)).2 (rfl : Int32.toInt rv_c58 = _)
              have f_69 := f_63.ne (k := 126) (j := ((22 + (4 * nrj)) + 2)) (v := .int rv_c58) (by decide)
              have f_70 := (rd_ne hs_c58 (k := 126) (j := ((22 + (4 * nrj)) + 2)) (.int rv_c58) (Or.inl (by decide))).trans e11_c58
              have f_71 := (rd_ne hs_c58 (k := 126) (j := ((22 + (4 * nrj)) + 2)) (.int rv_c58) (Or.inl (by decide))).trans e14_c58
              have f_72 := (rd_ne hs_c58 (k := 126) (j := ((22 + (4 * nrj)) + 2)) (.int rv_c58) (Or.inl (by decide))).trans e12_c58
              have f_73 := (rd_ne hs_c58 (k := 126) (j := ((22 + (4 * nrj)) + 2)) (.int rv_c58) (Or.inl (by decide))).trans e13_c58
              have f_74 := (rd_ne hs_c58 (k := 126) (j := ((22 + (4 * nrj)) + 2)) (.int rv_c58) (Or.inl (by decide))).trans e15_c58
              have fr_75 := fr_64.wr (k := 126) (j := ((22 + (4 * nrj)) + 2)) (.int rv_c58) (by unfold WRd; omega)
              clear rw_59 fr_64 f_60 f_61 f_62 f_63 e11_c58 e14_c58 e12_c58 e13_c58 e15_c58
              generalize (wr hs_c58 126 ((22 + (4 * nrj)) + 2) (.int rv_c58)) = hs_76 at *
              refine g_loadA act (gx gp_262 (w := 0x4603) rfl (by decide) rfl) (a := 0) (n := 70) rfl rfl rfl ?_
              refine r_getf act (gx gp_262 (w := 0x3000089004904) rfl (by decide) rfl) (n := 73) (ci := 9) (j := 2) (N := 39) rfl rfl rfl rw_65.1 (by decide) (rw_65.2 (2, 126, 32, 46) (by decide)).1 ?_
              refine g_loadI act (gx gp_262 (w := 0x1004a02) rfl (by decide) rfl) (a := 1) (n := 74) rfl rfl rfl ?_
              refine g_constI act (gx gp_262 (w := 0x40000001c00000019000000004b01) rfl (by decide) rfl) (n := 75) (x := (3 : Int32)) (by decide) rfl ?_
              refine g_iadd act (gx gp_262 (w := 0x4c0a) rfl (by decide) rfl) (n := 76) rfl ?_
              have v_77 := iv_addN v_13 (show (3 : Int32).toInt = ((3 : Nat) : Int) from by decide) (show ((22 + (4 * nrj)) + 3) < 2147483648 by omega)
              refine g_loadA act (gx gp_262 (w := 0x4d03) rfl (by decide) rfl) (a := 0) (n := 77) rfl rfl rfl ?_
              refine g_constI act (gx gp_262 (w := 0x40000000c00000009000000004e01) rfl (by decide) rfl) (n := 78) (x := (1 : Int32)) (by decide) rfl ?_
              refine g_constI act (gx gp_262 (w := 0x40000032400000321000000005001) rfl (by decide) rfl) (n := 80) (x := (100 : Int32)) (by decide) rfl ?_
              refine n_call tb_pres act hEnd (gx (P := G_call) gp_262 (w := 0xa000000000000c18330000f400530f) rfl (by decide) rfl) (d' := D_244) rfl (as := [.ref 124, .int (1 : Int32), .int (100 : Int32)]) (rest := [.int (((22 : Int32) + ((4 : Int32) * x_9)) + (3 : Int32)), .ref 126]) (bx_number (show PSX hs_76 tx L A_c58 b_c58 ec_c58 ep_c58 na_c58 from ⟨rw_65, f_66, ⟨_, f_67, hL_1⟩, ⟨_, f_70, hA_c58⟩, ⟨_, f_71, hb_c58⟩, ⟨_, f_72, hc_c58⟩, ⟨_, f_73, hd_c58⟩, ⟨_, f_74, hn_c58⟩, by omega, by omega, by omega, by omega, by omega, by omega⟩) (show (1 : Int32).toInt = ((1 : Nat) : Int) from by decide) (show (100 : Int32).toInt = ((100 : Nat) : Int) from by decide) (by omega)) (show (3 : Nat) = fb 0xa000000000000c18330000f400530f % 16 by decide) (by show (3 : Nat) ≤ 6; decide) (fun _ => ⟨_, _, rfl, _, shp_at rw_65.1, Or.inr (show fb 0xa000000000000c18330000f400530f >>> 68 = 10 by decide)⟩) (by omega) (by show 8 + (6 + 11) + 22 ≤ R.locals; omega) (by show (2 : Nat) ≤ 8; decide) (by show kc + 0 ≤ _; omega) (by show ks + 0 ≤ _; omega) (fun r9 hs_c78 hpo hr9 => ?_) (fun x9 hs9 hx9 hpo => ?_)
              · obtain ⟨-, A_c78, b_c78, ec_c78, ep_c78, na_c78, rv_c78, rfl, hP_c78, fr_c78, q7_c78, q8_c78, q9_c78, q10_c78, q11_c78, qr_c78⟩ := hpo
                try replace q8_c78 := q8_c78 (by omega)
                have rw_79 := rw_65.fr fr_c78 WP_rw
                have f_80 := f_66.fr (fun j9 _ => fr_c78.2.2 130 j9 (by unfold WP; omega))
                have f_81 := rd_fr fr_c78 f_67 (by unfold WP; omega)
                have f_82 := f_68.fr (fun j9 _ => fr_c78.2.2 126 j9 (by unfold WP; omega))
                have f_83 := f_69.fr (fun j9 _ => fr_c78.2.2 128 j9 (by unfold WP; omega))
                have fr_84 := fr_75.tr (fr_c78.mono (fun k9 j9 h9 => by unfold WP at h9; unfold WRd; omega))
                obtain ⟨-, -, -, ⟨A9_c78, e11_c78, hA_c78⟩, ⟨b9_c78, e14_c78, hb_c78⟩, ⟨c9_c78, e12_c78, hc_c78⟩, ⟨d9_c78, e13_c78, hd_c78⟩, ⟨f9_c78, e15_c78, hn_c78⟩, -, -, q3_c78, q4_c78, q5_c78, q6_c78⟩ := hP_c78
                clear rw_65 f_66 f_67 f_68 f_69 f_70 f_71 f_72 f_73 f_74 fr_75
                show WpN (gp g0 wp) CLS p l e R s m args below meth c Q D_262.2.2.1 kc0 ks0 83 [some (.ref 124), some (.int ((22 : Int32) + ((4 : Int32) * x_9)))] (hs_c78, kc, ks) [.int rv_c78, .int (((22 : Int32) + ((4 : Int32) * x_9)) + (3 : Int32)), .ref 126]
                refine r_iast act (gx gp_262 (w := 0x5424) rfl (by decide) rfl) (n := 84) (j := ((22 + (4 * nrj)) + 3)) rfl (rw_79.2 (2, 126, 32, 46) (by decide)).2 v_77 (show ((22 + (4 * nrj)) + 3) < 46 by omega) ?_
                have rw_85 := RW.wr (k := 126) (j := ((22 + (4 * nrj)) + 3)) (v := .int rv_c78) rw_79 (Or.inl (by decide))
                have f_86 := f_80.ne (k := 126) (j := ((22 + (4 * nrj)) + 3)) (v := .int rv_c78) (by decide)
                have f_87 := (rd_ne hs_c78 (k := 126) (j := ((22 + (4 * nrj)) + 3)) (.int rv_c78) (Or.inl (by decide))).trans f_81
                have f_88 := f_82.put (j := ((22 + (4 * nrj)) + 3)) (rw_79.2 (2, 126, 32, 46) (by decide)).2 (rfl : Int32.toInt rv_c78 = _)
                have f_89 := f_83.ne (k := 126) (j := ((22 + (4 * nrj)) + 3)) (v := .int rv_c78) (by decide)
                have f_90 := (rd_ne hs_c78 (k := 126) (j := ((22 + (4 * nrj)) + 3)) (.int rv_c78) (Or.inl (by decide))).trans e11_c78
                have f_91 := (rd_ne hs_c78 (k := 126) (j := ((22 + (4 * nrj)) + 3)) (.int rv_c78) (Or.inl (by decide))).trans e14_c78
                have f_92 := (rd_ne hs_c78 (k := 126) (j := ((22 + (4 * nrj)) + 3)) (.int rv_c78) (Or.inl (by decide))).trans e12_c78
                have f_93 := (rd_ne hs_c78 (k := 126) (j := ((22 + (4 * nrj)) + 3)) (.int rv_c78) (Or.inl (by decide))).trans e13_c78
                have f_94 := (rd_ne hs_c78 (k := 126) (j := ((22 + (4 * nrj)) + 3)) (.int rv_c78) (Or.inl (by decide))).trans e15_c78
                have fr_95 := fr_84.wr (k := 126) (j := ((22 + (4 * nrj)) + 3)) (.int rv_c78) (by unfold WRd; omega)
                clear rw_79 fr_84 f_80 f_81 f_82 f_83 e11_c78 e14_c78 e12_c78 e13_c78 e15_c78
                generalize (wr hs_c78 126 ((22 + (4 * nrj)) + 3) (.int rv_c78)) = hs_96 at *
                refine g_loadA act (gx gp_262 (w := 0x5503) rfl (by decide) rfl) (a := 0) (n := 85) rfl rfl rfl ?_
                refine n_call tb_pres act hEnd (gx (P := G_call) gp_262 (w := 0xa000000000000804110000c900580f) rfl (by decide) rfl) (d' := D_201) rfl (as := [.ref 124]) (rest := []) (bx_end (show PSX hs_96 tx L A_c78 b_c78 ec_c78 ep_c78 na_c78 from ⟨rw_85, f_86, ⟨_, f_87, hL_1⟩, ⟨_, f_90, hA_c78⟩, ⟨_, f_91, hb_c78⟩, ⟨_, f_92, hc_c78⟩, ⟨_, f_93, hd_c78⟩, ⟨_, f_94, hn_c78⟩, by omega, by omega, by omega, by omega, by omega, by omega⟩) (by omega)) (show (1 : Nat) = fb 0xa000000000000804110000c900580f % 16 by decide) (by show (1 : Nat) ≤ 1; decide) (fun _ => ⟨_, _, rfl, _, shp_at rw_85.1, Or.inr (show fb 0xa000000000000804110000c900580f >>> 68 = 10 by decide)⟩) (by omega) (by show 8 + (1 + 11) + 22 ≤ R.locals; omega) (by show (0 : Nat) ≤ 8; decide) (by show kc + 0 ≤ _; omega) (by show ks + 0 ≤ _; omega) (fun r9 hs_c97 hpo hr9 => ?_) (fun x9 hs9 hx9 hpo => ?_)
                · obtain rfl : r9 = none := hr9.elim (fun q => q.2) (fun q => absurd rfl q.1)
                  obtain ⟨-, -, A_c97, b_c97, ec_c97, ep_c97, hP_c97, fr_c97, q7_c97, q8_c97, qr_c97⟩ := hpo
                  have rw_98 := rw_85.fr fr_c97 WP_rw
                  have f_99 := f_86.fr (fun j9 _ => fr_c97.2.2 130 j9 (by unfold WP; omega))
                  have f_100 := rd_fr fr_c97 f_87 (by unfold WP; omega)
                  have f_101 := f_88.fr (fun j9 _ => fr_c97.2.2 126 j9 (by unfold WP; omega))
                  have f_102 := f_89.fr (fun j9 _ => fr_c97.2.2 128 j9 (by unfold WP; omega))
                  have fr_103 := fr_95.tr (fr_c97.mono (fun k9 j9 h9 => by unfold WP at h9; unfold WRd; omega))
                  obtain ⟨-, -, -, ⟨A9_c97, e11_c97, hA_c97⟩, ⟨b9_c97, e14_c97, hb_c97⟩, ⟨c9_c97, e12_c97, hc_c97⟩, ⟨d9_c97, e13_c97, hd_c97⟩, ⟨f9_c97, e15_c97, hn_c97⟩, -, -, q3_c97, q4_c97, q5_c97, q6_c97⟩ := hP_c97
                  clear rw_85 f_86 f_87 f_88 f_89 f_90 f_91 f_92 f_93 f_94 fr_95
                  show WpN (gp g0 wp) CLS p l e R s m args below meth c Q D_262.2.2.1 kc0 ks0 88 [some (.ref 124), some (.int ((22 : Int32) + ((4 : Int32) * x_9)))] (hs_c97, kc, ks) []
                  refine g_loadA act (gx gp_262 (w := 0x5903) rfl (by decide) rfl) (a := 0) (n := 89) rfl rfl rfl ?_
                  refine r_getf act (gx gp_262 (w := 0x3000089005c04) rfl (by decide) rfl) (n := 92) (ci := 9) (j := 2) (N := 39) rfl rfl rfl rw_98.1 (by decide) (rw_98.2 (2, 126, 32, 46) (by decide)).1 ?_
                  refine g_constI act (gx gp_262 (w := 0x40000002400000021000000005d01) rfl (by decide) rfl) (n := 93) (x := (4 : Int32)) (by decide) rfl ?_
                  refine g_dup2 act (gx gp_262 (w := 0x5e30) rfl (by decide) rfl) (n := 94) rfl rfl rfl ?_
                  obtain ⟨x_104, e_105, hx_106⟩ := f_101 4 (by omega)
                  refine r_iald act (gx gp_262 (w := 0x5f1a) rfl (by decide) rfl) (n := 95) (j := 4) rfl (rw_98.2 (2, 126, 32, 46) (by decide)).2 (show (4 : Int32).toInt = ((4 : Nat) : Int) from by decide) (show 4 < 46 by omega) (v := .int x_104) e_105 ?_
                  refine g_constI act (gx gp_262 (w := 0x40000000c00000009000000006001) rfl (by decide) rfl) (n := 96) (x := (1 : Int32)) (by decide) rfl ?_
                  refine g_iadd act (gx gp_262 (w := 0x610a) rfl (by decide) rfl) (n := 97) rfl ?_
                  have v_107 := iv_addN (hx_106.trans (show ((upI (upI (upI (upI fj (22 + (4 * nrj)) (Int32.toInt rv_c14)) ((22 + (4 * nrj)) + 1) (Int32.toInt rv_c34)) ((22 + (4 * nrj)) + 2) (Int32.toInt rv_c58)) ((22 + (4 * nrj)) + 3) (Int32.toInt rv_c78)) 4) = ((nrj : Nat) : Int) from by simp only [upI, ↓reduceIte]; all_goals omega)) (show (1 : Int32).toInt = ((1 : Nat) : Int) from by decide) (show (nrj + 1) < 2147483648 by omega)
                  refine r_iast act (gx gp_262 (w := 0x6224) rfl (by decide) rfl) (n := 98) (j := 4) rfl (rw_98.2 (2, 126, 32, 46) (by decide)).2 (show (4 : Int32).toInt = ((4 : Nat) : Int) from by decide) (show 4 < 46 by omega) ?_
                  have rw_108 := RW.wr (k := 126) (j := 4) (v := .int (x_104 + (1 : Int32))) rw_98 (Or.inl (by decide))
                  have f_109 := f_99.ne (k := 126) (j := 4) (v := .int (x_104 + (1 : Int32))) (by decide)
                  have f_110 := (rd_ne hs_c97 (k := 126) (j := 4) (.int (x_104 + (1 : Int32))) (Or.inl (by decide))).trans f_100
                  have f_111 := f_101.put (j := 4) (rw_98.2 (2, 126, 32, 46) (by decide)).2 v_107
                  have f_112 := f_102.ne (k := 126) (j := 4) (v := .int (x_104 + (1 : Int32))) (by decide)
                  have f_113 := (rd_ne hs_c97 (k := 126) (j := 4) (.int (x_104 + (1 : Int32))) (Or.inl (by decide))).trans e11_c97
                  have f_114 := (rd_ne hs_c97 (k := 126) (j := 4) (.int (x_104 + (1 : Int32))) (Or.inl (by decide))).trans e14_c97
                  have f_115 := (rd_ne hs_c97 (k := 126) (j := 4) (.int (x_104 + (1 : Int32))) (Or.inl (by decide))).trans e12_c97
                  have f_116 := (rd_ne hs_c97 (k := 126) (j := 4) (.int (x_104 + (1 : Int32))) (Or.inl (by decide))).trans e13_c97
                  have f_117 := (rd_ne hs_c97 (k := 126) (j := 4) (.int (x_104 + (1 : Int32))) (Or.inl (by decide))).trans e15_c97
                  have fr_118 := fr_103.wr (k := 126) (j := 4) (.int (x_104 + (1 : Int32))) (by unfold WRd; omega)
                  clear rw_98 fr_103 f_99 f_100 f_101 f_102 e11_c97 e14_c97 e12_c97 e13_c97 e15_c97
                  generalize (wr hs_c97 126 4 (.int (x_104 + (1 : Int32)))) = hs_119 at *
                  refine g_goto act (gx gp_262 (w := 0x7) rfl (by decide) rfl) (n := 0) rfl ?_
                  have hI2 := fvi_rig (b2 := b_c97) (v := (Int32.toInt rv_c14)) (x := (Int32.toInt rv_c34)) (y := (Int32.toInt rv_c58)) (w := (Int32.toInt rv_c78)) hI (by omega) (by omega) (by omega) (by omega) (by omega)
                  have hLV2 := rgs_next hb01 hbj1 (by omega) hLV a4 (by omega) qt_c2 (fun qz => rig_ok (nr := nrj) (d := (fj, gj)) qz (NUo.p qr_c14) (NUo.p qr_c34) (NUo.p qr_c58) (NUo.p qr_c78) qr_c97)
                  exact n_forget (d := D_262) (L2 := [some (.ref 124), none]) (fun i v hi => by
                    match i, hi with
                    | 0, hi => exact hi
                    | 1, hi => cases hi
                    | i + 2, hi => cases hi) (ih _ (by omega) _ A_c97 b_c97 ec_c97 ep_c97 na_c78 _ _ _ _ _ (show PSX hs_119 tx L A_c97 b_c97 ec_c97 ep_c97 na_c78 from ⟨rw_108, f_109, ⟨_, f_110, hL_1⟩, ⟨_, f_113, hA_c97⟩, ⟨_, f_114, hb_c97⟩, ⟨_, f_115, hc_c97⟩, ⟨_, f_116, hd_c97⟩, ⟨_, f_117, hn_c97⟩, by omega, by omega, by omega, by omega, by omega, by omega⟩) fr_118 f_111 f_112 hI2 (by omega) (fun j hj9 => by have q := w2 j hj9; simp only [upI]; omega) hLV2 rfl)
                · exact absurd hpo.1 (by omega)
              · exact absurd hpo.1 (by omega)
            · exact absurd hpo.1 (by omega)
          · exact absurd hpo.1 (by omega)
        · exact absurd hpo.1 (by omega)
    · exact absurd hpo.1 (by omega)
  exact loop hs A b ec ep na fv gv nl ng nr hP (FrS.rf WRd hs) hF hG hI0 (by omega) (fun _ _ => rfl) LVx.rf

end PARX3

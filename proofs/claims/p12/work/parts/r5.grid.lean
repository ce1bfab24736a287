/-! The reference reads a grid, all of it. -/
section PAR6
variable {g0 : GG} {bl : Nat} {xs : Nat → Int32} {l : Launch} {hs : List CE} {tx : Nat → Int} {L A b : Int}
variable {fv gv : Nat → Int} {nl ng nr : Nat}

theorem br_readGrid (hP : PSt hs tx L 0 0) (hF : IArr hs 126 46 fv) (hG : IArr hs 128 39 gv) (hf0 : ∀ j, j < 46 → fv j = 0) (hg0 : ∀ j, j < 39 → gv j = 0) : BodyN SSX TBL g0 CLS bl xs l D_259 5 112 0 0 [.ref 124] hs (fun kd r h2 => kd = 0 ∧ r = none ∧ ∃ (A2 b2 : Int) (fv2 gv2 : Nat → Int) (nl2 ng2 nr2 n9 : Nat), PSt h2 tx L A2 b2 ∧ FrS WRd hs h2 ∧ IArr h2 126 46 fv2 ∧ IArr h2 128 39 gv2 ∧ FVI fv2 gv2 b2 nl2 ng2 nr2 ∧ fv2 0 = (n9 : Int) + 1 ∧ (b2 = 0 → CutOK fv2 nl2 (-1) n9) ∧ OK9 b2 fv2 nl2 n9 (gv2 38)) := by
  intro wp p e R s m args below meth c Q kc0 ks0 kc ks act hf hl hc hsl hEnd
  have hf : 5 ≤ R.frames := hf
  have hl : 112 ≤ R.locals := hl
  have hk1 : kc ≤ kc + 0 := by omega
  have hk2 : ks ≤ ks + 0 := by omega
  have fin96 : ∀ (hj : List CE) (Aj : Int) (bj : Int) (fj : Nat → Int) (gj : Nat → Int) (nlj : Nat) (ngj : Nat) (nrj : Nat) (n9 : Nat), PSt hj tx L Aj bj → FrS WRd hs hj → IArr hj 126 46 fj → IArr hj 128 39 gj → FVI fj gj bj nlj ngj nrj → fj 0 = (n9 : Int) + 1 → (bj = 0 → CutOK fj nlj (-1) n9) → WpN (gp g0 wp) CLS p l e R s m args below meth c Q D_259.2.2.1 kc0 ks0 96 [some (.ref 124)] (hj, kc, ks) [] := by
    intro hj Aj bj fj gj nlj ngj nrj n9 hPj hfr hFj hGj hIj hzj hCj
    obtain ⟨rw_1, hT_1, ⟨L9_1, e10_1, hL_1⟩, ⟨A9_1, e11_1, hA_1⟩, ⟨b9_1, e14_1, hb_1⟩, ⟨c9_1, e12_1⟩, ⟨d9_1, e13_1⟩, ⟨f9_1, e15_1⟩, q1_1, q2_1, q3_1, q4_1, q5_1, q6_1⟩ := hPj
    refine g_loadA act (gx gp_259 (w := 0x6103) rfl (by decide) rfl) (a := 0) (n := 97) rfl rfl rfl ?_
    refine n_call tb_pres act hEnd (gx (P := G_call) gp_259 (w := 0xa0000000000008081100010200640f) rfl (by decide) rfl) (d' := D_258) rfl (as := [.ref 124]) (rest := []) (br_readGenerators (show PSt hj tx L Aj bj from ⟨rw_1, hT_1, ⟨_, e10_1, hL_1⟩, ⟨_, e11_1, hA_1⟩, ⟨_, e14_1, hb_1⟩, ⟨_, e12_1⟩, ⟨_, e13_1⟩, ⟨_, e15_1⟩, by omega, by omega, by omega, by omega, by omega, by omega⟩) hFj hGj hIj) (show (1 : Nat) = fb 0xa0000000000008081100010200640f % 16 by decide) (by show (1 : Nat) ≤ 2; decide) (fun _ => ⟨_, _, rfl, _, shp_at rw_1.1, Or.inr (show fb 0xa0000000000008081100010200640f >>> 68 = 10 by decide)⟩) (by omega) (by show 8 + (2 + 11) + 91 ≤ R.locals; omega) (by show (0 : Nat) ≤ 8; decide) (by show kc + 0 ≤ _; omega) (by show ks + 0 ≤ _; omega) (fun r9 hs_c2 hpo hr9 => ?_) (fun x9 hs9 hx9 hpo => ?_)
    · obtain rfl : r9 = none := hr9.elim (fun q => q.2) (fun q => absurd rfl q.1)
      obtain ⟨-, -, A_c2, b_c2, fv_c2, gv_c2, nl_c2, ng_c2, nr_c2, hP_c2, fr_c2, hF_c2, hG_c2, hI_c2, qb_c2, qs_c2⟩ := hpo
      have en_c2 : nl_c2 = nlj := by
        have w1 := hI_c2.2.2.1
        have w2 := hIj.2.2.1
        have w3 := qs_c2 2 (by omega)
        omega
      rw [en_c2] at hI_c2
      have h6_c2 := hIj.2.2.2.2.2.1
      have hC_c2 : b_c2 = 0 → CutOK fv_c2 nlj (-1) n9 := fun q => (hCj (by omega)).cong (fun l hl => ⟨qs_c2 (5 + l) (by omega), qs_c2 (11 + l) (by omega)⟩)
      have hz_c2 : fv_c2 0 = (n9 : Int) + 1 := (qs_c2 0 (by omega)).trans hzj
      have rw_3 := rw_1.fr fr_c2 WRd_rw
      have f_4 := hT_1.fr (fun j9 _ => fr_c2.2.2 130 j9 (by unfold WRd; omega))
      have f_5 := rd_fr fr_c2 e10_1 (by unfold WRd; omega)
      have fr_6 := hfr.tr fr_c2
      obtain ⟨-, -, -, ⟨A9_c2, e11_c2, hA_c2⟩, ⟨b9_c2, e14_c2, hb_c2⟩, ⟨c9_c2, e12_c2⟩, ⟨d9_c2, e13_c2⟩, ⟨f9_c2, e15_c2⟩, -, -, q3_c2, q4_c2, q5_c2, q6_c2⟩ := hP_c2
      clear rw_1 hT_1 e10_1 e11_1 e14_1 e12_1 e13_1 e15_1 hfr
      show WpN (gp g0 wp) CLS p l e R s m args below meth c Q D_259.2.2.1 kc0 ks0 100 [some (.ref 124)] (hs_c2, kc, ks) []
      refine g_loadA act (gx gp_259 (w := 0x6503) rfl (by decide) rfl) (a := 0) (n := 101) rfl rfl rfl ?_
      refine n_call tb_pres act hEnd (gx (P := G_call) gp_259 (w := 0xa00000000000080c1100010100680f) rfl (by decide) rfl) (d' := D_257) rfl (as := [.ref 124]) (rest := []) (br_readDemands (show PSt hs_c2 tx L A_c2 b_c2 from ⟨rw_3, f_4, ⟨_, f_5, hL_1⟩, ⟨_, e11_c2, hA_c2⟩, ⟨_, e14_c2, hb_c2⟩, ⟨_, e12_c2⟩, ⟨_, e13_c2⟩, ⟨_, e15_c2⟩, by omega, by omega, by omega, by omega, by omega, by omega⟩) hF_c2 hG_c2 hI_c2) (show (1 : Nat) = fb 0xa00000000000080c1100010100680f % 16 by decide) (by show (1 : Nat) ≤ 3; decide) (fun _ => ⟨_, _, rfl, _, shp_at rw_3.1, Or.inr (show fb 0xa00000000000080c1100010100680f >>> 68 = 10 by decide)⟩) (by omega) (by show 8 + (3 + 11) + 89 ≤ R.locals; omega) (by show (0 : Nat) ≤ 8; decide) (by show kc + 0 ≤ _; omega) (by show ks + 0 ≤ _; omega) (fun r9 hs_c7 hpo hr9 => ?_) (fun x9 hs9 hx9 hpo => ?_)
      · obtain rfl : r9 = none := hr9.elim (fun q => q.2) (fun q => absurd rfl q.1)
        obtain ⟨-, -, A_c7, b_c7, fv_c7, gv_c7, nl_c7, ng_c7, nr_c7, hP_c7, fr_c7, hF_c7, hG_c7, hI_c7, qb_c7, qs_c7⟩ := hpo
        have en_c7 : nl_c7 = nlj := by
          have w1 := hI_c7.2.2.1
          have w2 := hI_c2.2.2.1
          have w3 := qs_c7 2 (by omega)
          omega
        rw [en_c7] at hI_c7
        have h6_c7 := hI_c2.2.2.2.2.2.1
        have hC_c7 : b_c7 = 0 → CutOK fv_c7 nlj (-1) n9 := fun q => (hC_c2 (by omega)).cong (fun l hl => ⟨qs_c7 (5 + l) (by omega), qs_c7 (11 + l) (by omega)⟩)
        have hz_c7 : fv_c7 0 = (n9 : Int) + 1 := (qs_c7 0 (by omega)).trans hz_c2
        have rw_8 := rw_3.fr fr_c7 WRd_rw
        have f_9 := f_4.fr (fun j9 _ => fr_c7.2.2 130 j9 (by unfold WRd; omega))
        have f_10 := rd_fr fr_c7 f_5 (by unfold WRd; omega)
        have fr_11 := fr_6.tr fr_c7
        obtain ⟨-, -, -, ⟨A9_c7, e11_c7, hA_c7⟩, ⟨b9_c7, e14_c7, hb_c7⟩, ⟨c9_c7, e12_c7⟩, ⟨d9_c7, e13_c7⟩, ⟨f9_c7, e15_c7⟩, -, -, q3_c7, q4_c7, q5_c7, q6_c7⟩ := hP_c7
        clear rw_3 f_4 f_5 e11_c2 e14_c2 e12_c2 e13_c2 e15_c2 hF_c2 hG_c2 fr_6
        show WpN (gp g0 wp) CLS p l e R s m args below meth c Q D_259.2.2.1 kc0 ks0 104 [some (.ref 124)] (hs_c7, kc, ks) []
        refine g_loadA act (gx gp_259 (w := 0x6903) rfl (by decide) rfl) (a := 0) (n := 105) rfl rfl rfl ?_
        refine n_call tb_pres act hEnd (gx (P := G_call) gp_259 (w := 0xa00000000000080811000106006c0f) rfl (by decide) rfl) (d' := D_262) rfl (as := [.ref 124]) (rest := []) (br_readRights (show PSt hs_c7 tx L A_c7 b_c7 from ⟨rw_8, f_9, ⟨_, f_10, hL_1⟩, ⟨_, e11_c7, hA_c7⟩, ⟨_, e14_c7, hb_c7⟩, ⟨_, e12_c7⟩, ⟨_, e13_c7⟩, ⟨_, e15_c7⟩, by omega, by omega, by omega, by omega, by omega, by omega⟩) hF_c7 hG_c7 hI_c7) (show (1 : Nat) = fb 0xa00000000000080811000106006c0f % 16 by decide) (by show (1 : Nat) ≤ 2; decide) (fun _ => ⟨_, _, rfl, _, shp_at rw_8.1, Or.inr (show fb 0xa00000000000080811000106006c0f >>> 68 = 10 by decide)⟩) (by omega) (by show 8 + (2 + 11) + 91 ≤ R.locals; omega) (by show (0 : Nat) ≤ 8; decide) (by show kc + 0 ≤ _; omega) (by show ks + 0 ≤ _; omega) (fun r9 hs_c12 hpo hr9 => ?_) (fun x9 hs9 hx9 hpo => ?_)
        · obtain rfl : r9 = none := hr9.elim (fun q => q.2) (fun q => absurd rfl q.1)
          obtain ⟨-, -, A_c12, b_c12, fv_c12, gv_c12, nl_c12, ng_c12, nr_c12, hP_c12, fr_c12, hF_c12, hG_c12, hI_c12, qb_c12, qs_c12⟩ := hpo
          have en_c12 : nl_c12 = nlj := by
            have w1 := hI_c12.2.2.1
            have w2 := hI_c7.2.2.1
            have w3 := qs_c12 2 (by omega)
            omega
          rw [en_c12] at hI_c12
          have h6_c12 := hI_c7.2.2.2.2.2.1
          have hC_c12 : b_c12 = 0 → CutOK fv_c12 nlj (-1) n9 := fun q => (hC_c7 (by omega)).cong (fun l hl => ⟨qs_c12 (5 + l) (by omega), qs_c12 (11 + l) (by omega)⟩)
          have hz_c12 : fv_c12 0 = (n9 : Int) + 1 := (qs_c12 0 (by omega)).trans hz_c7
          have rw_13 := rw_8.fr fr_c12 WRd_rw
          have f_14 := f_9.fr (fun j9 _ => fr_c12.2.2 130 j9 (by unfold WRd; omega))
          have f_15 := rd_fr fr_c12 f_10 (by unfold WRd; omega)
          have fr_16 := fr_11.tr fr_c12
          obtain ⟨-, -, -, ⟨A9_c12, e11_c12, hA_c12⟩, ⟨b9_c12, e14_c12, hb_c12⟩, ⟨c9_c12, e12_c12⟩, ⟨d9_c12, e13_c12⟩, ⟨f9_c12, e15_c12⟩, -, -, q3_c12, q4_c12, q5_c12, q6_c12⟩ := hP_c12
          clear rw_8 f_9 f_10 e11_c7 e14_c7 e12_c7 e13_c7 e15_c7 hF_c7 hG_c7 fr_11
          show WpN (gp g0 wp) CLS p l e R s m args below meth c Q D_259.2.2.1 kc0 ks0 108 [some (.ref 124)] (hs_c12, kc, ks) []
          refine g_loadA act (gx gp_259 (w := 0x6d03) rfl (by decide) rfl) (a := 0) (n := 109) rfl rfl rfl ?_
          refine n_call tb_pres act hEnd (gx (P := G_call) gp_259 (w := 0xa0000000000008081100010500700f) rfl (by decide) rfl) (d' := D_261) rfl (as := [.ref 124]) (rest := []) (br_readOutage (n9 := n9) (show PSt hs_c12 tx L A_c12 b_c12 from ⟨rw_13, f_14, ⟨_, f_15, hL_1⟩, ⟨_, e11_c12, hA_c12⟩, ⟨_, e14_c12, hb_c12⟩, ⟨_, e12_c12⟩, ⟨_, e13_c12⟩, ⟨_, e15_c12⟩, by omega, by omega, by omega, by omega, by omega, by omega⟩) hF_c12 hG_c12 hI_c12.2.2.1 hI_c12.2.2.2.2.2.1 hz_c12 (by have := hI_c12.1; omega) (by have := hI_c12.1; omega) hI_c12.rng (fun q => (hC_c12 q).one (by have := hI_c12.1; omega))) (show (1 : Nat) = fb 0xa0000000000008081100010500700f % 16 by decide) (by show (1 : Nat) ≤ 2; decide) (fun _ => ⟨_, _, rfl, _, shp_at rw_13.1, Or.inr (show fb 0xa0000000000008081100010500700f >>> 68 = 10 by decide)⟩) (by omega) (by show 8 + (2 + 11) + 89 ≤ R.locals; omega) (by show (0 : Nat) ≤ 8; decide) (by show kc + 0 ≤ _; omega) (by show ks + 0 ≤ _; omega) (fun r9 hs_c17 hpo hr9 => ?_) (fun x9 hs9 hx9 hpo => ?_)
          · obtain rfl : r9 = none := hr9.elim (fun q => q.2) (fun q => absurd rfl q.1)
            obtain ⟨-, -, A_c17, b_c17, gv_c17, hP_c17, fr_c17, hF_c17, hG_c17, qs_c17, qb_c17, ho_c17⟩ := hpo
            have hI_c17 := hI_c12.out (b2 := b_c17) (by omega) qs_c17
            have rw_18 := rw_13.fr fr_c17 WRd_rw
            have f_19 := f_14.fr (fun j9 _ => fr_c17.2.2 130 j9 (by unfold WRd; omega))
            have f_20 := rd_fr fr_c17 f_15 (by unfold WRd; omega)
            have fr_21 := fr_16.tr fr_c17
            obtain ⟨-, -, -, ⟨A9_c17, e11_c17, hA_c17⟩, ⟨b9_c17, e14_c17, hb_c17⟩, ⟨c9_c17, e12_c17⟩, ⟨d9_c17, e13_c17⟩, ⟨f9_c17, e15_c17⟩, -, -, q3_c17, q4_c17, q5_c17, q6_c17⟩ := hP_c17
            clear rw_13 f_14 f_15 e11_c12 e14_c12 e12_c12 e13_c12 e15_c12 hF_c12 hG_c12 fr_16
            show WpN (gp g0 wp) CLS p l e R s m args below meth c Q D_259.2.2.1 kc0 ks0 112 [some (.ref 124)] (hs_c17, kc, ks) []
            refine g_loadA act (gx gp_259 (w := 0x7103) rfl (by decide) rfl) (a := 0) (n := 113) rfl rfl rfl ?_
            refine r_getf act (gx gp_259 (w := 0x1000389007404) rfl (by decide) rfl) (n := 116) (ci := 9) (j := 14) (N := 39) rfl rfl rfl rw_18.1 (by decide) (v := .int b9_c17) e14_c17 ?_
            refine g_ifNe act (gx gp_259 (w := 0x8800771d) rfl (by decide) rfl) (tgt := 136) (n := 119) rfl rfl (fun h6 => ?_) (fun h6 => ?_)
            · simp only [i_eq, i0] at h6
              exact g_retV hEnd (gx gp_259 (w := 0x18) rfl (by decide) rfl) ⟨rfl, rfl, A_c17, b_c17, _, _, nlj, ng_c12, nr_c12, n9, (show PSt hs_c17 tx L A_c17 b_c17 from ⟨rw_18, f_19, ⟨_, f_20, hL_1⟩, ⟨_, e11_c17, hA_c17⟩, ⟨_, e14_c17, hb_c17⟩, ⟨_, e12_c17⟩, ⟨_, e13_c17⟩, ⟨_, e15_c17⟩, by omega, by omega, by omega, by omega, by omega, by omega⟩), fr_21, hF_c17, hG_c17, hI_c17.bad (by omega), hz_c12, fun q => hC_c12 (by omega), fun q => ho_c17 (by omega)⟩ hk1 hk2
            · simp only [i_eq, i0] at h6
              refine g_loadA act (gx gp_259 (w := 0x7803) rfl (by decide) rfl) (a := 0) (n := 120) rfl rfl rfl ?_
              refine n_call tb_pres act hEnd (gx (P := G_call) gp_259 (w := 0xa000000000000c04110000d8007b0f) rfl (by decide) rfl) (d' := D_216) rfl (as := [.ref 124]) (rest := []) (br_here (show PSt hs_c17 tx L A_c17 b_c17 from ⟨rw_18, f_19, ⟨_, f_20, hL_1⟩, ⟨_, e11_c17, hA_c17⟩, ⟨_, e14_c17, hb_c17⟩, ⟨_, e12_c17⟩, ⟨_, e13_c17⟩, ⟨_, e15_c17⟩, by omega, by omega, by omega, by omega, by omega, by omega⟩)) (show (1 : Nat) = fb 0xa000000000000c04110000d8007b0f % 16 by decide) (by show (1 : Nat) ≤ 1; decide) (fun _ => ⟨_, _, rfl, _, shp_at rw_18.1, Or.inr (show fb 0xa000000000000c04110000d8007b0f >>> 68 = 10 by decide)⟩) (by omega) (by show 8 + (1 + 11) + 0 ≤ R.locals; omega) (by show (0 : Nat) ≤ 8; decide) (by show kc + 0 ≤ _; omega) (by show ks + 0 ≤ _; omega) (fun r9 hs_c22 hpo hr9 => ?_) (fun x9 hs9 hx9 hpo => ?_)
              · obtain ⟨-, A_c22, rv_c22, rfl, hP_c22, fr_c22, q7_c22, q8_c22, q9_c22⟩ := hpo
                try replace q8_c22 := q8_c22 (by omega)
                have rw_23 := rw_18.fr fr_c22 WP_rw
                have f_24 := f_19.fr (fun j9 _ => fr_c22.2.2 130 j9 (by unfold WP; omega))
                have f_25 := rd_fr fr_c22 f_20 (by unfold WP; omega)
                have f_26 := hF_c17.fr (fun j9 _ => fr_c22.2.2 126 j9 (by unfold WP; omega))
                have f_27 := hG_c17.fr (fun j9 _ => fr_c22.2.2 128 j9 (by unfold WP; omega))
                have fr_28 := fr_21.tr (fr_c22.mono (fun k9 j9 h9 => by unfold WP at h9; unfold WRd; omega))
                obtain ⟨-, -, -, ⟨A9_c22, e11_c22, hA_c22⟩, ⟨b9_c22, e14_c22, hb_c22⟩, ⟨c9_c22, e12_c22⟩, ⟨d9_c22, e13_c22⟩, ⟨f9_c22, e15_c22⟩, -, -, q3_c22, q4_c22, q5_c22, q6_c22⟩ := hP_c22
                clear rw_18 f_19 f_20 e11_c17 e14_c17 e12_c17 e13_c17 e15_c17 hF_c17 hG_c17 fr_21
                show WpN (gp g0 wp) CLS p l e R s m args below meth c Q D_259.2.2.1 kc0 ks0 123 [some (.ref 124)] (hs_c22, kc, ks) [.int rv_c22]
                refine g_constI act (gx gp_259 (w := 0x3fffffffbfffffff9000000007c01) rfl (by decide) rfl) (n := 124) (x := (-1 : Int32)) (by decide) rfl ?_
                refine g_icmpEq act (gx gp_259 (w := 0x88007f2e) rfl (by decide) rfl) (tgt := 136) (n := 127) rfl rfl (fun h9 => ?_) (fun h9 => ?_)
                · simp only [i_eq, show (-1 : Int32).toInt = -1 from by decide] at h9
                  exact g_retV hEnd (gx gp_259 (w := 0x18) rfl (by decide) rfl) ⟨rfl, rfl, A_c22, b_c17, _, _, nlj, ng_c12, nr_c12, n9, (show PSt hs_c22 tx L A_c22 b_c17 from ⟨rw_23, f_24, ⟨_, f_25, hL_1⟩, ⟨_, e11_c22, hA_c22⟩, ⟨_, e14_c22, hb_c22⟩, ⟨_, e12_c22⟩, ⟨_, e13_c22⟩, ⟨_, e15_c22⟩, by omega, by omega, by omega, by omega, by omega, by omega⟩), fr_28, f_26, f_27, hI_c17.bad (by omega), hz_c12, fun q => hC_c12 (by omega), fun q => ho_c17 (by omega)⟩ hk1 hk2
                · simp only [i_eq, show (-1 : Int32).toInt = -1 from by decide] at h9
                  refine g_loadA act (gx gp_259 (w := 0x8003) rfl (by decide) rfl) (a := 0) (n := 128) rfl rfl rfl ?_
                  refine g_constI act (gx gp_259 (w := 0x40000000c00000009000000008101) rfl (by decide) rfl) (n := 129) (x := (1 : Int32)) (by decide) rfl ?_
                  refine g_loadA act (gx gp_259 (w := 0x8203) rfl (by decide) rfl) (a := 0) (n := 130) rfl rfl rfl ?_
                  refine r_getf act (gx gp_259 (w := 0x2c9008504) rfl (by decide) rfl) (n := 133) (ci := 9) (j := 11) (N := 39) rfl rfl rfl rw_23.1 (by decide) (v := .int A9_c22) e11_c22 ?_
                  refine n_call tb_pres act hEnd (gx (P := G_call) gp_259 (w := 0xa00000000000080c3300012100880f) rfl (by decide) rfl) (d' := D_289) rfl (as := [.ref 124, .int (1 : Int32), .int A9_c22]) (rest := []) (br_wrong (show PSt hs_c22 tx L A_c22 b_c17 from ⟨rw_23, f_24, ⟨_, f_25, hL_1⟩, ⟨_, e11_c22, hA_c22⟩, ⟨_, e14_c22, hb_c22⟩, ⟨_, e12_c22⟩, ⟨_, e13_c22⟩, ⟨_, e15_c22⟩, by omega, by omega, by omega, by omega, by omega, by omega⟩)) (show (3 : Nat) = fb 0xa00000000000080c3300012100880f % 16 by decide) (by show (3 : Nat) ≤ 3; decide) (fun _ => ⟨_, _, rfl, _, shp_at rw_23.1, Or.inr (show fb 0xa00000000000080c3300012100880f >>> 68 = 10 by decide)⟩) (by omega) (by show 8 + (3 + 11) + 0 ≤ R.locals; omega) (by show (0 : Nat) ≤ 8; decide) (by show kc + 0 ≤ _; omega) (by show ks + 0 ≤ _; omega) (fun r9 hs_c29 hpo hr9 => ?_) (fun x9 hs9 hx9 hpo => ?_)
                  · obtain rfl : r9 = none := hr9.elim (fun q => q.2) (fun q => absurd rfl q.1)
                    obtain ⟨-, b_c29, hP_c29, fr_c29, qb_c29⟩ := hpo
                    obtain ⟨A_c29, qA_c29⟩ : ∃ z : Int, z = A_c22 := ⟨_, rfl⟩
                    rw [← qA_c29] at hP_c29
                    have rw_30 := rw_23.fr fr_c29 WP_rw
                    have f_31 := f_24.fr (fun j9 _ => fr_c29.2.2 130 j9 (by unfold WP; omega))
                    have f_32 := rd_fr fr_c29 f_25 (by unfold WP; omega)
                    have f_33 := f_26.fr (fun j9 _ => fr_c29.2.2 126 j9 (by unfold WP; omega))
                    have f_34 := f_27.fr (fun j9 _ => fr_c29.2.2 128 j9 (by unfold WP; omega))
                    have fr_35 := fr_28.tr (fr_c29.mono (fun k9 j9 h9 => by unfold WP at h9; unfold WRd; omega))
                    obtain ⟨-, -, -, ⟨A9_c29, e11_c29, hA_c29⟩, ⟨b9_c29, e14_c29, hb_c29⟩, ⟨c9_c29, e12_c29⟩, ⟨d9_c29, e13_c29⟩, ⟨f9_c29, e15_c29⟩, -, -, q3_c29, q4_c29, q5_c29, q6_c29⟩ := hP_c29
                    clear rw_23 f_24 f_25 f_26 f_27 e11_c22 e14_c22 e12_c22 e13_c22 e15_c22 fr_28
                    show WpN (gp g0 wp) CLS p l e R s m args below meth c Q D_259.2.2.1 kc0 ks0 136 [some (.ref 124)] (hs_c29, kc, ks) []
                    exact g_retV hEnd (gx gp_259 (w := 0x18) rfl (by decide) rfl) ⟨rfl, rfl, A_c29, b_c29, _, _, nlj, ng_c12, nr_c12, n9, (show PSt hs_c29 tx L A_c29 b_c29 from ⟨rw_30, f_31, ⟨_, f_32, hL_1⟩, ⟨_, e11_c29, hA_c29⟩, ⟨_, e14_c29, hb_c29⟩, ⟨_, e12_c29⟩, ⟨_, e13_c29⟩, ⟨_, e15_c29⟩, by omega, by omega, by omega, by omega, by omega, by omega⟩), fr_35, f_33, f_34, hI_c17.bad (by omega), hz_c12, fun q => hC_c12 (by omega), fun q => ho_c17 (by omega)⟩ hk1 hk2
                  · exact absurd hpo.1 (by omega)
              · exact absurd hpo.1 (by omega)
          · exact absurd hpo.1 (by omega)
        · exact absurd hpo.1 (by omega)
      · exact absurd hpo.1 (by omega)
    · exact absurd hpo.1 (by omega)
  have fin69 : ∀ (hj : List CE) (Aj : Int) (bj : Int) (fj : Nat → Int) (gj : Nat → Int) (nlj : Nat) (ngj : Nat) (nrj : Nat) (n9 : Nat), PSt hj tx L Aj bj → FrS WRd hs hj → IArr hj 126 46 fj → IArr hj 128 39 gj → FVI fj gj bj nlj ngj nrj → fj 0 = (n9 : Int) + 1 → WpN (gp g0 wp) CLS p l e R s m args below meth c Q D_259.2.2.1 kc0 ks0 69 [some (.ref 124)] (hj, kc, ks) [] := by
    intro hj Aj bj fj gj nlj ngj nrj n9 hPj hfr hFj hGj hIj hzj
    obtain ⟨rw_36, hT_36, ⟨L9_36, e10_36, hL_36⟩, ⟨A9_36, e11_36, hA_36⟩, ⟨b9_36, e14_36, hb_36⟩, ⟨c9_36, e12_36⟩, ⟨d9_36, e13_36⟩, ⟨f9_36, e15_36⟩, q1_36, q2_36, q3_36, q4_36, q5_36, q6_36⟩ := hPj
    refine g_loadA act (gx gp_259 (w := 0x4603) rfl (by decide) rfl) (a := 0) (n := 70) rfl rfl rfl ?_
    refine r_getf act (gx gp_259 (w := 0x1000389004904) rfl (by decide) rfl) (n := 73) (ci := 9) (j := 14) (N := 39) rfl rfl rfl rw_36.1 (by decide) (v := .int b9_36) e14_36 ?_
    refine g_ifNe act (gx gp_259 (w := 0x60004c1d) rfl (by decide) rfl) (tgt := 96) (n := 76) rfl rfl (fun h2 => ?_) (fun h2 => ?_)
    · simp only [i_eq, i0] at h2
      exact fin96 _ _ _ _ _ _ _ _ _ (show PSt hj tx L Aj bj from ⟨rw_36, hT_36, ⟨_, e10_36, hL_36⟩, ⟨_, e11_36, hA_36⟩, ⟨_, e14_36, hb_36⟩, ⟨_, e12_36⟩, ⟨_, e13_36⟩, ⟨_, e15_36⟩, by omega, by omega, by omega, by omega, by omega, by omega⟩) hfr hFj hGj (hIj.bad (by omega)) hzj (fun q => by exfalso; omega)
    · simp only [i_eq, i0] at h2
      refine g_loadA act (gx gp_259 (w := 0x4d03) rfl (by decide) rfl) (a := 0) (n := 77) rfl rfl rfl ?_
      refine r_getf act (gx gp_259 (w := 0x3000089005004) rfl (by decide) rfl) (n := 80) (ci := 9) (j := 2) (N := 39) rfl rfl rfl rw_36.1 (by decide) (rw_36.2 (2, 126, 32, 46) (by decide)).1 ?_
      refine g_constI act (gx gp_259 (w := 0x3fffffffbfffffff9000000005101) rfl (by decide) rfl) (n := 81) (x := (-1 : Int32)) (by decide) rfl ?_
      refine n_call tb_pres act hEnd (gx (P := G_call) gp_259 (w := 0x418220000c100540f) rfl (by decide) rfl) (d' := D_193) rfl (as := [.ref 126, .int (-1 : Int32)]) (rest := []) (br_con126 rw_36 hFj (show (-1 : Int32).toInt = (-1 : Int) from by decide) hIj.2.2.1 hIj.2.2.2.2.2.1 hzj (by have := hIj.1; omega) (by have := hIj.1; omega) hIj.rng) (show (2 : Nat) = fb 0x418220000c100540f % 16 by decide) (by show (2 : Nat) ≤ 6; decide) (fun q => absurd q (by decide)) (by omega) (by show 8 + (6 + 11) + 0 ≤ R.locals; omega) (by show (0 : Nat) ≤ 8; decide) (by show kc + 0 ≤ _; omega) (by show ks + 0 ≤ _; omega) (fun r9 h3 hpo hr9 => ?_) (fun x9 hs9 hx9 hpo => ?_)
      · obtain ⟨-, rfl, rv_37, rfl, hcn_38⟩ := hpo
        show WpN (gp g0 wp) CLS p l e R s m args below meth c Q D_259.2.2.1 kc0 ks0 84 [some (.ref 124)] (hj, kc, ks) [.int rv_37]
        refine g_ifNe act (gx gp_259 (w := 0x6000571d) rfl (by decide) rfl) (tgt := 96) (n := 87) rfl rfl (fun h5 => ?_) (fun h5 => ?_)
        · simp only [i_eq, i0] at h5
          exact fin96 _ _ _ _ _ _ _ _ _ (show PSt hj tx L Aj bj from ⟨rw_36, hT_36, ⟨_, e10_36, hL_36⟩, ⟨_, e11_36, hA_36⟩, ⟨_, e14_36, hb_36⟩, ⟨_, e12_36⟩, ⟨_, e13_36⟩, ⟨_, e15_36⟩, by omega, by omega, by omega, by omega, by omega, by omega⟩) hfr hFj hGj (hIj.bad (by omega)) hzj (fun q => (hcn_38.resolve_left (by omega)).2)
        · simp only [i_eq, i0] at h5
          refine g_loadA act (gx gp_259 (w := 0x5803) rfl (by decide) rfl) (a := 0) (n := 88) rfl rfl rfl ?_
          refine g_constI act (gx gp_259 (w := 0x40000002400000021000000005901) rfl (by decide) rfl) (n := 89) (x := (4 : Int32)) (by decide) rfl ?_
          refine g_loadA act (gx gp_259 (w := 0x5a03) rfl (by decide) rfl) (a := 0) (n := 90) rfl rfl rfl ?_
          refine r_getf act (gx gp_259 (w := 0x2c9005d04) rfl (by decide) rfl) (n := 93) (ci := 9) (j := 11) (N := 39) rfl rfl rfl rw_36.1 (by decide) (v := .int A9_36) e11_36 ?_
          refine n_call tb_pres act hEnd (gx (P := G_call) gp_259 (w := 0xa00000000000080c3300012100600f) rfl (by decide) rfl) (d' := D_289) rfl (as := [.ref 124, .int (4 : Int32), .int A9_36]) (rest := []) (br_wrong (show PSt hj tx L Aj bj from ⟨rw_36, hT_36, ⟨_, e10_36, hL_36⟩, ⟨_, e11_36, hA_36⟩, ⟨_, e14_36, hb_36⟩, ⟨_, e12_36⟩, ⟨_, e13_36⟩, ⟨_, e15_36⟩, by omega, by omega, by omega, by omega, by omega, by omega⟩)) (show (3 : Nat) = fb 0xa00000000000080c3300012100600f % 16 by decide) (by show (3 : Nat) ≤ 3; decide) (fun _ => ⟨_, _, rfl, _, shp_at rw_36.1, Or.inr (show fb 0xa00000000000080c3300012100600f >>> 68 = 10 by decide)⟩) (by omega) (by show 8 + (3 + 11) + 0 ≤ R.locals; omega) (by show (0 : Nat) ≤ 8; decide) (by show kc + 0 ≤ _; omega) (by show ks + 0 ≤ _; omega) (fun r9 hs_c39 hpo hr9 => ?_) (fun x9 hs9 hx9 hpo => ?_)
          · obtain rfl : r9 = none := hr9.elim (fun q => q.2) (fun q => absurd rfl q.1)
            obtain ⟨-, b_c39, hP_c39, fr_c39, qb_c39⟩ := hpo
            obtain ⟨A_c39, qA_c39⟩ : ∃ z : Int, z = Aj := ⟨_, rfl⟩
            rw [← qA_c39] at hP_c39
            have rw_40 := rw_36.fr fr_c39 WP_rw
            have f_41 := hT_36.fr (fun j9 _ => fr_c39.2.2 130 j9 (by unfold WP; omega))
            have f_42 := rd_fr fr_c39 e10_36 (by unfold WP; omega)
            have f_43 := hFj.fr (fun j9 _ => fr_c39.2.2 126 j9 (by unfold WP; omega))
            have f_44 := hGj.fr (fun j9 _ => fr_c39.2.2 128 j9 (by unfold WP; omega))
            have fr_45 := hfr.tr (fr_c39.mono (fun k9 j9 h9 => by unfold WP at h9; unfold WRd; omega))
            obtain ⟨-, -, -, ⟨A9_c39, e11_c39, hA_c39⟩, ⟨b9_c39, e14_c39, hb_c39⟩, ⟨c9_c39, e12_c39⟩, ⟨d9_c39, e13_c39⟩, ⟨f9_c39, e15_c39⟩, -, -, q3_c39, q4_c39, q5_c39, q6_c39⟩ := hP_c39
            clear rw_36 hT_36 e10_36 e11_36 e14_36 e12_36 e13_36 e15_36 hfr
            show WpN (gp g0 wp) CLS p l e R s m args below meth c Q D_259.2.2.1 kc0 ks0 96 [some (.ref 124)] (hs_c39, kc, ks) []
            exact fin96 _ _ _ _ _ _ _ _ _ (show PSt hs_c39 tx L A_c39 b_c39 from ⟨rw_40, f_41, ⟨_, f_42, hL_36⟩, ⟨_, e11_c39, hA_c39⟩, ⟨_, e14_c39, hb_c39⟩, ⟨_, e12_c39⟩, ⟨_, e13_c39⟩, ⟨_, e15_c39⟩, by omega, by omega, by omega, by omega, by omega, by omega⟩) fr_45 f_43 f_44 (hIj.bad (by omega)) hzj (fun q => (hcn_38.resolve_left (by omega)).2)
          · exact absurd hpo.1 (by omega)
      · exact absurd hpo.1 (by omega)
  obtain ⟨rw_46, hT_46, ⟨L9_46, e10_46, hL_46⟩, ⟨A9_46, e11_46, hA_46⟩, ⟨b9_46, e14_46, hb_46⟩, ⟨c9_46, e12_46⟩, ⟨d9_46, e13_46⟩, ⟨f9_46, e15_46⟩, q1_46, q2_46, q3_46, q4_46, q5_46, q6_46⟩ := hP
  have hfr0 := FrS.rf WRd hs
  show WpN (gp g0 wp) CLS p l e R s m args below meth c Q D_259.2.2.1 kc0 ks0 0 [some (.ref 124)] (hs, kc, ks) []
  refine g_loadA act (gx gp_259 (w := 0x103) rfl (by decide) rfl) (a := 0) (n := 1) rfl rfl rfl ?_
  refine g_constL act (gx gp_259 (w := 0x40000000003b0a3ca000000000401) rfl (by decide) rfl) (n := 4) (x := (7738489 : Int64)) (by decide) rfl ?_
  refine n_call tb_pres act hEnd (gx (P := G_call) gp_259 (w := 0xa00000000000080c320000f200070f) rfl (by decide) rfl) (d' := D_242) rfl (as := [.ref 124, .long (7738489 : Int64)]) (rest := []) (br_mustTake (n9 := (7738489 : Int64)) (show PSt hs tx L 0 0 from ⟨rw_46, hT_46, ⟨_, e10_46, hL_46⟩, ⟨_, e11_46, hA_46⟩, ⟨_, e14_46, hb_46⟩, ⟨_, e12_46⟩, ⟨_, e13_46⟩, ⟨_, e15_46⟩, by omega, by omega, by omega, by omega, by omega, by omega⟩)) (show (2 : Nat) = fb 0xa00000000000080c320000f200070f % 16 by decide) (by show (3 : Nat) ≤ 3; decide) (fun _ => ⟨_, _, rfl, _, shp_at rw_46.1, Or.inr (show fb 0xa00000000000080c320000f200070f >>> 68 = 10 by decide)⟩) (by omega) (by show 8 + (3 + 11) + 89 ≤ R.locals; omega) (by show (0 : Nat) ≤ 8; decide) (by show kc + 0 ≤ _; omega) (by show ks + 0 ≤ _; omega) (fun r9 hs_c47 hpo hr9 => ?_) (fun x9 hs9 hx9 hpo => ?_)
  · obtain rfl : r9 = none := hr9.elim (fun q => q.2) (fun q => absurd rfl q.1)
    obtain ⟨-, -, A_c47, b_c47, hP_c47, fr_c47, q7_c47, q8_c47⟩ := hpo
    try replace q8_c47 := q8_c47 (by omega)
    have rw_48 := rw_46.fr fr_c47 WP_rw
    have f_49 := hT_46.fr (fun j9 _ => fr_c47.2.2 130 j9 (by unfold WP; omega))
    have f_50 := rd_fr fr_c47 e10_46 (by unfold WP; omega)
    have f_51 := hF.fr (fun j9 _ => fr_c47.2.2 126 j9 (by unfold WP; omega))
    have f_52 := hG.fr (fun j9 _ => fr_c47.2.2 128 j9 (by unfold WP; omega))
    have fr_53 := hfr0.tr (fr_c47.mono (fun k9 j9 h9 => by unfold WP at h9; unfold WRd; omega))
    obtain ⟨-, -, -, ⟨A9_c47, e11_c47, hA_c47⟩, ⟨b9_c47, e14_c47, hb_c47⟩, ⟨c9_c47, e12_c47⟩, ⟨d9_c47, e13_c47⟩, ⟨f9_c47, e15_c47⟩, -, -, q3_c47, q4_c47, q5_c47, q6_c47⟩ := hP_c47
    clear rw_46 hT_46 e10_46 e11_46 e14_46 e12_46 e13_46 e15_46 hF hG hfr0
    show WpN (gp g0 wp) CLS p l e R s m args below meth c Q D_259.2.2.1 kc0 ks0 7 [some (.ref 124)] (hs_c47, kc, ks) []
    refine g_loadA act (gx gp_259 (w := 0x803) rfl (by decide) rfl) (a := 0) (n := 8) rfl rfl rfl ?_
    refine r_getf act (gx gp_259 (w := 0x3000089000b04) rfl (by decide) rfl) (n := 11) (ci := 9) (j := 2) (N := 39) rfl rfl rfl rw_48.1 (by decide) (rw_48.2 (2, 126, 32, 46) (by decide)).1 ?_
    refine g_constI act (gx gp_259 (w := 0x40000000400000001000000000c01) rfl (by decide) rfl) (n := 12) (x := (0 : Int32)) (by decide) rfl ?_
    refine g_loadA act (gx gp_259 (w := 0xd03) rfl (by decide) rfl) (a := 0) (n := 13) rfl rfl rfl ?_
    refine g_constI act (gx gp_259 (w := 0x40000001400000011000000000e01) rfl (by decide) rfl) (n := 14) (x := (2 : Int32)) (by decide) rfl ?_
    refine g_constI act (gx gp_259 (w := 0x40000002400000021000000000f01) rfl (by decide) rfl) (n := 15) (x := (4 : Int32)) (by decide) rfl ?_
    refine n_call tb_pres act hEnd (gx (P := G_call) gp_259 (w := 0xa000000000000c18330000f400120f) rfl (by decide) rfl) (d' := D_244) rfl (as := [.ref 124, .int (2 : Int32), .int (4 : Int32)]) (rest := [.int (0 : Int32), .ref 126]) (br_number (show PSt hs_c47 tx L A_c47 b_c47 from ⟨rw_48, f_49, ⟨_, f_50, hL_46⟩, ⟨_, e11_c47, hA_c47⟩, ⟨_, e14_c47, hb_c47⟩, ⟨_, e12_c47⟩, ⟨_, e13_c47⟩, ⟨_, e15_c47⟩, by omega, by omega, by omega, by omega, by omega, by omega⟩) (show (2 : Int32).toInt = ((2 : Nat) : Int) from by decide) (show (4 : Int32).toInt = ((4 : Nat) : Int) from by decide) (by omega)) (show (3 : Nat) = fb 0xa000000000000c18330000f400120f % 16 by decide) (by show (3 : Nat) ≤ 6; decide) (fun _ => ⟨_, _, rfl, _, shp_at rw_48.1, Or.inr (show fb 0xa000000000000c18330000f400120f >>> 68 = 10 by decide)⟩) (by omega) (by show 8 + (6 + 11) + 22 ≤ R.locals; omega) (by show (2 : Nat) ≤ 8; decide) (by show kc + 0 ≤ _; omega) (by show ks + 0 ≤ _; omega) (fun r9 hs_c54 hpo hr9 => ?_) (fun x9 hs9 hx9 hpo => ?_)
    · obtain ⟨-, A_c54, b_c54, rv_c54, rfl, hP_c54, fr_c54, q7_c54, q8_c54, q9_c54, q10_c54, q11_c54⟩ := hpo
      try replace q8_c54 := q8_c54 (by omega)
      have rw_55 := rw_48.fr fr_c54 WP_rw
      have f_56 := f_49.fr (fun j9 _ => fr_c54.2.2 130 j9 (by unfold WP; omega))
      have f_57 := rd_fr fr_c54 f_50 (by unfold WP; omega)
      have f_58 := f_51.fr (fun j9 _ => fr_c54.2.2 126 j9 (by unfold WP; omega))
      have f_59 := f_52.fr (fun j9 _ => fr_c54.2.2 128 j9 (by unfold WP; omega))
      have fr_60 := fr_53.tr (fr_c54.mono (fun k9 j9 h9 => by unfold WP at h9; unfold WRd; omega))
      obtain ⟨-, -, -, ⟨A9_c54, e11_c54, hA_c54⟩, ⟨b9_c54, e14_c54, hb_c54⟩, ⟨c9_c54, e12_c54⟩, ⟨d9_c54, e13_c54⟩, ⟨f9_c54, e15_c54⟩, -, -, q3_c54, q4_c54, q5_c54, q6_c54⟩ := hP_c54
      clear rw_48 f_49 f_50 f_51 f_52 e11_c47 e14_c47 e12_c47 e13_c47 e15_c47 fr_53
      show WpN (gp g0 wp) CLS p l e R s m args below meth c Q D_259.2.2.1 kc0 ks0 18 [some (.ref 124)] (hs_c54, kc, ks) [.int rv_c54, .int (0 : Int32), .ref 126]
      refine r_iast act (gx gp_259 (w := 0x1324) rfl (by decide) rfl) (n := 19) (j := 0) rfl (rw_55.2 (2, 126, 32, 46) (by decide)).2 (show (0 : Int32).toInt = ((0 : Nat) : Int) from by decide) (show 0 < 46 by omega) ?_
      have rw_61 := RW.wr (k := 126) (j := 0) (v := .int rv_c54) rw_55 (Or.inl (by decide))
      have f_62 := f_56.ne (k := 126) (j := 0) (v := .int rv_c54) (by decide)
      have f_63 := (rd_ne hs_c54 (k := 126) (j := 0) (.int rv_c54) (Or.inl (by decide))).trans f_57
      have f_64 := f_58.put (j := 0) (rw_55.2 (2, 126, 32, 46) (by decide)).2 (rfl : Int32.toInt rv_c54 = _)
      have f_65 := f_59.ne (k := 126) (j := 0) (v := .int rv_c54) (by decide)
      have f_66 := (rd_ne hs_c54 (k := 126) (j := 0) (.int rv_c54) (Or.inl (by decide))).trans e11_c54
      have f_67 := (rd_ne hs_c54 (k := 126) (j := 0) (.int rv_c54) (Or.inl (by decide))).trans e14_c54
      have f_68 := (rd_ne hs_c54 (k := 126) (j := 0) (.int rv_c54) (Or.inl (by decide))).trans e12_c54
      have f_69 := (rd_ne hs_c54 (k := 126) (j := 0) (.int rv_c54) (Or.inl (by decide))).trans e13_c54
      have f_70 := (rd_ne hs_c54 (k := 126) (j := 0) (.int rv_c54) (Or.inl (by decide))).trans e15_c54
      have fr_71 := fr_60.wr (k := 126) (j := 0) (.int rv_c54) (by unfold WRd; omega)
      clear rw_55 fr_60 f_56 f_57 f_58 f_59 e11_c54 e14_c54 e12_c54 e13_c54 e15_c54
      generalize (wr hs_c54 126 0 (.int rv_c54)) = hs_72 at *
      refine g_loadA act (gx gp_259 (w := 0x1403) rfl (by decide) rfl) (a := 0) (n := 20) rfl rfl rfl ?_
      refine g_constL act (gx gp_259 (w := 0x40000139df42d9112000000001701) rfl (by decide) rfl) (n := 23) (x := (2696140927522 : Int64)) (by decide) rfl ?_
      refine n_call tb_pres act hEnd (gx (P := G_call) gp_259 (w := 0xa00000000000080c320000f2001a0f) rfl (by decide) rfl) (d' := D_242) rfl (as := [.ref 124, .long (2696140927522 : Int64)]) (rest := []) (br_mustTake (n9 := (2696140927522 : Int64)) (show PSt hs_72 tx L A_c54 b_c54 from ⟨rw_61, f_62, ⟨_, f_63, hL_46⟩, ⟨_, f_66, hA_c54⟩, ⟨_, f_67, hb_c54⟩, ⟨_, f_68⟩, ⟨_, f_69⟩, ⟨_, f_70⟩, by omega, by omega, by omega, by omega, by omega, by omega⟩)) (show (2 : Nat) = fb 0xa00000000000080c320000f2001a0f % 16 by decide) (by show (3 : Nat) ≤ 3; decide) (fun _ => ⟨_, _, rfl, _, shp_at rw_61.1, Or.inr (show fb 0xa00000000000080c320000f2001a0f >>> 68 = 10 by decide)⟩) (by omega) (by show 8 + (3 + 11) + 89 ≤ R.locals; omega) (by show (0 : Nat) ≤ 8; decide) (by show kc + 0 ≤ _; omega) (by show ks + 0 ≤ _; omega) (fun r9 hs_c73 hpo hr9 => ?_) (fun x9 hs9 hx9 hpo => ?_)
      · obtain rfl : r9 = none := hr9.elim (fun q => q.2) (fun q => absurd rfl q.1)
        obtain ⟨-, -, A_c73, b_c73, hP_c73, fr_c73, q7_c73, q8_c73⟩ := hpo
        try replace q8_c73 := q8_c73 (by omega)
        have rw_74 := rw_61.fr fr_c73 WP_rw
        have f_75 := f_62.fr (fun j9 _ => fr_c73.2.2 130 j9 (by unfold WP; omega))
        have f_76 := rd_fr fr_c73 f_63 (by unfold WP; omega)
        have f_77 := f_64.fr (fun j9 _ => fr_c73.2.2 126 j9 (by unfold WP; omega))
        have f_78 := f_65.fr (fun j9 _ => fr_c73.2.2 128 j9 (by unfold WP; omega))
        have fr_79 := fr_71.tr (fr_c73.mono (fun k9 j9 h9 => by unfold WP at h9; unfold WRd; omega))
        obtain ⟨-, -, -, ⟨A9_c73, e11_c73, hA_c73⟩, ⟨b9_c73, e14_c73, hb_c73⟩, ⟨c9_c73, e12_c73⟩, ⟨d9_c73, e13_c73⟩, ⟨f9_c73, e15_c73⟩, -, -, q3_c73, q4_c73, q5_c73, q6_c73⟩ := hP_c73
        clear rw_61 f_62 f_63 f_64 f_65 f_66 f_67 f_68 f_69 f_70 fr_71
        show WpN (gp g0 wp) CLS p l e R s m args below meth c Q D_259.2.2.1 kc0 ks0 26 [some (.ref 124)] (hs_c73, kc, ks) []
        refine g_loadA act (gx gp_259 (w := 0x1b03) rfl (by decide) rfl) (a := 0) (n := 27) rfl rfl rfl ?_
        refine r_getf act (gx gp_259 (w := 0x3000089001e04) rfl (by decide) rfl) (n := 30) (ci := 9) (j := 2) (N := 39) rfl rfl rfl rw_74.1 (by decide) (rw_74.2 (2, 126, 32, 46) (by decide)).1 ?_
        refine g_constI act (gx gp_259 (w := 0x40000000c00000009000000001f01) rfl (by decide) rfl) (n := 31) (x := (1 : Int32)) (by decide) rfl ?_
        refine g_loadA act (gx gp_259 (w := 0x2003) rfl (by decide) rfl) (a := 0) (n := 32) rfl rfl rfl ?_
        refine g_constI act (gx gp_259 (w := 0x40000000c00000009000000002101) rfl (by decide) rfl) (n := 33) (x := (1 : Int32)) (by decide) rfl ?_
        refine g_constI act (gx gp_259 (w := 0x40000002400000021000000002201) rfl (by decide) rfl) (n := 34) (x := (4 : Int32)) (by decide) rfl ?_
        refine n_call tb_pres act hEnd (gx (P := G_call) gp_259 (w := 0xa000000000000c18330000f400250f) rfl (by decide) rfl) (d' := D_244) rfl (as := [.ref 124, .int (1 : Int32), .int (4 : Int32)]) (rest := [.int (1 : Int32), .ref 126]) (br_number (show PSt hs_c73 tx L A_c73 b_c73 from ⟨rw_74, f_75, ⟨_, f_76, hL_46⟩, ⟨_, e11_c73, hA_c73⟩, ⟨_, e14_c73, hb_c73⟩, ⟨_, e12_c73⟩, ⟨_, e13_c73⟩, ⟨_, e15_c73⟩, by omega, by omega, by omega, by omega, by omega, by omega⟩) (show (1 : Int32).toInt = ((1 : Nat) : Int) from by decide) (show (4 : Int32).toInt = ((4 : Nat) : Int) from by decide) (by omega)) (show (3 : Nat) = fb 0xa000000000000c18330000f400250f % 16 by decide) (by show (3 : Nat) ≤ 6; decide) (fun _ => ⟨_, _, rfl, _, shp_at rw_74.1, Or.inr (show fb 0xa000000000000c18330000f400250f >>> 68 = 10 by decide)⟩) (by omega) (by show 8 + (6 + 11) + 22 ≤ R.locals; omega) (by show (2 : Nat) ≤ 8; decide) (by show kc + 0 ≤ _; omega) (by show ks + 0 ≤ _; omega) (fun r9 hs_c80 hpo hr9 => ?_) (fun x9 hs9 hx9 hpo => ?_)
        · obtain ⟨-, A_c80, b_c80, rv_c80, rfl, hP_c80, fr_c80, q7_c80, q8_c80, q9_c80, q10_c80, q11_c80⟩ := hpo
          try replace q8_c80 := q8_c80 (by omega)
          have rw_81 := rw_74.fr fr_c80 WP_rw
          have f_82 := f_75.fr (fun j9 _ => fr_c80.2.2 130 j9 (by unfold WP; omega))
          have f_83 := rd_fr fr_c80 f_76 (by unfold WP; omega)
          have f_84 := f_77.fr (fun j9 _ => fr_c80.2.2 126 j9 (by unfold WP; omega))
          have f_85 := f_78.fr (fun j9 _ => fr_c80.2.2 128 j9 (by unfold WP; omega))
          have fr_86 := fr_79.tr (fr_c80.mono (fun k9 j9 h9 => by unfold WP at h9; unfold WRd; omega))
          obtain ⟨-, -, -, ⟨A9_c80, e11_c80, hA_c80⟩, ⟨b9_c80, e14_c80, hb_c80⟩, ⟨c9_c80, e12_c80⟩, ⟨d9_c80, e13_c80⟩, ⟨f9_c80, e15_c80⟩, -, -, q3_c80, q4_c80, q5_c80, q6_c80⟩ := hP_c80
          clear rw_74 f_75 f_76 f_77 f_78 e11_c73 e14_c73 e12_c73 e13_c73 e15_c73 fr_79
          show WpN (gp g0 wp) CLS p l e R s m args below meth c Q D_259.2.2.1 kc0 ks0 37 [some (.ref 124)] (hs_c80, kc, ks) [.int rv_c80, .int (1 : Int32), .ref 126]
          refine r_iast act (gx gp_259 (w := 0x2624) rfl (by decide) rfl) (n := 38) (j := 1) rfl (rw_81.2 (2, 126, 32, 46) (by decide)).2 (show (1 : Int32).toInt = ((1 : Nat) : Int) from by decide) (show 1 < 46 by omega) ?_
          have rw_87 := RW.wr (k := 126) (j := 1) (v := .int rv_c80) rw_81 (Or.inl (by decide))
          have f_88 := f_82.ne (k := 126) (j := 1) (v := .int rv_c80) (by decide)
          have f_89 := (rd_ne hs_c80 (k := 126) (j := 1) (.int rv_c80) (Or.inl (by decide))).trans f_83
          have f_90 := f_84.put (j := 1) (rw_81.2 (2, 126, 32, 46) (by decide)).2 (rfl : Int32.toInt rv_c80 = _)
          have f_91 := f_85.ne (k := 126) (j := 1) (v := .int rv_c80) (by decide)
          have f_92 := (rd_ne hs_c80 (k := 126) (j := 1) (.int rv_c80) (Or.inl (by decide))).trans e11_c80
          have f_93 := (rd_ne hs_c80 (k := 126) (j := 1) (.int rv_c80) (Or.inl (by decide))).trans e14_c80
          have f_94 := (rd_ne hs_c80 (k := 126) (j := 1) (.int rv_c80) (Or.inl (by decide))).trans e12_c80
          have f_95 := (rd_ne hs_c80 (k := 126) (j := 1) (.int rv_c80) (Or.inl (by decide))).trans e13_c80
          have f_96 := (rd_ne hs_c80 (k := 126) (j := 1) (.int rv_c80) (Or.inl (by decide))).trans e15_c80
          have fr_97 := fr_86.wr (k := 126) (j := 1) (.int rv_c80) (by unfold WRd; omega)
          clear rw_81 fr_86 f_82 f_83 f_84 f_85 e11_c80 e14_c80 e12_c80 e13_c80 e15_c80
          generalize (wr hs_c80 126 1 (.int rv_c80)) = hs_98 at *
          refine g_loadA act (gx gp_259 (w := 0x2703) rfl (by decide) rfl) (a := 0) (n := 39) rfl rfl rfl ?_
          refine n_call tb_pres act hEnd (gx (P := G_call) gp_259 (w := 0xa000000000000804110000c9002a0f) rfl (by decide) rfl) (d' := D_201) rfl (as := [.ref 124]) (rest := []) (br_end (show PSt hs_98 tx L A_c80 b_c80 from ⟨rw_87, f_88, ⟨_, f_89, hL_46⟩, ⟨_, f_92, hA_c80⟩, ⟨_, f_93, hb_c80⟩, ⟨_, f_94⟩, ⟨_, f_95⟩, ⟨_, f_96⟩, by omega, by omega, by omega, by omega, by omega, by omega⟩) (by omega)) (show (1 : Nat) = fb 0xa000000000000804110000c9002a0f % 16 by decide) (by show (1 : Nat) ≤ 1; decide) (fun _ => ⟨_, _, rfl, _, shp_at rw_87.1, Or.inr (show fb 0xa000000000000804110000c9002a0f >>> 68 = 10 by decide)⟩) (by omega) (by show 8 + (1 + 11) + 22 ≤ R.locals; omega) (by show (0 : Nat) ≤ 8; decide) (by show kc + 0 ≤ _; omega) (by show ks + 0 ≤ _; omega) (fun r9 hs_c99 hpo hr9 => ?_) (fun x9 hs9 hx9 hpo => ?_)
          · obtain rfl : r9 = none := hr9.elim (fun q => q.2) (fun q => absurd rfl q.1)
            obtain ⟨-, -, A_c99, b_c99, hP_c99, fr_c99, q7_c99, q8_c99⟩ := hpo
            have rw_100 := rw_87.fr fr_c99 WP_rw
            have f_101 := f_88.fr (fun j9 _ => fr_c99.2.2 130 j9 (by unfold WP; omega))
            have f_102 := rd_fr fr_c99 f_89 (by unfold WP; omega)
            have f_103 := f_90.fr (fun j9 _ => fr_c99.2.2 126 j9 (by unfold WP; omega))
            have f_104 := f_91.fr (fun j9 _ => fr_c99.2.2 128 j9 (by unfold WP; omega))
            have fr_105 := fr_97.tr (fr_c99.mono (fun k9 j9 h9 => by unfold WP at h9; unfold WRd; omega))
            obtain ⟨-, -, -, ⟨A9_c99, e11_c99, hA_c99⟩, ⟨b9_c99, e14_c99, hb_c99⟩, ⟨c9_c99, e12_c99⟩, ⟨d9_c99, e13_c99⟩, ⟨f9_c99, e15_c99⟩, -, -, q3_c99, q4_c99, q5_c99, q6_c99⟩ := hP_c99
            clear rw_87 f_88 f_89 f_90 f_91 f_92 f_93 f_94 f_95 f_96 fr_97
            show WpN (gp g0 wp) CLS p l e R s m args below meth c Q D_259.2.2.1 kc0 ks0 42 [some (.ref 124)] (hs_c99, kc, ks) []
            refine g_loadA act (gx gp_259 (w := 0x2b03) rfl (by decide) rfl) (a := 0) (n := 43) rfl rfl rfl ?_
            have hIz : FVI (upI (upI fv 0 (Int32.toInt rv_c54)) 1 (Int32.toInt rv_c80)) gv b_c99 0 0 0 := FVI.zero hf0 hg0 (by omega) (by omega)
            refine n_call tb_pres act hEnd (gx (P := G_call) gp_259 (w := 0xa00000000000080811000104002e0f) rfl (by decide) rfl) (d' := D_260) rfl (as := [.ref 124]) (rest := []) (br_readLines (show PSt hs_c99 tx L A_c99 b_c99 from ⟨rw_100, f_101, ⟨_, f_102, hL_46⟩, ⟨_, e11_c99, hA_c99⟩, ⟨_, e14_c99, hb_c99⟩, ⟨_, e12_c99⟩, ⟨_, e13_c99⟩, ⟨_, e15_c99⟩, by omega, by omega, by omega, by omega, by omega, by omega⟩) f_103 f_104 hIz) (show (1 : Nat) = fb 0xa00000000000080811000104002e0f % 16 by decide) (by show (1 : Nat) ≤ 2; decide) (fun _ => ⟨_, _, rfl, _, shp_at rw_100.1, Or.inr (show fb 0xa00000000000080811000104002e0f >>> 68 = 10 by decide)⟩) (by omega) (by show 8 + (2 + 11) + 91 ≤ R.locals; omega) (by show (0 : Nat) ≤ 8; decide) (by show kc + 0 ≤ _; omega) (by show ks + 0 ≤ _; omega) (fun r9 hs_c106 hpo hr9 => ?_) (fun x9 hs9 hx9 hpo => ?_)
            · obtain rfl : r9 = none := hr9.elim (fun q => q.2) (fun q => absurd rfl q.1)
              obtain ⟨-, -, A_c106, b_c106, fv_c106, gv_c106, nl_c106, ng_c106, nr_c106, hP_c106, fr_c106, hF_c106, hG_c106, hI_c106, qb_c106, qs_c106⟩ := hpo
              have rw_107 := rw_100.fr fr_c106 WRd_rw
              have f_108 := f_101.fr (fun j9 _ => fr_c106.2.2 130 j9 (by unfold WRd; omega))
              have f_109 := rd_fr fr_c106 f_102 (by unfold WRd; omega)
              have fr_110 := fr_105.tr fr_c106
              obtain ⟨-, -, -, ⟨A9_c106, e11_c106, hA_c106⟩, ⟨b9_c106, e14_c106, hb_c106⟩, ⟨c9_c106, e12_c106⟩, ⟨d9_c106, e13_c106⟩, ⟨f9_c106, e15_c106⟩, -, -, q3_c106, q4_c106, q5_c106, q6_c106⟩ := hP_c106
              clear rw_100 f_101 f_102 f_103 f_104 e11_c99 e14_c99 e12_c99 e13_c99 e15_c99 fr_105
              show WpN (gp g0 wp) CLS p l e R s m args below meth c Q D_259.2.2.1 kc0 ks0 46 [some (.ref 124)] (hs_c106, kc, ks) []
              refine g_loadA act (gx gp_259 (w := 0x2f03) rfl (by decide) rfl) (a := 0) (n := 47) rfl rfl rfl ?_
              refine r_getf act (gx gp_259 (w := 0x1000389003204) rfl (by decide) rfl) (n := 50) (ci := 9) (j := 14) (N := 39) rfl rfl rfl rw_107.1 (by decide) (v := .int b9_c106) e14_c106 ?_
              refine g_ifNe act (gx gp_259 (w := 0x4500351d) rfl (by decide) rfl) (tgt := 69) (n := 53) rfl rfl (fun h18 => ?_) (fun h18 => ?_)
              · simp only [i_eq, i0] at h18
                exact fin69 _ _ _ _ _ _ _ _ (fv_c106 0 - 1).toNat (show PSt hs_c106 tx L A_c106 b_c106 from ⟨rw_107, f_108, ⟨_, f_109, hL_46⟩, ⟨_, e11_c106, hA_c106⟩, ⟨_, e14_c106, hb_c106⟩, ⟨_, e12_c106⟩, ⟨_, e13_c106⟩, ⟨_, e15_c106⟩, by omega, by omega, by omega, by omega, by omega, by omega⟩) fr_110 hF_c106 hG_c106 (hI_c106.bad (by omega)) (by have := hI_c106.1; omega)
              · simp only [i_eq, i0] at h18
                refine g_loadA act (gx gp_259 (w := 0x3603) rfl (by decide) rfl) (a := 0) (n := 54) rfl rfl rfl ?_
                refine n_call tb_pres act hEnd (gx (P := G_call) gp_259 (w := 0xa000000000000c0c110000db00390f) rfl (by decide) rfl) (d' := D_219) rfl (as := [.ref 124]) (rest := []) (br_isBehind (show PSt hs_c106 tx L A_c106 b_c106 from ⟨rw_107, f_108, ⟨_, f_109, hL_46⟩, ⟨_, e11_c106, hA_c106⟩, ⟨_, e14_c106, hb_c106⟩, ⟨_, e12_c106⟩, ⟨_, e13_c106⟩, ⟨_, e15_c106⟩, by omega, by omega, by omega, by omega, by omega, by omega⟩)) (show (1 : Nat) = fb 0xa000000000000c0c110000db00390f % 16 by decide) (by show (1 : Nat) ≤ 3; decide) (fun _ => ⟨_, _, rfl, _, shp_at rw_107.1, Or.inr (show fb 0xa000000000000c0c110000db00390f >>> 68 = 10 by decide)⟩) (by omega) (by show 8 + (3 + 11) + 67 ≤ R.locals; omega) (by show (0 : Nat) ≤ 8; decide) (by show kc + 0 ≤ _; omega) (by show ks + 0 ≤ _; omega) (fun r9 hs_c111 hpo hr9 => ?_) (fun x9 hs9 hx9 hpo => ?_)
                · obtain ⟨-, A_c111, rv_c111, rfl, hP_c111, fr_c111⟩ := hpo
                  have rw_112 := rw_107.fr fr_c111 WP_rw
                  have f_113 := f_108.fr (fun j9 _ => fr_c111.2.2 130 j9 (by unfold WP; omega))
                  have f_114 := rd_fr fr_c111 f_109 (by unfold WP; omega)
                  have f_115 := hF_c106.fr (fun j9 _ => fr_c111.2.2 126 j9 (by unfold WP; omega))
                  have f_116 := hG_c106.fr (fun j9 _ => fr_c111.2.2 128 j9 (by unfold WP; omega))
                  have fr_117 := fr_110.tr (fr_c111.mono (fun k9 j9 h9 => by unfold WP at h9; unfold WRd; omega))
                  obtain ⟨-, -, -, ⟨A9_c111, e11_c111, hA_c111⟩, ⟨b9_c111, e14_c111, hb_c111⟩, ⟨c9_c111, e12_c111⟩, ⟨d9_c111, e13_c111⟩, ⟨f9_c111, e15_c111⟩, -, -, q3_c111, q4_c111, q5_c111, q6_c111⟩ := hP_c111
                  clear rw_107 f_108 f_109 e11_c106 e14_c106 e12_c106 e13_c106 e15_c106 hF_c106 hG_c106 fr_110
                  show WpN (gp g0 wp) CLS p l e R s m args below meth c Q D_259.2.2.1 kc0 ks0 57 [some (.ref 124)] (hs_c111, kc, ks) [.int rv_c111]
                  refine g_ifNe act (gx gp_259 (w := 0x45003c1d) rfl (by decide) rfl) (tgt := 69) (n := 60) rfl rfl (fun h20 => ?_) (fun h20 => ?_)
                  · simp only [i_eq, i0] at h20
                    exact fin69 _ _ _ _ _ _ _ _ (fv_c106 0 - 1).toNat (show PSt hs_c111 tx L A_c111 b_c106 from ⟨rw_112, f_113, ⟨_, f_114, hL_46⟩, ⟨_, e11_c111, hA_c111⟩, ⟨_, e14_c111, hb_c111⟩, ⟨_, e12_c111⟩, ⟨_, e13_c111⟩, ⟨_, e15_c111⟩, by omega, by omega, by omega, by omega, by omega, by omega⟩) fr_117 f_115 f_116 (hI_c106.bad (by omega)) (by have := hI_c106.1; omega)
                  · simp only [i_eq, i0] at h20
                    refine g_loadA act (gx gp_259 (w := 0x3d03) rfl (by decide) rfl) (a := 0) (n := 61) rfl rfl rfl ?_
                    refine g_constI act (gx gp_259 (w := 0x40000000c00000009000000003e01) rfl (by decide) rfl) (n := 62) (x := (1 : Int32)) (by decide) rfl ?_
                    refine g_loadA act (gx gp_259 (w := 0x3f03) rfl (by decide) rfl) (a := 0) (n := 63) rfl rfl rfl ?_
                    refine r_getf act (gx gp_259 (w := 0x2c9004204) rfl (by decide) rfl) (n := 66) (ci := 9) (j := 11) (N := 39) rfl rfl rfl rw_112.1 (by decide) (v := .int A9_c111) e11_c111 ?_
                    refine n_call tb_pres act hEnd (gx (P := G_call) gp_259 (w := 0xa00000000000080c3300012100450f) rfl (by decide) rfl) (d' := D_289) rfl (as := [.ref 124, .int (1 : Int32), .int A9_c111]) (rest := []) (br_wrong (show PSt hs_c111 tx L A_c111 b_c106 from ⟨rw_112, f_113, ⟨_, f_114, hL_46⟩, ⟨_, e11_c111, hA_c111⟩, ⟨_, e14_c111, hb_c111⟩, ⟨_, e12_c111⟩, ⟨_, e13_c111⟩, ⟨_, e15_c111⟩, by omega, by omega, by omega, by omega, by omega, by omega⟩)) (show (3 : Nat) = fb 0xa00000000000080c3300012100450f % 16 by decide) (by show (3 : Nat) ≤ 3; decide) (fun _ => ⟨_, _, rfl, _, shp_at rw_112.1, Or.inr (show fb 0xa00000000000080c3300012100450f >>> 68 = 10 by decide)⟩) (by omega) (by show 8 + (3 + 11) + 0 ≤ R.locals; omega) (by show (0 : Nat) ≤ 8; decide) (by show kc + 0 ≤ _; omega) (by show ks + 0 ≤ _; omega) (fun r9 hs_c118 hpo hr9 => ?_) (fun x9 hs9 hx9 hpo => ?_)
                    · obtain rfl : r9 = none := hr9.elim (fun q => q.2) (fun q => absurd rfl q.1)
                      obtain ⟨-, b_c118, hP_c118, fr_c118, qb_c118⟩ := hpo
                      obtain ⟨A_c118, qA_c118⟩ : ∃ z : Int, z = A_c111 := ⟨_, rfl⟩
                      rw [← qA_c118] at hP_c118
                      have rw_119 := rw_112.fr fr_c118 WP_rw
                      have f_120 := f_113.fr (fun j9 _ => fr_c118.2.2 130 j9 (by unfold WP; omega))
                      have f_121 := rd_fr fr_c118 f_114 (by unfold WP; omega)
                      have f_122 := f_115.fr (fun j9 _ => fr_c118.2.2 126 j9 (by unfold WP; omega))
                      have f_123 := f_116.fr (fun j9 _ => fr_c118.2.2 128 j9 (by unfold WP; omega))
                      have fr_124 := fr_117.tr (fr_c118.mono (fun k9 j9 h9 => by unfold WP at h9; unfold WRd; omega))
                      obtain ⟨-, -, -, ⟨A9_c118, e11_c118, hA_c118⟩, ⟨b9_c118, e14_c118, hb_c118⟩, ⟨c9_c118, e12_c118⟩, ⟨d9_c118, e13_c118⟩, ⟨f9_c118, e15_c118⟩, -, -, q3_c118, q4_c118, q5_c118, q6_c118⟩ := hP_c118
                      clear rw_112 f_113 f_114 f_115 f_116 e11_c111 e14_c111 e12_c111 e13_c111 e15_c111 fr_117
                      show WpN (gp g0 wp) CLS p l e R s m args below meth c Q D_259.2.2.1 kc0 ks0 69 [some (.ref 124)] (hs_c118, kc, ks) []
                      exact fin69 _ _ _ _ _ _ _ _ (fv_c106 0 - 1).toNat (show PSt hs_c118 tx L A_c118 b_c118 from ⟨rw_119, f_120, ⟨_, f_121, hL_46⟩, ⟨_, e11_c118, hA_c118⟩, ⟨_, e14_c118, hb_c118⟩, ⟨_, e12_c118⟩, ⟨_, e13_c118⟩, ⟨_, e15_c118⟩, by omega, by omega, by omega, by omega, by omega, by omega⟩) fr_124 f_122 f_123 (hI_c106.bad (by omega)) (by have := hI_c106.1; omega)
                    · exact absurd hpo.1 (by omega)
                · exact absurd hpo.1 (by omega)
            · exact absurd hpo.1 (by omega)
          · exact absurd hpo.1 (by omega)
        · exact absurd hpo.1 (by omega)
      · exact absurd hpo.1 (by omega)
    · exact absurd hpo.1 (by omega)
  · exact absurd hpo.1 (by omega)

end PAR6

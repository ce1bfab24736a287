/-! The reference: costs of other dispatches. -/
theorem b_isFeasible {g0 : GG} {bl : Nat} {xs : Nat → Int32} {l : Launch} {hs : List CE} {tl wl : Nat → Int} {nl n ng nr : Nat} (hNW : NW tl wl nl n ng nr) {a : Int32} (hB : BM hs tl wl) (hM : ModF hs) : BodyN SSX TBL g0 CLS bl xs l D_220 9 228 0 0 [.ref 124, .int a] hs (POZ hs) := by
  intro wp p e R s m args below meth c Q kc0 ks0 kc ks act hf hl hc hsl hEnd
  have hN9 := hNW
  obtain ⟨n0, n1, n2, n3, n4, n5, n6, n7, n8, hG0, nL, nC, nP, nD⟩ := hN9
  have hGn := hG0.1
  have hGn3 := hG0.2.1
  have hGl := hG0.2.2.1
  obtain ⟨rw0, hTo, hW⟩ := hB
  show WpN (gp g0 wp) CLS p l e R s m args below meth c Q D_220.2.2.1 kc0 ks0 0 [some (.ref 124), some (.int a)] (hs, kc, ks) []
  refine g_loadA act (gx gp_220 (w := 0x103) rfl (by decide) rfl) (a := 0) (n := 1) rfl rfl rfl ?_
  refine g_loadA act (gx gp_220 (w := 0x203) rfl (by decide) rfl) (a := 0) (n := 2) rfl rfl rfl ?_
  refine g_loadI act (gx gp_220 (w := 0x1000302) rfl (by decide) rfl) (a := 1) (n := 3) rfl rfl rfl ?_
  refine n_call tb_pres act hEnd (gx (P := G_call) gp_220 (w := 0xa000000000000c08220000e000060f) rfl (by decide) rfl) (d' := D_224) rfl (as := [.ref 124, .int a]) (rest := [.ref 124]) (b_isInterval (tl := tl) rw0 hTo (rfl : Int32.toInt a = _) (by omega) (by omega)) (show (2 : Nat) = fb 0xa000000000000c08220000e000060f % 16 by decide) (by show (2 : Nat) ≤ 2; decide) (fun _ => ⟨_, _, rfl, _, shp_at rw0.1, Or.inr (show fb 0xa000000000000c08220000e000060f >>> 68 = 10 by decide)⟩) (by omega) (by show 8 + (2 + 11) + 22 ≤ R.locals; omega) (by show (1 : Nat) ≤ 8; decide) (by show kc + 0 ≤ _; omega) (by show ks + 0 ≤ _; omega) (fun r9 h3 hpo hr9 => ?_) (fun x9 hs9 hx9 hpo => ?_)
  · obtain ⟨-, rfl, hin_2⟩ := hpo
    obtain ⟨rv_1, rfl, hin_2o⟩ := in1_t hin_2
    show WpN (gp g0 wp) CLS p l e R s m args below meth c Q D_220.2.2.1 kc0 ks0 6 [some (.ref 124), some (.int a)] (hs, kc, ks) [.int rv_1, .ref 124]
    refine g_ifEq act (gx gp_220 (w := 0xd00090e) rfl (by decide) rfl) (tgt := 13) (n := 9) rfl rfl (fun h4 => ?_) (fun h4 => ?_)
    · simp only [i_eq, i0] at h4
      refine g_constI act (gx gp_220 (w := 0x40000000c00000009000000000e01) rfl (by decide) rfl) (n := 14) (x := (1 : Int32)) (by decide) rfl ?_
      refine r_putf act (gx gp_220 (w := 0x9001113) rfl (by decide) rfl) (n := 17) (ci := 9) (j := 0) (N := 39) rfl rfl rfl rw0.1 (by decide) (Or.inl ⟨rfl, _, rfl⟩) ?_
      have rw_3 := RW.wr (k := 124) (j := 0) (v := .int (1 : Int32)) rw0 (Or.inr (by decide))
      have f_4 := hTo.ne (k := 124) (j := 0) (v := .int (1 : Int32)) (by decide)
      have f_5 := hW.ne (k := 124) (j := 0) (v := .int (1 : Int32)) (by decide)
      have f_6 := hM.wr0 (x := (1 : Int32)) rw0.1 (by decide) (by decide)
      have f_7 := rd_same (j := 0) (v := .int (1 : Int32)) rw0.1
      have fr_8 := (FrS.rf WM hs).wr (k := 124) (j := 0) (.int (1 : Int32)) (by unfold WM; omega)
      generalize (wr hs 124 0 (.int (1 : Int32))) = hs_9 at *
      refine g_loadA act (gx gp_220 (w := 0x1203) rfl (by decide) rfl) (a := 0) (n := 18) rfl rfl rfl ?_
      refine r_getf act (gx gp_220 (w := 0x9001504) rfl (by decide) rfl) (n := 21) (ci := 9) (j := 0) (N := 39) rfl rfl rfl rw_3.1 (by decide) (v := .int (1 : Int32)) f_7 ?_
      refine g_ifNe act (gx gp_220 (w := 0x2400181d) rfl (by decide) rfl) (tgt := 36) (n := 24) rfl rfl (fun _ => ?_) (fun q => absurd (by decide) q)
      refine g_constI act (gx gp_220 (w := 0x40000000400000001000000002501) rfl (by decide) rfl) (n := 37) (x := (0 : Int32)) (by decide) rfl ?_
      exact g_retZ hEnd (gx gp_220 (w := 0x23) rfl (by decide) rfl) (by decide) ⟨rfl, (by decide), f_6, fr_8⟩ (by show kc ≤ kc + 0; omega) (by show ks ≤ ks + 0; omega)
    · simp only [i_eq, i0] at h4
      refine g_constI act (gx gp_220 (w := 0x40000000400000001000000000a01) rfl (by decide) rfl) (n := 10) (x := (0 : Int32)) (by decide) rfl ?_
      refine g_goto act (gx gp_220 (w := 0xe07) rfl (by decide) rfl) (n := 14) rfl ?_
      refine r_putf act (gx gp_220 (w := 0x9001113) rfl (by decide) rfl) (n := 17) (ci := 9) (j := 0) (N := 39) rfl rfl rfl rw0.1 (by decide) (Or.inl ⟨rfl, _, rfl⟩) ?_
      have rw_10 := RW.wr (k := 124) (j := 0) (v := .int (0 : Int32)) rw0 (Or.inr (by decide))
      have f_11 := hTo.ne (k := 124) (j := 0) (v := .int (0 : Int32)) (by decide)
      have f_12 := hW.ne (k := 124) (j := 0) (v := .int (0 : Int32)) (by decide)
      have f_13 := hM.wr0 (x := (0 : Int32)) rw0.1 (by decide) (by decide)
      have f_14 := rd_same (j := 0) (v := .int (0 : Int32)) rw0.1
      have fr_15 := (FrS.rf WM hs).wr (k := 124) (j := 0) (.int (0 : Int32)) (by unfold WM; omega)
      generalize (wr hs 124 0 (.int (0 : Int32))) = hs_16 at *
      refine g_loadA act (gx gp_220 (w := 0x1203) rfl (by decide) rfl) (a := 0) (n := 18) rfl rfl rfl ?_
      refine r_getf act (gx gp_220 (w := 0x9001504) rfl (by decide) rfl) (n := 21) (ci := 9) (j := 0) (N := 39) rfl rfl rfl rw_10.1 (by decide) (v := .int (0 : Int32)) f_14 ?_
      refine g_ifNe act (gx gp_220 (w := 0x2400181d) rfl (by decide) rfl) (tgt := 36) (n := 24) rfl rfl (fun q => absurd q (by decide)) (fun _ => ?_)
      refine g_loadA act (gx gp_220 (w := 0x1903) rfl (by decide) rfl) (a := 0) (n := 25) rfl rfl rfl ?_
      refine g_loadI act (gx gp_220 (w := 0x1001a02) rfl (by decide) rfl) (a := 1) (n := 26) rfl rfl rfl ?_
      obtain ⟨j_17, hj_18⟩ := Int.eq_ofNat_of_zero_le (show (0 : Int) ≤ (Int32.toInt a) by omega)
      refine n_call tb_pres act hEnd (gx (P := G_call) gp_220 (w := 0xa000000000000c08220000dd001d0f) rfl (by decide) rfl) (d' := D_221) rfl (as := [.ref 124, .int a]) (rest := []) (b_isFound hNW ⟨rw_10, f_11, f_12⟩ ((rfl : Int32.toInt a = _).trans hj_18) (by omega)) (show (2 : Nat) = fb 0xa000000000000c08220000dd001d0f % 16 by decide) (by show (2 : Nat) ≤ 2; decide) (fun _ => ⟨_, _, rfl, _, shp_at rw_10.1, Or.inr (show fb 0xa000000000000c08220000dd001d0f >>> 68 = 10 by decide)⟩) (by omega) (by show 8 + (2 + 11) + 207 ≤ R.locals; omega) (by show (0 : Nat) ≤ 8; decide) (by show kc + 0 ≤ _; omega) (by show ks + 0 ≤ _; omega) (fun r9 hs_19 hpo hr9 => ?_) (fun x9 hs9 hx9 hpo => ?_)
      · obtain ⟨-, ⟨rf, rfl, hr_22⟩, hFd_23, hMd9, fr_20⟩ := hpo
        have hM_21 := hMd9 f_13
        have rw_24 := rw_10.fr fr_20 WG_rw
        have f_25 := f_11.fr (fun j9 _ => fr_20.2.2 125 j9 (by unfold WG WD WK; omega))
        have f_26 := f_12.fr (fun j9 _ => fr_20.2.2 127 j9 (by unfold WG WD WK; omega))
        have fr_27 := fr_15.tr (fr_20.mono (fun k9 j9 h9 => by unfold WG WD WK at h9; unfold WM; omega))
        clear rw_10 f_11 f_12 f_13 f_14 fr_15
        show WpN (gp g0 wp) CLS p l e R s m args below meth c Q D_220.2.2.1 kc0 ks0 29 [some (.ref 124), some (.int a)] (hs_19, kc, ks) [.int rf]
        refine g_ifEq act (gx gp_220 (w := 0x2400200e) rfl (by decide) rfl) (tgt := 36) (n := 32) rfl rfl (fun h15 => ?_) (fun h15 => ?_)
        · simp only [i_eq, i0] at h15
          refine g_constI act (gx gp_220 (w := 0x40000000400000001000000002501) rfl (by decide) rfl) (n := 37) (x := (0 : Int32)) (by decide) rfl ?_
          exact g_retZ hEnd (gx gp_220 (w := 0x23) rfl (by decide) rfl) (by decide) ⟨rfl, (by decide), hM_21, fr_27⟩ (by show kc ≤ kc + 0; omega) (by show ks ≤ ks + 0; omega)
        · simp only [i_eq, i0] at h15
          refine g_constI act (gx gp_220 (w := 0x40000000c00000009000000002101) rfl (by decide) rfl) (n := 33) (x := (1 : Int32)) (by decide) rfl ?_
          refine g_goto act (gx gp_220 (w := 0x2507) rfl (by decide) rfl) (n := 37) rfl ?_
          exact g_retZ hEnd (gx gp_220 (w := 0x23) rfl (by decide) rfl) (by decide) ⟨rfl, (by decide), hM_21, fr_27⟩ (by show kc ≤ kc + 0; omega) (by show ks ≤ ks + 0; omega)
      · exact absurd hpo.1 (by omega)
  · exact absurd hpo.1 (by omega)

theorem b_costsLess {g0 : GG} {bl : Nat} {xs : Nat → Int32} {l : Launch} {hs : List CE} {tl wl : Nat → Int} {nl n ng nr : Nat} (hNW : NW tl wl nl n ng nr) {ou : Int} {a : Int32} {ct cl : Int64} (hB : BM hs tl wl) (hM : ModF hs) (hA : Ask hs tl nl n ou 220 100001) (f29 : rd hs 124 29 = .long ct) (f30 : rd hs 124 30 = .long cl) (hcl : K2 9 cl) : BodyN SSX TBL g0 CLS bl xs l D_194 8 207 0 0 [.ref 124, .int a] hs (POL hs) := by
  intro wp p e R s m args below meth c Q kc0 ks0 kc ks act hf hl hc hsl hEnd
  have hN9 := hNW
  obtain ⟨n0, n1, n2, n3, n4, n5, n6, n7, n8, hG0, nL, nC, nP, nD⟩ := hN9
  have hGn := hG0.1
  have hGn3 := hG0.2.1
  have hGl := hG0.2.2.1
  obtain ⟨rw0, hTo, hW⟩ := hB
  obtain ⟨hG, ⟨oi, f24, hoi⟩, ⟨dm, fD, hdm⟩, ⟨lm, fL, hlm⟩, ⟨em, fE, hem⟩, ⟨cp, fC, hcp⟩⟩ := hA
  show WpN (gp g0 wp) CLS p l e R s m args below meth c Q D_194.2.2.1 kc0 ks0 0 [some (.ref 124), some (.int a), none, none, none, none, none] (hs, kc, ks) []
  refine g_loadA act (gx gp_194 (w := 0x103) rfl (by decide) rfl) (a := 0) (n := 1) rfl rfl rfl ?_
  refine r_getf act (gx gp_194 (w := 0x2000749000404) rfl (by decide) rfl) (n := 4) (ci := 9) (j := 29) (N := 39) rfl rfl rfl rw0.1 (by decide) (v := .long ct) f29 ?_
  refine g_storeL act (gx gp_194 (w := 0x200050b) rfl (by decide) rfl) (a := 2) (n := 5) rfl rfl (L2 := [some (.ref 124), some (.int a), some (.long ct), none, none, none, none]) rfl ?_
  refine g_loadA act (gx gp_194 (w := 0x603) rfl (by decide) rfl) (a := 0) (n := 6) rfl rfl rfl ?_
  refine r_getf act (gx gp_194 (w := 0x2000789000904) rfl (by decide) rfl) (n := 9) (ci := 9) (j := 30) (N := 39) rfl rfl rfl rw0.1 (by decide) (v := .long cl) f30 ?_
  refine g_storeL act (gx gp_194 (w := 0x4000b0b) rfl (by decide) rfl) (a := 4) (n := 11) rfl rfl (L2 := [some (.ref 124), some (.int a), some (.long ct), none, some (.long cl), none, none]) rfl ?_
  refine g_loadA act (gx gp_194 (w := 0xc03) rfl (by decide) rfl) (a := 0) (n := 12) rfl rfl rfl ?_
  refine n_call tb_pres act hEnd (gx (P := G_call) gp_194 (w := 0xa000000000000c08110000ce000f0f) rfl (by decide) rfl) (d' := D_206) rfl (as := [.ref 124]) (rest := []) (b_findsP (ou := ou) (bd9 := 220) (bl9 := 100001) hNW ⟨rw0, hTo, hW⟩ ⟨hG, ⟨_, f24, hoi⟩, ⟨_, fD, hdm⟩, ⟨_, fL, hlm⟩, ⟨_, fE, hem⟩, ⟨_, fC, hcp⟩⟩ (by decide) (by decide)) (show (1 : Nat) = fb 0xa000000000000c08110000ce000f0f % 16 by decide) (by show (1 : Nat) ≤ 2; decide) (fun _ => ⟨_, _, rfl, _, shp_at rw0.1, Or.inr (show fb 0xa000000000000c08110000ce000f0f >>> 68 = 10 by decide)⟩) (by omega) (by show 8 + (2 + 11) + 186 ≤ R.locals; omega) (by show (0 : Nat) ≤ 8; decide) (by show kc + 0 ≤ _; omega) (by show ks + 0 ≤ _; omega) (fun r9 hs_1 hpo hr9 => ?_) (fun x9 hs9 hx9 hpo => ?_)
  · obtain ⟨-, hr_4, hFd_5, hMd9, fr_2⟩ := hpo
    obtain ⟨rf_6, rfl, hr_4o⟩ := z01_t hr_4
    have rw_7 := rw0.fr fr_2 WD_rw
    have f_8 := hTo.fr (fun j9 _ => fr_2.2.2 125 j9 (by unfold WD; omega))
    have f_9 := hW.fr (fun j9 _ => fr_2.2.2 127 j9 (by unfold WD; omega))
    have f_11 := fD.fr (fun j9 _ => fr_2.2.2 135 j9 (by unfold WD; omega))
    have f_12 := fL.fr (fun j9 _ => fr_2.2.2 136 j9 (by unfold WD; omega))
    have f_13 := fE.fr (fun j9 _ => fr_2.2.2 137 j9 (by unfold WD; omega))
    have f_14 := fC.fr (fun j9 _ => fr_2.2.2 138 j9 (by unfold WD; omega))
    have f_15 := rd_fr fr_2 f24 (by unfold WD; omega)
    have fr_16 := (FrS.rf WM hs).tr (fr_2.mono (fun k9 j9 h9 => by unfold WD at h9; unfold WM; omega))
    have hM_3 := hMd9 hM
    obtain ⟨-, -, fFo_17, ⟨fK0_17, fK1_17⟩⟩ := hFd_5
    obtain ⟨⟨ct_17, cl_17, f29_17, f30_17, hck_17⟩, fKO_17⟩ := found_k hG fFo_17
    show WpN (gp g0 wp) CLS p l e R s m args below meth c Q D_194.2.2.1 kc0 ks0 15 [some (.ref 124), some (.int a), some (.long ct), none, some (.long cl), none, none] (hs_1, kc, ks) [.int rf_6]
    refine g_storeI act (gx gp_194 (w := 0x6001110) rfl (by decide) rfl) (a := 6) (n := 17) rfl rfl (L2 := [some (.ref 124), some (.int a), some (.long ct), none, some (.long cl), none, some (.int rf_6)]) rfl ?_
    refine g_loadA act (gx gp_194 (w := 0x1203) rfl (by decide) rfl) (a := 0) (n := 18) rfl rfl rfl ?_
    refine g_loadL act (gx gp_194 (w := 0x2001306) rfl (by decide) rfl) (a := 2) (n := 19) rfl rfl rfl ?_
    refine g_loadL act (gx gp_194 (w := 0x4001506) rfl (by decide) rfl) (a := 4) (n := 21) rfl rfl rfl ?_
    refine g_loadA act (gx gp_194 (w := 0x1603) rfl (by decide) rfl) (a := 0) (n := 22) rfl rfl rfl ?_
    refine r_getf act (gx gp_194 (w := 0x2000749001904) rfl (by decide) rfl) (n := 25) (ci := 9) (j := 29) (N := 39) rfl rfl rfl rw_7.1 (by decide) (v := .long ct_17) f29_17 ?_
    refine g_lneg act (gx gp_194 (w := 0x1a25) rfl (by decide) rfl) (n := 26) rfl ?_
    refine g_loadA act (gx gp_194 (w := 0x1b03) rfl (by decide) rfl) (a := 0) (n := 27) rfl rfl rfl ?_
    refine r_getf act (gx gp_194 (w := 0x2000789001e04) rfl (by decide) rfl) (n := 30) (ci := 9) (j := 30) (N := 39) rfl rfl rfl rw_7.1 (by decide) (v := .long cl_17) f30_17 ?_
    refine n_call tb_pres act hEnd (gx (P := G_call) gp_194 (w := 0xa00000000000082c950000fc00210f) rfl (by decide) rfl) (d' := D_252) rfl (as := [.ref 124, .long ct, .long cl, .long (-ct_17), .long cl_17]) (rest := []) (b_plusK (k := 9) rw_7.1 (hcl.mono (by decide)) (hck_17.mono (by decide)) (by decide)) (show (5 : Nat) = fb 0xa00000000000082c950000fc00210f % 16 by decide) (by show (9 : Nat) ≤ 11; decide) (fun _ => ⟨_, _, rfl, _, shp_at rw_7.1, Or.inr (show fb 0xa00000000000082c950000fc00210f >>> 68 = 10 by decide)⟩) (by omega) (by show 8 + (11 + 11) + 55 ≤ R.locals; omega) (by show (0 : Nat) ≤ 8; decide) (by show kc + 0 ≤ _; omega) (by show ks + 0 ≤ _; omega) (fun r9 hs_18 hpo hr9 => ?_) (fun x9 hs9 hx9 hpo => ?_)
    · obtain rfl : r9 = none := hr9.elim (fun q => q.2) (fun q => absurd rfl q.1)
      obtain ⟨-, t_19, w_20, e_21, e_22, hK_23, fr_24⟩ := hpo
      have hM_25 := ModF.w0 hM_3 fr_24
      have rw_26 := rw_7.fr fr_24 W0_rw
      have f_27 := f_8.fr (fun j9 _ => fr_24.2.2 125 j9 (by unfold W0; omega))
      have f_28 := f_9.fr (fun j9 _ => fr_24.2.2 127 j9 (by unfold W0; omega))
      have f_29 := f_11.fr (fun j9 _ => fr_24.2.2 135 j9 (by unfold W0; omega))
      have f_30 := f_12.fr (fun j9 _ => fr_24.2.2 136 j9 (by unfold W0; omega))
      have f_31 := f_13.fr (fun j9 _ => fr_24.2.2 137 j9 (by unfold W0; omega))
      have f_32 := f_14.fr (fun j9 _ => fr_24.2.2 138 j9 (by unfold W0; omega))
      have f_33 := rd_fr fr_24 f_15 (by unfold W0; omega)
      have f_35 := rd_fr fr_24 f29_17 (by unfold W0; omega)
      have f_36 := rd_fr fr_24 f30_17 (by unfold W0; omega)
      have f_37 := fKO_17.fr (fun j9 _ _ => ⟨fr_24.2.2 142 j9 (by unfold W0; omega), fr_24.2.2 143 j9 (by unfold W0; omega)⟩)
      have f_38 := fK0_17.fr (fun j9 _ _ => ⟨fr_24.2.2 131 j9 (by unfold W0; omega), fr_24.2.2 132 j9 (by unfold W0; omega)⟩)
      have f_39 := fun q9 => (fK1_17 q9).fr (fun j9 _ _ => ⟨fr_24.2.2 131 j9 (by unfold W0; omega), fr_24.2.2 132 j9 (by unfold W0; omega)⟩)
      have f_40 := fFo_17.fr fr_24 (fun j9 => by unfold W0; omega) (by unfold W0; omega) (by unfold W0; omega)
      have fr_41 := fr_16.tr (fr_24.mono (fun k9 j9 h9 => by unfold W0 at h9; unfold WM; omega))
      clear rw_7 f_8 f_9 f_11 f_12 f_13 f_14 f_15 hM_3 f29_17 f30_17 fKO_17 fK0_17 fK1_17 fFo_17 fr_16
      show WpN (gp g0 wp) CLS p l e R s m args below meth c Q D_194.2.2.1 kc0 ks0 33 [some (.ref 124), some (.int a), some (.long ct), none, some (.long cl), none, some (.int rf_6)] (hs_18, kc, ks) []
      refine g_loadA act (gx gp_194 (w := 0x2203) rfl (by decide) rfl) (a := 0) (n := 34) rfl rfl rfl ?_
      refine g_loadI act (gx gp_194 (w := 0x1002302) rfl (by decide) rfl) (a := 1) (n := 35) rfl rfl rfl ?_
      refine n_call tb_pres act hEnd (gx (P := G_call) gp_194 (w := 0xa000000000000c08220000fa00260f) rfl (by decide) rfl) (d' := D_250) rfl (as := [.ref 124, .int a]) (rest := []) (b_part rw_26.1 e_21 e_22) (show (2 : Nat) = fb 0xa000000000000c08220000fa00260f % 16 by decide) (by show (2 : Nat) ≤ 2; decide) (fun _ => ⟨_, _, rfl, _, shp_at rw_26.1, Or.inr (show fb 0xa000000000000c08220000fa00260f >>> 68 = 10 by decide)⟩) (by omega) (by show 8 + (2 + 11) + 0 ≤ R.locals; omega) (by show (0 : Nat) ≤ 8; decide) (by show kc + 0 ≤ _; omega) (by show ks + 0 ≤ _; omega) (fun r9 h3 hpo hr9 => ?_) (fun x9 hs9 hx9 hpo => ?_)
      · obtain ⟨-, rfl, pv_42, rfl⟩ := hpo
        show WpN (gp g0 wp) CLS p l e R s m args below meth c Q D_194.2.2.1 kc0 ks0 38 [some (.ref 124), some (.int a), some (.long ct), none, some (.long cl), none, some (.int rf_6)] (hs_18, kc, ks) [.long pv_42]
        exact g_retL hEnd (gx gp_194 (w := 0x19) rfl (by decide) rfl) ⟨rfl, ⟨_, rfl⟩, hM_25, fr_41⟩ (by show kc ≤ kc + 0; omega) (by show ks ≤ ks + 0; omega)
      · exact absurd hpo.1 (by omega)
    · exact absurd hpo.1 (by omega)
  · exact absurd hpo.1 (by omega)

theorem b_securityCost {g0 : GG} {bl : Nat} {xs : Nat → Int32} {l : Launch} {hs : List CE} {tl wl : Nat → Int} {nl n ng nr : Nat} (hNW : NW tl wl nl n ng nr) {a b : Int32} (hB : BM hs tl wl) (hM : ModF hs) : BodyN SSX TBL g0 CLS bl xs l D_267 10 251 0 0 [.ref 124, .int a, .int b] hs (POL hs) := by
  intro wp p e R s m args below meth c Q kc0 ks0 kc ks act hf hl hc hsl hEnd
  have hN9 := hNW
  obtain ⟨n0, n1, n2, n3, n4, n5, n6, n7, n8, hG0, nL, nC, nP, nD⟩ := hN9
  have hGn := hG0.1
  have hGn3 := hG0.2.1
  have hGl := hG0.2.2.1
  obtain ⟨rw0, hTo, hW⟩ := hB
  show WpN (gp g0 wp) CLS p l e R s m args below meth c Q D_267.2.2.1 kc0 ks0 0 [some (.ref 124), some (.int a), some (.int b)] (hs, kc, ks) []
  refine g_loadA act (gx gp_267 (w := 0x103) rfl (by decide) rfl) (a := 0) (n := 1) rfl rfl rfl ?_
  refine g_constI act (gx gp_267 (w := 0x40000000c00000009000000000201) rfl (by decide) rfl) (n := 2) (x := (1 : Int32)) (by decide) rfl ?_
  refine g_loadI act (gx gp_267 (w := 0x1000302) rfl (by decide) rfl) (a := 1) (n := 3) rfl rfl rfl ?_
  refine g_loadI act (gx gp_267 (w := 0x2000402) rfl (by decide) rfl) (a := 2) (n := 4) rfl rfl rfl ?_
  refine n_call tb_pres act hEnd (gx (P := G_call) gp_267 (w := 0xa000000000000c10440000df00070f) rfl (by decide) rfl) (d' := D_223) rfl (as := [.ref 124, .int (1 : Int32), .int a, .int b]) (rest := []) (b_isGood hNW ⟨rw0, hTo, hW⟩ hM (ti := ((1 : Nat) : Int)) (show (1 : Int32).toInt = ((1 : Nat) : Int) from by decide) (by omega) (x := (Int32.toInt a)) (rfl : Int32.toInt a = _) (y := (Int32.toInt b)) (rfl : Int32.toInt b = _)) (show (4 : Nat) = fb 0xa000000000000c10440000df00070f % 16 by decide) (by show (4 : Nat) ≤ 4; decide) (fun _ => ⟨_, _, rfl, _, shp_at rw0.1, Or.inr (show fb 0xa000000000000c10440000df00070f >>> 68 = 10 by decide)⟩) (by omega) (by show 8 + (4 + 11) + 228 ≤ R.locals; omega) (by show (0 : Nat) ≤ 8; decide) (by show kc + 0 ≤ _; omega) (by show ks + 0 ≤ _; omega) (fun r9 hs_1 hpo hr9 => ?_) (fun x9 hs9 hx9 hpo => ?_)
  · obtain ⟨-, hM_3, fr_2, rg, rfl, hg_4⟩ := hpo
    have rw_6 := rw0.fr fr_2 WM_rw
    have f_7 := hTo.fr (fun j9 _ => fr_2.2.2 125 j9 (by unfold WM; omega))
    have f_8 := hW.fr (fun j9 _ => fr_2.2.2 127 j9 (by unfold WM; omega))
    have fr_9 := (FrS.rf WM hs).tr fr_2
    show WpN (gp g0 wp) CLS p l e R s m args below meth c Q D_267.2.2.1 kc0 ks0 7 [some (.ref 124), some (.int a), some (.int b)] (hs_1, kc, ks) [.int rg]
    rcases hg_4 with rfl | ⟨rfl, g1_11, g2_11, g3_11, g4_11, g5_11, hFD_11⟩
    · refine g_ifNe act (gx gp_267 (w := 0xc000a1d) rfl (by decide) rfl) (tgt := 12) (n := 10) rfl rfl (fun q => absurd q (by decide)) (fun _ => ?_)
      refine g_constL act (gx gp_267 (w := 0x40000000000000002000000000b01) rfl (by decide) rfl) (n := 11) (x := 0) (by decide) rfl ?_
      exact g_retL hEnd (gx gp_267 (w := 0x19) rfl (by decide) rfl) ⟨rfl, ⟨_, rfl⟩, hM_3, fr_9⟩ (by show kc ≤ kc + 0; omega) (by show ks ≤ ks + 0; omega)
    · obtain ⟨⟨frw_10, fTo_10, fW_10⟩, ⟨hG_10, ⟨oi_10, f24_10, hoi_10⟩, ⟨dm_10, fD_10, hdm_10⟩, ⟨lm_10, fL_10, hlm_10⟩, ⟨em_10, fE_10, hem_10⟩, ⟨cp_10, fC_10, hcp_10⟩⟩, fFo_10, ⟨fK0_10, fK1_10⟩⟩ := hFD_11
      obtain ⟨⟨ct_10, cl_10, f29_10, f30_10, hck_10⟩, fKO_10⟩ := found_k hG_10 fFo_10
      refine g_ifNe act (gx gp_267 (w := 0xc000a1d) rfl (by decide) rfl) (tgt := 12) (n := 10) rfl rfl (fun _ => ?_) (fun q => absurd (by decide) q)
      refine g_loadA act (gx gp_267 (w := 0xd03) rfl (by decide) rfl) (a := 0) (n := 13) rfl rfl rfl ?_
      refine g_constI act (gx gp_267 (w := 0x3fffffffbfffffff9000000000e01) rfl (by decide) rfl) (n := 14) (x := (-1 : Int32)) (by decide) rfl ?_
      refine r_putf act (gx gp_267 (w := 0x609001113) rfl (by decide) rfl) (n := 17) (ci := 9) (j := 24) (N := 39) rfl rfl rfl frw_10.1 (by decide) (Or.inl ⟨rfl, _, rfl⟩) ?_
      have rw_12 := RW.wr (k := 124) (j := 24) (v := .int (-1 : Int32)) frw_10 (Or.inr (by decide))
      have f_13 := hM_3.wr24 (x := (-1 : Int32)) frw_10.1
      have f_14 := fTo_10.ne (k := 124) (j := 24) (v := .int (-1 : Int32)) (by decide)
      have f_15 := fW_10.ne (k := 124) (j := 24) (v := .int (-1 : Int32)) (by decide)
      have f_16 := fD_10.ne (k := 124) (j := 24) (v := .int (-1 : Int32)) (by decide)
      have f_17 := fL_10.ne (k := 124) (j := 24) (v := .int (-1 : Int32)) (by decide)
      have f_18 := fE_10.ne (k := 124) (j := 24) (v := .int (-1 : Int32)) (by decide)
      have f_19 := fC_10.ne (k := 124) (j := 24) (v := .int (-1 : Int32)) (by decide)
      have f_21 := (rd_ne hs_1 (k := 124) (j := 24) (.int (-1 : Int32)) (Or.inr (by decide))).trans f29_10
      have f_22 := (rd_ne hs_1 (k := 124) (j := 24) (.int (-1 : Int32)) (Or.inr (by decide))).trans f30_10
      have f_23 := fKO_10.ne (k := 124) (j := 24) (v := .int (-1 : Int32)) (by decide) (by decide)
      have f_24 := fK0_10.ne (k := 124) (j := 24) (v := .int (-1 : Int32)) (by decide) (by decide)
      have f_25 := fun q9 => (fK1_10 q9).ne (k := 124) (j := 24) (v := .int (-1 : Int32)) (by decide) (by decide)
      have f_26 := fFo_10.fr (frs_one (k := 124) (j := 24) (v := .int (-1 : Int32))) (fun j9 => by omega) (by omega) (by omega)
      have f_27 := rd_same (j := 24) (v := .int (-1 : Int32)) frw_10.1
      have fr_28 := fr_9.wr (k := 124) (j := 24) (.int (-1 : Int32)) (by unfold WM; omega)
      clear frw_10 fr_9 hM_3 fTo_10 fW_10 fD_10 fL_10 fE_10 fC_10 f24_10 f29_10 f30_10 fKO_10 fK0_10 fK1_10 fFo_10
      generalize (wr hs_1 124 24 (.int (-1 : Int32))) = hs_29 at *
      refine g_loadA act (gx gp_267 (w := 0x1203) rfl (by decide) rfl) (a := 0) (n := 18) rfl rfl rfl ?_
      refine g_loadI act (gx gp_267 (w := 0x2001302) rfl (by decide) rfl) (a := 2) (n := 19) rfl rfl rfl ?_
      refine n_call tb_pres act hEnd (gx (P := G_call) gp_267 (w := 0xa000000000000c1c220000c200160f) rfl (by decide) rfl) (d' := D_194) rfl (as := [.ref 124, .int b]) (rest := []) (b_costsLess (ou := (-1)) hNW ⟨rw_12, f_14, f_15⟩ f_13 ⟨(ng_none hG_10), ⟨_, f_27, (show (-1 : Int32).toInt = (-1 : Int) from by decide)⟩, ⟨_, f_16, (fun j9 => by have q9 := hdm_10 j9; omega)⟩, ⟨_, f_17, (fun j9 => by have q9 := hlm_10 j9; omega)⟩, ⟨_, f_18, (fun j9 => by have q9 := hem_10 j9; omega)⟩, ⟨_, f_19, hcp_10⟩⟩ f_21 f_22 hck_10) (show (2 : Nat) = fb 0xa000000000000c1c220000c200160f % 16 by decide) (by show (2 : Nat) ≤ 7; decide) (fun _ => ⟨_, _, rfl, _, shp_at rw_12.1, Or.inr (show fb 0xa000000000000c1c220000c200160f >>> 68 = 10 by decide)⟩) (by omega) (by show 8 + (7 + 11) + 207 ≤ R.locals; omega) (by show (0 : Nat) ≤ 8; decide) (by show kc + 0 ≤ _; omega) (by show ks + 0 ≤ _; omega) (fun r9 hs_30 hpo hr9 => ?_) (fun x9 hs9 hx9 hpo => ?_)
      · obtain ⟨-, ⟨cv_33, rfl⟩, hM_32, fr_31⟩ := hpo
        have rw_34 := rw_12.fr fr_31 WM_rw
        have f_35 := f_14.fr (fun j9 _ => fr_31.2.2 125 j9 (by unfold WM; omega))
        have f_36 := f_15.fr (fun j9 _ => fr_31.2.2 127 j9 (by unfold WM; omega))
        have fr_37 := fr_28.tr fr_31
        clear rw_12 f_13 f_14 f_15 f_16 f_17 f_18 f_19 f_21 f_22 f_23 f_24 f_25 f_26 f_27 fr_28
        show WpN (gp g0 wp) CLS p l e R s m args below meth c Q D_267.2.2.1 kc0 ks0 22 [some (.ref 124), some (.int a), some (.int b)] (hs_30, kc, ks) [.long cv_33]
        exact g_retL hEnd (gx gp_267 (w := 0x19) rfl (by decide) rfl) ⟨rfl, ⟨_, rfl⟩, hM_32, fr_37⟩ (by show kc ≤ kc + 0; omega) (by show ks ≤ ks + 0; omega)
      · exact absurd hpo.1 (by omega)
  · exact absurd hpo.1 (by omega)

theorem b_lineValue {g0 : GG} {bl : Nat} {xs : Nat → Int32} {l : Launch} {hs : List CE} {tl wl : Nat → Int} {nl n ng nr : Nat} (hNW : NW tl wl nl n ng nr) {a b c9 : Int32} (hB : BM hs tl wl) (hM : ModF hs) : BodyN SSX TBL g0 CLS bl xs l D_238 10 251 0 0 [.ref 124, .int a, .int b, .int c9] hs (POL hs) := by
  intro wp p e R s m args below meth c Q kc0 ks0 kc ks act hf hl hc hsl hEnd
  have hN9 := hNW
  obtain ⟨n0, n1, n2, n3, n4, n5, n6, n7, n8, hG0, nL, nC, nP, nD⟩ := hN9
  have hGn := hG0.1
  have hGn3 := hG0.2.1
  have hGl := hG0.2.2.1
  obtain ⟨rw0, hTo, hW⟩ := hB
  show WpN (gp g0 wp) CLS p l e R s m args below meth c Q D_238.2.2.1 kc0 ks0 0 [some (.ref 124), some (.int a), some (.int b), some (.int c9)] (hs, kc, ks) []
  refine g_loadA act (gx gp_238 (w := 0x103) rfl (by decide) rfl) (a := 0) (n := 1) rfl rfl rfl ?_
  refine g_loadA act (gx gp_238 (w := 0x203) rfl (by decide) rfl) (a := 0) (n := 2) rfl rfl rfl ?_
  refine g_loadI act (gx gp_238 (w := 0x2000302) rfl (by decide) rfl) (a := 2) (n := 3) rfl rfl rfl ?_
  refine n_call tb_pres act hEnd (gx (P := G_call) gp_238 (w := 0xa000000000000c08220000e200060f) rfl (by decide) rfl) (d' := D_226) rfl (as := [.ref 124, .int b]) (rest := [.ref 124]) (b_isLine (tl := tl) rw0 hTo (rfl : Int32.toInt b = _) (by omega) (by omega)) (show (2 : Nat) = fb 0xa000000000000c08220000e200060f % 16 by decide) (by show (2 : Nat) ≤ 2; decide) (fun _ => ⟨_, _, rfl, _, shp_at rw0.1, Or.inr (show fb 0xa000000000000c08220000e200060f >>> 68 = 10 by decide)⟩) (by omega) (by show 8 + (2 + 11) + 22 ≤ R.locals; omega) (by show (1 : Nat) ≤ 8; decide) (by show kc + 0 ≤ _; omega) (by show ks + 0 ≤ _; omega) (fun r9 h3 hpo hr9 => ?_) (fun x9 hs9 hx9 hpo => ?_)
  · obtain ⟨-, rfl, hin_2⟩ := hpo
    obtain ⟨rv_1, rfl, hin_2o⟩ := in1_t hin_2
    show WpN (gp g0 wp) CLS p l e R s m args below meth c Q D_238.2.2.1 kc0 ks0 6 [some (.ref 124), some (.int a), some (.int b), some (.int c9)] (hs, kc, ks) [.int rv_1, .ref 124]
    refine g_loadI act (gx gp_238 (w := 0x1000702) rfl (by decide) rfl) (a := 1) (n := 7) rfl rfl rfl ?_
    refine g_loadI act (gx gp_238 (w := 0x3000802) rfl (by decide) rfl) (a := 3) (n := 8) rfl rfl rfl ?_
    refine n_call tb_pres act hEnd (gx (P := G_call) gp_238 (w := 0xa000000000000c10440000df000b0f) rfl (by decide) rfl) (d' := D_223) rfl (as := [.ref 124, .int rv_1, .int a, .int c9]) (rest := []) (b_isGood hNW ⟨rw0, hTo, hW⟩ hM (ti := (Int32.toInt rv_1)) (rfl : Int32.toInt rv_1 = _) (by omega) (x := (Int32.toInt a)) (rfl : Int32.toInt a = _) (y := (Int32.toInt c9)) (rfl : Int32.toInt c9 = _)) (show (4 : Nat) = fb 0xa000000000000c10440000df000b0f % 16 by decide) (by show (4 : Nat) ≤ 4; decide) (fun _ => ⟨_, _, rfl, _, shp_at rw0.1, Or.inr (show fb 0xa000000000000c10440000df000b0f >>> 68 = 10 by decide)⟩) (by omega) (by show 8 + (4 + 11) + 228 ≤ R.locals; omega) (by show (0 : Nat) ≤ 8; decide) (by show kc + 0 ≤ _; omega) (by show ks + 0 ≤ _; omega) (fun r9 hs_3 hpo hr9 => ?_) (fun x9 hs9 hx9 hpo => ?_)
    · obtain ⟨-, hM_5, fr_4, rg, rfl, hg_6⟩ := hpo
      have rw_8 := rw0.fr fr_4 WM_rw
      have f_9 := hTo.fr (fun j9 _ => fr_4.2.2 125 j9 (by unfold WM; omega))
      have f_10 := hW.fr (fun j9 _ => fr_4.2.2 127 j9 (by unfold WM; omega))
      have fr_11 := (FrS.rf WM hs).tr fr_4
      show WpN (gp g0 wp) CLS p l e R s m args below meth c Q D_238.2.2.1 kc0 ks0 11 [some (.ref 124), some (.int a), some (.int b), some (.int c9)] (hs_3, kc, ks) [.int rg]
      rcases hg_6 with rfl | ⟨rfl, g1_13, g2_13, g3_13, g4_13, g5_13, hFD_13⟩
      · refine g_ifNe act (gx gp_238 (w := 0x10000e1d) rfl (by decide) rfl) (tgt := 16) (n := 14) rfl rfl (fun q => absurd q (by decide)) (fun _ => ?_)
        refine g_constL act (gx gp_238 (w := 0x40000000000000002000000000f01) rfl (by decide) rfl) (n := 15) (x := 0) (by decide) rfl ?_
        exact g_retL hEnd (gx gp_238 (w := 0x19) rfl (by decide) rfl) ⟨rfl, ⟨_, rfl⟩, hM_5, fr_11⟩ (by show kc ≤ kc + 0; omega) (by show ks ≤ ks + 0; omega)
      · obtain ⟨⟨frw_12, fTo_12, fW_12⟩, ⟨hG_12, ⟨oi_12, f24_12, hoi_12⟩, ⟨dm_12, fD_12, hdm_12⟩, ⟨lm_12, fL_12, hlm_12⟩, ⟨em_12, fE_12, hem_12⟩, ⟨cp_12, fC_12, hcp_12⟩⟩, fFo_12, ⟨fK0_12, fK1_12⟩⟩ := hFD_13
        obtain ⟨⟨ct_12, cl_12, f29_12, f30_12, hck_12⟩, fKO_12⟩ := found_k hG_12 fFo_12
        refine g_ifNe act (gx gp_238 (w := 0x10000e1d) rfl (by decide) rfl) (tgt := 16) (n := 14) rfl rfl (fun _ => ?_) (fun q => absurd (by decide) q)
        refine g_loadA act (gx gp_238 (w := 0x1103) rfl (by decide) rfl) (a := 0) (n := 17) rfl rfl rfl ?_
        refine r_getf act (gx gp_238 (w := 0x3000549001404) rfl (by decide) rfl) (n := 20) (ci := 9) (j := 21) (N := 39) rfl rfl rfl frw_12.1 (by decide) (frw_12.2 (21, 136, 32, 6) (by decide)).1 ?_
        refine g_loadI act (gx gp_238 (w := 0x2001502) rfl (by decide) rfl) (a := 2) (n := 21) rfl rfl rfl ?_
        refine g_dup2 act (gx gp_238 (w := 0x1630) rfl (by decide) rfl) (n := 22) rfl rfl rfl ?_
        obtain ⟨j_14, hj_15⟩ := Int.eq_ofNat_of_zero_le (show (0 : Int) ≤ (Int32.toInt b) by omega)
        obtain ⟨x_16, e_17, hx_18⟩ := fL_12 j_14 (by omega)
        have b_19 := hlm_12 j_14
        refine r_iald act (gx gp_238 (w := 0x171a) rfl (by decide) rfl) (n := 23) (j := j_14) rfl (frw_12.2 (21, 136, 32, 6) (by decide)).2 ((rfl : Int32.toInt b = _).trans hj_15) (show j_14 < 6 by omega) (v := .int x_16) e_17 ?_
        refine g_constI act (gx gp_238 (w := 0x40000000c00000009000000001801) rfl (by decide) rfl) (n := 24) (x := (1 : Int32)) (by decide) rfl ?_
        refine g_iadd act (gx gp_238 (w := 0x190a) rfl (by decide) rfl) (n := 25) rfl ?_
        have v_20 := iv_add hx_18 (show (1 : Int32).toInt = ((1 : Nat) : Int) from by decide) (show -2147483648 ≤ ((lm_12 j_14) + ((1 : Nat) : Int)) by omega) (show ((lm_12 j_14) + ((1 : Nat) : Int)) < 2147483648 by omega)
        refine r_iast act (gx gp_238 (w := 0x1a24) rfl (by decide) rfl) (n := 26) (j := j_14) rfl (frw_12.2 (21, 136, 32, 6) (by decide)).2 ((rfl : Int32.toInt b = _).trans hj_15) (show j_14 < 6 by omega) ?_
        have rw_21 := RW.wr (k := 136) (j := j_14) (v := .int (x_16 + (1 : Int32))) frw_12 (Or.inl (by decide))
        have f_22 := hM_5.ne (k := 136) (j := j_14) (v := .int (x_16 + (1 : Int32))) (by decide)
        have f_23 := fTo_12.ne (k := 136) (j := j_14) (v := .int (x_16 + (1 : Int32))) (by decide)
        have f_24 := fW_12.ne (k := 136) (j := j_14) (v := .int (x_16 + (1 : Int32))) (by decide)
        have f_25 := fD_12.ne (k := 136) (j := j_14) (v := .int (x_16 + (1 : Int32))) (by decide)
        have f_26 := fL_12.put (j := j_14) (frw_12.2 (21, 136, 32, 6) (by decide)).2 v_20
        have bd_27 := upI_b (i := j_14) (X := ((lm_12 j_14) + ((1 : Nat) : Int))) (hi2 := 100001) hlm_12 (by decide) (by omega) (by omega)
        have f_28 := fE_12.ne (k := 136) (j := j_14) (v := .int (x_16 + (1 : Int32))) (by decide)
        have f_29 := fC_12.ne (k := 136) (j := j_14) (v := .int (x_16 + (1 : Int32))) (by decide)
        have f_30 := (rd_ne hs_3 (k := 136) (j := j_14) (.int (x_16 + (1 : Int32))) (Or.inl (by decide))).trans f24_12
        have f_31 := (rd_ne hs_3 (k := 136) (j := j_14) (.int (x_16 + (1 : Int32))) (Or.inl (by decide))).trans f29_12
        have f_32 := (rd_ne hs_3 (k := 136) (j := j_14) (.int (x_16 + (1 : Int32))) (Or.inl (by decide))).trans f30_12
        have f_33 := fKO_12.ne (k := 136) (j := j_14) (v := .int (x_16 + (1 : Int32))) (by decide) (by decide)
        have f_34 := fK0_12.ne (k := 136) (j := j_14) (v := .int (x_16 + (1 : Int32))) (by decide) (by decide)
        have f_35 := fun q9 => (fK1_12 q9).ne (k := 136) (j := j_14) (v := .int (x_16 + (1 : Int32))) (by decide) (by decide)
        have f_36 := fFo_12.fr (frs_one (k := 136) (j := j_14) (v := .int (x_16 + (1 : Int32)))) (fun j9 => by omega) (by omega) (by omega)
        have fr_37 := fr_11.wr (k := 136) (j := j_14) (.int (x_16 + (1 : Int32))) (by unfold WM; omega)
        clear frw_12 fr_11 hM_5 fTo_12 fW_12 fD_12 fL_12 fE_12 fC_12 f24_12 f29_12 f30_12 fKO_12 fK0_12 fK1_12 fFo_12
        generalize (wr hs_3 136 j_14 (.int (x_16 + (1 : Int32)))) = hs_38 at *
        refine g_loadA act (gx gp_238 (w := 0x1b03) rfl (by decide) rfl) (a := 0) (n := 27) rfl rfl rfl ?_
        refine r_getf act (gx gp_238 (w := 0x3000589001e04) rfl (by decide) rfl) (n := 30) (ci := 9) (j := 22) (N := 39) rfl rfl rfl rw_21.1 (by decide) (rw_21.2 (22, 137, 32, 6) (by decide)).1 ?_
        refine g_loadI act (gx gp_238 (w := 0x2001f02) rfl (by decide) rfl) (a := 2) (n := 31) rfl rfl rfl ?_
        refine g_loadA act (gx gp_238 (w := 0x2003) rfl (by decide) rfl) (a := 0) (n := 32) rfl rfl rfl ?_
        refine r_getf act (gx gp_238 (w := 0x3000589002304) rfl (by decide) rfl) (n := 35) (ci := 9) (j := 22) (N := 39) rfl rfl rfl rw_21.1 (by decide) (rw_21.2 (22, 137, 32, 6) (by decide)).1 ?_
        refine g_loadI act (gx gp_238 (w := 0x2002402) rfl (by decide) rfl) (a := 2) (n := 36) rfl rfl rfl ?_
        obtain ⟨x_39, e_40, hx_41⟩ := f_28 j_14 (by omega)
        have b_42 := hem_12 j_14
        refine r_iald act (gx gp_238 (w := 0x251a) rfl (by decide) rfl) (n := 37) (j := j_14) rfl (rw_21.2 (22, 137, 32, 6) (by decide)).2 ((rfl : Int32.toInt b = _).trans hj_15) (show j_14 < 6 by omega) (v := .int x_39) e_40 ?_
        refine g_loadA act (gx gp_238 (w := 0x2603) rfl (by decide) rfl) (a := 0) (n := 38) rfl rfl rfl ?_
        refine r_getf act (gx gp_238 (w := 0x3000549002904) rfl (by decide) rfl) (n := 41) (ci := 9) (j := 21) (N := 39) rfl rfl rfl rw_21.1 (by decide) (rw_21.2 (21, 136, 32, 6) (by decide)).1 ?_
        refine g_loadI act (gx gp_238 (w := 0x2002a02) rfl (by decide) rfl) (a := 2) (n := 42) rfl rfl rfl ?_
        obtain ⟨x_43, e_44, hx_45⟩ := f_26 j_14 (by omega)
        have b_46 := bd_27 j_14
        refine r_iald act (gx gp_238 (w := 0x2b1a) rfl (by decide) rfl) (n := 43) (j := j_14) rfl (rw_21.2 (21, 136, 32, 6) (by decide)).2 ((rfl : Int32.toInt b = _).trans hj_15) (show j_14 < 6 by omega) (v := .int x_43) e_44 ?_
        refine g_icmpGe act (gx gp_238 (w := 0x37002e08) rfl (by decide) rfl) (tgt := 55) (n := 46) rfl rfl (fun h19 => ?_) (fun h19 => ?_)
        · simp only [i_le] at h19
          refine g_loadA act (gx gp_238 (w := 0x3803) rfl (by decide) rfl) (a := 0) (n := 56) rfl rfl rfl ?_
          refine r_getf act (gx gp_238 (w := 0x3000589003b04) rfl (by decide) rfl) (n := 59) (ci := 9) (j := 22) (N := 39) rfl rfl rfl rw_21.1 (by decide) (rw_21.2 (22, 137, 32, 6) (by decide)).1 ?_
          refine g_loadI act (gx gp_238 (w := 0x2003c02) rfl (by decide) rfl) (a := 2) (n := 60) rfl rfl rfl ?_
          obtain ⟨x_47, e_48, hx_49⟩ := f_28 j_14 (by omega)
          have b_50 := hem_12 j_14
          refine r_iald act (gx gp_238 (w := 0x3d1a) rfl (by decide) rfl) (n := 61) (j := j_14) rfl (rw_21.2 (22, 137, 32, 6) (by decide)).2 ((rfl : Int32.toInt b = _).trans hj_15) (show j_14 < 6 by omega) (v := .int x_47) e_48 ?_
          refine r_iast act (gx gp_238 (w := 0x3e24) rfl (by decide) rfl) (n := 62) (j := j_14) rfl (rw_21.2 (22, 137, 32, 6) (by decide)).2 ((rfl : Int32.toInt b = _).trans hj_15) (show j_14 < 6 by omega) ?_
          have rw_51 := RW.wr (k := 137) (j := j_14) (v := .int x_47) rw_21 (Or.inl (by decide))
          have f_52 := f_22.ne (k := 137) (j := j_14) (v := .int x_47) (by decide)
          have f_53 := f_23.ne (k := 137) (j := j_14) (v := .int x_47) (by decide)
          have f_54 := f_24.ne (k := 137) (j := j_14) (v := .int x_47) (by decide)
          have f_55 := f_25.ne (k := 137) (j := j_14) (v := .int x_47) (by decide)
          have f_56 := f_26.ne (k := 137) (j := j_14) (v := .int x_47) (by decide)
          have f_57 := f_28.put (j := j_14) (rw_21.2 (22, 137, 32, 6) (by decide)).2 hx_49
          have bd_58 := upI_b (i := j_14) (X := (em_12 j_14)) (hi2 := 100001) hem_12 (by decide) (by omega) (by omega)
          have f_59 := f_29.ne (k := 137) (j := j_14) (v := .int x_47) (by decide)
          have f_60 := (rd_ne hs_38 (k := 137) (j := j_14) (.int x_47) (Or.inl (by decide))).trans f_30
          have f_61 := (rd_ne hs_38 (k := 137) (j := j_14) (.int x_47) (Or.inl (by decide))).trans f_31
          have f_62 := (rd_ne hs_38 (k := 137) (j := j_14) (.int x_47) (Or.inl (by decide))).trans f_32
          have f_63 := f_33.ne (k := 137) (j := j_14) (v := .int x_47) (by decide) (by decide)
          have f_64 := f_34.ne (k := 137) (j := j_14) (v := .int x_47) (by decide) (by decide)
          have f_65 := fun q9 => (f_35 q9).ne (k := 137) (j := j_14) (v := .int x_47) (by decide) (by decide)
          have f_66 := f_36.fr (frs_one (k := 137) (j := j_14) (v := .int x_47)) (fun j9 => by omega) (by omega) (by omega)
          have fr_67 := fr_37.wr (k := 137) (j := j_14) (.int x_47) (by unfold WM; omega)
          clear rw_21 fr_37 f_22 f_23 f_24 f_25 f_26 f_28 f_29 f_30 f_31 f_32 f_33 f_34 f_35 f_36
          generalize (wr hs_38 137 j_14 (.int x_47)) = hs_68 at *
          refine g_loadA act (gx gp_238 (w := 0x3f03) rfl (by decide) rfl) (a := 0) (n := 63) rfl rfl rfl ?_
          refine g_loadI act (gx gp_238 (w := 0x3004002) rfl (by decide) rfl) (a := 3) (n := 64) rfl rfl rfl ?_
          refine n_call tb_pres act hEnd (gx (P := G_call) gp_238 (w := 0xa000000000000c1c220000c200430f) rfl (by decide) rfl) (d' := D_194) rfl (as := [.ref 124, .int c9]) (rest := []) (b_costsLess (ou := (wl 38)) hNW ⟨rw_51, f_53, f_54⟩ f_52 ⟨hG_12, ⟨_, f_60, hoi_12⟩, ⟨_, f_55, (fun j9 => by have q9 := hdm_12 j9; omega)⟩, ⟨_, f_56, (fun j9 => by have q9 := bd_27 j9; omega)⟩, ⟨_, f_57, (fun j9 => by have q9 := bd_58 j9; omega)⟩, ⟨_, f_59, hcp_12⟩⟩ f_61 f_62 hck_12) (show (2 : Nat) = fb 0xa000000000000c1c220000c200430f % 16 by decide) (by show (2 : Nat) ≤ 7; decide) (fun _ => ⟨_, _, rfl, _, shp_at rw_51.1, Or.inr (show fb 0xa000000000000c1c220000c200430f >>> 68 = 10 by decide)⟩) (by omega) (by show 8 + (7 + 11) + 207 ≤ R.locals; omega) (by show (0 : Nat) ≤ 8; decide) (by show kc + 0 ≤ _; omega) (by show ks + 0 ≤ _; omega) (fun r9 hs_69 hpo hr9 => ?_) (fun x9 hs9 hx9 hpo => ?_)
          · obtain ⟨-, ⟨cv_72, rfl⟩, hM_71, fr_70⟩ := hpo
            have rw_73 := rw_51.fr fr_70 WM_rw
            have f_74 := f_53.fr (fun j9 _ => fr_70.2.2 125 j9 (by unfold WM; omega))
            have f_75 := f_54.fr (fun j9 _ => fr_70.2.2 127 j9 (by unfold WM; omega))
            have fr_76 := fr_67.tr fr_70
            clear rw_51 f_52 f_53 f_54 f_55 f_56 f_57 f_59 f_60 f_61 f_62 f_63 f_64 f_65 f_66 fr_67
            show WpN (gp g0 wp) CLS p l e R s m args below meth c Q D_238.2.2.1 kc0 ks0 67 [some (.ref 124), some (.int a), some (.int b), some (.int c9)] (hs_69, kc, ks) [.long cv_72]
            exact g_retL hEnd (gx gp_238 (w := 0x19) rfl (by decide) rfl) ⟨rfl, ⟨_, rfl⟩, hM_71, fr_76⟩ (by show kc ≤ kc + 0; omega) (by show ks ≤ ks + 0; omega)
          · exact absurd hpo.1 (by omega)
        · simp only [i_le] at h19
          refine g_loadA act (gx gp_238 (w := 0x2f03) rfl (by decide) rfl) (a := 0) (n := 47) rfl rfl rfl ?_
          refine r_getf act (gx gp_238 (w := 0x3000549003204) rfl (by decide) rfl) (n := 50) (ci := 9) (j := 21) (N := 39) rfl rfl rfl rw_21.1 (by decide) (rw_21.2 (21, 136, 32, 6) (by decide)).1 ?_
          refine g_loadI act (gx gp_238 (w := 0x2003302) rfl (by decide) rfl) (a := 2) (n := 51) rfl rfl rfl ?_
          obtain ⟨x_77, e_78, hx_79⟩ := f_26 j_14 (by omega)
          have b_80 := bd_27 j_14
          refine r_iald act (gx gp_238 (w := 0x341a) rfl (by decide) rfl) (n := 52) (j := j_14) rfl (rw_21.2 (21, 136, 32, 6) (by decide)).2 ((rfl : Int32.toInt b = _).trans hj_15) (show j_14 < 6 by omega) (v := .int x_77) e_78 ?_
          refine g_goto act (gx gp_238 (w := 0x3d07) rfl (by decide) rfl) (n := 61) rfl ?_
          refine r_iast act (gx gp_238 (w := 0x3e24) rfl (by decide) rfl) (n := 62) (j := j_14) rfl (rw_21.2 (22, 137, 32, 6) (by decide)).2 ((rfl : Int32.toInt b = _).trans hj_15) (show j_14 < 6 by omega) ?_
          have rw_81 := RW.wr (k := 137) (j := j_14) (v := .int x_77) rw_21 (Or.inl (by decide))
          have f_82 := f_22.ne (k := 137) (j := j_14) (v := .int x_77) (by decide)
          have f_83 := f_23.ne (k := 137) (j := j_14) (v := .int x_77) (by decide)
          have f_84 := f_24.ne (k := 137) (j := j_14) (v := .int x_77) (by decide)
          have f_85 := f_25.ne (k := 137) (j := j_14) (v := .int x_77) (by decide)
          have f_86 := f_26.ne (k := 137) (j := j_14) (v := .int x_77) (by decide)
          have f_87 := f_28.put (j := j_14) (rw_21.2 (22, 137, 32, 6) (by decide)).2 hx_79
          have bd_88 := upI_b (i := j_14) (X := ((upI lm_12 j_14 ((lm_12 j_14) + ((1 : Nat) : Int))) j_14)) (hi2 := 100001) hem_12 (by decide) (by omega) (by omega)
          have f_89 := f_29.ne (k := 137) (j := j_14) (v := .int x_77) (by decide)
          have f_90 := (rd_ne hs_38 (k := 137) (j := j_14) (.int x_77) (Or.inl (by decide))).trans f_30
          have f_91 := (rd_ne hs_38 (k := 137) (j := j_14) (.int x_77) (Or.inl (by decide))).trans f_31
          have f_92 := (rd_ne hs_38 (k := 137) (j := j_14) (.int x_77) (Or.inl (by decide))).trans f_32
          have f_93 := f_33.ne (k := 137) (j := j_14) (v := .int x_77) (by decide) (by decide)
          have f_94 := f_34.ne (k := 137) (j := j_14) (v := .int x_77) (by decide) (by decide)
          have f_95 := fun q9 => (f_35 q9).ne (k := 137) (j := j_14) (v := .int x_77) (by decide) (by decide)
          have f_96 := f_36.fr (frs_one (k := 137) (j := j_14) (v := .int x_77)) (fun j9 => by omega) (by omega) (by omega)
          have fr_97 := fr_37.wr (k := 137) (j := j_14) (.int x_77) (by unfold WM; omega)
          clear rw_21 fr_37 f_22 f_23 f_24 f_25 f_26 f_28 f_29 f_30 f_31 f_32 f_33 f_34 f_35 f_36
          generalize (wr hs_38 137 j_14 (.int x_77)) = hs_98 at *
          refine g_loadA act (gx gp_238 (w := 0x3f03) rfl (by decide) rfl) (a := 0) (n := 63) rfl rfl rfl ?_
          refine g_loadI act (gx gp_238 (w := 0x3004002) rfl (by decide) rfl) (a := 3) (n := 64) rfl rfl rfl ?_
          refine n_call tb_pres act hEnd (gx (P := G_call) gp_238 (w := 0xa000000000000c1c220000c200430f) rfl (by decide) rfl) (d' := D_194) rfl (as := [.ref 124, .int c9]) (rest := []) (b_costsLess (ou := (wl 38)) hNW ⟨rw_81, f_83, f_84⟩ f_82 ⟨hG_12, ⟨_, f_90, hoi_12⟩, ⟨_, f_85, (fun j9 => by have q9 := hdm_12 j9; omega)⟩, ⟨_, f_86, (fun j9 => by have q9 := bd_27 j9; omega)⟩, ⟨_, f_87, (fun j9 => by have q9 := bd_88 j9; omega)⟩, ⟨_, f_89, hcp_12⟩⟩ f_91 f_92 hck_12) (show (2 : Nat) = fb 0xa000000000000c1c220000c200430f % 16 by decide) (by show (2 : Nat) ≤ 7; decide) (fun _ => ⟨_, _, rfl, _, shp_at rw_81.1, Or.inr (show fb 0xa000000000000c1c220000c200430f >>> 68 = 10 by decide)⟩) (by omega) (by show 8 + (7 + 11) + 207 ≤ R.locals; omega) (by show (0 : Nat) ≤ 8; decide) (by show kc + 0 ≤ _; omega) (by show ks + 0 ≤ _; omega) (fun r9 hs_99 hpo hr9 => ?_) (fun x9 hs9 hx9 hpo => ?_)
          · obtain ⟨-, ⟨cv_102, rfl⟩, hM_101, fr_100⟩ := hpo
            have rw_103 := rw_81.fr fr_100 WM_rw
            have f_104 := f_83.fr (fun j9 _ => fr_100.2.2 125 j9 (by unfold WM; omega))
            have f_105 := f_84.fr (fun j9 _ => fr_100.2.2 127 j9 (by unfold WM; omega))
            have fr_106 := fr_97.tr fr_100
            clear rw_81 f_82 f_83 f_84 f_85 f_86 f_87 f_89 f_90 f_91 f_92 f_93 f_94 f_95 f_96 fr_97
            show WpN (gp g0 wp) CLS p l e R s m args below meth c Q D_238.2.2.1 kc0 ks0 67 [some (.ref 124), some (.int a), some (.int b), some (.int c9)] (hs_99, kc, ks) [.long cv_102]
            exact g_retL hEnd (gx gp_238 (w := 0x19) rfl (by decide) rfl) ⟨rfl, ⟨_, rfl⟩, hM_101, fr_106⟩ (by show kc ≤ kc + 0; omega) (by show ks ≤ ks + 0; omega)
          · exact absurd hpo.1 (by omega)
    · exact absurd hpo.1 (by omega)
  · exact absurd hpo.1 (by omega)

theorem cong_loop {g0 : GG} {bl : Nat} {xs : Nat → Int32} {l : Launch} {wp : va_W} {p : Program} {e : Env} {R : Room} {s : State} {m : MethodId} {args : Array Value} {below : List Frame} {meth : Method} {c : Code} {Q : State → Prop} {kc0 ks0 kc ks f lam KC KS : Nat} {hs : List CE} {tl wl : Nat → Int} {nl n ng nr : Nat} (hNW : NW tl wl nl n ng nr) {ou : Int} {a b oi : Int32} {ct cl : Int64} {dm cp : Nat → Int} (hG : NG tl nl n ou) (hoi : oi.toInt = ou) (hdm : ∀ j, 0 ≤ dm j ∧ dm j ≤ 220) (hcp : ∀ j, 0 ≤ cp j ∧ cp j ≤ 200) (hcl : K2 9 cl) (hf : 10 ≤ R.frames) (hl : 251 ≤ R.locals) (hc : kc ≤ R.cells + kc0) (hsl : ks ≤ R.slots + ks0) (act : Act SSX TBL (gp g0 wp) CLS bl xs D_192 p l s m args meth c) (hEnd : EndN SSX TBL (gp g0 wp) CLS D_192 p l e R s m args below meth c Q kc0 ks0 f lam KC KS (POL hs)) (hk1 : kc ≤ KC) (hk2 : ks ≤ KS) : ∀ j9 : Nat, j9 ≤ 6 → ∀ (xi : Int32) (hj : List CE) (lm em : Nat → Int), xi.toInt = (j9 : Int) → RW hj → IArr hj 125 46 tl → IArr hj 127 39 wl → ModF hj → IArr hj 135 4 dm → IArr hj 136 6 lm → (∀ j, 0 ≤ lm j ∧ lm j ≤ 100001) → IArr hj 137 6 em → (∀ j, 0 ≤ em j ∧ em j ≤ 100001) → IArr hj 138 5 cp → rd hj 124 24 = .int oi → rd hj 124 29 = .long ct → rd hj 124 30 = .long cl → FrS WM hs hj → WpN (gp g0 wp) CLS p l e R s m args below meth c Q D_192.2.2.1 kc0 ks0 14 [some (.ref 124), some (.int a), some (.int b), some (.int xi)] (hj, kc, ks) [] := by
  refine dn (fun j9 hj9 ih => ?_)
  intro xi hj lm em hxi rwj fTo fW hM fD fL hlm fE hem fC f24 f29 f30 hfr
  refine g_loadI act (gx gp_192 (w := 0x3000f02) rfl (by decide) rfl) (a := 3) (n := 15) rfl rfl rfl ?_
  refine g_constI act (gx gp_192 (w := 0x40000003400000031000000001101) rfl (by decide) rfl) (n := 17) (x := (6 : Int32)) (by decide) rfl ?_
  refine g_icmpGe act (gx gp_192 (w := 0x2c001408) rfl (by decide) rfl) (tgt := 44) (n := 20) rfl rfl (fun h3 => ?_) (fun h3 => ?_)
  · simp only [i_le, show (6 : Int32).toInt = 6 from by decide] at h3
    refine g_loadA act (gx gp_192 (w := 0x2d03) rfl (by decide) rfl) (a := 0) (n := 45) rfl rfl rfl ?_
    refine g_loadI act (gx gp_192 (w := 0x2002e02) rfl (by decide) rfl) (a := 2) (n := 46) rfl rfl rfl ?_
    refine n_call tb_pres act hEnd (gx (P := G_call) gp_192 (w := 0xa000000000000c1c220000c200310f) rfl (by decide) rfl) (d' := D_194) rfl (as := [.ref 124, .int b]) (rest := []) (b_costsLess (ou := ou) hNW ⟨rwj, fTo, fW⟩ hM ⟨hG, ⟨_, f24, hoi⟩, ⟨_, fD, (fun j9 => by have q9 := hdm j9; omega)⟩, ⟨_, fL, (fun j9 => by have q9 := hlm j9; omega)⟩, ⟨_, fE, (fun j9 => by have q9 := hem j9; omega)⟩, ⟨_, fC, hcp⟩⟩ f29 f30 hcl) (show (2 : Nat) = fb 0xa000000000000c1c220000c200310f % 16 by decide) (by show (2 : Nat) ≤ 7; decide) (fun _ => ⟨_, _, rfl, _, shp_at rwj.1, Or.inr (show fb 0xa000000000000c1c220000c200310f >>> 68 = 10 by decide)⟩) (by omega) (by show 8 + (7 + 11) + 207 ≤ R.locals; omega) (by show (0 : Nat) ≤ 8; decide) (by show kc + 0 ≤ _; omega) (by show ks + 0 ≤ _; omega) (fun r9 hs_1 hpo hr9 => ?_) (fun x9 hs9 hx9 hpo => ?_)
    · obtain ⟨-, ⟨cv_4, rfl⟩, hM_3, fr_2⟩ := hpo
      have rw_5 := rwj.fr fr_2 WM_rw
      have f_6 := fTo.fr (fun j9 _ => fr_2.2.2 125 j9 (by unfold WM; omega))
      have f_7 := fW.fr (fun j9 _ => fr_2.2.2 127 j9 (by unfold WM; omega))
      have fr_8 := hfr.tr fr_2
      clear rwj fTo fW hM fD fL fE fC f24 f29 f30 hfr
      show WpN (gp g0 wp) CLS p l e R s m args below meth c Q D_192.2.2.1 kc0 ks0 49 [some (.ref 124), some (.int a), some (.int b), some (.int xi)] (hs_1, kc, ks) [.long cv_4]
      exact g_retL hEnd (gx gp_192 (w := 0x19) rfl (by decide) rfl) ⟨rfl, ⟨_, rfl⟩, hM_3, fr_8⟩ hk1 hk2
    · exact absurd hpo.1 (by omega)
  · simp only [i_le, show (6 : Int32).toInt = 6 from by decide] at h3
    refine g_loadA act (gx gp_192 (w := 0x1503) rfl (by decide) rfl) (a := 0) (n := 21) rfl rfl rfl ?_
    refine r_getf act (gx gp_192 (w := 0x3000549001804) rfl (by decide) rfl) (n := 24) (ci := 9) (j := 21) (N := 39) rfl rfl rfl rwj.1 (by decide) (rwj.2 (21, 136, 32, 6) (by decide)).1 ?_
    refine g_loadI act (gx gp_192 (w := 0x3001902) rfl (by decide) rfl) (a := 3) (n := 25) rfl rfl rfl ?_
    refine g_constI act (gx gp_192 (w := 0x4000c3504000c3501000000001c01) rfl (by decide) rfl) (n := 28) (x := (100000 : Int32)) (by decide) rfl ?_
    refine r_iast act (gx gp_192 (w := 0x1d24) rfl (by decide) rfl) (n := 29) (j := j9) rfl (rwj.2 (21, 136, 32, 6) (by decide)).2 hxi (show j9 < 6 by omega) ?_
    have rw_9 := RW.wr (k := 136) (j := j9) (v := .int (100000 : Int32)) rwj (Or.inl (by decide))
    have f_10 := fTo.ne (k := 136) (j := j9) (v := .int (100000 : Int32)) (by decide)
    have f_11 := fW.ne (k := 136) (j := j9) (v := .int (100000 : Int32)) (by decide)
    have f_12 := hM.ne (k := 136) (j := j9) (v := .int (100000 : Int32)) (by decide)
    have f_13 := fD.ne (k := 136) (j := j9) (v := .int (100000 : Int32)) (by decide)
    have f_14 := fL.put (j := j9) (rwj.2 (21, 136, 32, 6) (by decide)).2 (show (100000 : Int32).toInt = ((100000 : Nat) : Int) from by decide)
    have bd_15 := upI_b (i := j9) (X := ((100000 : Nat) : Int)) (hi2 := 100001) hlm (by decide) (by omega) (by omega)
    have f_16 := fE.ne (k := 136) (j := j9) (v := .int (100000 : Int32)) (by decide)
    have f_17 := fC.ne (k := 136) (j := j9) (v := .int (100000 : Int32)) (by decide)
    have f_18 := (rd_ne hj (k := 136) (j := j9) (.int (100000 : Int32)) (Or.inl (by decide))).trans f24
    have f_19 := (rd_ne hj (k := 136) (j := j9) (.int (100000 : Int32)) (Or.inl (by decide))).trans f29
    have f_20 := (rd_ne hj (k := 136) (j := j9) (.int (100000 : Int32)) (Or.inl (by decide))).trans f30
    have fr_21 := hfr.wr (k := 136) (j := j9) (.int (100000 : Int32)) (by unfold WM; omega)
    clear rwj hfr fTo fW hM fD fL fE fC f24 f29 f30
    generalize (wr hj 136 j9 (.int (100000 : Int32))) = hs_22 at *
    refine g_loadA act (gx gp_192 (w := 0x1e03) rfl (by decide) rfl) (a := 0) (n := 30) rfl rfl rfl ?_
    refine r_getf act (gx gp_192 (w := 0x3000589002104) rfl (by decide) rfl) (n := 33) (ci := 9) (j := 22) (N := 39) rfl rfl rfl rw_9.1 (by decide) (rw_9.2 (22, 137, 32, 6) (by decide)).1 ?_
    refine g_loadI act (gx gp_192 (w := 0x3002202) rfl (by decide) rfl) (a := 3) (n := 34) rfl rfl rfl ?_
    refine g_constI act (gx gp_192 (w := 0x4000c3504000c3501000000002501) rfl (by decide) rfl) (n := 37) (x := (100000 : Int32)) (by decide) rfl ?_
    refine r_iast act (gx gp_192 (w := 0x2624) rfl (by decide) rfl) (n := 38) (j := j9) rfl (rw_9.2 (22, 137, 32, 6) (by decide)).2 hxi (show j9 < 6 by omega) ?_
    have rw_23 := RW.wr (k := 137) (j := j9) (v := .int (100000 : Int32)) rw_9 (Or.inl (by decide))
    have f_24 := f_10.ne (k := 137) (j := j9) (v := .int (100000 : Int32)) (by decide)
    have f_25 := f_11.ne (k := 137) (j := j9) (v := .int (100000 : Int32)) (by decide)
    have f_26 := f_12.ne (k := 137) (j := j9) (v := .int (100000 : Int32)) (by decide)
    have f_27 := f_13.ne (k := 137) (j := j9) (v := .int (100000 : Int32)) (by decide)
    have f_28 := f_14.ne (k := 137) (j := j9) (v := .int (100000 : Int32)) (by decide)
    have f_29 := f_16.put (j := j9) (rw_9.2 (22, 137, 32, 6) (by decide)).2 (show (100000 : Int32).toInt = ((100000 : Nat) : Int) from by decide)
    have bd_30 := upI_b (i := j9) (X := ((100000 : Nat) : Int)) (hi2 := 100001) hem (by decide) (by omega) (by omega)
    have f_31 := f_17.ne (k := 137) (j := j9) (v := .int (100000 : Int32)) (by decide)
    have f_32 := (rd_ne hs_22 (k := 137) (j := j9) (.int (100000 : Int32)) (Or.inl (by decide))).trans f_18
    have f_33 := (rd_ne hs_22 (k := 137) (j := j9) (.int (100000 : Int32)) (Or.inl (by decide))).trans f_19
    have f_34 := (rd_ne hs_22 (k := 137) (j := j9) (.int (100000 : Int32)) (Or.inl (by decide))).trans f_20
    have fr_35 := fr_21.wr (k := 137) (j := j9) (.int (100000 : Int32)) (by unfold WM; omega)
    clear rw_9 fr_21 f_10 f_11 f_12 f_13 f_14 f_16 f_17 f_18 f_19 f_20
    generalize (wr hs_22 137 j9 (.int (100000 : Int32))) = hs_36 at *
    refine g_iinc act (gx gp_192 (w := 0x80000001000003002909) rfl (by decide) rfl) (a := 3) (i := (1 : Int32)) (n := 41) rfl (by decide) rfl rfl (L2 := [some (.ref 124), some (.int a), some (.int b), some (.int (xi + (1 : Int32)))]) rfl ?_
    have v_37 := iv_addN hxi (show (1 : Int32).toInt = ((1 : Nat) : Int) from by decide) (show (j9 + 1) < 2147483648 by omega)
    refine g_goto act (gx gp_192 (w := 0xe07) rfl (by decide) rfl) (n := 14) rfl ?_
    exact ih (j9 + 1) (by omega) (by omega) _ _ _ _ v_37 rw_23 f_24 f_25 f_26 f_27 f_28 bd_15 f_29 bd_30 f_31 f_32 f_33 f_34  fr_35

theorem b_congestionCost {g0 : GG} {bl : Nat} {xs : Nat → Int32} {l : Launch} {hs : List CE} {tl wl : Nat → Int} {nl n ng nr : Nat} (hNW : NW tl wl nl n ng nr) {a b : Int32} (hB : BM hs tl wl) (hM : ModF hs) : BodyN SSX TBL g0 CLS bl xs l D_192 10 251 0 0 [.ref 124, .int a, .int b] hs (POL hs) := by
  intro wp p e R s m args below meth c Q kc0 ks0 kc ks act hf hl hc hsl hEnd
  have hN9 := hNW
  obtain ⟨n0, n1, n2, n3, n4, n5, n6, n7, n8, hG0, nL, nC, nP, nD⟩ := hN9
  have hGn := hG0.1
  have hGn3 := hG0.2.1
  have hGl := hG0.2.2.1
  obtain ⟨rw0, hTo, hW⟩ := hB
  show WpN (gp g0 wp) CLS p l e R s m args below meth c Q D_192.2.2.1 kc0 ks0 0 [some (.ref 124), some (.int a), some (.int b), none] (hs, kc, ks) []
  refine g_loadA act (gx gp_192 (w := 0x103) rfl (by decide) rfl) (a := 0) (n := 1) rfl rfl rfl ?_
  refine g_constI act (gx gp_192 (w := 0x40000000c00000009000000000201) rfl (by decide) rfl) (n := 2) (x := (1 : Int32)) (by decide) rfl ?_
  refine g_loadI act (gx gp_192 (w := 0x1000302) rfl (by decide) rfl) (a := 1) (n := 3) rfl rfl rfl ?_
  refine g_loadI act (gx gp_192 (w := 0x2000402) rfl (by decide) rfl) (a := 2) (n := 4) rfl rfl rfl ?_
  refine n_call tb_pres act hEnd (gx (P := G_call) gp_192 (w := 0xa000000000000c10440000df00070f) rfl (by decide) rfl) (d' := D_223) rfl (as := [.ref 124, .int (1 : Int32), .int a, .int b]) (rest := []) (b_isGood hNW ⟨rw0, hTo, hW⟩ hM (ti := ((1 : Nat) : Int)) (show (1 : Int32).toInt = ((1 : Nat) : Int) from by decide) (by omega) (x := (Int32.toInt a)) (rfl : Int32.toInt a = _) (y := (Int32.toInt b)) (rfl : Int32.toInt b = _)) (show (4 : Nat) = fb 0xa000000000000c10440000df00070f % 16 by decide) (by show (4 : Nat) ≤ 4; decide) (fun _ => ⟨_, _, rfl, _, shp_at rw0.1, Or.inr (show fb 0xa000000000000c10440000df00070f >>> 68 = 10 by decide)⟩) (by omega) (by show 8 + (4 + 11) + 228 ≤ R.locals; omega) (by show (0 : Nat) ≤ 8; decide) (by show kc + 0 ≤ _; omega) (by show ks + 0 ≤ _; omega) (fun r9 hs_1 hpo hr9 => ?_) (fun x9 hs9 hx9 hpo => ?_)
  · obtain ⟨-, hM_3, fr_2, rg, rfl, hg_4⟩ := hpo
    have rw_6 := rw0.fr fr_2 WM_rw
    have f_7 := hTo.fr (fun j9 _ => fr_2.2.2 125 j9 (by unfold WM; omega))
    have f_8 := hW.fr (fun j9 _ => fr_2.2.2 127 j9 (by unfold WM; omega))
    have fr_9 := (FrS.rf WM hs).tr fr_2
    show WpN (gp g0 wp) CLS p l e R s m args below meth c Q D_192.2.2.1 kc0 ks0 7 [some (.ref 124), some (.int a), some (.int b), none] (hs_1, kc, ks) [.int rg]
    rcases hg_4 with rfl | ⟨rfl, g1_11, g2_11, g3_11, g4_11, g5_11, hFD_11⟩
    · refine g_ifNe act (gx gp_192 (w := 0xc000a1d) rfl (by decide) rfl) (tgt := 12) (n := 10) rfl rfl (fun q => absurd q (by decide)) (fun _ => ?_)
      refine g_constL act (gx gp_192 (w := 0x40000000000000002000000000b01) rfl (by decide) rfl) (n := 11) (x := 0) (by decide) rfl ?_
      exact g_retL hEnd (gx gp_192 (w := 0x19) rfl (by decide) rfl) ⟨rfl, ⟨_, rfl⟩, hM_3, fr_9⟩ (by show kc ≤ kc + 0; omega) (by show ks ≤ ks + 0; omega)
    · obtain ⟨⟨frw_10, fTo_10, fW_10⟩, ⟨hG_10, ⟨oi_10, f24_10, hoi_10⟩, ⟨dm_10, fD_10, hdm_10⟩, ⟨lm_10, fL_10, hlm_10⟩, ⟨em_10, fE_10, hem_10⟩, ⟨cp_10, fC_10, hcp_10⟩⟩, fFo_10, ⟨fK0_10, fK1_10⟩⟩ := hFD_11
      obtain ⟨⟨ct_10, cl_10, f29_10, f30_10, hck_10⟩, fKO_10⟩ := found_k hG_10 fFo_10
      refine g_ifNe act (gx gp_192 (w := 0xc000a1d) rfl (by decide) rfl) (tgt := 12) (n := 10) rfl rfl (fun _ => ?_) (fun q => absurd (by decide) q)
      refine g_constI act (gx gp_192 (w := 0x40000000400000001000000000d01) rfl (by decide) rfl) (n := 13) (x := (0 : Int32)) (by decide) rfl ?_
      refine g_storeI act (gx gp_192 (w := 0x3000e10) rfl (by decide) rfl) (a := 3) (n := 14) rfl rfl (L2 := [some (.ref 124), some (.int a), some (.int b), some (.int (0 : Int32))]) rfl ?_
      exact cong_loop hNW (ou := (wl 38)) hG_10 hoi_10 (fun j9 => by have q9 := hdm_10 j9; omega) hcp_10 hck_10 hf hl hc hsl act hEnd (by omega) (by omega) 0 (by omega) _ _ _ _ rfl frw_10 fTo_10 fW_10 hM_3 fD_10 fL_10 (fun j9 => by have q9 := hlm_10 j9; omega) fE_10 (fun j9 => by have q9 := hem_10 j9; omega) fC_10 f24_10 f29_10 f30_10 fr_9
  · exact absurd hpo.1 (by omega)

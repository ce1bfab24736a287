/-! The reference: what prices give (2). -/
theorem KR.mono {hs : List CE} {c1 c2 lo hi a b : Nat} (h : KR hs c1 c2 lo hi a) (hab : a ≤ b) : KR hs c1 c2 lo hi b := fun j h1 h2 => by
  obtain ⟨t, w, e1, e2, k⟩ := h j h1 h2
  exact ⟨t, w, e1, e2, k.mono hab⟩
theorem nw_told {tl wl : Nat → Int} {nl n ng nr : Nat} (h : NW tl wl nl n ng nr) (j : Nat) : (17 ≤ j → j < 17 + ng → 0 ≤ tl j ∧ tl j ≤ (n : Int)) ∧ (5 ≤ j → j < 5 + nl → 0 ≤ tl j ∧ tl j ≤ (n : Int)) ∧ (11 ≤ j → j < 11 + nl → 0 ≤ tl j ∧ tl j ≤ (n : Int)) := by
  obtain ⟨n0, n1, n2, n3, n4, n5, n6, n7, n8, hG0, -⟩ := h
  have hN := hG0.2.2.2.1
  refine ⟨fun a b => ?_, fun a b => ?_, fun a b => ?_⟩
  · have := n7 (j - 17) (by omega)
    rwa [show 17 + (j - 17) = j by omega] at this
  · have := hN (j - 5) (by omega)
    rw [show 5 + (j - 5) = j by omega] at this
    exact ⟨this.1, this.2.1⟩
  · have := hN (j - 11) (by omega)
    rw [show 11 + (j - 11) = j by omega] at this
    exact ⟨this.2.2.1, this.2.2.2.1⟩

theorem b_profit {g0 : GG} {bl : Nat} {xs : Nat → Int32} {l : Launch} {hs : List CE} {tl wl : Nat → Int} {nl n ng nr : Nat} (hNW : NW tl wl nl n ng nr) {a b c9 : Int32} (hB : BM hs tl wl) (hM : ModF hs) : BodyN SSX TBL g0 CLS bl xs l D_255 11 275 0 0 [.ref 124, .int a, .int b, .int c9] hs (POL hs) := by
  intro wp p e R s m args below meth c Q kc0 ks0 kc ks act hf hl hc hsl hEnd
  have hN9 := hNW
  obtain ⟨n0, n1, n2, n3, n4, n5, n6, n7, n8, hG0, nL, nC, nP, nD⟩ := hN9
  have hGn := hG0.1
  have hGn3 := hG0.2.1
  have hGl := hG0.2.2.1
  obtain ⟨rw0, hTo, hW⟩ := hB
  show WpN (gp g0 wp) CLS p l e R s m args below meth c Q D_255.2.2.1 kc0 ks0 0 [some (.ref 124), some (.int a), some (.int b), some (.int c9), none] (hs, kc, ks) []
  refine g_loadA act (gx gp_255 (w := 0x103) rfl (by decide) rfl) (a := 0) (n := 1) rfl rfl rfl ?_
  refine g_loadI act (gx gp_255 (w := 0x2000202) rfl (by decide) rfl) (a := 2) (n := 2) rfl rfl rfl ?_
  refine n_call tb_pres act hEnd (gx (P := G_call) gp_255 (w := 0xa000000000000c08220000de00050f) rfl (by decide) rfl) (d' := D_222) rfl (as := [.ref 124, .int b]) (rest := []) (b_isGenerator (tl := tl) rw0 hTo (rfl : Int32.toInt b = _) (by omega) (by omega)) (show (2 : Nat) = fb 0xa000000000000c08220000de00050f % 16 by decide) (by show (2 : Nat) ≤ 2; decide) (fun _ => ⟨_, _, rfl, _, shp_at rw0.1, Or.inr (show fb 0xa000000000000c08220000de00050f >>> 68 = 10 by decide)⟩) (by omega) (by show 8 + (2 + 11) + 22 ≤ R.locals; omega) (by show (0 : Nat) ≤ 8; decide) (by show kc + 0 ≤ _; omega) (by show ks + 0 ≤ _; omega) (fun r9 h3 hpo hr9 => ?_) (fun x9 hs9 hx9 hpo => ?_)
  · obtain ⟨-, rfl, hin_2⟩ := hpo
    obtain ⟨rv_1, rfl, hin_2o⟩ := in1_t hin_2
    show WpN (gp g0 wp) CLS p l e R s m args below meth c Q D_255.2.2.1 kc0 ks0 5 [some (.ref 124), some (.int a), some (.int b), some (.int c9), none] (hs, kc, ks) [.int rv_1]
    refine g_ifEq act (gx gp_255 (w := 0x1400080e) rfl (by decide) rfl) (tgt := 20) (n := 8) rfl rfl (fun h3 => ?_) (fun h3 => ?_)
    · simp only [i_eq, i0] at h3
      refine g_constI act (gx gp_255 (w := 0x40000000400000001000000001501) rfl (by decide) rfl) (n := 21) (x := (0 : Int32)) (by decide) rfl ?_
      refine g_storeI act (gx gp_255 (w := 0x4001710) rfl (by decide) rfl) (a := 4) (n := 23) rfl rfl (L2 := [some (.ref 124), some (.int a), some (.int b), some (.int c9), some (.int (0 : Int32))]) rfl ?_
      refine g_loadA act (gx gp_255 (w := 0x1803) rfl (by decide) rfl) (a := 0) (n := 24) rfl rfl rfl ?_
      refine g_loadA act (gx gp_255 (w := 0x1903) rfl (by decide) rfl) (a := 0) (n := 25) rfl rfl rfl ?_
      refine g_loadI act (gx gp_255 (w := 0x2001a02) rfl (by decide) rfl) (a := 2) (n := 26) rfl rfl rfl ?_
      refine n_call tb_pres act hEnd (gx (P := G_call) gp_255 (w := 0xa000000000000c08220000de001d0f) rfl (by decide) rfl) (d' := D_222) rfl (as := [.ref 124, .int b]) (rest := [.ref 124]) (b_isGenerator (tl := tl) rw0 hTo (rfl : Int32.toInt b = _) (by omega) (by omega)) (show (2 : Nat) = fb 0xa000000000000c08220000de001d0f % 16 by decide) (by show (2 : Nat) ≤ 2; decide) (fun _ => ⟨_, _, rfl, _, shp_at rw0.1, Or.inr (show fb 0xa000000000000c08220000de001d0f >>> 68 = 10 by decide)⟩) (by omega) (by show 8 + (2 + 11) + 22 ≤ R.locals; omega) (by show (1 : Nat) ≤ 8; decide) (by show kc + 0 ≤ _; omega) (by show ks + 0 ≤ _; omega) (fun r9 h3 hpo hr9 => ?_) (fun x9 hs9 hx9 hpo => ?_)
      · obtain ⟨-, rfl, hin_4⟩ := hpo
        obtain ⟨rv_3, rfl, hin_4o⟩ := in1_t hin_4
        show WpN (gp g0 wp) CLS p l e R s m args below meth c Q D_255.2.2.1 kc0 ks0 29 [some (.ref 124), some (.int a), some (.int b), some (.int c9), some (.int (0 : Int32))] (hs, kc, ks) [.int rv_3, .ref 124]
        refine g_loadI act (gx gp_255 (w := 0x1001e02) rfl (by decide) rfl) (a := 1) (n := 30) rfl rfl rfl ?_
        refine g_loadI act (gx gp_255 (w := 0x3001f02) rfl (by decide) rfl) (a := 3) (n := 31) rfl rfl rfl ?_
        refine g_constI act (gx gp_255 (w := 0x40000000c00000009000000002001) rfl (by decide) rfl) (n := 32) (x := (1 : Int32)) (by decide) rfl ?_
        refine g_loadI act (gx gp_255 (w := 0x4002202) rfl (by decide) rfl) (a := 4) (n := 34) rfl rfl rfl ?_
        refine g_ishl act (gx gp_255 (w := 0x233b) rfl (by decide) rfl) (n := 35) rfl ?_
        refine n_call tb_pres act hEnd (gx (P := G_call) gp_255 (w := 0xa000000000000c14550000e400260f) rfl (by decide) rfl) (d' := D_228) rfl (as := [.ref 124, .int rv_3, .int a, .int c9, .int ((1 : Int32) <<< ((0 : Int32) &&& 31))]) (rest := []) (b_isPriced hNW ⟨rw0, hTo, hW⟩ hM (ti := (Int32.toInt rv_3)) (rfl : Int32.toInt rv_3 = _) (by omega) (x := (Int32.toInt a)) (rfl : Int32.toInt a = _) (y := (Int32.toInt c9)) (rfl : Int32.toInt c9 = _)) (show (5 : Nat) = fb 0xa000000000000c14550000e400260f % 16 by decide) (by show (5 : Nat) ≤ 5; decide) (fun _ => ⟨_, _, rfl, _, shp_at rw0.1, Or.inr (show fb 0xa000000000000c14550000e400260f >>> 68 = 10 by decide)⟩) (by omega) (by show 8 + (5 + 11) + 251 ≤ R.locals; omega) (by show (0 : Nat) ≤ 8; decide) (by show kc + 0 ≤ _; omega) (by show ks + 0 ≤ _; omega) (fun r9 hs_5 hpo hr9 => ?_) (fun x9 hs9 hx9 hpo => ?_)
        · obtain ⟨-, hM_7, fr_6, rg, rfl, hg_8⟩ := hpo
          have rw_9 := rw0.fr fr_6 WM_rw
          have f_10 := hTo.fr (fun j9 _ => fr_6.2.2 125 j9 (by unfold WM; omega))
          have f_11 := hW.fr (fun j9 _ => fr_6.2.2 127 j9 (by unfold WM; omega))
          have fr_12 := (FrS.rf WM hs).tr fr_6
          show WpN (gp g0 wp) CLS p l e R s m args below meth c Q D_255.2.2.1 kc0 ks0 38 [some (.ref 124), some (.int a), some (.int b), some (.int c9), some (.int (0 : Int32))] (hs_5, kc, ks) [.int rg]
          rcases hg_8 with rfl | ⟨rfl, g1_13, g2_13, g3_13, g4_13, g5_13, hFD_13, hPI_13⟩
          · refine g_ifNe act (gx gp_255 (w := 0x2b00291d) rfl (by decide) rfl) (tgt := 43) (n := 41) rfl rfl (fun q => absurd q (by decide)) (fun _ => ?_)
            refine g_constL act (gx gp_255 (w := 0x40000000000000002000000002a01) rfl (by decide) rfl) (n := 42) (x := 0) (by decide) rfl ?_
            exact g_retL hEnd (gx gp_255 (w := 0x19) rfl (by decide) rfl) ⟨rfl, ⟨_, rfl⟩, hM_7, fr_12⟩ (by show kc ≤ kc + 0; omega) (by show ks ≤ ks + 0; omega)
          · obtain ⟨⟨frw_14, fTo_14, fW_14⟩, ⟨hG_14, ⟨oi_14, f24_14, hoi_14⟩, ⟨dm_14, fD_14, hdm_14⟩, ⟨lm_14, fL_14, hlm_14⟩, ⟨em_14, fE_14, hem_14⟩, ⟨cp_14, fC_14, hcp_14⟩⟩, fFo_14, ⟨fK0_14, fK1_14⟩⟩ := hFD_13
            obtain ⟨⟨ct_14, cl_14, f29_14, f30_14, hck_14⟩, fKO_14⟩ := found_k hG_14 fFo_14
            have fO7_14 := found_k7 hG_14 fFo_14
            have fP0_14 := pri_k (k := 0) hG_14 hPI_13 (by omega) (bit_one (show (0 : Int32).toInt = ((0 : Nat) : Int) from by decide) (by omega))
            refine g_ifNe act (gx gp_255 (w := 0x2b00291d) rfl (by decide) rfl) (tgt := 43) (n := 41) rfl rfl (fun _ => ?_) (fun q => absurd (by decide) q)
            refine g_loadA act (gx gp_255 (w := 0x2c03) rfl (by decide) rfl) (a := 0) (n := 44) rfl rfl rfl ?_
            refine g_loadA act (gx gp_255 (w := 0x2d03) rfl (by decide) rfl) (a := 0) (n := 45) rfl rfl rfl ?_
            refine r_getf act (gx gp_255 (w := 0x3000849003004) rfl (by decide) rfl) (n := 48) (ci := 9) (j := 33) (N := 39) rfl rfl rfl frw_14.1 (by decide) (frw_14.2 (33, 144, 33, 4) (by decide)).1 ?_
            refine g_loadI act (gx gp_255 (w := 0x4003202) rfl (by decide) rfl) (a := 4) (n := 50) rfl rfl rfl ?_
            obtain ⟨x_15, w_18, e_16, e_19, hx_17⟩ := fP0_14 0 (by omega) (by omega)
            refine r_lald act (gx gp_255 (w := 0x330d) rfl (by decide) rfl) (n := 51) (j := 0) rfl (frw_14.2 (33, 144, 33, 4) (by decide)).2 (show (0 : Int32).toInt = ((0 : Nat) : Int) from by decide) (show 0 < 4 by omega) (v := .long x_15) e_16 ?_
            refine g_loadA act (gx gp_255 (w := 0x3403) rfl (by decide) rfl) (a := 0) (n := 52) rfl rfl rfl ?_
            refine r_getf act (gx gp_255 (w := 0x3000889003704) rfl (by decide) rfl) (n := 55) (ci := 9) (j := 34) (N := 39) rfl rfl rfl frw_14.1 (by decide) (frw_14.2 (34, 145, 33, 4) (by decide)).1 ?_
            refine g_loadI act (gx gp_255 (w := 0x4003902) rfl (by decide) rfl) (a := 4) (n := 57) rfl rfl rfl ?_
            refine r_lald act (gx gp_255 (w := 0x3a0d) rfl (by decide) rfl) (n := 58) (j := 0) rfl (frw_14.2 (34, 145, 33, 4) (by decide)).2 (show (0 : Int32).toInt = ((0 : Nat) : Int) from by decide) (show 0 < 4 by omega) (v := .long w_18) e_19 ?_
            refine g_loadA act (gx gp_255 (w := 0x3b03) rfl (by decide) rfl) (a := 0) (n := 59) rfl rfl rfl ?_
            refine r_getf act (gx gp_255 (w := 0x30000c9003e04) rfl (by decide) rfl) (n := 62) (ci := 9) (j := 3) (N := 39) rfl rfl rfl frw_14.1 (by decide) (frw_14.2 (3, 127, 32, 39) (by decide)).1 ?_
            refine g_constI act (gx gp_255 (w := 0x40000006400000061000000004001) rfl (by decide) rfl) (n := 64) (x := (12 : Int32)) (by decide) rfl ?_
            refine g_loadI act (gx gp_255 (w := 0x2004102) rfl (by decide) rfl) (a := 2) (n := 65) rfl rfl rfl ?_
            refine g_iadd act (gx gp_255 (w := 0x420a) rfl (by decide) rfl) (n := 66) rfl ?_
            have v_25 := iv_add (show (12 : Int32).toInt = ((12 : Nat) : Int) from by decide) (rfl : Int32.toInt b = _) (show -2147483648 ≤ (((12 : Nat) : Int) + (Int32.toInt b)) by omega) (show (((12 : Nat) : Int) + (Int32.toInt b)) < 2147483648 by omega)
            obtain ⟨j_26, hj_27⟩ := Int.eq_ofNat_of_zero_le (show (0 : Int) ≤ (((12 : Nat) : Int) + (Int32.toInt b)) by omega)
            obtain ⟨x_28, e_29, hx_30⟩ := fW_14 j_26 (by omega)
            refine r_iald act (gx gp_255 (w := 0x431a) rfl (by decide) rfl) (n := 67) (j := j_26) rfl (frw_14.2 (3, 127, 32, 39) (by decide)).2 (v_25.trans hj_27) (show j_26 < 39 by omega) (v := .int x_28) e_29 ?_
            refine g_ineg act (gx gp_255 (w := 0x444c) rfl (by decide) rfl) (n := 68) rfl ?_
            refine g_i2l act (gx gp_255 (w := 0x452c) rfl (by decide) rfl) (n := 69) rfl ?_
            have v_31 := lw_i2l (rfl : Int32.toInt (-x_28) = _)
            refine g_constL act (gx gp_255 (w := 0x4000000000000000a000000004601) rfl (by decide) rfl) (n := 70) (x := 1) (by decide) rfl ?_
            refine n_call tb_pres act hEnd (gx (P := G_call) gp_255 (w := 0xa00000000000082c950000fc00490f) rfl (by decide) rfl) (d' := D_252) rfl (as := [.ref 124, .long x_15, .long w_18, .long ((-x_28)).toInt64, .long (1 : Int64)]) (rest := []) (b_plusK (k := 7) frw_14.1 (hx_17.mono (by decide)) (k2_one.mono (by decide)) (by decide)) (show (5 : Nat) = fb 0xa00000000000082c950000fc00490f % 16 by decide) (by show (9 : Nat) ≤ 11; decide) (fun _ => ⟨_, _, rfl, _, shp_at frw_14.1, Or.inr (show fb 0xa00000000000082c950000fc00490f >>> 68 = 10 by decide)⟩) (by omega) (by show 8 + (11 + 11) + 55 ≤ R.locals; omega) (by show (0 : Nat) ≤ 8; decide) (by show kc + 0 ≤ _; omega) (by show ks + 0 ≤ _; omega) (fun r9 hs_32 hpo hr9 => ?_) (fun x9 hs9 hx9 hpo => ?_)
            · obtain rfl : r9 = none := hr9.elim (fun q => q.2) (fun q => absurd rfl q.1)
              obtain ⟨-, t_33, w_34, e_35, e_36, hK_37, fr_38⟩ := hpo
              have hM_39 := ModF.w0 hM_7 fr_38
              have rw_40 := frw_14.fr fr_38 W0_rw
              have f_42 := fTo_14.fr (fun j9 _ => fr_38.2.2 125 j9 (by unfold W0; omega))
              have f_43 := fW_14.fr (fun j9 _ => fr_38.2.2 127 j9 (by unfold W0; omega))
              have f_44 := fD_14.fr (fun j9 _ => fr_38.2.2 135 j9 (by unfold W0; omega))
              have f_45 := fL_14.fr (fun j9 _ => fr_38.2.2 136 j9 (by unfold W0; omega))
              have f_46 := fE_14.fr (fun j9 _ => fr_38.2.2 137 j9 (by unfold W0; omega))
              have f_47 := fC_14.fr (fun j9 _ => fr_38.2.2 138 j9 (by unfold W0; omega))
              have f_48 := rd_fr fr_38 f24_14 (by unfold W0; omega)
              have f_49 := rd_fr fr_38 f29_14 (by unfold W0; omega)
              have f_50 := rd_fr fr_38 f30_14 (by unfold W0; omega)
              have f_51 := fK0_14.fr (fun j9 _ _ => ⟨fr_38.2.2 131 j9 (by unfold W0; omega), fr_38.2.2 132 j9 (by unfold W0; omega)⟩)
              have f_52 := fun q9 => (fK1_14 q9).fr (fun j9 _ _ => ⟨fr_38.2.2 131 j9 (by unfold W0; omega), fr_38.2.2 132 j9 (by unfold W0; omega)⟩)
              have f_53 := fFo_14.fr fr_38 (fun j9 => by unfold W0; omega) (by unfold W0; omega) (by unfold W0; omega)
              have f_54 := fO7_14.fr (fun j9 _ _ => ⟨fr_38.2.2 142 j9 (by unfold W0; omega), fr_38.2.2 143 j9 (by unfold W0; omega)⟩)
              have f_55 := fP0_14.fr (fun j9 _ _ => ⟨fr_38.2.2 144 j9 (by unfold W0; omega), fr_38.2.2 145 j9 (by unfold W0; omega)⟩)
              have fr_56 := fr_12.tr (fr_38.mono (fun k9 j9 h9 => by unfold W0 at h9; unfold WM; omega))
              clear frw_14 hM_7 fTo_14 fW_14 fD_14 fL_14 fE_14 fC_14 f24_14 f29_14 f30_14 fK0_14 fK1_14 fFo_14 fO7_14 fP0_14 fr_12
              show WpN (gp g0 wp) CLS p l e R s m args below meth c Q D_255.2.2.1 kc0 ks0 73 [some (.ref 124), some (.int a), some (.int b), some (.int c9), some (.int (0 : Int32))] (hs_32, kc, ks) []
              refine g_loadA act (gx gp_255 (w := 0x4a03) rfl (by decide) rfl) (a := 0) (n := 74) rfl rfl rfl ?_
              refine g_loadA act (gx gp_255 (w := 0x4b03) rfl (by decide) rfl) (a := 0) (n := 75) rfl rfl rfl ?_
              refine r_getf act (gx gp_255 (w := 0x20001c9004e04) rfl (by decide) rfl) (n := 78) (ci := 9) (j := 7) (N := 39) rfl rfl rfl rw_40.1 (by decide) (v := .long t_33) e_35 ?_
              refine g_loadA act (gx gp_255 (w := 0x4f03) rfl (by decide) rfl) (a := 0) (n := 79) rfl rfl rfl ?_
              refine r_getf act (gx gp_255 (w := 0x2000209005204) rfl (by decide) rfl) (n := 82) (ci := 9) (j := 8) (N := 39) rfl rfl rfl rw_40.1 (by decide) (v := .long w_34) e_36 ?_
              refine g_loadA act (gx gp_255 (w := 0x5303) rfl (by decide) rfl) (a := 0) (n := 83) rfl rfl rfl ?_
              refine r_getf act (gx gp_255 (w := 0x30007c9005604) rfl (by decide) rfl) (n := 86) (ci := 9) (j := 31) (N := 39) rfl rfl rfl rw_40.1 (by decide) (rw_40.2 (31, 142, 33, 5) (by decide)).1 ?_
              refine g_loadI act (gx gp_255 (w := 0x2005702) rfl (by decide) rfl) (a := 2) (n := 87) rfl rfl rfl ?_
              obtain ⟨j_57, hj_58⟩ := Int.eq_ofNat_of_zero_le (show (0 : Int) ≤ (Int32.toInt b) by omega)
              obtain ⟨x_59, w_62, e_60, e_63, hx_61⟩ := f_54 j_57 (by omega) (by omega)
              refine r_lald act (gx gp_255 (w := 0x580d) rfl (by decide) rfl) (n := 88) (j := j_57) rfl (rw_40.2 (31, 142, 33, 5) (by decide)).2 ((rfl : Int32.toInt b = _).trans hj_58) (show j_57 < 5 by omega) (v := .long x_59) e_60 ?_
              refine g_loadA act (gx gp_255 (w := 0x5903) rfl (by decide) rfl) (a := 0) (n := 89) rfl rfl rfl ?_
              refine r_getf act (gx gp_255 (w := 0x3000809005c04) rfl (by decide) rfl) (n := 92) (ci := 9) (j := 32) (N := 39) rfl rfl rfl rw_40.1 (by decide) (rw_40.2 (32, 143, 33, 5) (by decide)).1 ?_
              refine g_loadI act (gx gp_255 (w := 0x2005d02) rfl (by decide) rfl) (a := 2) (n := 93) rfl rfl rfl ?_
              refine r_lald act (gx gp_255 (w := 0x5e0d) rfl (by decide) rfl) (n := 94) (j := j_57) rfl (rw_40.2 (32, 143, 33, 5) (by decide)).2 ((rfl : Int32.toInt b = _).trans hj_58) (show j_57 < 5 by omega) (v := .long w_62) e_63 ?_
              refine n_call tb_pres act hEnd (gx (P := G_call) gp_255 (w := 0xa0000000000008349500011a00610f) rfl (by decide) rfl) (d' := D_282) rfl (as := [.ref 124, .long t_33, .long w_34, .long x_59, .long w_62]) (rest := []) (b_timesK (k1 := 7) (k2 := 7) rw_40.1 hK_37 hx_61 (by decide)) (show (5 : Nat) = fb 0xa0000000000008349500011a00610f % 16 by decide) (by show (9 : Nat) ≤ 13; decide) (fun _ => ⟨_, _, rfl, _, shp_at rw_40.1, Or.inr (show fb 0xa0000000000008349500011a00610f >>> 68 = 10 by decide)⟩) (by omega) (by show 8 + (13 + 11) + 55 ≤ R.locals; omega) (by show (0 : Nat) ≤ 8; decide) (by show kc + 0 ≤ _; omega) (by show ks + 0 ≤ _; omega) (fun r9 hs_69 hpo hr9 => ?_) (fun x9 hs9 hx9 hpo => ?_)
              · obtain rfl : r9 = none := hr9.elim (fun q => q.2) (fun q => absurd rfl q.1)
                obtain ⟨-, t_70, w_71, e_72, e_73, hK_74, fr_75⟩ := hpo
                have hM_76 := ModF.w0 hM_39 fr_75
                have rw_77 := rw_40.fr fr_75 W0_rw
                have f_78 := f_42.fr (fun j9 _ => fr_75.2.2 125 j9 (by unfold W0; omega))
                have f_79 := f_43.fr (fun j9 _ => fr_75.2.2 127 j9 (by unfold W0; omega))
                have f_80 := f_44.fr (fun j9 _ => fr_75.2.2 135 j9 (by unfold W0; omega))
                have f_81 := f_45.fr (fun j9 _ => fr_75.2.2 136 j9 (by unfold W0; omega))
                have f_82 := f_46.fr (fun j9 _ => fr_75.2.2 137 j9 (by unfold W0; omega))
                have f_83 := f_47.fr (fun j9 _ => fr_75.2.2 138 j9 (by unfold W0; omega))
                have f_84 := rd_fr fr_75 f_48 (by unfold W0; omega)
                have f_85 := rd_fr fr_75 f_49 (by unfold W0; omega)
                have f_86 := rd_fr fr_75 f_50 (by unfold W0; omega)
                have f_87 := f_51.fr (fun j9 _ _ => ⟨fr_75.2.2 131 j9 (by unfold W0; omega), fr_75.2.2 132 j9 (by unfold W0; omega)⟩)
                have f_88 := fun q9 => (f_52 q9).fr (fun j9 _ _ => ⟨fr_75.2.2 131 j9 (by unfold W0; omega), fr_75.2.2 132 j9 (by unfold W0; omega)⟩)
                have f_89 := f_53.fr fr_75 (fun j9 => by unfold W0; omega) (by unfold W0; omega) (by unfold W0; omega)
                have f_90 := f_54.fr (fun j9 _ _ => ⟨fr_75.2.2 142 j9 (by unfold W0; omega), fr_75.2.2 143 j9 (by unfold W0; omega)⟩)
                have f_91 := f_55.fr (fun j9 _ _ => ⟨fr_75.2.2 144 j9 (by unfold W0; omega), fr_75.2.2 145 j9 (by unfold W0; omega)⟩)
                have fr_93 := fr_56.tr (fr_75.mono (fun k9 j9 h9 => by unfold W0 at h9; unfold WM; omega))
                clear rw_40 f_42 f_43 f_44 f_45 f_46 f_47 f_48 f_49 f_50 f_51 f_52 f_53 f_54 f_55 hM_39 e_35 e_36 fr_56
                show WpN (gp g0 wp) CLS p l e R s m args below meth c Q D_255.2.2.1 kc0 ks0 97 [some (.ref 124), some (.int a), some (.int b), some (.int c9), some (.int (0 : Int32))] (hs_69, kc, ks) []
                refine g_loadA act (gx gp_255 (w := 0x6203) rfl (by decide) rfl) (a := 0) (n := 98) rfl rfl rfl ?_
                refine g_loadI act (gx gp_255 (w := 0x3006302) rfl (by decide) rfl) (a := 3) (n := 99) rfl rfl rfl ?_
                refine n_call tb_pres act hEnd (gx (P := G_call) gp_255 (w := 0xa000000000000c08220000fa00660f) rfl (by decide) rfl) (d' := D_250) rfl (as := [.ref 124, .int c9]) (rest := []) (b_part rw_77.1 e_72 e_73) (show (2 : Nat) = fb 0xa000000000000c08220000fa00660f % 16 by decide) (by show (2 : Nat) ≤ 2; decide) (fun _ => ⟨_, _, rfl, _, shp_at rw_77.1, Or.inr (show fb 0xa000000000000c08220000fa00660f >>> 68 = 10 by decide)⟩) (by omega) (by show 8 + (2 + 11) + 0 ≤ R.locals; omega) (by show (0 : Nat) ≤ 8; decide) (by show kc + 0 ≤ _; omega) (by show ks + 0 ≤ _; omega) (fun r9 h3 hpo hr9 => ?_) (fun x9 hs9 hx9 hpo => ?_)
                · obtain ⟨-, rfl, pv_94, rfl⟩ := hpo
                  show WpN (gp g0 wp) CLS p l e R s m args below meth c Q D_255.2.2.1 kc0 ks0 102 [some (.ref 124), some (.int a), some (.int b), some (.int c9), some (.int (0 : Int32))] (hs_69, kc, ks) [.long pv_94]
                  exact g_retL hEnd (gx gp_255 (w := 0x19) rfl (by decide) rfl) ⟨rfl, ⟨_, rfl⟩, hM_76, fr_93⟩ (by show kc ≤ kc + 0; omega) (by show ks ≤ ks + 0; omega)
                · exact absurd hpo.1 (by omega)
              · exact absurd hpo.1 (by omega)
            · exact absurd hpo.1 (by omega)
        · exact absurd hpo.1 (by omega)
      · exact absurd hpo.1 (by omega)
    · simp only [i_eq, i0] at h3
      refine g_loadA act (gx gp_255 (w := 0x903) rfl (by decide) rfl) (a := 0) (n := 9) rfl rfl rfl ?_
      refine r_getf act (gx gp_255 (w := 0x3000049000c04) rfl (by decide) rfl) (n := 12) (ci := 9) (j := 1) (N := 39) rfl rfl rfl rw0.1 (by decide) (rw0.2 (1, 125, 32, 46) (by decide)).1 ?_
      refine g_constI act (gx gp_255 (w := 0x40000008c00000089000000000e01) rfl (by decide) rfl) (n := 14) (x := (17 : Int32)) (by decide) rfl ?_
      refine g_loadI act (gx gp_255 (w := 0x2000f02) rfl (by decide) rfl) (a := 2) (n := 15) rfl rfl rfl ?_
      refine g_iadd act (gx gp_255 (w := 0x100a) rfl (by decide) rfl) (n := 16) rfl ?_
      have v_95 := iv_add (show (17 : Int32).toInt = ((17 : Nat) : Int) from by decide) (rfl : Int32.toInt b = _) (show -2147483648 ≤ (((17 : Nat) : Int) + (Int32.toInt b)) by omega) (show (((17 : Nat) : Int) + (Int32.toInt b)) < 2147483648 by omega)
      obtain ⟨j_96, hj_97⟩ := Int.eq_ofNat_of_zero_le (show (0 : Int) ≤ (((17 : Nat) : Int) + (Int32.toInt b)) by omega)
      obtain ⟨x_98, e_99, hx_100⟩ := hTo j_96 (by omega)
      refine r_iald act (gx gp_255 (w := 0x111a) rfl (by decide) rfl) (n := 17) (j := j_96) rfl (rw0.2 (1, 125, 32, 46) (by decide)).2 (v_95.trans hj_97) (show j_96 < 46 by omega) (v := .int x_98) e_99 ?_
      refine g_goto act (gx gp_255 (w := 0x1507) rfl (by decide) rfl) (n := 21) rfl ?_
      refine g_storeI act (gx gp_255 (w := 0x4001710) rfl (by decide) rfl) (a := 4) (n := 23) rfl rfl (L2 := [some (.ref 124), some (.int a), some (.int b), some (.int c9), some (.int x_98)]) rfl ?_
      refine g_loadA act (gx gp_255 (w := 0x1803) rfl (by decide) rfl) (a := 0) (n := 24) rfl rfl rfl ?_
      refine g_loadA act (gx gp_255 (w := 0x1903) rfl (by decide) rfl) (a := 0) (n := 25) rfl rfl rfl ?_
      refine g_loadI act (gx gp_255 (w := 0x2001a02) rfl (by decide) rfl) (a := 2) (n := 26) rfl rfl rfl ?_
      refine n_call tb_pres act hEnd (gx (P := G_call) gp_255 (w := 0xa000000000000c08220000de001d0f) rfl (by decide) rfl) (d' := D_222) rfl (as := [.ref 124, .int b]) (rest := [.ref 124]) (b_isGenerator (tl := tl) rw0 hTo (rfl : Int32.toInt b = _) (by omega) (by omega)) (show (2 : Nat) = fb 0xa000000000000c08220000de001d0f % 16 by decide) (by show (2 : Nat) ≤ 2; decide) (fun _ => ⟨_, _, rfl, _, shp_at rw0.1, Or.inr (show fb 0xa000000000000c08220000de001d0f >>> 68 = 10 by decide)⟩) (by omega) (by show 8 + (2 + 11) + 22 ≤ R.locals; omega) (by show (1 : Nat) ≤ 8; decide) (by show kc + 0 ≤ _; omega) (by show ks + 0 ≤ _; omega) (fun r9 h3 hpo hr9 => ?_) (fun x9 hs9 hx9 hpo => ?_)
      · obtain ⟨-, rfl, hin_102⟩ := hpo
        obtain ⟨rv_101, rfl, hin_102o⟩ := in1_t hin_102
        show WpN (gp g0 wp) CLS p l e R s m args below meth c Q D_255.2.2.1 kc0 ks0 29 [some (.ref 124), some (.int a), some (.int b), some (.int c9), some (.int x_98)] (hs, kc, ks) [.int rv_101, .ref 124]
        refine g_loadI act (gx gp_255 (w := 0x1001e02) rfl (by decide) rfl) (a := 1) (n := 30) rfl rfl rfl ?_
        refine g_loadI act (gx gp_255 (w := 0x3001f02) rfl (by decide) rfl) (a := 3) (n := 31) rfl rfl rfl ?_
        refine g_constI act (gx gp_255 (w := 0x40000000c00000009000000002001) rfl (by decide) rfl) (n := 32) (x := (1 : Int32)) (by decide) rfl ?_
        refine g_loadI act (gx gp_255 (w := 0x4002202) rfl (by decide) rfl) (a := 4) (n := 34) rfl rfl rfl ?_
        refine g_ishl act (gx gp_255 (w := 0x233b) rfl (by decide) rfl) (n := 35) rfl ?_
        refine n_call tb_pres act hEnd (gx (P := G_call) gp_255 (w := 0xa000000000000c14550000e400260f) rfl (by decide) rfl) (d' := D_228) rfl (as := [.ref 124, .int rv_101, .int a, .int c9, .int ((1 : Int32) <<< (x_98 &&& 31))]) (rest := []) (b_isPriced hNW ⟨rw0, hTo, hW⟩ hM (ti := (Int32.toInt rv_101)) (rfl : Int32.toInt rv_101 = _) (by omega) (x := (Int32.toInt a)) (rfl : Int32.toInt a = _) (y := (Int32.toInt c9)) (rfl : Int32.toInt c9 = _)) (show (5 : Nat) = fb 0xa000000000000c14550000e400260f % 16 by decide) (by show (5 : Nat) ≤ 5; decide) (fun _ => ⟨_, _, rfl, _, shp_at rw0.1, Or.inr (show fb 0xa000000000000c14550000e400260f >>> 68 = 10 by decide)⟩) (by omega) (by show 8 + (5 + 11) + 251 ≤ R.locals; omega) (by show (0 : Nat) ≤ 8; decide) (by show kc + 0 ≤ _; omega) (by show ks + 0 ≤ _; omega) (fun r9 hs_103 hpo hr9 => ?_) (fun x9 hs9 hx9 hpo => ?_)
        · obtain ⟨-, hM_105, fr_104, rg, rfl, hg_106⟩ := hpo
          have rw_107 := rw0.fr fr_104 WM_rw
          have f_108 := hTo.fr (fun j9 _ => fr_104.2.2 125 j9 (by unfold WM; omega))
          have f_109 := hW.fr (fun j9 _ => fr_104.2.2 127 j9 (by unfold WM; omega))
          have fr_110 := (FrS.rf WM hs).tr fr_104
          show WpN (gp g0 wp) CLS p l e R s m args below meth c Q D_255.2.2.1 kc0 ks0 38 [some (.ref 124), some (.int a), some (.int b), some (.int c9), some (.int x_98)] (hs_103, kc, ks) [.int rg]
          rcases hg_106 with rfl | ⟨rfl, g1_111, g2_111, g3_111, g4_111, g5_111, hFD_111, hPI_111⟩
          · refine g_ifNe act (gx gp_255 (w := 0x2b00291d) rfl (by decide) rfl) (tgt := 43) (n := 41) rfl rfl (fun q => absurd q (by decide)) (fun _ => ?_)
            refine g_constL act (gx gp_255 (w := 0x40000000000000002000000002a01) rfl (by decide) rfl) (n := 42) (x := 0) (by decide) rfl ?_
            exact g_retL hEnd (gx gp_255 (w := 0x19) rfl (by decide) rfl) ⟨rfl, ⟨_, rfl⟩, hM_105, fr_110⟩ (by show kc ≤ kc + 0; omega) (by show ks ≤ ks + 0; omega)
          · obtain ⟨⟨frw_112, fTo_112, fW_112⟩, ⟨hG_112, ⟨oi_112, f24_112, hoi_112⟩, ⟨dm_112, fD_112, hdm_112⟩, ⟨lm_112, fL_112, hlm_112⟩, ⟨em_112, fE_112, hem_112⟩, ⟨cp_112, fC_112, hcp_112⟩⟩, fFo_112, ⟨fK0_112, fK1_112⟩⟩ := hFD_111
            obtain ⟨⟨ct_112, cl_112, f29_112, f30_112, hck_112⟩, fKO_112⟩ := found_k hG_112 fFo_112
            have fO7_112 := found_k7 hG_112 fFo_112
            have nt_113 := nw_told hNW j_96
            have fP0_112 := pri_k (k := ((tl j_96)).toNat) hG_112 hPI_111 (by omega) (bit_one (show _ = ((((tl j_96)).toNat : Nat) : Int) by have q9 := hx_100; omega) (by omega))
            refine g_ifNe act (gx gp_255 (w := 0x2b00291d) rfl (by decide) rfl) (tgt := 43) (n := 41) rfl rfl (fun _ => ?_) (fun q => absurd (by decide) q)
            refine g_loadA act (gx gp_255 (w := 0x2c03) rfl (by decide) rfl) (a := 0) (n := 44) rfl rfl rfl ?_
            refine g_loadA act (gx gp_255 (w := 0x2d03) rfl (by decide) rfl) (a := 0) (n := 45) rfl rfl rfl ?_
            refine r_getf act (gx gp_255 (w := 0x3000849003004) rfl (by decide) rfl) (n := 48) (ci := 9) (j := 33) (N := 39) rfl rfl rfl frw_112.1 (by decide) (frw_112.2 (33, 144, 33, 4) (by decide)).1 ?_
            refine g_loadI act (gx gp_255 (w := 0x4003202) rfl (by decide) rfl) (a := 4) (n := 50) rfl rfl rfl ?_
            obtain ⟨x_114, w_117, e_115, e_118, hx_116⟩ := fP0_112 (((tl j_96)).toNat) (by omega) (by omega)
            refine r_lald act (gx gp_255 (w := 0x330d) rfl (by decide) rfl) (n := 51) (j := ((tl j_96)).toNat) rfl (frw_112.2 (33, 144, 33, 4) (by decide)).2 (show _ = ((((tl j_96)).toNat : Nat) : Int) by have q9 := hx_100; omega) (show ((tl j_96)).toNat < 4 by omega) (v := .long x_114) e_115 ?_
            refine g_loadA act (gx gp_255 (w := 0x3403) rfl (by decide) rfl) (a := 0) (n := 52) rfl rfl rfl ?_
            refine r_getf act (gx gp_255 (w := 0x3000889003704) rfl (by decide) rfl) (n := 55) (ci := 9) (j := 34) (N := 39) rfl rfl rfl frw_112.1 (by decide) (frw_112.2 (34, 145, 33, 4) (by decide)).1 ?_
            refine g_loadI act (gx gp_255 (w := 0x4003902) rfl (by decide) rfl) (a := 4) (n := 57) rfl rfl rfl ?_
            refine r_lald act (gx gp_255 (w := 0x3a0d) rfl (by decide) rfl) (n := 58) (j := ((tl j_96)).toNat) rfl (frw_112.2 (34, 145, 33, 4) (by decide)).2 (show _ = ((((tl j_96)).toNat : Nat) : Int) by have q9 := hx_100; omega) (show ((tl j_96)).toNat < 4 by omega) (v := .long w_117) e_118 ?_
            refine g_loadA act (gx gp_255 (w := 0x3b03) rfl (by decide) rfl) (a := 0) (n := 59) rfl rfl rfl ?_
            refine r_getf act (gx gp_255 (w := 0x30000c9003e04) rfl (by decide) rfl) (n := 62) (ci := 9) (j := 3) (N := 39) rfl rfl rfl frw_112.1 (by decide) (frw_112.2 (3, 127, 32, 39) (by decide)).1 ?_
            refine g_constI act (gx gp_255 (w := 0x40000006400000061000000004001) rfl (by decide) rfl) (n := 64) (x := (12 : Int32)) (by decide) rfl ?_
            refine g_loadI act (gx gp_255 (w := 0x2004102) rfl (by decide) rfl) (a := 2) (n := 65) rfl rfl rfl ?_
            refine g_iadd act (gx gp_255 (w := 0x420a) rfl (by decide) rfl) (n := 66) rfl ?_
            have v_124 := iv_add (show (12 : Int32).toInt = ((12 : Nat) : Int) from by decide) (rfl : Int32.toInt b = _) (show -2147483648 ≤ (((12 : Nat) : Int) + (Int32.toInt b)) by omega) (show (((12 : Nat) : Int) + (Int32.toInt b)) < 2147483648 by omega)
            obtain ⟨j_125, hj_126⟩ := Int.eq_ofNat_of_zero_le (show (0 : Int) ≤ (((12 : Nat) : Int) + (Int32.toInt b)) by omega)
            obtain ⟨x_127, e_128, hx_129⟩ := fW_112 j_125 (by omega)
            refine r_iald act (gx gp_255 (w := 0x431a) rfl (by decide) rfl) (n := 67) (j := j_125) rfl (frw_112.2 (3, 127, 32, 39) (by decide)).2 (v_124.trans hj_126) (show j_125 < 39 by omega) (v := .int x_127) e_128 ?_
            refine g_ineg act (gx gp_255 (w := 0x444c) rfl (by decide) rfl) (n := 68) rfl ?_
            refine g_i2l act (gx gp_255 (w := 0x452c) rfl (by decide) rfl) (n := 69) rfl ?_
            have v_130 := lw_i2l (rfl : Int32.toInt (-x_127) = _)
            refine g_constL act (gx gp_255 (w := 0x4000000000000000a000000004601) rfl (by decide) rfl) (n := 70) (x := 1) (by decide) rfl ?_
            refine n_call tb_pres act hEnd (gx (P := G_call) gp_255 (w := 0xa00000000000082c950000fc00490f) rfl (by decide) rfl) (d' := D_252) rfl (as := [.ref 124, .long x_114, .long w_117, .long ((-x_127)).toInt64, .long (1 : Int64)]) (rest := []) (b_plusK (k := 7) frw_112.1 (hx_116.mono (by decide)) (k2_one.mono (by decide)) (by decide)) (show (5 : Nat) = fb 0xa00000000000082c950000fc00490f % 16 by decide) (by show (9 : Nat) ≤ 11; decide) (fun _ => ⟨_, _, rfl, _, shp_at frw_112.1, Or.inr (show fb 0xa00000000000082c950000fc00490f >>> 68 = 10 by decide)⟩) (by omega) (by show 8 + (11 + 11) + 55 ≤ R.locals; omega) (by show (0 : Nat) ≤ 8; decide) (by show kc + 0 ≤ _; omega) (by show ks + 0 ≤ _; omega) (fun r9 hs_131 hpo hr9 => ?_) (fun x9 hs9 hx9 hpo => ?_)
            · obtain rfl : r9 = none := hr9.elim (fun q => q.2) (fun q => absurd rfl q.1)
              obtain ⟨-, t_132, w_133, e_134, e_135, hK_136, fr_137⟩ := hpo
              have hM_138 := ModF.w0 hM_105 fr_137
              have rw_139 := frw_112.fr fr_137 W0_rw
              have f_141 := fTo_112.fr (fun j9 _ => fr_137.2.2 125 j9 (by unfold W0; omega))
              have f_142 := fW_112.fr (fun j9 _ => fr_137.2.2 127 j9 (by unfold W0; omega))
              have f_143 := fD_112.fr (fun j9 _ => fr_137.2.2 135 j9 (by unfold W0; omega))
              have f_144 := fL_112.fr (fun j9 _ => fr_137.2.2 136 j9 (by unfold W0; omega))
              have f_145 := fE_112.fr (fun j9 _ => fr_137.2.2 137 j9 (by unfold W0; omega))
              have f_146 := fC_112.fr (fun j9 _ => fr_137.2.2 138 j9 (by unfold W0; omega))
              have f_147 := rd_fr fr_137 f24_112 (by unfold W0; omega)
              have f_148 := rd_fr fr_137 f29_112 (by unfold W0; omega)
              have f_149 := rd_fr fr_137 f30_112 (by unfold W0; omega)
              have f_150 := fK0_112.fr (fun j9 _ _ => ⟨fr_137.2.2 131 j9 (by unfold W0; omega), fr_137.2.2 132 j9 (by unfold W0; omega)⟩)
              have f_151 := fun q9 => (fK1_112 q9).fr (fun j9 _ _ => ⟨fr_137.2.2 131 j9 (by unfold W0; omega), fr_137.2.2 132 j9 (by unfold W0; omega)⟩)
              have f_152 := fFo_112.fr fr_137 (fun j9 => by unfold W0; omega) (by unfold W0; omega) (by unfold W0; omega)
              have f_153 := fO7_112.fr (fun j9 _ _ => ⟨fr_137.2.2 142 j9 (by unfold W0; omega), fr_137.2.2 143 j9 (by unfold W0; omega)⟩)
              have f_154 := fP0_112.fr (fun j9 _ _ => ⟨fr_137.2.2 144 j9 (by unfold W0; omega), fr_137.2.2 145 j9 (by unfold W0; omega)⟩)
              have fr_155 := fr_110.tr (fr_137.mono (fun k9 j9 h9 => by unfold W0 at h9; unfold WM; omega))
              clear frw_112 hM_105 fTo_112 fW_112 fD_112 fL_112 fE_112 fC_112 f24_112 f29_112 f30_112 fK0_112 fK1_112 fFo_112 fO7_112 fP0_112 fr_110
              show WpN (gp g0 wp) CLS p l e R s m args below meth c Q D_255.2.2.1 kc0 ks0 73 [some (.ref 124), some (.int a), some (.int b), some (.int c9), some (.int x_98)] (hs_131, kc, ks) []
              refine g_loadA act (gx gp_255 (w := 0x4a03) rfl (by decide) rfl) (a := 0) (n := 74) rfl rfl rfl ?_
              refine g_loadA act (gx gp_255 (w := 0x4b03) rfl (by decide) rfl) (a := 0) (n := 75) rfl rfl rfl ?_
              refine r_getf act (gx gp_255 (w := 0x20001c9004e04) rfl (by decide) rfl) (n := 78) (ci := 9) (j := 7) (N := 39) rfl rfl rfl rw_139.1 (by decide) (v := .long t_132) e_134 ?_
              refine g_loadA act (gx gp_255 (w := 0x4f03) rfl (by decide) rfl) (a := 0) (n := 79) rfl rfl rfl ?_
              refine r_getf act (gx gp_255 (w := 0x2000209005204) rfl (by decide) rfl) (n := 82) (ci := 9) (j := 8) (N := 39) rfl rfl rfl rw_139.1 (by decide) (v := .long w_133) e_135 ?_
              refine g_loadA act (gx gp_255 (w := 0x5303) rfl (by decide) rfl) (a := 0) (n := 83) rfl rfl rfl ?_
              refine r_getf act (gx gp_255 (w := 0x30007c9005604) rfl (by decide) rfl) (n := 86) (ci := 9) (j := 31) (N := 39) rfl rfl rfl rw_139.1 (by decide) (rw_139.2 (31, 142, 33, 5) (by decide)).1 ?_
              refine g_loadI act (gx gp_255 (w := 0x2005702) rfl (by decide) rfl) (a := 2) (n := 87) rfl rfl rfl ?_
              obtain ⟨j_156, hj_157⟩ := Int.eq_ofNat_of_zero_le (show (0 : Int) ≤ (Int32.toInt b) by omega)
              obtain ⟨x_158, w_161, e_159, e_162, hx_160⟩ := f_153 j_156 (by omega) (by omega)
              refine r_lald act (gx gp_255 (w := 0x580d) rfl (by decide) rfl) (n := 88) (j := j_156) rfl (rw_139.2 (31, 142, 33, 5) (by decide)).2 ((rfl : Int32.toInt b = _).trans hj_157) (show j_156 < 5 by omega) (v := .long x_158) e_159 ?_
              refine g_loadA act (gx gp_255 (w := 0x5903) rfl (by decide) rfl) (a := 0) (n := 89) rfl rfl rfl ?_
              refine r_getf act (gx gp_255 (w := 0x3000809005c04) rfl (by decide) rfl) (n := 92) (ci := 9) (j := 32) (N := 39) rfl rfl rfl rw_139.1 (by decide) (rw_139.2 (32, 143, 33, 5) (by decide)).1 ?_
              refine g_loadI act (gx gp_255 (w := 0x2005d02) rfl (by decide) rfl) (a := 2) (n := 93) rfl rfl rfl ?_
              refine r_lald act (gx gp_255 (w := 0x5e0d) rfl (by decide) rfl) (n := 94) (j := j_156) rfl (rw_139.2 (32, 143, 33, 5) (by decide)).2 ((rfl : Int32.toInt b = _).trans hj_157) (show j_156 < 5 by omega) (v := .long w_161) e_162 ?_
              refine n_call tb_pres act hEnd (gx (P := G_call) gp_255 (w := 0xa0000000000008349500011a00610f) rfl (by decide) rfl) (d' := D_282) rfl (as := [.ref 124, .long t_132, .long w_133, .long x_158, .long w_161]) (rest := []) (b_timesK (k1 := 7) (k2 := 7) rw_139.1 hK_136 hx_160 (by decide)) (show (5 : Nat) = fb 0xa0000000000008349500011a00610f % 16 by decide) (by show (9 : Nat) ≤ 13; decide) (fun _ => ⟨_, _, rfl, _, shp_at rw_139.1, Or.inr (show fb 0xa0000000000008349500011a00610f >>> 68 = 10 by decide)⟩) (by omega) (by show 8 + (13 + 11) + 55 ≤ R.locals; omega) (by show (0 : Nat) ≤ 8; decide) (by show kc + 0 ≤ _; omega) (by show ks + 0 ≤ _; omega) (fun r9 hs_168 hpo hr9 => ?_) (fun x9 hs9 hx9 hpo => ?_)
              · obtain rfl : r9 = none := hr9.elim (fun q => q.2) (fun q => absurd rfl q.1)
                obtain ⟨-, t_169, w_170, e_171, e_172, hK_173, fr_174⟩ := hpo
                have hM_175 := ModF.w0 hM_138 fr_174
                have rw_176 := rw_139.fr fr_174 W0_rw
                have f_177 := f_141.fr (fun j9 _ => fr_174.2.2 125 j9 (by unfold W0; omega))
                have f_178 := f_142.fr (fun j9 _ => fr_174.2.2 127 j9 (by unfold W0; omega))
                have f_179 := f_143.fr (fun j9 _ => fr_174.2.2 135 j9 (by unfold W0; omega))
                have f_180 := f_144.fr (fun j9 _ => fr_174.2.2 136 j9 (by unfold W0; omega))
                have f_181 := f_145.fr (fun j9 _ => fr_174.2.2 137 j9 (by unfold W0; omega))
                have f_182 := f_146.fr (fun j9 _ => fr_174.2.2 138 j9 (by unfold W0; omega))
                have f_183 := rd_fr fr_174 f_147 (by unfold W0; omega)
                have f_184 := rd_fr fr_174 f_148 (by unfold W0; omega)
                have f_185 := rd_fr fr_174 f_149 (by unfold W0; omega)
                have f_186 := f_150.fr (fun j9 _ _ => ⟨fr_174.2.2 131 j9 (by unfold W0; omega), fr_174.2.2 132 j9 (by unfold W0; omega)⟩)
                have f_187 := fun q9 => (f_151 q9).fr (fun j9 _ _ => ⟨fr_174.2.2 131 j9 (by unfold W0; omega), fr_174.2.2 132 j9 (by unfold W0; omega)⟩)
                have f_188 := f_152.fr fr_174 (fun j9 => by unfold W0; omega) (by unfold W0; omega) (by unfold W0; omega)
                have f_189 := f_153.fr (fun j9 _ _ => ⟨fr_174.2.2 142 j9 (by unfold W0; omega), fr_174.2.2 143 j9 (by unfold W0; omega)⟩)
                have f_190 := f_154.fr (fun j9 _ _ => ⟨fr_174.2.2 144 j9 (by unfold W0; omega), fr_174.2.2 145 j9 (by unfold W0; omega)⟩)
                have fr_192 := fr_155.tr (fr_174.mono (fun k9 j9 h9 => by unfold W0 at h9; unfold WM; omega))
                clear rw_139 f_141 f_142 f_143 f_144 f_145 f_146 f_147 f_148 f_149 f_150 f_151 f_152 f_153 f_154 hM_138 e_134 e_135 fr_155
                show WpN (gp g0 wp) CLS p l e R s m args below meth c Q D_255.2.2.1 kc0 ks0 97 [some (.ref 124), some (.int a), some (.int b), some (.int c9), some (.int x_98)] (hs_168, kc, ks) []
                refine g_loadA act (gx gp_255 (w := 0x6203) rfl (by decide) rfl) (a := 0) (n := 98) rfl rfl rfl ?_
                refine g_loadI act (gx gp_255 (w := 0x3006302) rfl (by decide) rfl) (a := 3) (n := 99) rfl rfl rfl ?_
                refine n_call tb_pres act hEnd (gx (P := G_call) gp_255 (w := 0xa000000000000c08220000fa00660f) rfl (by decide) rfl) (d' := D_250) rfl (as := [.ref 124, .int c9]) (rest := []) (b_part rw_176.1 e_171 e_172) (show (2 : Nat) = fb 0xa000000000000c08220000fa00660f % 16 by decide) (by show (2 : Nat) ≤ 2; decide) (fun _ => ⟨_, _, rfl, _, shp_at rw_176.1, Or.inr (show fb 0xa000000000000c08220000fa00660f >>> 68 = 10 by decide)⟩) (by omega) (by show 8 + (2 + 11) + 0 ≤ R.locals; omega) (by show (0 : Nat) ≤ 8; decide) (by show kc + 0 ≤ _; omega) (by show ks + 0 ≤ _; omega) (fun r9 h3 hpo hr9 => ?_) (fun x9 hs9 hx9 hpo => ?_)
                · obtain ⟨-, rfl, pv_193, rfl⟩ := hpo
                  show WpN (gp g0 wp) CLS p l e R s m args below meth c Q D_255.2.2.1 kc0 ks0 102 [some (.ref 124), some (.int a), some (.int b), some (.int c9), some (.int x_98)] (hs_168, kc, ks) [.long pv_193]
                  exact g_retL hEnd (gx gp_255 (w := 0x19) rfl (by decide) rfl) ⟨rfl, ⟨_, rfl⟩, hM_175, fr_192⟩ (by show kc ≤ kc + 0; omega) (by show ks ≤ ks + 0; omega)
                · exact absurd hpo.1 (by omega)
              · exact absurd hpo.1 (by omega)
            · exact absurd hpo.1 (by omega)
        · exact absurd hpo.1 (by omega)
      · exact absurd hpo.1 (by omega)
  · exact absurd hpo.1 (by omega)

theorem b_rent {g0 : GG} {bl : Nat} {xs : Nat → Int32} {l : Launch} {hs : List CE} {tl wl : Nat → Int} {nl n ng nr : Nat} (hNW : NW tl wl nl n ng nr) {a b c9 : Int32} (hB : BM hs tl wl) (hM : ModF hs) : BodyN SSX TBL g0 CLS bl xs l D_263 11 275 0 0 [.ref 124, .int a, .int b, .int c9] hs (POL hs) := by
  intro wp p e R s m args below meth c Q kc0 ks0 kc ks act hf hl hc hsl hEnd
  have hN9 := hNW
  obtain ⟨n0, n1, n2, n3, n4, n5, n6, n7, n8, hG0, nL, nC, nP, nD⟩ := hN9
  have hGn := hG0.1
  have hGn3 := hG0.2.1
  have hGl := hG0.2.2.1
  obtain ⟨rw0, hTo, hW⟩ := hB
  show WpN (gp g0 wp) CLS p l e R s m args below meth c Q D_263.2.2.1 kc0 ks0 0 [some (.ref 124), some (.int a), some (.int b), some (.int c9), none, none, none, none, none, none] (hs, kc, ks) []
  refine g_loadA act (gx gp_263 (w := 0x103) rfl (by decide) rfl) (a := 0) (n := 1) rfl rfl rfl ?_
  refine g_loadI act (gx gp_263 (w := 0x2000202) rfl (by decide) rfl) (a := 2) (n := 2) rfl rfl rfl ?_
  refine n_call tb_pres act hEnd (gx (P := G_call) gp_263 (w := 0xa000000000000c08220000e200050f) rfl (by decide) rfl) (d' := D_226) rfl (as := [.ref 124, .int b]) (rest := []) (b_isLine (tl := tl) rw0 hTo (rfl : Int32.toInt b = _) (by omega) (by omega)) (show (2 : Nat) = fb 0xa000000000000c08220000e200050f % 16 by decide) (by show (2 : Nat) ≤ 2; decide) (fun _ => ⟨_, _, rfl, _, shp_at rw0.1, Or.inr (show fb 0xa000000000000c08220000e200050f >>> 68 = 10 by decide)⟩) (by omega) (by show 8 + (2 + 11) + 22 ≤ R.locals; omega) (by show (0 : Nat) ≤ 8; decide) (by show kc + 0 ≤ _; omega) (by show ks + 0 ≤ _; omega) (fun r9 h3 hpo hr9 => ?_) (fun x9 hs9 hx9 hpo => ?_)
  · obtain ⟨-, rfl, hin_2⟩ := hpo
    obtain ⟨rv_1, rfl, hin_2o⟩ := in1_t hin_2
    show WpN (gp g0 wp) CLS p l e R s m args below meth c Q D_263.2.2.1 kc0 ks0 5 [some (.ref 124), some (.int a), some (.int b), some (.int c9), none, none, none, none, none, none] (hs, kc, ks) [.int rv_1]
    refine g_ifEq act (gx gp_263 (w := 0x1300080e) rfl (by decide) rfl) (tgt := 19) (n := 8) rfl rfl (fun h3 => ?_) (fun h3 => ?_)
    · simp only [i_eq, i0] at h3
      refine g_constI act (gx gp_263 (w := 0x40000000400000001000000001401) rfl (by decide) rfl) (n := 20) (x := (0 : Int32)) (by decide) rfl ?_
      refine g_storeI act (gx gp_263 (w := 0x4001610) rfl (by decide) rfl) (a := 4) (n := 22) rfl rfl (L2 := [some (.ref 124), some (.int a), some (.int b), some (.int c9), some (.int (0 : Int32)), none, none, none, none, none]) rfl ?_
      refine g_loadA act (gx gp_263 (w := 0x1703) rfl (by decide) rfl) (a := 0) (n := 23) rfl rfl rfl ?_
      refine g_loadI act (gx gp_263 (w := 0x2001802) rfl (by decide) rfl) (a := 2) (n := 24) rfl rfl rfl ?_
      refine n_call tb_pres act hEnd (gx (P := G_call) gp_263 (w := 0xa000000000000c08220000e2001b0f) rfl (by decide) rfl) (d' := D_226) rfl (as := [.ref 124, .int b]) (rest := []) (b_isLine (tl := tl) rw0 hTo (rfl : Int32.toInt b = _) (by omega) (by omega)) (show (2 : Nat) = fb 0xa000000000000c08220000e2001b0f % 16 by decide) (by show (2 : Nat) ≤ 2; decide) (fun _ => ⟨_, _, rfl, _, shp_at rw0.1, Or.inr (show fb 0xa000000000000c08220000e2001b0f >>> 68 = 10 by decide)⟩) (by omega) (by show 8 + (2 + 11) + 22 ≤ R.locals; omega) (by show (0 : Nat) ≤ 8; decide) (by show kc + 0 ≤ _; omega) (by show ks + 0 ≤ _; omega) (fun r9 h3 hpo hr9 => ?_) (fun x9 hs9 hx9 hpo => ?_)
      · obtain ⟨-, rfl, hin_4⟩ := hpo
        obtain ⟨rv_3, rfl, hin_4o⟩ := in1_t hin_4
        show WpN (gp g0 wp) CLS p l e R s m args below meth c Q D_263.2.2.1 kc0 ks0 27 [some (.ref 124), some (.int a), some (.int b), some (.int c9), some (.int (0 : Int32)), none, none, none, none, none] (hs, kc, ks) [.int rv_3]
        refine g_ifEq act (gx gp_263 (w := 0x2a001e0e) rfl (by decide) rfl) (tgt := 42) (n := 30) rfl rfl (fun h8 => ?_) (fun h8 => ?_)
        · simp only [i_eq, i0] at h8
          refine g_constI act (gx gp_263 (w := 0x40000000400000001000000002b01) rfl (by decide) rfl) (n := 43) (x := (0 : Int32)) (by decide) rfl ?_
          refine g_storeI act (gx gp_263 (w := 0x5002d10) rfl (by decide) rfl) (a := 5) (n := 45) rfl rfl (L2 := [some (.ref 124), some (.int a), some (.int b), some (.int c9), some (.int (0 : Int32)), some (.int (0 : Int32)), none, none, none, none]) rfl ?_
          refine g_loadA act (gx gp_263 (w := 0x2e03) rfl (by decide) rfl) (a := 0) (n := 46) rfl rfl rfl ?_
          refine g_loadA act (gx gp_263 (w := 0x2f03) rfl (by decide) rfl) (a := 0) (n := 47) rfl rfl rfl ?_
          refine g_loadI act (gx gp_263 (w := 0x2003002) rfl (by decide) rfl) (a := 2) (n := 48) rfl rfl rfl ?_
          refine n_call tb_pres act hEnd (gx (P := G_call) gp_263 (w := 0xa000000000000c08220000e200330f) rfl (by decide) rfl) (d' := D_226) rfl (as := [.ref 124, .int b]) (rest := [.ref 124]) (b_isLine (tl := tl) rw0 hTo (rfl : Int32.toInt b = _) (by omega) (by omega)) (show (2 : Nat) = fb 0xa000000000000c08220000e200330f % 16 by decide) (by show (2 : Nat) ≤ 2; decide) (fun _ => ⟨_, _, rfl, _, shp_at rw0.1, Or.inr (show fb 0xa000000000000c08220000e200330f >>> 68 = 10 by decide)⟩) (by omega) (by show 8 + (2 + 11) + 22 ≤ R.locals; omega) (by show (1 : Nat) ≤ 8; decide) (by show kc + 0 ≤ _; omega) (by show ks + 0 ≤ _; omega) (fun r9 h3 hpo hr9 => ?_) (fun x9 hs9 hx9 hpo => ?_)
          · obtain ⟨-, rfl, hin_6⟩ := hpo
            obtain ⟨rv_5, rfl, hin_6o⟩ := in1_t hin_6
            show WpN (gp g0 wp) CLS p l e R s m args below meth c Q D_263.2.2.1 kc0 ks0 51 [some (.ref 124), some (.int a), some (.int b), some (.int c9), some (.int (0 : Int32)), some (.int (0 : Int32)), none, none, none, none] (hs, kc, ks) [.int rv_5, .ref 124]
            refine g_loadI act (gx gp_263 (w := 0x1003402) rfl (by decide) rfl) (a := 1) (n := 52) rfl rfl rfl ?_
            refine g_loadI act (gx gp_263 (w := 0x3003502) rfl (by decide) rfl) (a := 3) (n := 53) rfl rfl rfl ?_
            refine g_constI act (gx gp_263 (w := 0x40000000c00000009000000003601) rfl (by decide) rfl) (n := 54) (x := (1 : Int32)) (by decide) rfl ?_
            refine g_loadI act (gx gp_263 (w := 0x4003802) rfl (by decide) rfl) (a := 4) (n := 56) rfl rfl rfl ?_
            refine g_ishl act (gx gp_263 (w := 0x393b) rfl (by decide) rfl) (n := 57) rfl ?_
            refine g_constI act (gx gp_263 (w := 0x40000000c00000009000000003a01) rfl (by decide) rfl) (n := 58) (x := (1 : Int32)) (by decide) rfl ?_
            refine g_loadI act (gx gp_263 (w := 0x5003c02) rfl (by decide) rfl) (a := 5) (n := 60) rfl rfl rfl ?_
            refine g_ishl act (gx gp_263 (w := 0x3d3b) rfl (by decide) rfl) (n := 61) rfl ?_
            refine g_ior act (gx gp_263 (w := 0x3e4b) rfl (by decide) rfl) (n := 62) rfl ?_
            refine n_call tb_pres act hEnd (gx (P := G_call) gp_263 (w := 0xa000000000000c14550000e400410f) rfl (by decide) rfl) (d' := D_228) rfl (as := [.ref 124, .int rv_5, .int a, .int c9, .int (((1 : Int32) <<< ((0 : Int32) &&& 31)) ||| ((1 : Int32) <<< ((0 : Int32) &&& 31)))]) (rest := []) (b_isPriced hNW ⟨rw0, hTo, hW⟩ hM (ti := (Int32.toInt rv_5)) (rfl : Int32.toInt rv_5 = _) (by omega) (x := (Int32.toInt a)) (rfl : Int32.toInt a = _) (y := (Int32.toInt c9)) (rfl : Int32.toInt c9 = _)) (show (5 : Nat) = fb 0xa000000000000c14550000e400410f % 16 by decide) (by show (5 : Nat) ≤ 5; decide) (fun _ => ⟨_, _, rfl, _, shp_at rw0.1, Or.inr (show fb 0xa000000000000c14550000e400410f >>> 68 = 10 by decide)⟩) (by omega) (by show 8 + (5 + 11) + 251 ≤ R.locals; omega) (by show (0 : Nat) ≤ 8; decide) (by show kc + 0 ≤ _; omega) (by show ks + 0 ≤ _; omega) (fun r9 hs_7 hpo hr9 => ?_) (fun x9 hs9 hx9 hpo => ?_)
            · obtain ⟨-, hM_9, fr_8, rg, rfl, hg_10⟩ := hpo
              have rw_11 := rw0.fr fr_8 WM_rw
              have f_12 := hTo.fr (fun j9 _ => fr_8.2.2 125 j9 (by unfold WM; omega))
              have f_13 := hW.fr (fun j9 _ => fr_8.2.2 127 j9 (by unfold WM; omega))
              have fr_14 := (FrS.rf WM hs).tr fr_8
              show WpN (gp g0 wp) CLS p l e R s m args below meth c Q D_263.2.2.1 kc0 ks0 65 [some (.ref 124), some (.int a), some (.int b), some (.int c9), some (.int (0 : Int32)), some (.int (0 : Int32)), none, none, none, none] (hs_7, kc, ks) [.int rg]
              rcases hg_10 with rfl | ⟨rfl, g1_15, g2_15, g3_15, g4_15, g5_15, hFD_15, hPI_15⟩
              · refine g_ifNe act (gx gp_263 (w := 0x4600441d) rfl (by decide) rfl) (tgt := 70) (n := 68) rfl rfl (fun q => absurd q (by decide)) (fun _ => ?_)
                refine g_constL act (gx gp_263 (w := 0x40000000000000002000000004501) rfl (by decide) rfl) (n := 69) (x := 0) (by decide) rfl ?_
                exact g_retL hEnd (gx gp_263 (w := 0x19) rfl (by decide) rfl) ⟨rfl, ⟨_, rfl⟩, hM_9, fr_14⟩ (by show kc ≤ kc + 0; omega) (by show ks ≤ ks + 0; omega)
              · obtain ⟨⟨frw_16, fTo_16, fW_16⟩, ⟨hG_16, ⟨oi_16, f24_16, hoi_16⟩, ⟨dm_16, fD_16, hdm_16⟩, ⟨lm_16, fL_16, hlm_16⟩, ⟨em_16, fE_16, hem_16⟩, ⟨cp_16, fC_16, hcp_16⟩⟩, fFo_16, ⟨fK0_16, fK1_16⟩⟩ := hFD_15
                obtain ⟨⟨ct_16, cl_16, f29_16, f30_16, hck_16⟩, fKO_16⟩ := found_k hG_16 fFo_16
                have fO7_16 := found_k7 hG_16 fFo_16
                have fP0_16 := pri_k (k := 0) hG_16 hPI_15 (by omega) (bit_two (show (0 : Int32).toInt = ((0 : Nat) : Int) from by decide) (show (0 : Int32).toInt = ((0 : Nat) : Int) from by decide) (by omega) (by omega)).1
                refine g_ifNe act (gx gp_263 (w := 0x4600441d) rfl (by decide) rfl) (tgt := 70) (n := 68) rfl rfl (fun _ => ?_) (fun q => absurd (by decide) q)
                refine g_loadA act (gx gp_263 (w := 0x4703) rfl (by decide) rfl) (a := 0) (n := 71) rfl rfl rfl ?_
                refine g_loadI act (gx gp_263 (w := 0x5004902) rfl (by decide) rfl) (a := 5) (n := 73) rfl rfl rfl ?_
                refine g_loadI act (gx gp_263 (w := 0x4004b02) rfl (by decide) rfl) (a := 4) (n := 75) rfl rfl rfl ?_
                refine n_call tb_pres act hEnd (gx (P := G_call) gp_263 (w := 0xa00000000000080c330000c4004e0f) rfl (by decide) rfl) (d' := D_196) rfl (as := [.ref 124, .int (0 : Int32), .int (0 : Int32)]) (rest := []) (b_dearer (a9 := 0) (b9 := 0) (show (0 : Int32).toInt = ((0 : Nat) : Int) from by decide) (show (0 : Int32).toInt = ((0 : Nat) : Int) from by decide) (by omega) (by omega) frw_16 fP0_16 fP0_16 hM_9) (show (3 : Nat) = fb 0xa00000000000080c330000c4004e0f % 16 by decide) (by show (3 : Nat) ≤ 3; decide) (fun _ => ⟨_, _, rfl, _, shp_at frw_16.1, Or.inr (show fb 0xa00000000000080c330000c4004e0f >>> 68 = 10 by decide)⟩) (by omega) (by show 8 + (3 + 11) + 85 ≤ R.locals; omega) (by show (0 : Nat) ≤ 8; decide) (by show kc + 0 ≤ _; omega) (by show ks + 0 ≤ _; omega) (fun r9 hs_17 hpo hr9 => ?_) (fun x9 hs9 hx9 hpo => ?_)
                · obtain rfl : r9 = none := hr9.elim (fun q => q.2) (fun q => absurd rfl q.1)
                  obtain ⟨-, t_18, w_19, e_20, e_21, hK_22, fr_23⟩ := hpo
                  have hM_24 := ModF.w0 hM_9 fr_23
                  have rw_25 := frw_16.fr fr_23 W0_rw
                  have f_27 := fTo_16.fr (fun j9 _ => fr_23.2.2 125 j9 (by unfold W0; omega))
                  have f_28 := fW_16.fr (fun j9 _ => fr_23.2.2 127 j9 (by unfold W0; omega))
                  have f_29 := fD_16.fr (fun j9 _ => fr_23.2.2 135 j9 (by unfold W0; omega))
                  have f_30 := fL_16.fr (fun j9 _ => fr_23.2.2 136 j9 (by unfold W0; omega))
                  have f_31 := fE_16.fr (fun j9 _ => fr_23.2.2 137 j9 (by unfold W0; omega))
                  have f_32 := fC_16.fr (fun j9 _ => fr_23.2.2 138 j9 (by unfold W0; omega))
                  have f_33 := rd_fr fr_23 f24_16 (by unfold W0; omega)
                  have f_34 := rd_fr fr_23 f29_16 (by unfold W0; omega)
                  have f_35 := rd_fr fr_23 f30_16 (by unfold W0; omega)
                  have f_36 := fK0_16.fr (fun j9 _ _ => ⟨fr_23.2.2 131 j9 (by unfold W0; omega), fr_23.2.2 132 j9 (by unfold W0; omega)⟩)
                  have f_37 := fun q9 => (fK1_16 q9).fr (fun j9 _ _ => ⟨fr_23.2.2 131 j9 (by unfold W0; omega), fr_23.2.2 132 j9 (by unfold W0; omega)⟩)
                  have f_38 := fFo_16.fr fr_23 (fun j9 => by unfold W0; omega) (by unfold W0; omega) (by unfold W0; omega)
                  have f_39 := fO7_16.fr (fun j9 _ _ => ⟨fr_23.2.2 142 j9 (by unfold W0; omega), fr_23.2.2 143 j9 (by unfold W0; omega)⟩)
                  have f_40 := fP0_16.fr (fun j9 _ _ => ⟨fr_23.2.2 144 j9 (by unfold W0; omega), fr_23.2.2 145 j9 (by unfold W0; omega)⟩)
                  have fr_41 := fr_14.tr (fr_23.mono (fun k9 j9 h9 => by unfold W0 at h9; unfold WM; omega))
                  clear frw_16 hM_9 fTo_16 fW_16 fD_16 fL_16 fE_16 fC_16 f24_16 f29_16 f30_16 fK0_16 fK1_16 fFo_16 fO7_16 fP0_16 fr_14
                  show WpN (gp g0 wp) CLS p l e R s m args below meth c Q D_263.2.2.1 kc0 ks0 78 [some (.ref 124), some (.int a), some (.int b), some (.int c9), some (.int (0 : Int32)), some (.int (0 : Int32)), none, none, none, none] (hs_17, kc, ks) []
                  refine g_loadA act (gx gp_263 (w := 0x4f03) rfl (by decide) rfl) (a := 0) (n := 79) rfl rfl rfl ?_
                  refine r_getf act (gx gp_263 (w := 0x20001c9005204) rfl (by decide) rfl) (n := 82) (ci := 9) (j := 7) (N := 39) rfl rfl rfl rw_25.1 (by decide) (v := .long t_18) e_20 ?_
                  refine g_storeL act (gx gp_263 (w := 0x600540b) rfl (by decide) rfl) (a := 6) (n := 84) rfl rfl (L2 := [some (.ref 124), some (.int a), some (.int b), some (.int c9), some (.int (0 : Int32)), some (.int (0 : Int32)), some (.long t_18), none, none, none]) rfl ?_
                  refine g_loadA act (gx gp_263 (w := 0x5503) rfl (by decide) rfl) (a := 0) (n := 85) rfl rfl rfl ?_
                  refine r_getf act (gx gp_263 (w := 0x2000209005804) rfl (by decide) rfl) (n := 88) (ci := 9) (j := 8) (N := 39) rfl rfl rfl rw_25.1 (by decide) (v := .long w_19) e_21 ?_
                  refine g_storeL act (gx gp_263 (w := 0x8005a0b) rfl (by decide) rfl) (a := 8) (n := 90) rfl rfl (L2 := [some (.ref 124), some (.int a), some (.int b), some (.int c9), some (.int (0 : Int32)), some (.int (0 : Int32)), some (.long t_18), none, some (.long w_19), none]) rfl ?_
                  refine g_loadA act (gx gp_263 (w := 0x5b03) rfl (by decide) rfl) (a := 0) (n := 91) rfl rfl rfl ?_
                  refine g_loadI act (gx gp_263 (w := 0x2005c02) rfl (by decide) rfl) (a := 2) (n := 92) rfl rfl rfl ?_
                  refine g_constI act (gx gp_263 (w := 0x40000000400000001000000005d01) rfl (by decide) rfl) (n := 93) (x := (0 : Int32)) (by decide) rfl ?_
                  obtain ⟨j_50, hj_51⟩ := Int.eq_ofNat_of_zero_le (show (0 : Int) ≤ (Int32.toInt b) by omega)
                  refine n_call tb_pres act hEnd (gx (P := G_call) gp_263 (w := 0xa000000000000824330000d100600f) rfl (by decide) rfl) (d' := D_209) rfl (as := [.ref 124, .int b, .int (0 : Int32)]) (rest := []) (b_flows hNW (ln9 := j_50) (gr := 0) ((rfl : Int32.toInt b = _).trans hj_51) (by omega) (show (0 : Int32).toInt = ((0 : Nat) : Int) from by decide) (by decide) ⟨rw_25, f_27, f_28⟩ f_29 (fun j9 => by have q9 := hdm_16 j9; omega) (KR.mono f_39 (by decide)) f_36 hM_24) (show (3 : Nat) = fb 0xa000000000000824330000d100600f % 16 by decide) (by show (3 : Nat) ≤ 9; decide) (fun _ => ⟨_, _, rfl, _, shp_at rw_25.1, Or.inr (show fb 0xa000000000000824330000d100600f >>> 68 = 10 by decide)⟩) (by omega) (by show 8 + (9 + 11) + 87 ≤ R.locals; omega) (by show (0 : Nat) ≤ 8; decide) (by show kc + 0 ≤ _; omega) (by show ks + 0 ≤ _; omega) (fun r9 hs_42 hpo hr9 => ?_) (fun x9 hs9 hx9 hpo => ?_)
                  · obtain rfl : r9 = none := hr9.elim (fun q => q.2) (fun q => absurd rfl q.1)
                    obtain ⟨-, t_43, w_44, e_45, e_46, hK_47, fr_48⟩ := hpo
                    have hM_49 := ModF.w0 hM_24 fr_48
                    have rw_52 := rw_25.fr fr_48 W0_rw
                    have f_53 := f_27.fr (fun j9 _ => fr_48.2.2 125 j9 (by unfold W0; omega))
                    have f_54 := f_28.fr (fun j9 _ => fr_48.2.2 127 j9 (by unfold W0; omega))
                    have f_55 := f_29.fr (fun j9 _ => fr_48.2.2 135 j9 (by unfold W0; omega))
                    have f_56 := f_30.fr (fun j9 _ => fr_48.2.2 136 j9 (by unfold W0; omega))
                    have f_57 := f_31.fr (fun j9 _ => fr_48.2.2 137 j9 (by unfold W0; omega))
                    have f_58 := f_32.fr (fun j9 _ => fr_48.2.2 138 j9 (by unfold W0; omega))
                    have f_59 := rd_fr fr_48 f_33 (by unfold W0; omega)
                    have f_60 := rd_fr fr_48 f_34 (by unfold W0; omega)
                    have f_61 := rd_fr fr_48 f_35 (by unfold W0; omega)
                    have f_62 := f_36.fr (fun j9 _ _ => ⟨fr_48.2.2 131 j9 (by unfold W0; omega), fr_48.2.2 132 j9 (by unfold W0; omega)⟩)
                    have f_63 := fun q9 => (f_37 q9).fr (fun j9 _ _ => ⟨fr_48.2.2 131 j9 (by unfold W0; omega), fr_48.2.2 132 j9 (by unfold W0; omega)⟩)
                    have f_64 := f_38.fr fr_48 (fun j9 => by unfold W0; omega) (by unfold W0; omega) (by unfold W0; omega)
                    have f_65 := f_39.fr (fun j9 _ _ => ⟨fr_48.2.2 142 j9 (by unfold W0; omega), fr_48.2.2 143 j9 (by unfold W0; omega)⟩)
                    have f_66 := f_40.fr (fun j9 _ _ => ⟨fr_48.2.2 144 j9 (by unfold W0; omega), fr_48.2.2 145 j9 (by unfold W0; omega)⟩)
                    have fr_68 := fr_41.tr (fr_48.mono (fun k9 j9 h9 => by unfold W0 at h9; unfold WM; omega))
                    clear rw_25 f_27 f_28 f_29 f_30 f_31 f_32 f_33 f_34 f_35 f_36 f_37 f_38 f_39 f_40 hM_24 e_20 e_21 fr_41
                    show WpN (gp g0 wp) CLS p l e R s m args below meth c Q D_263.2.2.1 kc0 ks0 96 [some (.ref 124), some (.int a), some (.int b), some (.int c9), some (.int (0 : Int32)), some (.int (0 : Int32)), some (.long t_18), none, some (.long w_19), none] (hs_42, kc, ks) []
                    refine g_loadA act (gx gp_263 (w := 0x6103) rfl (by decide) rfl) (a := 0) (n := 97) rfl rfl rfl ?_
                    refine g_loadA act (gx gp_263 (w := 0x6203) rfl (by decide) rfl) (a := 0) (n := 98) rfl rfl rfl ?_
                    refine r_getf act (gx gp_263 (w := 0x20001c9006504) rfl (by decide) rfl) (n := 101) (ci := 9) (j := 7) (N := 39) rfl rfl rfl rw_52.1 (by decide) (v := .long t_43) e_45 ?_
                    refine g_loadA act (gx gp_263 (w := 0x6603) rfl (by decide) rfl) (a := 0) (n := 102) rfl rfl rfl ?_
                    refine r_getf act (gx gp_263 (w := 0x2000209006904) rfl (by decide) rfl) (n := 105) (ci := 9) (j := 8) (N := 39) rfl rfl rfl rw_52.1 (by decide) (v := .long w_44) e_46 ?_
                    refine g_loadL act (gx gp_263 (w := 0x6006b06) rfl (by decide) rfl) (a := 6) (n := 107) rfl rfl rfl ?_
                    refine g_loadL act (gx gp_263 (w := 0x8006d06) rfl (by decide) rfl) (a := 8) (n := 109) rfl rfl rfl ?_
                    refine n_call tb_pres act hEnd (gx (P := G_call) gp_263 (w := 0xa0000000000008349500011a00700f) rfl (by decide) rfl) (d' := D_282) rfl (as := [.ref 124, .long t_43, .long w_44, .long t_18, .long w_19]) (rest := []) (b_timesK (k1 := 13) (k2 := 7) rw_52.1 hK_47 hK_22 (by decide)) (show (5 : Nat) = fb 0xa0000000000008349500011a00700f % 16 by decide) (by show (9 : Nat) ≤ 13; decide) (fun _ => ⟨_, _, rfl, _, shp_at rw_52.1, Or.inr (show fb 0xa0000000000008349500011a00700f >>> 68 = 10 by decide)⟩) (by omega) (by show 8 + (13 + 11) + 55 ≤ R.locals; omega) (by show (0 : Nat) ≤ 8; decide) (by show kc + 0 ≤ _; omega) (by show ks + 0 ≤ _; omega) (fun r9 hs_69 hpo hr9 => ?_) (fun x9 hs9 hx9 hpo => ?_)
                    · obtain rfl : r9 = none := hr9.elim (fun q => q.2) (fun q => absurd rfl q.1)
                      obtain ⟨-, t_70, w_71, e_72, e_73, hK_74, fr_75⟩ := hpo
                      have hM_76 := ModF.w0 hM_49 fr_75
                      have rw_77 := rw_52.fr fr_75 W0_rw
                      have f_78 := f_53.fr (fun j9 _ => fr_75.2.2 125 j9 (by unfold W0; omega))
                      have f_79 := f_54.fr (fun j9 _ => fr_75.2.2 127 j9 (by unfold W0; omega))
                      have f_80 := f_55.fr (fun j9 _ => fr_75.2.2 135 j9 (by unfold W0; omega))
                      have f_81 := f_56.fr (fun j9 _ => fr_75.2.2 136 j9 (by unfold W0; omega))
                      have f_82 := f_57.fr (fun j9 _ => fr_75.2.2 137 j9 (by unfold W0; omega))
                      have f_83 := f_58.fr (fun j9 _ => fr_75.2.2 138 j9 (by unfold W0; omega))
                      have f_84 := rd_fr fr_75 f_59 (by unfold W0; omega)
                      have f_85 := rd_fr fr_75 f_60 (by unfold W0; omega)
                      have f_86 := rd_fr fr_75 f_61 (by unfold W0; omega)
                      have f_87 := f_62.fr (fun j9 _ _ => ⟨fr_75.2.2 131 j9 (by unfold W0; omega), fr_75.2.2 132 j9 (by unfold W0; omega)⟩)
                      have f_88 := fun q9 => (f_63 q9).fr (fun j9 _ _ => ⟨fr_75.2.2 131 j9 (by unfold W0; omega), fr_75.2.2 132 j9 (by unfold W0; omega)⟩)
                      have f_89 := f_64.fr fr_75 (fun j9 => by unfold W0; omega) (by unfold W0; omega) (by unfold W0; omega)
                      have f_90 := f_65.fr (fun j9 _ _ => ⟨fr_75.2.2 142 j9 (by unfold W0; omega), fr_75.2.2 143 j9 (by unfold W0; omega)⟩)
                      have f_91 := f_66.fr (fun j9 _ _ => ⟨fr_75.2.2 144 j9 (by unfold W0; omega), fr_75.2.2 145 j9 (by unfold W0; omega)⟩)
                      have fr_93 := fr_68.tr (fr_75.mono (fun k9 j9 h9 => by unfold W0 at h9; unfold WM; omega))
                      clear rw_52 f_53 f_54 f_55 f_56 f_57 f_58 f_59 f_60 f_61 f_62 f_63 f_64 f_65 f_66 hM_49 e_45 e_46 fr_68
                      show WpN (gp g0 wp) CLS p l e R s m args below meth c Q D_263.2.2.1 kc0 ks0 112 [some (.ref 124), some (.int a), some (.int b), some (.int c9), some (.int (0 : Int32)), some (.int (0 : Int32)), some (.long t_18), none, some (.long w_19), none] (hs_69, kc, ks) []
                      refine g_loadA act (gx gp_263 (w := 0x7103) rfl (by decide) rfl) (a := 0) (n := 113) rfl rfl rfl ?_
                      refine g_loadI act (gx gp_263 (w := 0x3007202) rfl (by decide) rfl) (a := 3) (n := 114) rfl rfl rfl ?_
                      refine n_call tb_pres act hEnd (gx (P := G_call) gp_263 (w := 0xa000000000000c08220000fa00750f) rfl (by decide) rfl) (d' := D_250) rfl (as := [.ref 124, .int c9]) (rest := []) (b_part rw_77.1 e_72 e_73) (show (2 : Nat) = fb 0xa000000000000c08220000fa00750f % 16 by decide) (by show (2 : Nat) ≤ 2; decide) (fun _ => ⟨_, _, rfl, _, shp_at rw_77.1, Or.inr (show fb 0xa000000000000c08220000fa00750f >>> 68 = 10 by decide)⟩) (by omega) (by show 8 + (2 + 11) + 0 ≤ R.locals; omega) (by show (0 : Nat) ≤ 8; decide) (by show kc + 0 ≤ _; omega) (by show ks + 0 ≤ _; omega) (fun r9 h3 hpo hr9 => ?_) (fun x9 hs9 hx9 hpo => ?_)
                      · obtain ⟨-, rfl, pv_94, rfl⟩ := hpo
                        show WpN (gp g0 wp) CLS p l e R s m args below meth c Q D_263.2.2.1 kc0 ks0 117 [some (.ref 124), some (.int a), some (.int b), some (.int c9), some (.int (0 : Int32)), some (.int (0 : Int32)), some (.long t_18), none, some (.long w_19), none] (hs_69, kc, ks) [.long pv_94]
                        exact g_retL hEnd (gx gp_263 (w := 0x19) rfl (by decide) rfl) ⟨rfl, ⟨_, rfl⟩, hM_76, fr_93⟩ (by show kc ≤ kc + 0; omega) (by show ks ≤ ks + 0; omega)
                      · exact absurd hpo.1 (by omega)
                    · exact absurd hpo.1 (by omega)
                  · exact absurd hpo.1 (by omega)
                · exact absurd hpo.1 (by omega)
            · exact absurd hpo.1 (by omega)
          · exact absurd hpo.1 (by omega)
        · simp only [i_eq, i0] at h8
          refine g_loadA act (gx gp_263 (w := 0x1f03) rfl (by decide) rfl) (a := 0) (n := 31) rfl rfl rfl ?_
          refine r_getf act (gx gp_263 (w := 0x3000049002204) rfl (by decide) rfl) (n := 34) (ci := 9) (j := 1) (N := 39) rfl rfl rfl rw0.1 (by decide) (rw0.2 (1, 125, 32, 46) (by decide)).1 ?_
          refine g_constI act (gx gp_263 (w := 0x40000005c00000059000000002401) rfl (by decide) rfl) (n := 36) (x := (11 : Int32)) (by decide) rfl ?_
          refine g_loadI act (gx gp_263 (w := 0x2002502) rfl (by decide) rfl) (a := 2) (n := 37) rfl rfl rfl ?_
          refine g_iadd act (gx gp_263 (w := 0x260a) rfl (by decide) rfl) (n := 38) rfl ?_
          have v_95 := iv_add (show (11 : Int32).toInt = ((11 : Nat) : Int) from by decide) (rfl : Int32.toInt b = _) (show -2147483648 ≤ (((11 : Nat) : Int) + (Int32.toInt b)) by omega) (show (((11 : Nat) : Int) + (Int32.toInt b)) < 2147483648 by omega)
          obtain ⟨j_96, hj_97⟩ := Int.eq_ofNat_of_zero_le (show (0 : Int) ≤ (((11 : Nat) : Int) + (Int32.toInt b)) by omega)
          obtain ⟨x_98, e_99, hx_100⟩ := hTo j_96 (by omega)
          refine r_iald act (gx gp_263 (w := 0x271a) rfl (by decide) rfl) (n := 39) (j := j_96) rfl (rw0.2 (1, 125, 32, 46) (by decide)).2 (v_95.trans hj_97) (show j_96 < 46 by omega) (v := .int x_98) e_99 ?_
          refine g_goto act (gx gp_263 (w := 0x2b07) rfl (by decide) rfl) (n := 43) rfl ?_
          refine g_storeI act (gx gp_263 (w := 0x5002d10) rfl (by decide) rfl) (a := 5) (n := 45) rfl rfl (L2 := [some (.ref 124), some (.int a), some (.int b), some (.int c9), some (.int (0 : Int32)), some (.int x_98), none, none, none, none]) rfl ?_
          refine g_loadA act (gx gp_263 (w := 0x2e03) rfl (by decide) rfl) (a := 0) (n := 46) rfl rfl rfl ?_
          refine g_loadA act (gx gp_263 (w := 0x2f03) rfl (by decide) rfl) (a := 0) (n := 47) rfl rfl rfl ?_
          refine g_loadI act (gx gp_263 (w := 0x2003002) rfl (by decide) rfl) (a := 2) (n := 48) rfl rfl rfl ?_
          refine n_call tb_pres act hEnd (gx (P := G_call) gp_263 (w := 0xa000000000000c08220000e200330f) rfl (by decide) rfl) (d' := D_226) rfl (as := [.ref 124, .int b]) (rest := [.ref 124]) (b_isLine (tl := tl) rw0 hTo (rfl : Int32.toInt b = _) (by omega) (by omega)) (show (2 : Nat) = fb 0xa000000000000c08220000e200330f % 16 by decide) (by show (2 : Nat) ≤ 2; decide) (fun _ => ⟨_, _, rfl, _, shp_at rw0.1, Or.inr (show fb 0xa000000000000c08220000e200330f >>> 68 = 10 by decide)⟩) (by omega) (by show 8 + (2 + 11) + 22 ≤ R.locals; omega) (by show (1 : Nat) ≤ 8; decide) (by show kc + 0 ≤ _; omega) (by show ks + 0 ≤ _; omega) (fun r9 h3 hpo hr9 => ?_) (fun x9 hs9 hx9 hpo => ?_)
          · obtain ⟨-, rfl, hin_102⟩ := hpo
            obtain ⟨rv_101, rfl, hin_102o⟩ := in1_t hin_102
            show WpN (gp g0 wp) CLS p l e R s m args below meth c Q D_263.2.2.1 kc0 ks0 51 [some (.ref 124), some (.int a), some (.int b), some (.int c9), some (.int (0 : Int32)), some (.int x_98), none, none, none, none] (hs, kc, ks) [.int rv_101, .ref 124]
            refine g_loadI act (gx gp_263 (w := 0x1003402) rfl (by decide) rfl) (a := 1) (n := 52) rfl rfl rfl ?_
            refine g_loadI act (gx gp_263 (w := 0x3003502) rfl (by decide) rfl) (a := 3) (n := 53) rfl rfl rfl ?_
            refine g_constI act (gx gp_263 (w := 0x40000000c00000009000000003601) rfl (by decide) rfl) (n := 54) (x := (1 : Int32)) (by decide) rfl ?_
            refine g_loadI act (gx gp_263 (w := 0x4003802) rfl (by decide) rfl) (a := 4) (n := 56) rfl rfl rfl ?_
            refine g_ishl act (gx gp_263 (w := 0x393b) rfl (by decide) rfl) (n := 57) rfl ?_
            refine g_constI act (gx gp_263 (w := 0x40000000c00000009000000003a01) rfl (by decide) rfl) (n := 58) (x := (1 : Int32)) (by decide) rfl ?_
            refine g_loadI act (gx gp_263 (w := 0x5003c02) rfl (by decide) rfl) (a := 5) (n := 60) rfl rfl rfl ?_
            refine g_ishl act (gx gp_263 (w := 0x3d3b) rfl (by decide) rfl) (n := 61) rfl ?_
            refine g_ior act (gx gp_263 (w := 0x3e4b) rfl (by decide) rfl) (n := 62) rfl ?_
            refine n_call tb_pres act hEnd (gx (P := G_call) gp_263 (w := 0xa000000000000c14550000e400410f) rfl (by decide) rfl) (d' := D_228) rfl (as := [.ref 124, .int rv_101, .int a, .int c9, .int (((1 : Int32) <<< ((0 : Int32) &&& 31)) ||| ((1 : Int32) <<< (x_98 &&& 31)))]) (rest := []) (b_isPriced hNW ⟨rw0, hTo, hW⟩ hM (ti := (Int32.toInt rv_101)) (rfl : Int32.toInt rv_101 = _) (by omega) (x := (Int32.toInt a)) (rfl : Int32.toInt a = _) (y := (Int32.toInt c9)) (rfl : Int32.toInt c9 = _)) (show (5 : Nat) = fb 0xa000000000000c14550000e400410f % 16 by decide) (by show (5 : Nat) ≤ 5; decide) (fun _ => ⟨_, _, rfl, _, shp_at rw0.1, Or.inr (show fb 0xa000000000000c14550000e400410f >>> 68 = 10 by decide)⟩) (by omega) (by show 8 + (5 + 11) + 251 ≤ R.locals; omega) (by show (0 : Nat) ≤ 8; decide) (by show kc + 0 ≤ _; omega) (by show ks + 0 ≤ _; omega) (fun r9 hs_103 hpo hr9 => ?_) (fun x9 hs9 hx9 hpo => ?_)
            · obtain ⟨-, hM_105, fr_104, rg, rfl, hg_106⟩ := hpo
              have rw_107 := rw0.fr fr_104 WM_rw
              have f_108 := hTo.fr (fun j9 _ => fr_104.2.2 125 j9 (by unfold WM; omega))
              have f_109 := hW.fr (fun j9 _ => fr_104.2.2 127 j9 (by unfold WM; omega))
              have fr_110 := (FrS.rf WM hs).tr fr_104
              show WpN (gp g0 wp) CLS p l e R s m args below meth c Q D_263.2.2.1 kc0 ks0 65 [some (.ref 124), some (.int a), some (.int b), some (.int c9), some (.int (0 : Int32)), some (.int x_98), none, none, none, none] (hs_103, kc, ks) [.int rg]
              rcases hg_106 with rfl | ⟨rfl, g1_111, g2_111, g3_111, g4_111, g5_111, hFD_111, hPI_111⟩
              · refine g_ifNe act (gx gp_263 (w := 0x4600441d) rfl (by decide) rfl) (tgt := 70) (n := 68) rfl rfl (fun q => absurd q (by decide)) (fun _ => ?_)
                refine g_constL act (gx gp_263 (w := 0x40000000000000002000000004501) rfl (by decide) rfl) (n := 69) (x := 0) (by decide) rfl ?_
                exact g_retL hEnd (gx gp_263 (w := 0x19) rfl (by decide) rfl) ⟨rfl, ⟨_, rfl⟩, hM_105, fr_110⟩ (by show kc ≤ kc + 0; omega) (by show ks ≤ ks + 0; omega)
              · obtain ⟨⟨frw_112, fTo_112, fW_112⟩, ⟨hG_112, ⟨oi_112, f24_112, hoi_112⟩, ⟨dm_112, fD_112, hdm_112⟩, ⟨lm_112, fL_112, hlm_112⟩, ⟨em_112, fE_112, hem_112⟩, ⟨cp_112, fC_112, hcp_112⟩⟩, fFo_112, ⟨fK0_112, fK1_112⟩⟩ := hFD_111
                obtain ⟨⟨ct_112, cl_112, f29_112, f30_112, hck_112⟩, fKO_112⟩ := found_k hG_112 fFo_112
                have fO7_112 := found_k7 hG_112 fFo_112
                have nt_113 := nw_told hNW j_96
                have fP0_112 := pri_k (k := 0) hG_112 hPI_111 (by omega) (bit_two (show (0 : Int32).toInt = ((0 : Nat) : Int) from by decide) (show _ = ((((tl j_96)).toNat : Nat) : Int) by have q9 := hx_100; omega) (by omega) (by omega)).1
                have fP1_112 := pri_k (k := ((tl j_96)).toNat) hG_112 hPI_111 (by omega) (bit_two (show (0 : Int32).toInt = ((0 : Nat) : Int) from by decide) (show _ = ((((tl j_96)).toNat : Nat) : Int) by have q9 := hx_100; omega) (by omega) (by omega)).2
                refine g_ifNe act (gx gp_263 (w := 0x4600441d) rfl (by decide) rfl) (tgt := 70) (n := 68) rfl rfl (fun _ => ?_) (fun q => absurd (by decide) q)
                refine g_loadA act (gx gp_263 (w := 0x4703) rfl (by decide) rfl) (a := 0) (n := 71) rfl rfl rfl ?_
                refine g_loadI act (gx gp_263 (w := 0x5004902) rfl (by decide) rfl) (a := 5) (n := 73) rfl rfl rfl ?_
                refine g_loadI act (gx gp_263 (w := 0x4004b02) rfl (by decide) rfl) (a := 4) (n := 75) rfl rfl rfl ?_
                refine n_call tb_pres act hEnd (gx (P := G_call) gp_263 (w := 0xa00000000000080c330000c4004e0f) rfl (by decide) rfl) (d' := D_196) rfl (as := [.ref 124, .int x_98, .int (0 : Int32)]) (rest := []) (b_dearer (a9 := ((tl j_96)).toNat) (b9 := 0) (show _ = ((((tl j_96)).toNat : Nat) : Int) by have q9 := hx_100; omega) (show (0 : Int32).toInt = ((0 : Nat) : Int) from by decide) (by omega) (by omega) frw_112 fP1_112 fP0_112 hM_105) (show (3 : Nat) = fb 0xa00000000000080c330000c4004e0f % 16 by decide) (by show (3 : Nat) ≤ 3; decide) (fun _ => ⟨_, _, rfl, _, shp_at frw_112.1, Or.inr (show fb 0xa00000000000080c330000c4004e0f >>> 68 = 10 by decide)⟩) (by omega) (by show 8 + (3 + 11) + 85 ≤ R.locals; omega) (by show (0 : Nat) ≤ 8; decide) (by show kc + 0 ≤ _; omega) (by show ks + 0 ≤ _; omega) (fun r9 hs_114 hpo hr9 => ?_) (fun x9 hs9 hx9 hpo => ?_)
                · obtain rfl : r9 = none := hr9.elim (fun q => q.2) (fun q => absurd rfl q.1)
                  obtain ⟨-, t_115, w_116, e_117, e_118, hK_119, fr_120⟩ := hpo
                  have hM_121 := ModF.w0 hM_105 fr_120
                  have rw_122 := frw_112.fr fr_120 W0_rw
                  have f_124 := fTo_112.fr (fun j9 _ => fr_120.2.2 125 j9 (by unfold W0; omega))
                  have f_125 := fW_112.fr (fun j9 _ => fr_120.2.2 127 j9 (by unfold W0; omega))
                  have f_126 := fD_112.fr (fun j9 _ => fr_120.2.2 135 j9 (by unfold W0; omega))
                  have f_127 := fL_112.fr (fun j9 _ => fr_120.2.2 136 j9 (by unfold W0; omega))
                  have f_128 := fE_112.fr (fun j9 _ => fr_120.2.2 137 j9 (by unfold W0; omega))
                  have f_129 := fC_112.fr (fun j9 _ => fr_120.2.2 138 j9 (by unfold W0; omega))
                  have f_130 := rd_fr fr_120 f24_112 (by unfold W0; omega)
                  have f_131 := rd_fr fr_120 f29_112 (by unfold W0; omega)
                  have f_132 := rd_fr fr_120 f30_112 (by unfold W0; omega)
                  have f_133 := fK0_112.fr (fun j9 _ _ => ⟨fr_120.2.2 131 j9 (by unfold W0; omega), fr_120.2.2 132 j9 (by unfold W0; omega)⟩)
                  have f_134 := fun q9 => (fK1_112 q9).fr (fun j9 _ _ => ⟨fr_120.2.2 131 j9 (by unfold W0; omega), fr_120.2.2 132 j9 (by unfold W0; omega)⟩)
                  have f_135 := fFo_112.fr fr_120 (fun j9 => by unfold W0; omega) (by unfold W0; omega) (by unfold W0; omega)
                  have f_136 := fO7_112.fr (fun j9 _ _ => ⟨fr_120.2.2 142 j9 (by unfold W0; omega), fr_120.2.2 143 j9 (by unfold W0; omega)⟩)
                  have f_137 := fP0_112.fr (fun j9 _ _ => ⟨fr_120.2.2 144 j9 (by unfold W0; omega), fr_120.2.2 145 j9 (by unfold W0; omega)⟩)
                  have f_138 := fP1_112.fr (fun j9 _ _ => ⟨fr_120.2.2 144 j9 (by unfold W0; omega), fr_120.2.2 145 j9 (by unfold W0; omega)⟩)
                  have fr_139 := fr_110.tr (fr_120.mono (fun k9 j9 h9 => by unfold W0 at h9; unfold WM; omega))
                  clear frw_112 hM_105 fTo_112 fW_112 fD_112 fL_112 fE_112 fC_112 f24_112 f29_112 f30_112 fK0_112 fK1_112 fFo_112 fO7_112 fP0_112 fP1_112 fr_110
                  show WpN (gp g0 wp) CLS p l e R s m args below meth c Q D_263.2.2.1 kc0 ks0 78 [some (.ref 124), some (.int a), some (.int b), some (.int c9), some (.int (0 : Int32)), some (.int x_98), none, none, none, none] (hs_114, kc, ks) []
                  refine g_loadA act (gx gp_263 (w := 0x4f03) rfl (by decide) rfl) (a := 0) (n := 79) rfl rfl rfl ?_
                  refine r_getf act (gx gp_263 (w := 0x20001c9005204) rfl (by decide) rfl) (n := 82) (ci := 9) (j := 7) (N := 39) rfl rfl rfl rw_122.1 (by decide) (v := .long t_115) e_117 ?_
                  refine g_storeL act (gx gp_263 (w := 0x600540b) rfl (by decide) rfl) (a := 6) (n := 84) rfl rfl (L2 := [some (.ref 124), some (.int a), some (.int b), some (.int c9), some (.int (0 : Int32)), some (.int x_98), some (.long t_115), none, none, none]) rfl ?_
                  refine g_loadA act (gx gp_263 (w := 0x5503) rfl (by decide) rfl) (a := 0) (n := 85) rfl rfl rfl ?_
                  refine r_getf act (gx gp_263 (w := 0x2000209005804) rfl (by decide) rfl) (n := 88) (ci := 9) (j := 8) (N := 39) rfl rfl rfl rw_122.1 (by decide) (v := .long w_116) e_118 ?_
                  refine g_storeL act (gx gp_263 (w := 0x8005a0b) rfl (by decide) rfl) (a := 8) (n := 90) rfl rfl (L2 := [some (.ref 124), some (.int a), some (.int b), some (.int c9), some (.int (0 : Int32)), some (.int x_98), some (.long t_115), none, some (.long w_116), none]) rfl ?_
                  refine g_loadA act (gx gp_263 (w := 0x5b03) rfl (by decide) rfl) (a := 0) (n := 91) rfl rfl rfl ?_
                  refine g_loadI act (gx gp_263 (w := 0x2005c02) rfl (by decide) rfl) (a := 2) (n := 92) rfl rfl rfl ?_
                  refine g_constI act (gx gp_263 (w := 0x40000000400000001000000005d01) rfl (by decide) rfl) (n := 93) (x := (0 : Int32)) (by decide) rfl ?_
                  obtain ⟨j_148, hj_149⟩ := Int.eq_ofNat_of_zero_le (show (0 : Int) ≤ (Int32.toInt b) by omega)
                  refine n_call tb_pres act hEnd (gx (P := G_call) gp_263 (w := 0xa000000000000824330000d100600f) rfl (by decide) rfl) (d' := D_209) rfl (as := [.ref 124, .int b, .int (0 : Int32)]) (rest := []) (b_flows hNW (ln9 := j_148) (gr := 0) ((rfl : Int32.toInt b = _).trans hj_149) (by omega) (show (0 : Int32).toInt = ((0 : Nat) : Int) from by decide) (by decide) ⟨rw_122, f_124, f_125⟩ f_126 (fun j9 => by have q9 := hdm_112 j9; omega) (KR.mono f_136 (by decide)) f_133 hM_121) (show (3 : Nat) = fb 0xa000000000000824330000d100600f % 16 by decide) (by show (3 : Nat) ≤ 9; decide) (fun _ => ⟨_, _, rfl, _, shp_at rw_122.1, Or.inr (show fb 0xa000000000000824330000d100600f >>> 68 = 10 by decide)⟩) (by omega) (by show 8 + (9 + 11) + 87 ≤ R.locals; omega) (by show (0 : Nat) ≤ 8; decide) (by show kc + 0 ≤ _; omega) (by show ks + 0 ≤ _; omega) (fun r9 hs_140 hpo hr9 => ?_) (fun x9 hs9 hx9 hpo => ?_)
                  · obtain rfl : r9 = none := hr9.elim (fun q => q.2) (fun q => absurd rfl q.1)
                    obtain ⟨-, t_141, w_142, e_143, e_144, hK_145, fr_146⟩ := hpo
                    have hM_147 := ModF.w0 hM_121 fr_146
                    have rw_150 := rw_122.fr fr_146 W0_rw
                    have f_151 := f_124.fr (fun j9 _ => fr_146.2.2 125 j9 (by unfold W0; omega))
                    have f_152 := f_125.fr (fun j9 _ => fr_146.2.2 127 j9 (by unfold W0; omega))
                    have f_153 := f_126.fr (fun j9 _ => fr_146.2.2 135 j9 (by unfold W0; omega))
                    have f_154 := f_127.fr (fun j9 _ => fr_146.2.2 136 j9 (by unfold W0; omega))
                    have f_155 := f_128.fr (fun j9 _ => fr_146.2.2 137 j9 (by unfold W0; omega))
                    have f_156 := f_129.fr (fun j9 _ => fr_146.2.2 138 j9 (by unfold W0; omega))
                    have f_157 := rd_fr fr_146 f_130 (by unfold W0; omega)
                    have f_158 := rd_fr fr_146 f_131 (by unfold W0; omega)
                    have f_159 := rd_fr fr_146 f_132 (by unfold W0; omega)
                    have f_160 := f_133.fr (fun j9 _ _ => ⟨fr_146.2.2 131 j9 (by unfold W0; omega), fr_146.2.2 132 j9 (by unfold W0; omega)⟩)
                    have f_161 := fun q9 => (f_134 q9).fr (fun j9 _ _ => ⟨fr_146.2.2 131 j9 (by unfold W0; omega), fr_146.2.2 132 j9 (by unfold W0; omega)⟩)
                    have f_162 := f_135.fr fr_146 (fun j9 => by unfold W0; omega) (by unfold W0; omega) (by unfold W0; omega)
                    have f_163 := f_136.fr (fun j9 _ _ => ⟨fr_146.2.2 142 j9 (by unfold W0; omega), fr_146.2.2 143 j9 (by unfold W0; omega)⟩)
                    have f_164 := f_137.fr (fun j9 _ _ => ⟨fr_146.2.2 144 j9 (by unfold W0; omega), fr_146.2.2 145 j9 (by unfold W0; omega)⟩)
                    have f_165 := f_138.fr (fun j9 _ _ => ⟨fr_146.2.2 144 j9 (by unfold W0; omega), fr_146.2.2 145 j9 (by unfold W0; omega)⟩)
                    have fr_167 := fr_139.tr (fr_146.mono (fun k9 j9 h9 => by unfold W0 at h9; unfold WM; omega))
                    clear rw_122 f_124 f_125 f_126 f_127 f_128 f_129 f_130 f_131 f_132 f_133 f_134 f_135 f_136 f_137 f_138 hM_121 e_117 e_118 fr_139
                    show WpN (gp g0 wp) CLS p l e R s m args below meth c Q D_263.2.2.1 kc0 ks0 96 [some (.ref 124), some (.int a), some (.int b), some (.int c9), some (.int (0 : Int32)), some (.int x_98), some (.long t_115), none, some (.long w_116), none] (hs_140, kc, ks) []
                    refine g_loadA act (gx gp_263 (w := 0x6103) rfl (by decide) rfl) (a := 0) (n := 97) rfl rfl rfl ?_
                    refine g_loadA act (gx gp_263 (w := 0x6203) rfl (by decide) rfl) (a := 0) (n := 98) rfl rfl rfl ?_
                    refine r_getf act (gx gp_263 (w := 0x20001c9006504) rfl (by decide) rfl) (n := 101) (ci := 9) (j := 7) (N := 39) rfl rfl rfl rw_150.1 (by decide) (v := .long t_141) e_143 ?_
                    refine g_loadA act (gx gp_263 (w := 0x6603) rfl (by decide) rfl) (a := 0) (n := 102) rfl rfl rfl ?_
                    refine r_getf act (gx gp_263 (w := 0x2000209006904) rfl (by decide) rfl) (n := 105) (ci := 9) (j := 8) (N := 39) rfl rfl rfl rw_150.1 (by decide) (v := .long w_142) e_144 ?_
                    refine g_loadL act (gx gp_263 (w := 0x6006b06) rfl (by decide) rfl) (a := 6) (n := 107) rfl rfl rfl ?_
                    refine g_loadL act (gx gp_263 (w := 0x8006d06) rfl (by decide) rfl) (a := 8) (n := 109) rfl rfl rfl ?_
                    refine n_call tb_pres act hEnd (gx (P := G_call) gp_263 (w := 0xa0000000000008349500011a00700f) rfl (by decide) rfl) (d' := D_282) rfl (as := [.ref 124, .long t_141, .long w_142, .long t_115, .long w_116]) (rest := []) (b_timesK (k1 := 13) (k2 := 7) rw_150.1 hK_145 hK_119 (by decide)) (show (5 : Nat) = fb 0xa0000000000008349500011a00700f % 16 by decide) (by show (9 : Nat) ≤ 13; decide) (fun _ => ⟨_, _, rfl, _, shp_at rw_150.1, Or.inr (show fb 0xa0000000000008349500011a00700f >>> 68 = 10 by decide)⟩) (by omega) (by show 8 + (13 + 11) + 55 ≤ R.locals; omega) (by show (0 : Nat) ≤ 8; decide) (by show kc + 0 ≤ _; omega) (by show ks + 0 ≤ _; omega) (fun r9 hs_168 hpo hr9 => ?_) (fun x9 hs9 hx9 hpo => ?_)
                    · obtain rfl : r9 = none := hr9.elim (fun q => q.2) (fun q => absurd rfl q.1)
                      obtain ⟨-, t_169, w_170, e_171, e_172, hK_173, fr_174⟩ := hpo
                      have hM_175 := ModF.w0 hM_147 fr_174
                      have rw_176 := rw_150.fr fr_174 W0_rw
                      have f_177 := f_151.fr (fun j9 _ => fr_174.2.2 125 j9 (by unfold W0; omega))
                      have f_178 := f_152.fr (fun j9 _ => fr_174.2.2 127 j9 (by unfold W0; omega))
                      have f_179 := f_153.fr (fun j9 _ => fr_174.2.2 135 j9 (by unfold W0; omega))
                      have f_180 := f_154.fr (fun j9 _ => fr_174.2.2 136 j9 (by unfold W0; omega))
                      have f_181 := f_155.fr (fun j9 _ => fr_174.2.2 137 j9 (by unfold W0; omega))
                      have f_182 := f_156.fr (fun j9 _ => fr_174.2.2 138 j9 (by unfold W0; omega))
                      have f_183 := rd_fr fr_174 f_157 (by unfold W0; omega)
                      have f_184 := rd_fr fr_174 f_158 (by unfold W0; omega)
                      have f_185 := rd_fr fr_174 f_159 (by unfold W0; omega)
                      have f_186 := f_160.fr (fun j9 _ _ => ⟨fr_174.2.2 131 j9 (by unfold W0; omega), fr_174.2.2 132 j9 (by unfold W0; omega)⟩)
                      have f_187 := fun q9 => (f_161 q9).fr (fun j9 _ _ => ⟨fr_174.2.2 131 j9 (by unfold W0; omega), fr_174.2.2 132 j9 (by unfold W0; omega)⟩)
                      have f_188 := f_162.fr fr_174 (fun j9 => by unfold W0; omega) (by unfold W0; omega) (by unfold W0; omega)
                      have f_189 := f_163.fr (fun j9 _ _ => ⟨fr_174.2.2 142 j9 (by unfold W0; omega), fr_174.2.2 143 j9 (by unfold W0; omega)⟩)
                      have f_190 := f_164.fr (fun j9 _ _ => ⟨fr_174.2.2 144 j9 (by unfold W0; omega), fr_174.2.2 145 j9 (by unfold W0; omega)⟩)
                      have f_191 := f_165.fr (fun j9 _ _ => ⟨fr_174.2.2 144 j9 (by unfold W0; omega), fr_174.2.2 145 j9 (by unfold W0; omega)⟩)
                      have fr_193 := fr_167.tr (fr_174.mono (fun k9 j9 h9 => by unfold W0 at h9; unfold WM; omega))
                      clear rw_150 f_151 f_152 f_153 f_154 f_155 f_156 f_157 f_158 f_159 f_160 f_161 f_162 f_163 f_164 f_165 hM_147 e_143 e_144 fr_167
                      show WpN (gp g0 wp) CLS p l e R s m args below meth c Q D_263.2.2.1 kc0 ks0 112 [some (.ref 124), some (.int a), some (.int b), some (.int c9), some (.int (0 : Int32)), some (.int x_98), some (.long t_115), none, some (.long w_116), none] (hs_168, kc, ks) []
                      refine g_loadA act (gx gp_263 (w := 0x7103) rfl (by decide) rfl) (a := 0) (n := 113) rfl rfl rfl ?_
                      refine g_loadI act (gx gp_263 (w := 0x3007202) rfl (by decide) rfl) (a := 3) (n := 114) rfl rfl rfl ?_
                      refine n_call tb_pres act hEnd (gx (P := G_call) gp_263 (w := 0xa000000000000c08220000fa00750f) rfl (by decide) rfl) (d' := D_250) rfl (as := [.ref 124, .int c9]) (rest := []) (b_part rw_176.1 e_171 e_172) (show (2 : Nat) = fb 0xa000000000000c08220000fa00750f % 16 by decide) (by show (2 : Nat) ≤ 2; decide) (fun _ => ⟨_, _, rfl, _, shp_at rw_176.1, Or.inr (show fb 0xa000000000000c08220000fa00750f >>> 68 = 10 by decide)⟩) (by omega) (by show 8 + (2 + 11) + 0 ≤ R.locals; omega) (by show (0 : Nat) ≤ 8; decide) (by show kc + 0 ≤ _; omega) (by show ks + 0 ≤ _; omega) (fun r9 h3 hpo hr9 => ?_) (fun x9 hs9 hx9 hpo => ?_)
                      · obtain ⟨-, rfl, pv_194, rfl⟩ := hpo
                        show WpN (gp g0 wp) CLS p l e R s m args below meth c Q D_263.2.2.1 kc0 ks0 117 [some (.ref 124), some (.int a), some (.int b), some (.int c9), some (.int (0 : Int32)), some (.int x_98), some (.long t_115), none, some (.long w_116), none] (hs_168, kc, ks) [.long pv_194]
                        exact g_retL hEnd (gx gp_263 (w := 0x19) rfl (by decide) rfl) ⟨rfl, ⟨_, rfl⟩, hM_175, fr_193⟩ (by show kc ≤ kc + 0; omega) (by show ks ≤ ks + 0; omega)
                      · exact absurd hpo.1 (by omega)
                    · exact absurd hpo.1 (by omega)
                  · exact absurd hpo.1 (by omega)
                · exact absurd hpo.1 (by omega)
            · exact absurd hpo.1 (by omega)
          · exact absurd hpo.1 (by omega)
      · exact absurd hpo.1 (by omega)
    · simp only [i_eq, i0] at h3
      refine g_loadA act (gx gp_263 (w := 0x903) rfl (by decide) rfl) (a := 0) (n := 9) rfl rfl rfl ?_
      refine r_getf act (gx gp_263 (w := 0x3000049000c04) rfl (by decide) rfl) (n := 12) (ci := 9) (j := 1) (N := 39) rfl rfl rfl rw0.1 (by decide) (rw0.2 (1, 125, 32, 46) (by decide)).1 ?_
      refine g_constI act (gx gp_263 (w := 0x40000002c00000029000000000d01) rfl (by decide) rfl) (n := 13) (x := (5 : Int32)) (by decide) rfl ?_
      refine g_loadI act (gx gp_263 (w := 0x2000e02) rfl (by decide) rfl) (a := 2) (n := 14) rfl rfl rfl ?_
      refine g_iadd act (gx gp_263 (w := 0xf0a) rfl (by decide) rfl) (n := 15) rfl ?_
      have v_195 := iv_add (show (5 : Int32).toInt = ((5 : Nat) : Int) from by decide) (rfl : Int32.toInt b = _) (show -2147483648 ≤ (((5 : Nat) : Int) + (Int32.toInt b)) by omega) (show (((5 : Nat) : Int) + (Int32.toInt b)) < 2147483648 by omega)
      obtain ⟨j_196, hj_197⟩ := Int.eq_ofNat_of_zero_le (show (0 : Int) ≤ (((5 : Nat) : Int) + (Int32.toInt b)) by omega)
      obtain ⟨x_198, e_199, hx_200⟩ := hTo j_196 (by omega)
      refine r_iald act (gx gp_263 (w := 0x101a) rfl (by decide) rfl) (n := 16) (j := j_196) rfl (rw0.2 (1, 125, 32, 46) (by decide)).2 (v_195.trans hj_197) (show j_196 < 46 by omega) (v := .int x_198) e_199 ?_
      refine g_goto act (gx gp_263 (w := 0x1407) rfl (by decide) rfl) (n := 20) rfl ?_
      refine g_storeI act (gx gp_263 (w := 0x4001610) rfl (by decide) rfl) (a := 4) (n := 22) rfl rfl (L2 := [some (.ref 124), some (.int a), some (.int b), some (.int c9), some (.int x_198), none, none, none, none, none]) rfl ?_
      refine g_loadA act (gx gp_263 (w := 0x1703) rfl (by decide) rfl) (a := 0) (n := 23) rfl rfl rfl ?_
      refine g_loadI act (gx gp_263 (w := 0x2001802) rfl (by decide) rfl) (a := 2) (n := 24) rfl rfl rfl ?_
      refine n_call tb_pres act hEnd (gx (P := G_call) gp_263 (w := 0xa000000000000c08220000e2001b0f) rfl (by decide) rfl) (d' := D_226) rfl (as := [.ref 124, .int b]) (rest := []) (b_isLine (tl := tl) rw0 hTo (rfl : Int32.toInt b = _) (by omega) (by omega)) (show (2 : Nat) = fb 0xa000000000000c08220000e2001b0f % 16 by decide) (by show (2 : Nat) ≤ 2; decide) (fun _ => ⟨_, _, rfl, _, shp_at rw0.1, Or.inr (show fb 0xa000000000000c08220000e2001b0f >>> 68 = 10 by decide)⟩) (by omega) (by show 8 + (2 + 11) + 22 ≤ R.locals; omega) (by show (0 : Nat) ≤ 8; decide) (by show kc + 0 ≤ _; omega) (by show ks + 0 ≤ _; omega) (fun r9 h3 hpo hr9 => ?_) (fun x9 hs9 hx9 hpo => ?_)
      · obtain ⟨-, rfl, hin_202⟩ := hpo
        obtain ⟨rv_201, rfl, hin_202o⟩ := in1_t hin_202
        show WpN (gp g0 wp) CLS p l e R s m args below meth c Q D_263.2.2.1 kc0 ks0 27 [some (.ref 124), some (.int a), some (.int b), some (.int c9), some (.int x_198), none, none, none, none, none] (hs, kc, ks) [.int rv_201]
        refine g_ifEq act (gx gp_263 (w := 0x2a001e0e) rfl (by decide) rfl) (tgt := 42) (n := 30) rfl rfl (fun h83 => ?_) (fun h83 => ?_)
        · simp only [i_eq, i0] at h83
          refine g_constI act (gx gp_263 (w := 0x40000000400000001000000002b01) rfl (by decide) rfl) (n := 43) (x := (0 : Int32)) (by decide) rfl ?_
          refine g_storeI act (gx gp_263 (w := 0x5002d10) rfl (by decide) rfl) (a := 5) (n := 45) rfl rfl (L2 := [some (.ref 124), some (.int a), some (.int b), some (.int c9), some (.int x_198), some (.int (0 : Int32)), none, none, none, none]) rfl ?_
          refine g_loadA act (gx gp_263 (w := 0x2e03) rfl (by decide) rfl) (a := 0) (n := 46) rfl rfl rfl ?_
          refine g_loadA act (gx gp_263 (w := 0x2f03) rfl (by decide) rfl) (a := 0) (n := 47) rfl rfl rfl ?_
          refine g_loadI act (gx gp_263 (w := 0x2003002) rfl (by decide) rfl) (a := 2) (n := 48) rfl rfl rfl ?_
          refine n_call tb_pres act hEnd (gx (P := G_call) gp_263 (w := 0xa000000000000c08220000e200330f) rfl (by decide) rfl) (d' := D_226) rfl (as := [.ref 124, .int b]) (rest := [.ref 124]) (b_isLine (tl := tl) rw0 hTo (rfl : Int32.toInt b = _) (by omega) (by omega)) (show (2 : Nat) = fb 0xa000000000000c08220000e200330f % 16 by decide) (by show (2 : Nat) ≤ 2; decide) (fun _ => ⟨_, _, rfl, _, shp_at rw0.1, Or.inr (show fb 0xa000000000000c08220000e200330f >>> 68 = 10 by decide)⟩) (by omega) (by show 8 + (2 + 11) + 22 ≤ R.locals; omega) (by show (1 : Nat) ≤ 8; decide) (by show kc + 0 ≤ _; omega) (by show ks + 0 ≤ _; omega) (fun r9 h3 hpo hr9 => ?_) (fun x9 hs9 hx9 hpo => ?_)
          · obtain ⟨-, rfl, hin_204⟩ := hpo
            obtain ⟨rv_203, rfl, hin_204o⟩ := in1_t hin_204
            show WpN (gp g0 wp) CLS p l e R s m args below meth c Q D_263.2.2.1 kc0 ks0 51 [some (.ref 124), some (.int a), some (.int b), some (.int c9), some (.int x_198), some (.int (0 : Int32)), none, none, none, none] (hs, kc, ks) [.int rv_203, .ref 124]
            refine g_loadI act (gx gp_263 (w := 0x1003402) rfl (by decide) rfl) (a := 1) (n := 52) rfl rfl rfl ?_
            refine g_loadI act (gx gp_263 (w := 0x3003502) rfl (by decide) rfl) (a := 3) (n := 53) rfl rfl rfl ?_
            refine g_constI act (gx gp_263 (w := 0x40000000c00000009000000003601) rfl (by decide) rfl) (n := 54) (x := (1 : Int32)) (by decide) rfl ?_
            refine g_loadI act (gx gp_263 (w := 0x4003802) rfl (by decide) rfl) (a := 4) (n := 56) rfl rfl rfl ?_
            refine g_ishl act (gx gp_263 (w := 0x393b) rfl (by decide) rfl) (n := 57) rfl ?_
            refine g_constI act (gx gp_263 (w := 0x40000000c00000009000000003a01) rfl (by decide) rfl) (n := 58) (x := (1 : Int32)) (by decide) rfl ?_
            refine g_loadI act (gx gp_263 (w := 0x5003c02) rfl (by decide) rfl) (a := 5) (n := 60) rfl rfl rfl ?_
            refine g_ishl act (gx gp_263 (w := 0x3d3b) rfl (by decide) rfl) (n := 61) rfl ?_
            refine g_ior act (gx gp_263 (w := 0x3e4b) rfl (by decide) rfl) (n := 62) rfl ?_
            refine n_call tb_pres act hEnd (gx (P := G_call) gp_263 (w := 0xa000000000000c14550000e400410f) rfl (by decide) rfl) (d' := D_228) rfl (as := [.ref 124, .int rv_203, .int a, .int c9, .int (((1 : Int32) <<< (x_198 &&& 31)) ||| ((1 : Int32) <<< ((0 : Int32) &&& 31)))]) (rest := []) (b_isPriced hNW ⟨rw0, hTo, hW⟩ hM (ti := (Int32.toInt rv_203)) (rfl : Int32.toInt rv_203 = _) (by omega) (x := (Int32.toInt a)) (rfl : Int32.toInt a = _) (y := (Int32.toInt c9)) (rfl : Int32.toInt c9 = _)) (show (5 : Nat) = fb 0xa000000000000c14550000e400410f % 16 by decide) (by show (5 : Nat) ≤ 5; decide) (fun _ => ⟨_, _, rfl, _, shp_at rw0.1, Or.inr (show fb 0xa000000000000c14550000e400410f >>> 68 = 10 by decide)⟩) (by omega) (by show 8 + (5 + 11) + 251 ≤ R.locals; omega) (by show (0 : Nat) ≤ 8; decide) (by show kc + 0 ≤ _; omega) (by show ks + 0 ≤ _; omega) (fun r9 hs_205 hpo hr9 => ?_) (fun x9 hs9 hx9 hpo => ?_)
            · obtain ⟨-, hM_207, fr_206, rg, rfl, hg_208⟩ := hpo
              have rw_209 := rw0.fr fr_206 WM_rw
              have f_210 := hTo.fr (fun j9 _ => fr_206.2.2 125 j9 (by unfold WM; omega))
              have f_211 := hW.fr (fun j9 _ => fr_206.2.2 127 j9 (by unfold WM; omega))
              have fr_212 := (FrS.rf WM hs).tr fr_206
              show WpN (gp g0 wp) CLS p l e R s m args below meth c Q D_263.2.2.1 kc0 ks0 65 [some (.ref 124), some (.int a), some (.int b), some (.int c9), some (.int x_198), some (.int (0 : Int32)), none, none, none, none] (hs_205, kc, ks) [.int rg]
              rcases hg_208 with rfl | ⟨rfl, g1_213, g2_213, g3_213, g4_213, g5_213, hFD_213, hPI_213⟩
              · refine g_ifNe act (gx gp_263 (w := 0x4600441d) rfl (by decide) rfl) (tgt := 70) (n := 68) rfl rfl (fun q => absurd q (by decide)) (fun _ => ?_)
                refine g_constL act (gx gp_263 (w := 0x40000000000000002000000004501) rfl (by decide) rfl) (n := 69) (x := 0) (by decide) rfl ?_
                exact g_retL hEnd (gx gp_263 (w := 0x19) rfl (by decide) rfl) ⟨rfl, ⟨_, rfl⟩, hM_207, fr_212⟩ (by show kc ≤ kc + 0; omega) (by show ks ≤ ks + 0; omega)
              · obtain ⟨⟨frw_214, fTo_214, fW_214⟩, ⟨hG_214, ⟨oi_214, f24_214, hoi_214⟩, ⟨dm_214, fD_214, hdm_214⟩, ⟨lm_214, fL_214, hlm_214⟩, ⟨em_214, fE_214, hem_214⟩, ⟨cp_214, fC_214, hcp_214⟩⟩, fFo_214, ⟨fK0_214, fK1_214⟩⟩ := hFD_213
                obtain ⟨⟨ct_214, cl_214, f29_214, f30_214, hck_214⟩, fKO_214⟩ := found_k hG_214 fFo_214
                have fO7_214 := found_k7 hG_214 fFo_214
                have nt_215 := nw_told hNW j_196
                have fP0_214 := pri_k (k := ((tl j_196)).toNat) hG_214 hPI_213 (by omega) (bit_two (show _ = ((((tl j_196)).toNat : Nat) : Int) by have q9 := hx_200; omega) (show (0 : Int32).toInt = ((0 : Nat) : Int) from by decide) (by omega) (by omega)).1
                have fP1_214 := pri_k (k := 0) hG_214 hPI_213 (by omega) (bit_two (show _ = ((((tl j_196)).toNat : Nat) : Int) by have q9 := hx_200; omega) (show (0 : Int32).toInt = ((0 : Nat) : Int) from by decide) (by omega) (by omega)).2
                refine g_ifNe act (gx gp_263 (w := 0x4600441d) rfl (by decide) rfl) (tgt := 70) (n := 68) rfl rfl (fun _ => ?_) (fun q => absurd (by decide) q)
                refine g_loadA act (gx gp_263 (w := 0x4703) rfl (by decide) rfl) (a := 0) (n := 71) rfl rfl rfl ?_
                refine g_loadI act (gx gp_263 (w := 0x5004902) rfl (by decide) rfl) (a := 5) (n := 73) rfl rfl rfl ?_
                refine g_loadI act (gx gp_263 (w := 0x4004b02) rfl (by decide) rfl) (a := 4) (n := 75) rfl rfl rfl ?_
                refine n_call tb_pres act hEnd (gx (P := G_call) gp_263 (w := 0xa00000000000080c330000c4004e0f) rfl (by decide) rfl) (d' := D_196) rfl (as := [.ref 124, .int (0 : Int32), .int x_198]) (rest := []) (b_dearer (a9 := 0) (b9 := ((tl j_196)).toNat) (show (0 : Int32).toInt = ((0 : Nat) : Int) from by decide) (show _ = ((((tl j_196)).toNat : Nat) : Int) by have q9 := hx_200; omega) (by omega) (by omega) frw_214 fP1_214 fP0_214 hM_207) (show (3 : Nat) = fb 0xa00000000000080c330000c4004e0f % 16 by decide) (by show (3 : Nat) ≤ 3; decide) (fun _ => ⟨_, _, rfl, _, shp_at frw_214.1, Or.inr (show fb 0xa00000000000080c330000c4004e0f >>> 68 = 10 by decide)⟩) (by omega) (by show 8 + (3 + 11) + 85 ≤ R.locals; omega) (by show (0 : Nat) ≤ 8; decide) (by show kc + 0 ≤ _; omega) (by show ks + 0 ≤ _; omega) (fun r9 hs_216 hpo hr9 => ?_) (fun x9 hs9 hx9 hpo => ?_)
                · obtain rfl : r9 = none := hr9.elim (fun q => q.2) (fun q => absurd rfl q.1)
                  obtain ⟨-, t_217, w_218, e_219, e_220, hK_221, fr_222⟩ := hpo
                  have hM_223 := ModF.w0 hM_207 fr_222
                  have rw_224 := frw_214.fr fr_222 W0_rw
                  have f_226 := fTo_214.fr (fun j9 _ => fr_222.2.2 125 j9 (by unfold W0; omega))
                  have f_227 := fW_214.fr (fun j9 _ => fr_222.2.2 127 j9 (by unfold W0; omega))
                  have f_228 := fD_214.fr (fun j9 _ => fr_222.2.2 135 j9 (by unfold W0; omega))
                  have f_229 := fL_214.fr (fun j9 _ => fr_222.2.2 136 j9 (by unfold W0; omega))
                  have f_230 := fE_214.fr (fun j9 _ => fr_222.2.2 137 j9 (by unfold W0; omega))
                  have f_231 := fC_214.fr (fun j9 _ => fr_222.2.2 138 j9 (by unfold W0; omega))
                  have f_232 := rd_fr fr_222 f24_214 (by unfold W0; omega)
                  have f_233 := rd_fr fr_222 f29_214 (by unfold W0; omega)
                  have f_234 := rd_fr fr_222 f30_214 (by unfold W0; omega)
                  have f_235 := fK0_214.fr (fun j9 _ _ => ⟨fr_222.2.2 131 j9 (by unfold W0; omega), fr_222.2.2 132 j9 (by unfold W0; omega)⟩)
                  have f_236 := fun q9 => (fK1_214 q9).fr (fun j9 _ _ => ⟨fr_222.2.2 131 j9 (by unfold W0; omega), fr_222.2.2 132 j9 (by unfold W0; omega)⟩)
                  have f_237 := fFo_214.fr fr_222 (fun j9 => by unfold W0; omega) (by unfold W0; omega) (by unfold W0; omega)
                  have f_238 := fO7_214.fr (fun j9 _ _ => ⟨fr_222.2.2 142 j9 (by unfold W0; omega), fr_222.2.2 143 j9 (by unfold W0; omega)⟩)
                  have f_239 := fP0_214.fr (fun j9 _ _ => ⟨fr_222.2.2 144 j9 (by unfold W0; omega), fr_222.2.2 145 j9 (by unfold W0; omega)⟩)
                  have f_240 := fP1_214.fr (fun j9 _ _ => ⟨fr_222.2.2 144 j9 (by unfold W0; omega), fr_222.2.2 145 j9 (by unfold W0; omega)⟩)
                  have fr_241 := fr_212.tr (fr_222.mono (fun k9 j9 h9 => by unfold W0 at h9; unfold WM; omega))
                  clear frw_214 hM_207 fTo_214 fW_214 fD_214 fL_214 fE_214 fC_214 f24_214 f29_214 f30_214 fK0_214 fK1_214 fFo_214 fO7_214 fP0_214 fP1_214 fr_212
                  show WpN (gp g0 wp) CLS p l e R s m args below meth c Q D_263.2.2.1 kc0 ks0 78 [some (.ref 124), some (.int a), some (.int b), some (.int c9), some (.int x_198), some (.int (0 : Int32)), none, none, none, none] (hs_216, kc, ks) []
                  refine g_loadA act (gx gp_263 (w := 0x4f03) rfl (by decide) rfl) (a := 0) (n := 79) rfl rfl rfl ?_
                  refine r_getf act (gx gp_263 (w := 0x20001c9005204) rfl (by decide) rfl) (n := 82) (ci := 9) (j := 7) (N := 39) rfl rfl rfl rw_224.1 (by decide) (v := .long t_217) e_219 ?_
                  refine g_storeL act (gx gp_263 (w := 0x600540b) rfl (by decide) rfl) (a := 6) (n := 84) rfl rfl (L2 := [some (.ref 124), some (.int a), some (.int b), some (.int c9), some (.int x_198), some (.int (0 : Int32)), some (.long t_217), none, none, none]) rfl ?_
                  refine g_loadA act (gx gp_263 (w := 0x5503) rfl (by decide) rfl) (a := 0) (n := 85) rfl rfl rfl ?_
                  refine r_getf act (gx gp_263 (w := 0x2000209005804) rfl (by decide) rfl) (n := 88) (ci := 9) (j := 8) (N := 39) rfl rfl rfl rw_224.1 (by decide) (v := .long w_218) e_220 ?_
                  refine g_storeL act (gx gp_263 (w := 0x8005a0b) rfl (by decide) rfl) (a := 8) (n := 90) rfl rfl (L2 := [some (.ref 124), some (.int a), some (.int b), some (.int c9), some (.int x_198), some (.int (0 : Int32)), some (.long t_217), none, some (.long w_218), none]) rfl ?_
                  refine g_loadA act (gx gp_263 (w := 0x5b03) rfl (by decide) rfl) (a := 0) (n := 91) rfl rfl rfl ?_
                  refine g_loadI act (gx gp_263 (w := 0x2005c02) rfl (by decide) rfl) (a := 2) (n := 92) rfl rfl rfl ?_
                  refine g_constI act (gx gp_263 (w := 0x40000000400000001000000005d01) rfl (by decide) rfl) (n := 93) (x := (0 : Int32)) (by decide) rfl ?_
                  obtain ⟨j_250, hj_251⟩ := Int.eq_ofNat_of_zero_le (show (0 : Int) ≤ (Int32.toInt b) by omega)
                  refine n_call tb_pres act hEnd (gx (P := G_call) gp_263 (w := 0xa000000000000824330000d100600f) rfl (by decide) rfl) (d' := D_209) rfl (as := [.ref 124, .int b, .int (0 : Int32)]) (rest := []) (b_flows hNW (ln9 := j_250) (gr := 0) ((rfl : Int32.toInt b = _).trans hj_251) (by omega) (show (0 : Int32).toInt = ((0 : Nat) : Int) from by decide) (by decide) ⟨rw_224, f_226, f_227⟩ f_228 (fun j9 => by have q9 := hdm_214 j9; omega) (KR.mono f_238 (by decide)) f_235 hM_223) (show (3 : Nat) = fb 0xa000000000000824330000d100600f % 16 by decide) (by show (3 : Nat) ≤ 9; decide) (fun _ => ⟨_, _, rfl, _, shp_at rw_224.1, Or.inr (show fb 0xa000000000000824330000d100600f >>> 68 = 10 by decide)⟩) (by omega) (by show 8 + (9 + 11) + 87 ≤ R.locals; omega) (by show (0 : Nat) ≤ 8; decide) (by show kc + 0 ≤ _; omega) (by show ks + 0 ≤ _; omega) (fun r9 hs_242 hpo hr9 => ?_) (fun x9 hs9 hx9 hpo => ?_)
                  · obtain rfl : r9 = none := hr9.elim (fun q => q.2) (fun q => absurd rfl q.1)
                    obtain ⟨-, t_243, w_244, e_245, e_246, hK_247, fr_248⟩ := hpo
                    have hM_249 := ModF.w0 hM_223 fr_248
                    have rw_252 := rw_224.fr fr_248 W0_rw
                    have f_253 := f_226.fr (fun j9 _ => fr_248.2.2 125 j9 (by unfold W0; omega))
                    have f_254 := f_227.fr (fun j9 _ => fr_248.2.2 127 j9 (by unfold W0; omega))
                    have f_255 := f_228.fr (fun j9 _ => fr_248.2.2 135 j9 (by unfold W0; omega))
                    have f_256 := f_229.fr (fun j9 _ => fr_248.2.2 136 j9 (by unfold W0; omega))
                    have f_257 := f_230.fr (fun j9 _ => fr_248.2.2 137 j9 (by unfold W0; omega))
                    have f_258 := f_231.fr (fun j9 _ => fr_248.2.2 138 j9 (by unfold W0; omega))
                    have f_259 := rd_fr fr_248 f_232 (by unfold W0; omega)
                    have f_260 := rd_fr fr_248 f_233 (by unfold W0; omega)
                    have f_261 := rd_fr fr_248 f_234 (by unfold W0; omega)
                    have f_262 := f_235.fr (fun j9 _ _ => ⟨fr_248.2.2 131 j9 (by unfold W0; omega), fr_248.2.2 132 j9 (by unfold W0; omega)⟩)
                    have f_263 := fun q9 => (f_236 q9).fr (fun j9 _ _ => ⟨fr_248.2.2 131 j9 (by unfold W0; omega), fr_248.2.2 132 j9 (by unfold W0; omega)⟩)
                    have f_264 := f_237.fr fr_248 (fun j9 => by unfold W0; omega) (by unfold W0; omega) (by unfold W0; omega)
                    have f_265 := f_238.fr (fun j9 _ _ => ⟨fr_248.2.2 142 j9 (by unfold W0; omega), fr_248.2.2 143 j9 (by unfold W0; omega)⟩)
                    have f_266 := f_239.fr (fun j9 _ _ => ⟨fr_248.2.2 144 j9 (by unfold W0; omega), fr_248.2.2 145 j9 (by unfold W0; omega)⟩)
                    have f_267 := f_240.fr (fun j9 _ _ => ⟨fr_248.2.2 144 j9 (by unfold W0; omega), fr_248.2.2 145 j9 (by unfold W0; omega)⟩)
                    have fr_269 := fr_241.tr (fr_248.mono (fun k9 j9 h9 => by unfold W0 at h9; unfold WM; omega))
                    clear rw_224 f_226 f_227 f_228 f_229 f_230 f_231 f_232 f_233 f_234 f_235 f_236 f_237 f_238 f_239 f_240 hM_223 e_219 e_220 fr_241
                    show WpN (gp g0 wp) CLS p l e R s m args below meth c Q D_263.2.2.1 kc0 ks0 96 [some (.ref 124), some (.int a), some (.int b), some (.int c9), some (.int x_198), some (.int (0 : Int32)), some (.long t_217), none, some (.long w_218), none] (hs_242, kc, ks) []
                    refine g_loadA act (gx gp_263 (w := 0x6103) rfl (by decide) rfl) (a := 0) (n := 97) rfl rfl rfl ?_
                    refine g_loadA act (gx gp_263 (w := 0x6203) rfl (by decide) rfl) (a := 0) (n := 98) rfl rfl rfl ?_
                    refine r_getf act (gx gp_263 (w := 0x20001c9006504) rfl (by decide) rfl) (n := 101) (ci := 9) (j := 7) (N := 39) rfl rfl rfl rw_252.1 (by decide) (v := .long t_243) e_245 ?_
                    refine g_loadA act (gx gp_263 (w := 0x6603) rfl (by decide) rfl) (a := 0) (n := 102) rfl rfl rfl ?_
                    refine r_getf act (gx gp_263 (w := 0x2000209006904) rfl (by decide) rfl) (n := 105) (ci := 9) (j := 8) (N := 39) rfl rfl rfl rw_252.1 (by decide) (v := .long w_244) e_246 ?_
                    refine g_loadL act (gx gp_263 (w := 0x6006b06) rfl (by decide) rfl) (a := 6) (n := 107) rfl rfl rfl ?_
                    refine g_loadL act (gx gp_263 (w := 0x8006d06) rfl (by decide) rfl) (a := 8) (n := 109) rfl rfl rfl ?_
                    refine n_call tb_pres act hEnd (gx (P := G_call) gp_263 (w := 0xa0000000000008349500011a00700f) rfl (by decide) rfl) (d' := D_282) rfl (as := [.ref 124, .long t_243, .long w_244, .long t_217, .long w_218]) (rest := []) (b_timesK (k1 := 13) (k2 := 7) rw_252.1 hK_247 hK_221 (by decide)) (show (5 : Nat) = fb 0xa0000000000008349500011a00700f % 16 by decide) (by show (9 : Nat) ≤ 13; decide) (fun _ => ⟨_, _, rfl, _, shp_at rw_252.1, Or.inr (show fb 0xa0000000000008349500011a00700f >>> 68 = 10 by decide)⟩) (by omega) (by show 8 + (13 + 11) + 55 ≤ R.locals; omega) (by show (0 : Nat) ≤ 8; decide) (by show kc + 0 ≤ _; omega) (by show ks + 0 ≤ _; omega) (fun r9 hs_270 hpo hr9 => ?_) (fun x9 hs9 hx9 hpo => ?_)
                    · obtain rfl : r9 = none := hr9.elim (fun q => q.2) (fun q => absurd rfl q.1)
                      obtain ⟨-, t_271, w_272, e_273, e_274, hK_275, fr_276⟩ := hpo
                      have hM_277 := ModF.w0 hM_249 fr_276
                      have rw_278 := rw_252.fr fr_276 W0_rw
                      have f_279 := f_253.fr (fun j9 _ => fr_276.2.2 125 j9 (by unfold W0; omega))
                      have f_280 := f_254.fr (fun j9 _ => fr_276.2.2 127 j9 (by unfold W0; omega))
                      have f_281 := f_255.fr (fun j9 _ => fr_276.2.2 135 j9 (by unfold W0; omega))
                      have f_282 := f_256.fr (fun j9 _ => fr_276.2.2 136 j9 (by unfold W0; omega))
                      have f_283 := f_257.fr (fun j9 _ => fr_276.2.2 137 j9 (by unfold W0; omega))
                      have f_284 := f_258.fr (fun j9 _ => fr_276.2.2 138 j9 (by unfold W0; omega))
                      have f_285 := rd_fr fr_276 f_259 (by unfold W0; omega)
                      have f_286 := rd_fr fr_276 f_260 (by unfold W0; omega)
                      have f_287 := rd_fr fr_276 f_261 (by unfold W0; omega)
                      have f_288 := f_262.fr (fun j9 _ _ => ⟨fr_276.2.2 131 j9 (by unfold W0; omega), fr_276.2.2 132 j9 (by unfold W0; omega)⟩)
                      have f_289 := fun q9 => (f_263 q9).fr (fun j9 _ _ => ⟨fr_276.2.2 131 j9 (by unfold W0; omega), fr_276.2.2 132 j9 (by unfold W0; omega)⟩)
                      have f_290 := f_264.fr fr_276 (fun j9 => by unfold W0; omega) (by unfold W0; omega) (by unfold W0; omega)
                      have f_291 := f_265.fr (fun j9 _ _ => ⟨fr_276.2.2 142 j9 (by unfold W0; omega), fr_276.2.2 143 j9 (by unfold W0; omega)⟩)
                      have f_292 := f_266.fr (fun j9 _ _ => ⟨fr_276.2.2 144 j9 (by unfold W0; omega), fr_276.2.2 145 j9 (by unfold W0; omega)⟩)
                      have f_293 := f_267.fr (fun j9 _ _ => ⟨fr_276.2.2 144 j9 (by unfold W0; omega), fr_276.2.2 145 j9 (by unfold W0; omega)⟩)
                      have fr_295 := fr_269.tr (fr_276.mono (fun k9 j9 h9 => by unfold W0 at h9; unfold WM; omega))
                      clear rw_252 f_253 f_254 f_255 f_256 f_257 f_258 f_259 f_260 f_261 f_262 f_263 f_264 f_265 f_266 f_267 hM_249 e_245 e_246 fr_269
                      show WpN (gp g0 wp) CLS p l e R s m args below meth c Q D_263.2.2.1 kc0 ks0 112 [some (.ref 124), some (.int a), some (.int b), some (.int c9), some (.int x_198), some (.int (0 : Int32)), some (.long t_217), none, some (.long w_218), none] (hs_270, kc, ks) []
                      refine g_loadA act (gx gp_263 (w := 0x7103) rfl (by decide) rfl) (a := 0) (n := 113) rfl rfl rfl ?_
                      refine g_loadI act (gx gp_263 (w := 0x3007202) rfl (by decide) rfl) (a := 3) (n := 114) rfl rfl rfl ?_
                      refine n_call tb_pres act hEnd (gx (P := G_call) gp_263 (w := 0xa000000000000c08220000fa00750f) rfl (by decide) rfl) (d' := D_250) rfl (as := [.ref 124, .int c9]) (rest := []) (b_part rw_278.1 e_273 e_274) (show (2 : Nat) = fb 0xa000000000000c08220000fa00750f % 16 by decide) (by show (2 : Nat) ≤ 2; decide) (fun _ => ⟨_, _, rfl, _, shp_at rw_278.1, Or.inr (show fb 0xa000000000000c08220000fa00750f >>> 68 = 10 by decide)⟩) (by omega) (by show 8 + (2 + 11) + 0 ≤ R.locals; omega) (by show (0 : Nat) ≤ 8; decide) (by show kc + 0 ≤ _; omega) (by show ks + 0 ≤ _; omega) (fun r9 h3 hpo hr9 => ?_) (fun x9 hs9 hx9 hpo => ?_)
                      · obtain ⟨-, rfl, pv_296, rfl⟩ := hpo
                        show WpN (gp g0 wp) CLS p l e R s m args below meth c Q D_263.2.2.1 kc0 ks0 117 [some (.ref 124), some (.int a), some (.int b), some (.int c9), some (.int x_198), some (.int (0 : Int32)), some (.long t_217), none, some (.long w_218), none] (hs_270, kc, ks) [.long pv_296]
                        exact g_retL hEnd (gx gp_263 (w := 0x19) rfl (by decide) rfl) ⟨rfl, ⟨_, rfl⟩, hM_277, fr_295⟩ (by show kc ≤ kc + 0; omega) (by show ks ≤ ks + 0; omega)
                      · exact absurd hpo.1 (by omega)
                    · exact absurd hpo.1 (by omega)
                  · exact absurd hpo.1 (by omega)
                · exact absurd hpo.1 (by omega)
            · exact absurd hpo.1 (by omega)
          · exact absurd hpo.1 (by omega)
        · simp only [i_eq, i0] at h83
          refine g_loadA act (gx gp_263 (w := 0x1f03) rfl (by decide) rfl) (a := 0) (n := 31) rfl rfl rfl ?_
          refine r_getf act (gx gp_263 (w := 0x3000049002204) rfl (by decide) rfl) (n := 34) (ci := 9) (j := 1) (N := 39) rfl rfl rfl rw0.1 (by decide) (rw0.2 (1, 125, 32, 46) (by decide)).1 ?_
          refine g_constI act (gx gp_263 (w := 0x40000005c00000059000000002401) rfl (by decide) rfl) (n := 36) (x := (11 : Int32)) (by decide) rfl ?_
          refine g_loadI act (gx gp_263 (w := 0x2002502) rfl (by decide) rfl) (a := 2) (n := 37) rfl rfl rfl ?_
          refine g_iadd act (gx gp_263 (w := 0x260a) rfl (by decide) rfl) (n := 38) rfl ?_
          have v_297 := iv_add (show (11 : Int32).toInt = ((11 : Nat) : Int) from by decide) (rfl : Int32.toInt b = _) (show -2147483648 ≤ (((11 : Nat) : Int) + (Int32.toInt b)) by omega) (show (((11 : Nat) : Int) + (Int32.toInt b)) < 2147483648 by omega)
          obtain ⟨j_298, hj_299⟩ := Int.eq_ofNat_of_zero_le (show (0 : Int) ≤ (((11 : Nat) : Int) + (Int32.toInt b)) by omega)
          obtain ⟨x_300, e_301, hx_302⟩ := hTo j_298 (by omega)
          refine r_iald act (gx gp_263 (w := 0x271a) rfl (by decide) rfl) (n := 39) (j := j_298) rfl (rw0.2 (1, 125, 32, 46) (by decide)).2 (v_297.trans hj_299) (show j_298 < 46 by omega) (v := .int x_300) e_301 ?_
          refine g_goto act (gx gp_263 (w := 0x2b07) rfl (by decide) rfl) (n := 43) rfl ?_
          refine g_storeI act (gx gp_263 (w := 0x5002d10) rfl (by decide) rfl) (a := 5) (n := 45) rfl rfl (L2 := [some (.ref 124), some (.int a), some (.int b), some (.int c9), some (.int x_198), some (.int x_300), none, none, none, none]) rfl ?_
          refine g_loadA act (gx gp_263 (w := 0x2e03) rfl (by decide) rfl) (a := 0) (n := 46) rfl rfl rfl ?_
          refine g_loadA act (gx gp_263 (w := 0x2f03) rfl (by decide) rfl) (a := 0) (n := 47) rfl rfl rfl ?_
          refine g_loadI act (gx gp_263 (w := 0x2003002) rfl (by decide) rfl) (a := 2) (n := 48) rfl rfl rfl ?_
          refine n_call tb_pres act hEnd (gx (P := G_call) gp_263 (w := 0xa000000000000c08220000e200330f) rfl (by decide) rfl) (d' := D_226) rfl (as := [.ref 124, .int b]) (rest := [.ref 124]) (b_isLine (tl := tl) rw0 hTo (rfl : Int32.toInt b = _) (by omega) (by omega)) (show (2 : Nat) = fb 0xa000000000000c08220000e200330f % 16 by decide) (by show (2 : Nat) ≤ 2; decide) (fun _ => ⟨_, _, rfl, _, shp_at rw0.1, Or.inr (show fb 0xa000000000000c08220000e200330f >>> 68 = 10 by decide)⟩) (by omega) (by show 8 + (2 + 11) + 22 ≤ R.locals; omega) (by show (1 : Nat) ≤ 8; decide) (by show kc + 0 ≤ _; omega) (by show ks + 0 ≤ _; omega) (fun r9 h3 hpo hr9 => ?_) (fun x9 hs9 hx9 hpo => ?_)
          · obtain ⟨-, rfl, hin_304⟩ := hpo
            obtain ⟨rv_303, rfl, hin_304o⟩ := in1_t hin_304
            show WpN (gp g0 wp) CLS p l e R s m args below meth c Q D_263.2.2.1 kc0 ks0 51 [some (.ref 124), some (.int a), some (.int b), some (.int c9), some (.int x_198), some (.int x_300), none, none, none, none] (hs, kc, ks) [.int rv_303, .ref 124]
            refine g_loadI act (gx gp_263 (w := 0x1003402) rfl (by decide) rfl) (a := 1) (n := 52) rfl rfl rfl ?_
            refine g_loadI act (gx gp_263 (w := 0x3003502) rfl (by decide) rfl) (a := 3) (n := 53) rfl rfl rfl ?_
            refine g_constI act (gx gp_263 (w := 0x40000000c00000009000000003601) rfl (by decide) rfl) (n := 54) (x := (1 : Int32)) (by decide) rfl ?_
            refine g_loadI act (gx gp_263 (w := 0x4003802) rfl (by decide) rfl) (a := 4) (n := 56) rfl rfl rfl ?_
            refine g_ishl act (gx gp_263 (w := 0x393b) rfl (by decide) rfl) (n := 57) rfl ?_
            refine g_constI act (gx gp_263 (w := 0x40000000c00000009000000003a01) rfl (by decide) rfl) (n := 58) (x := (1 : Int32)) (by decide) rfl ?_
            refine g_loadI act (gx gp_263 (w := 0x5003c02) rfl (by decide) rfl) (a := 5) (n := 60) rfl rfl rfl ?_
            refine g_ishl act (gx gp_263 (w := 0x3d3b) rfl (by decide) rfl) (n := 61) rfl ?_
            refine g_ior act (gx gp_263 (w := 0x3e4b) rfl (by decide) rfl) (n := 62) rfl ?_
            refine n_call tb_pres act hEnd (gx (P := G_call) gp_263 (w := 0xa000000000000c14550000e400410f) rfl (by decide) rfl) (d' := D_228) rfl (as := [.ref 124, .int rv_303, .int a, .int c9, .int (((1 : Int32) <<< (x_198 &&& 31)) ||| ((1 : Int32) <<< (x_300 &&& 31)))]) (rest := []) (b_isPriced hNW ⟨rw0, hTo, hW⟩ hM (ti := (Int32.toInt rv_303)) (rfl : Int32.toInt rv_303 = _) (by omega) (x := (Int32.toInt a)) (rfl : Int32.toInt a = _) (y := (Int32.toInt c9)) (rfl : Int32.toInt c9 = _)) (show (5 : Nat) = fb 0xa000000000000c14550000e400410f % 16 by decide) (by show (5 : Nat) ≤ 5; decide) (fun _ => ⟨_, _, rfl, _, shp_at rw0.1, Or.inr (show fb 0xa000000000000c14550000e400410f >>> 68 = 10 by decide)⟩) (by omega) (by show 8 + (5 + 11) + 251 ≤ R.locals; omega) (by show (0 : Nat) ≤ 8; decide) (by show kc + 0 ≤ _; omega) (by show ks + 0 ≤ _; omega) (fun r9 hs_305 hpo hr9 => ?_) (fun x9 hs9 hx9 hpo => ?_)
            · obtain ⟨-, hM_307, fr_306, rg, rfl, hg_308⟩ := hpo
              have rw_309 := rw0.fr fr_306 WM_rw
              have f_310 := hTo.fr (fun j9 _ => fr_306.2.2 125 j9 (by unfold WM; omega))
              have f_311 := hW.fr (fun j9 _ => fr_306.2.2 127 j9 (by unfold WM; omega))
              have fr_312 := (FrS.rf WM hs).tr fr_306
              show WpN (gp g0 wp) CLS p l e R s m args below meth c Q D_263.2.2.1 kc0 ks0 65 [some (.ref 124), some (.int a), some (.int b), some (.int c9), some (.int x_198), some (.int x_300), none, none, none, none] (hs_305, kc, ks) [.int rg]
              rcases hg_308 with rfl | ⟨rfl, g1_313, g2_313, g3_313, g4_313, g5_313, hFD_313, hPI_313⟩
              · refine g_ifNe act (gx gp_263 (w := 0x4600441d) rfl (by decide) rfl) (tgt := 70) (n := 68) rfl rfl (fun q => absurd q (by decide)) (fun _ => ?_)
                refine g_constL act (gx gp_263 (w := 0x40000000000000002000000004501) rfl (by decide) rfl) (n := 69) (x := 0) (by decide) rfl ?_
                exact g_retL hEnd (gx gp_263 (w := 0x19) rfl (by decide) rfl) ⟨rfl, ⟨_, rfl⟩, hM_307, fr_312⟩ (by show kc ≤ kc + 0; omega) (by show ks ≤ ks + 0; omega)
              · obtain ⟨⟨frw_314, fTo_314, fW_314⟩, ⟨hG_314, ⟨oi_314, f24_314, hoi_314⟩, ⟨dm_314, fD_314, hdm_314⟩, ⟨lm_314, fL_314, hlm_314⟩, ⟨em_314, fE_314, hem_314⟩, ⟨cp_314, fC_314, hcp_314⟩⟩, fFo_314, ⟨fK0_314, fK1_314⟩⟩ := hFD_313
                obtain ⟨⟨ct_314, cl_314, f29_314, f30_314, hck_314⟩, fKO_314⟩ := found_k hG_314 fFo_314
                have fO7_314 := found_k7 hG_314 fFo_314
                have nt_315 := nw_told hNW j_196
                have nt_316 := nw_told hNW j_298
                have fP0_314 := pri_k (k := ((tl j_196)).toNat) hG_314 hPI_313 (by omega) (bit_two (show _ = ((((tl j_196)).toNat : Nat) : Int) by have q9 := hx_200; omega) (show _ = ((((tl j_298)).toNat : Nat) : Int) by have q9 := hx_302; omega) (by omega) (by omega)).1
                have fP1_314 := pri_k (k := ((tl j_298)).toNat) hG_314 hPI_313 (by omega) (bit_two (show _ = ((((tl j_196)).toNat : Nat) : Int) by have q9 := hx_200; omega) (show _ = ((((tl j_298)).toNat : Nat) : Int) by have q9 := hx_302; omega) (by omega) (by omega)).2
                refine g_ifNe act (gx gp_263 (w := 0x4600441d) rfl (by decide) rfl) (tgt := 70) (n := 68) rfl rfl (fun _ => ?_) (fun q => absurd (by decide) q)
                refine g_loadA act (gx gp_263 (w := 0x4703) rfl (by decide) rfl) (a := 0) (n := 71) rfl rfl rfl ?_
                refine g_loadI act (gx gp_263 (w := 0x5004902) rfl (by decide) rfl) (a := 5) (n := 73) rfl rfl rfl ?_
                refine g_loadI act (gx gp_263 (w := 0x4004b02) rfl (by decide) rfl) (a := 4) (n := 75) rfl rfl rfl ?_
                refine n_call tb_pres act hEnd (gx (P := G_call) gp_263 (w := 0xa00000000000080c330000c4004e0f) rfl (by decide) rfl) (d' := D_196) rfl (as := [.ref 124, .int x_300, .int x_198]) (rest := []) (b_dearer (a9 := ((tl j_298)).toNat) (b9 := ((tl j_196)).toNat) (show _ = ((((tl j_298)).toNat : Nat) : Int) by have q9 := hx_302; omega) (show _ = ((((tl j_196)).toNat : Nat) : Int) by have q9 := hx_200; omega) (by omega) (by omega) frw_314 fP1_314 fP0_314 hM_307) (show (3 : Nat) = fb 0xa00000000000080c330000c4004e0f % 16 by decide) (by show (3 : Nat) ≤ 3; decide) (fun _ => ⟨_, _, rfl, _, shp_at frw_314.1, Or.inr (show fb 0xa00000000000080c330000c4004e0f >>> 68 = 10 by decide)⟩) (by omega) (by show 8 + (3 + 11) + 85 ≤ R.locals; omega) (by show (0 : Nat) ≤ 8; decide) (by show kc + 0 ≤ _; omega) (by show ks + 0 ≤ _; omega) (fun r9 hs_317 hpo hr9 => ?_) (fun x9 hs9 hx9 hpo => ?_)
                · obtain rfl : r9 = none := hr9.elim (fun q => q.2) (fun q => absurd rfl q.1)
                  obtain ⟨-, t_318, w_319, e_320, e_321, hK_322, fr_323⟩ := hpo
                  have hM_324 := ModF.w0 hM_307 fr_323
                  have rw_325 := frw_314.fr fr_323 W0_rw
                  have f_327 := fTo_314.fr (fun j9 _ => fr_323.2.2 125 j9 (by unfold W0; omega))
                  have f_328 := fW_314.fr (fun j9 _ => fr_323.2.2 127 j9 (by unfold W0; omega))
                  have f_329 := fD_314.fr (fun j9 _ => fr_323.2.2 135 j9 (by unfold W0; omega))
                  have f_330 := fL_314.fr (fun j9 _ => fr_323.2.2 136 j9 (by unfold W0; omega))
                  have f_331 := fE_314.fr (fun j9 _ => fr_323.2.2 137 j9 (by unfold W0; omega))
                  have f_332 := fC_314.fr (fun j9 _ => fr_323.2.2 138 j9 (by unfold W0; omega))
                  have f_333 := rd_fr fr_323 f24_314 (by unfold W0; omega)
                  have f_334 := rd_fr fr_323 f29_314 (by unfold W0; omega)
                  have f_335 := rd_fr fr_323 f30_314 (by unfold W0; omega)
                  have f_336 := fK0_314.fr (fun j9 _ _ => ⟨fr_323.2.2 131 j9 (by unfold W0; omega), fr_323.2.2 132 j9 (by unfold W0; omega)⟩)
                  have f_337 := fun q9 => (fK1_314 q9).fr (fun j9 _ _ => ⟨fr_323.2.2 131 j9 (by unfold W0; omega), fr_323.2.2 132 j9 (by unfold W0; omega)⟩)
                  have f_338 := fFo_314.fr fr_323 (fun j9 => by unfold W0; omega) (by unfold W0; omega) (by unfold W0; omega)
                  have f_339 := fO7_314.fr (fun j9 _ _ => ⟨fr_323.2.2 142 j9 (by unfold W0; omega), fr_323.2.2 143 j9 (by unfold W0; omega)⟩)
                  have f_340 := fP0_314.fr (fun j9 _ _ => ⟨fr_323.2.2 144 j9 (by unfold W0; omega), fr_323.2.2 145 j9 (by unfold W0; omega)⟩)
                  have f_341 := fP1_314.fr (fun j9 _ _ => ⟨fr_323.2.2 144 j9 (by unfold W0; omega), fr_323.2.2 145 j9 (by unfold W0; omega)⟩)
                  have fr_342 := fr_312.tr (fr_323.mono (fun k9 j9 h9 => by unfold W0 at h9; unfold WM; omega))
                  clear frw_314 hM_307 fTo_314 fW_314 fD_314 fL_314 fE_314 fC_314 f24_314 f29_314 f30_314 fK0_314 fK1_314 fFo_314 fO7_314 fP0_314 fP1_314 fr_312
                  show WpN (gp g0 wp) CLS p l e R s m args below meth c Q D_263.2.2.1 kc0 ks0 78 [some (.ref 124), some (.int a), some (.int b), some (.int c9), some (.int x_198), some (.int x_300), none, none, none, none] (hs_317, kc, ks) []
                  refine g_loadA act (gx gp_263 (w := 0x4f03) rfl (by decide) rfl) (a := 0) (n := 79) rfl rfl rfl ?_
                  refine r_getf act (gx gp_263 (w := 0x20001c9005204) rfl (by decide) rfl) (n := 82) (ci := 9) (j := 7) (N := 39) rfl rfl rfl rw_325.1 (by decide) (v := .long t_318) e_320 ?_
                  refine g_storeL act (gx gp_263 (w := 0x600540b) rfl (by decide) rfl) (a := 6) (n := 84) rfl rfl (L2 := [some (.ref 124), some (.int a), some (.int b), some (.int c9), some (.int x_198), some (.int x_300), some (.long t_318), none, none, none]) rfl ?_
                  refine g_loadA act (gx gp_263 (w := 0x5503) rfl (by decide) rfl) (a := 0) (n := 85) rfl rfl rfl ?_
                  refine r_getf act (gx gp_263 (w := 0x2000209005804) rfl (by decide) rfl) (n := 88) (ci := 9) (j := 8) (N := 39) rfl rfl rfl rw_325.1 (by decide) (v := .long w_319) e_321 ?_
                  refine g_storeL act (gx gp_263 (w := 0x8005a0b) rfl (by decide) rfl) (a := 8) (n := 90) rfl rfl (L2 := [some (.ref 124), some (.int a), some (.int b), some (.int c9), some (.int x_198), some (.int x_300), some (.long t_318), none, some (.long w_319), none]) rfl ?_
                  refine g_loadA act (gx gp_263 (w := 0x5b03) rfl (by decide) rfl) (a := 0) (n := 91) rfl rfl rfl ?_
                  refine g_loadI act (gx gp_263 (w := 0x2005c02) rfl (by decide) rfl) (a := 2) (n := 92) rfl rfl rfl ?_
                  refine g_constI act (gx gp_263 (w := 0x40000000400000001000000005d01) rfl (by decide) rfl) (n := 93) (x := (0 : Int32)) (by decide) rfl ?_
                  obtain ⟨j_351, hj_352⟩ := Int.eq_ofNat_of_zero_le (show (0 : Int) ≤ (Int32.toInt b) by omega)
                  refine n_call tb_pres act hEnd (gx (P := G_call) gp_263 (w := 0xa000000000000824330000d100600f) rfl (by decide) rfl) (d' := D_209) rfl (as := [.ref 124, .int b, .int (0 : Int32)]) (rest := []) (b_flows hNW (ln9 := j_351) (gr := 0) ((rfl : Int32.toInt b = _).trans hj_352) (by omega) (show (0 : Int32).toInt = ((0 : Nat) : Int) from by decide) (by decide) ⟨rw_325, f_327, f_328⟩ f_329 (fun j9 => by have q9 := hdm_314 j9; omega) (KR.mono f_339 (by decide)) f_336 hM_324) (show (3 : Nat) = fb 0xa000000000000824330000d100600f % 16 by decide) (by show (3 : Nat) ≤ 9; decide) (fun _ => ⟨_, _, rfl, _, shp_at rw_325.1, Or.inr (show fb 0xa000000000000824330000d100600f >>> 68 = 10 by decide)⟩) (by omega) (by show 8 + (9 + 11) + 87 ≤ R.locals; omega) (by show (0 : Nat) ≤ 8; decide) (by show kc + 0 ≤ _; omega) (by show ks + 0 ≤ _; omega) (fun r9 hs_343 hpo hr9 => ?_) (fun x9 hs9 hx9 hpo => ?_)
                  · obtain rfl : r9 = none := hr9.elim (fun q => q.2) (fun q => absurd rfl q.1)
                    obtain ⟨-, t_344, w_345, e_346, e_347, hK_348, fr_349⟩ := hpo
                    have hM_350 := ModF.w0 hM_324 fr_349
                    have rw_353 := rw_325.fr fr_349 W0_rw
                    have f_354 := f_327.fr (fun j9 _ => fr_349.2.2 125 j9 (by unfold W0; omega))
                    have f_355 := f_328.fr (fun j9 _ => fr_349.2.2 127 j9 (by unfold W0; omega))
                    have f_356 := f_329.fr (fun j9 _ => fr_349.2.2 135 j9 (by unfold W0; omega))
                    have f_357 := f_330.fr (fun j9 _ => fr_349.2.2 136 j9 (by unfold W0; omega))
                    have f_358 := f_331.fr (fun j9 _ => fr_349.2.2 137 j9 (by unfold W0; omega))
                    have f_359 := f_332.fr (fun j9 _ => fr_349.2.2 138 j9 (by unfold W0; omega))
                    have f_360 := rd_fr fr_349 f_333 (by unfold W0; omega)
                    have f_361 := rd_fr fr_349 f_334 (by unfold W0; omega)
                    have f_362 := rd_fr fr_349 f_335 (by unfold W0; omega)
                    have f_363 := f_336.fr (fun j9 _ _ => ⟨fr_349.2.2 131 j9 (by unfold W0; omega), fr_349.2.2 132 j9 (by unfold W0; omega)⟩)
                    have f_364 := fun q9 => (f_337 q9).fr (fun j9 _ _ => ⟨fr_349.2.2 131 j9 (by unfold W0; omega), fr_349.2.2 132 j9 (by unfold W0; omega)⟩)
                    have f_365 := f_338.fr fr_349 (fun j9 => by unfold W0; omega) (by unfold W0; omega) (by unfold W0; omega)
                    have f_366 := f_339.fr (fun j9 _ _ => ⟨fr_349.2.2 142 j9 (by unfold W0; omega), fr_349.2.2 143 j9 (by unfold W0; omega)⟩)
                    have f_367 := f_340.fr (fun j9 _ _ => ⟨fr_349.2.2 144 j9 (by unfold W0; omega), fr_349.2.2 145 j9 (by unfold W0; omega)⟩)
                    have f_368 := f_341.fr (fun j9 _ _ => ⟨fr_349.2.2 144 j9 (by unfold W0; omega), fr_349.2.2 145 j9 (by unfold W0; omega)⟩)
                    have fr_370 := fr_342.tr (fr_349.mono (fun k9 j9 h9 => by unfold W0 at h9; unfold WM; omega))
                    clear rw_325 f_327 f_328 f_329 f_330 f_331 f_332 f_333 f_334 f_335 f_336 f_337 f_338 f_339 f_340 f_341 hM_324 e_320 e_321 fr_342
                    show WpN (gp g0 wp) CLS p l e R s m args below meth c Q D_263.2.2.1 kc0 ks0 96 [some (.ref 124), some (.int a), some (.int b), some (.int c9), some (.int x_198), some (.int x_300), some (.long t_318), none, some (.long w_319), none] (hs_343, kc, ks) []
                    refine g_loadA act (gx gp_263 (w := 0x6103) rfl (by decide) rfl) (a := 0) (n := 97) rfl rfl rfl ?_
                    refine g_loadA act (gx gp_263 (w := 0x6203) rfl (by decide) rfl) (a := 0) (n := 98) rfl rfl rfl ?_
                    refine r_getf act (gx gp_263 (w := 0x20001c9006504) rfl (by decide) rfl) (n := 101) (ci := 9) (j := 7) (N := 39) rfl rfl rfl rw_353.1 (by decide) (v := .long t_344) e_346 ?_
                    refine g_loadA act (gx gp_263 (w := 0x6603) rfl (by decide) rfl) (a := 0) (n := 102) rfl rfl rfl ?_
                    refine r_getf act (gx gp_263 (w := 0x2000209006904) rfl (by decide) rfl) (n := 105) (ci := 9) (j := 8) (N := 39) rfl rfl rfl rw_353.1 (by decide) (v := .long w_345) e_347 ?_
                    refine g_loadL act (gx gp_263 (w := 0x6006b06) rfl (by decide) rfl) (a := 6) (n := 107) rfl rfl rfl ?_
                    refine g_loadL act (gx gp_263 (w := 0x8006d06) rfl (by decide) rfl) (a := 8) (n := 109) rfl rfl rfl ?_
                    refine n_call tb_pres act hEnd (gx (P := G_call) gp_263 (w := 0xa0000000000008349500011a00700f) rfl (by decide) rfl) (d' := D_282) rfl (as := [.ref 124, .long t_344, .long w_345, .long t_318, .long w_319]) (rest := []) (b_timesK (k1 := 13) (k2 := 7) rw_353.1 hK_348 hK_322 (by decide)) (show (5 : Nat) = fb 0xa0000000000008349500011a00700f % 16 by decide) (by show (9 : Nat) ≤ 13; decide) (fun _ => ⟨_, _, rfl, _, shp_at rw_353.1, Or.inr (show fb 0xa0000000000008349500011a00700f >>> 68 = 10 by decide)⟩) (by omega) (by show 8 + (13 + 11) + 55 ≤ R.locals; omega) (by show (0 : Nat) ≤ 8; decide) (by show kc + 0 ≤ _; omega) (by show ks + 0 ≤ _; omega) (fun r9 hs_371 hpo hr9 => ?_) (fun x9 hs9 hx9 hpo => ?_)
                    · obtain rfl : r9 = none := hr9.elim (fun q => q.2) (fun q => absurd rfl q.1)
                      obtain ⟨-, t_372, w_373, e_374, e_375, hK_376, fr_377⟩ := hpo
                      have hM_378 := ModF.w0 hM_350 fr_377
                      have rw_379 := rw_353.fr fr_377 W0_rw
                      have f_380 := f_354.fr (fun j9 _ => fr_377.2.2 125 j9 (by unfold W0; omega))
                      have f_381 := f_355.fr (fun j9 _ => fr_377.2.2 127 j9 (by unfold W0; omega))
                      have f_382 := f_356.fr (fun j9 _ => fr_377.2.2 135 j9 (by unfold W0; omega))
                      have f_383 := f_357.fr (fun j9 _ => fr_377.2.2 136 j9 (by unfold W0; omega))
                      have f_384 := f_358.fr (fun j9 _ => fr_377.2.2 137 j9 (by unfold W0; omega))
                      have f_385 := f_359.fr (fun j9 _ => fr_377.2.2 138 j9 (by unfold W0; omega))
                      have f_386 := rd_fr fr_377 f_360 (by unfold W0; omega)
                      have f_387 := rd_fr fr_377 f_361 (by unfold W0; omega)
                      have f_388 := rd_fr fr_377 f_362 (by unfold W0; omega)
                      have f_389 := f_363.fr (fun j9 _ _ => ⟨fr_377.2.2 131 j9 (by unfold W0; omega), fr_377.2.2 132 j9 (by unfold W0; omega)⟩)
                      have f_390 := fun q9 => (f_364 q9).fr (fun j9 _ _ => ⟨fr_377.2.2 131 j9 (by unfold W0; omega), fr_377.2.2 132 j9 (by unfold W0; omega)⟩)
                      have f_391 := f_365.fr fr_377 (fun j9 => by unfold W0; omega) (by unfold W0; omega) (by unfold W0; omega)
                      have f_392 := f_366.fr (fun j9 _ _ => ⟨fr_377.2.2 142 j9 (by unfold W0; omega), fr_377.2.2 143 j9 (by unfold W0; omega)⟩)
                      have f_393 := f_367.fr (fun j9 _ _ => ⟨fr_377.2.2 144 j9 (by unfold W0; omega), fr_377.2.2 145 j9 (by unfold W0; omega)⟩)
                      have f_394 := f_368.fr (fun j9 _ _ => ⟨fr_377.2.2 144 j9 (by unfold W0; omega), fr_377.2.2 145 j9 (by unfold W0; omega)⟩)
                      have fr_396 := fr_370.tr (fr_377.mono (fun k9 j9 h9 => by unfold W0 at h9; unfold WM; omega))
                      clear rw_353 f_354 f_355 f_356 f_357 f_358 f_359 f_360 f_361 f_362 f_363 f_364 f_365 f_366 f_367 f_368 hM_350 e_346 e_347 fr_370
                      show WpN (gp g0 wp) CLS p l e R s m args below meth c Q D_263.2.2.1 kc0 ks0 112 [some (.ref 124), some (.int a), some (.int b), some (.int c9), some (.int x_198), some (.int x_300), some (.long t_318), none, some (.long w_319), none] (hs_371, kc, ks) []
                      refine g_loadA act (gx gp_263 (w := 0x7103) rfl (by decide) rfl) (a := 0) (n := 113) rfl rfl rfl ?_
                      refine g_loadI act (gx gp_263 (w := 0x3007202) rfl (by decide) rfl) (a := 3) (n := 114) rfl rfl rfl ?_
                      refine n_call tb_pres act hEnd (gx (P := G_call) gp_263 (w := 0xa000000000000c08220000fa00750f) rfl (by decide) rfl) (d' := D_250) rfl (as := [.ref 124, .int c9]) (rest := []) (b_part rw_379.1 e_374 e_375) (show (2 : Nat) = fb 0xa000000000000c08220000fa00750f % 16 by decide) (by show (2 : Nat) ≤ 2; decide) (fun _ => ⟨_, _, rfl, _, shp_at rw_379.1, Or.inr (show fb 0xa000000000000c08220000fa00750f >>> 68 = 10 by decide)⟩) (by omega) (by show 8 + (2 + 11) + 0 ≤ R.locals; omega) (by show (0 : Nat) ≤ 8; decide) (by show kc + 0 ≤ _; omega) (by show ks + 0 ≤ _; omega) (fun r9 h3 hpo hr9 => ?_) (fun x9 hs9 hx9 hpo => ?_)
                      · obtain ⟨-, rfl, pv_397, rfl⟩ := hpo
                        show WpN (gp g0 wp) CLS p l e R s m args below meth c Q D_263.2.2.1 kc0 ks0 117 [some (.ref 124), some (.int a), some (.int b), some (.int c9), some (.int x_198), some (.int x_300), some (.long t_318), none, some (.long w_319), none] (hs_371, kc, ks) [.long pv_397]
                        exact g_retL hEnd (gx gp_263 (w := 0x19) rfl (by decide) rfl) ⟨rfl, ⟨_, rfl⟩, hM_378, fr_396⟩ (by show kc ≤ kc + 0; omega) (by show ks ≤ ks + 0; omega)
                      · exact absurd hpo.1 (by omega)
                    · exact absurd hpo.1 (by omega)
                  · exact absurd hpo.1 (by omega)
                · exact absurd hpo.1 (by omega)
            · exact absurd hpo.1 (by omega)
          · exact absurd hpo.1 (by omega)
      · exact absurd hpo.1 (by omega)
  · exact absurd hpo.1 (by omega)

theorem b_allNodes {g0 : GG} {bl : Nat} {xs : Nat → Int32} {l : Launch} {hs : List CE} {tl : Nat → Int} (rw0 : RW hs) (hTo : IArr hs 125 46 tl) : BodyN SSX TBL g0 CLS bl xs l D_178 0 0 0 0 [.ref 124] hs (fun kd r h2 => kd = 0 ∧ hs = h2 ∧ ∃ z : Int32, r = some (.int (((1 : Int32) <<< (z &&& 31)) - 1)) ∧ z.toInt = tl 0) := by
  intro wp p e R s m args below meth c Q kc0 ks0 kc ks act hf hl hc hsl hEnd
  show WpN (gp g0 wp) CLS p l e R s m args below meth c Q D_178.2.2.1 kc0 ks0 0 [some (.ref 124)] (hs, kc, ks) []
  refine g_constI act (gx gp_178 (w := 0x40000000c00000009000000000101) rfl (by decide) rfl) (n := 1) (x := (1 : Int32)) (by decide) rfl ?_
  refine g_loadA act (gx gp_178 (w := 0x203) rfl (by decide) rfl) (a := 0) (n := 2) rfl rfl rfl ?_
  refine r_getf act (gx gp_178 (w := 0x3000049000504) rfl (by decide) rfl) (n := 5) (ci := 9) (j := 1) (N := 39) rfl rfl rfl rw0.1 (by decide) (rw0.2 (1, 125, 32, 46) (by decide)).1 ?_
  refine g_constI act (gx gp_178 (w := 0x40000000400000001000000000601) rfl (by decide) rfl) (n := 6) (x := (0 : Int32)) (by decide) rfl ?_
  obtain ⟨x_1, e_2, hx_3⟩ := hTo 0 (by omega)
  refine r_iald act (gx gp_178 (w := 0x71a) rfl (by decide) rfl) (n := 7) (j := 0) rfl (rw0.2 (1, 125, 32, 46) (by decide)).2 (show (0 : Int32).toInt = ((0 : Nat) : Int) from by decide) (show 0 < 46 by omega) (v := .int x_1) e_2 ?_
  refine g_ishl act (gx gp_178 (w := 0x83b) rfl (by decide) rfl) (n := 8) rfl ?_
  refine g_constI act (gx gp_178 (w := 0x40000000c00000009000000000901) rfl (by decide) rfl) (n := 9) (x := (1 : Int32)) (by decide) rfl ?_
  refine g_isub act (gx gp_178 (w := 0xa26) rfl (by decide) rfl) (n := 10) rfl ?_
  exact g_retI hEnd (gx gp_178 (w := 0x2f) rfl (by decide) rfl) ⟨rfl, rfl, _, rfl, hx_3⟩ (by show kc ≤ kc + 0; omega) (by show ks ≤ ks + 0; omega)

theorem b_targets {g0 : GG} {bl : Nat} {xs : Nat → Int32} {l : Launch} {hs : List CE} {tl wl : Nat → Int} {nl n ng nr : Nat} (hNW : NW tl wl nl n ng nr) {a : Int32} {r9 : Nat} (ha : a.toInt = (r9 : Int)) (hr : r9 < nr) (hB : BM hs tl wl) (hA : KR hs 144 145 (tl (22 + 4 * r9 + 2)).toNat ((tl (22 + 4 * r9 + 2)).toNat + 1) 7) (hD : KR hs 144 145 (tl (22 + 4 * r9 + 1)).toNat ((tl (22 + 4 * r9 + 1)).toNat + 1) 7) (hM : ModF hs) : BodyN SSX TBL g0 CLS bl xs l D_280 4 107 0 0 [.ref 124, .int a] hs (fun kd _ h2 => kd = 0 ∧ ∃ t w : Int64, rd h2 124 7 = .long t ∧ rd h2 124 8 = .long w ∧ K2 7 w ∧ FrS W0 hs h2) := by
  intro wp p e R s m args below meth c Q kc0 ks0 kc ks act hf hl hc hsl hEnd
  have hN9 := hNW
  obtain ⟨n0, n1, n2, n3, n4, n5, n6, n7, n8, hG0, nL, nC, nP, nD⟩ := hN9
  have hGn := hG0.1
  have hGn3 := hG0.2.1
  have hGl := hG0.2.2.1
  obtain ⟨rw0, fTo, fW⟩ := hB
  have hr9 := n8 r9 hr
  show WpN (gp g0 wp) CLS p l e R s m args below meth c Q D_280.2.2.1 kc0 ks0 0 [some (.ref 124), some (.int a)] (hs, kc, ks) []
  refine g_loadA act (gx gp_280 (w := 0x103) rfl (by decide) rfl) (a := 0) (n := 1) rfl rfl rfl ?_
  refine g_loadA act (gx gp_280 (w := 0x203) rfl (by decide) rfl) (a := 0) (n := 2) rfl rfl rfl ?_
  refine g_loadI act (gx gp_280 (w := 0x1000302) rfl (by decide) rfl) (a := 1) (n := 3) rfl rfl rfl ?_
  refine g_constI act (gx gp_280 (w := 0x40000001400000011000000000401) rfl (by decide) rfl) (n := 4) (x := (2 : Int32)) (by decide) rfl ?_
  refine n_call tb_pres act hEnd (gx (P := G_call) gp_280 (w := 0xa000000000000c0c3300010900070f) rfl (by decide) rfl) (d' := D_265) rfl (as := [.ref 124, .int a, .int (2 : Int32)]) (rest := [.ref 124]) (b_right rw0 fTo ha (show (2 : Int32).toInt = ((2 : Nat) : Int) from by decide) (by omega) (by omega)) (show (3 : Nat) = fb 0xa000000000000c0c3300010900070f % 16 by decide) (by show (3 : Nat) ≤ 3; decide) (fun _ => ⟨_, _, rfl, _, shp_at rw0.1, Or.inr (show fb 0xa000000000000c0c3300010900070f >>> 68 = 10 by decide)⟩) (by omega) (by show 8 + (3 + 11) + 0 ≤ R.locals; omega) (by show (1 : Nat) ≤ 8; decide) (by show kc + 0 ≤ _; omega) (by show ks + 0 ≤ _; omega) (fun r9 h3 hpo hr9 => ?_) (fun x9 hs9 hx9 hpo => ?_)
  · obtain ⟨-, rfl, x_1, rfl, hx_2⟩ := hpo
    show WpN (gp g0 wp) CLS p l e R s m args below meth c Q D_280.2.2.1 kc0 ks0 7 [some (.ref 124), some (.int a)] (hs, kc, ks) [.int x_1, .ref 124]
    refine g_loadA act (gx gp_280 (w := 0x803) rfl (by decide) rfl) (a := 0) (n := 8) rfl rfl rfl ?_
    refine g_loadI act (gx gp_280 (w := 0x1000902) rfl (by decide) rfl) (a := 1) (n := 9) rfl rfl rfl ?_
    refine g_constI act (gx gp_280 (w := 0x40000000c00000009000000000a01) rfl (by decide) rfl) (n := 10) (x := (1 : Int32)) (by decide) rfl ?_
    refine n_call tb_pres act hEnd (gx (P := G_call) gp_280 (w := 0xa000000000000c0c33000109000d0f) rfl (by decide) rfl) (d' := D_265) rfl (as := [.ref 124, .int a, .int (1 : Int32)]) (rest := [.int x_1, .ref 124]) (b_right rw0 fTo ha (show (1 : Int32).toInt = ((1 : Nat) : Int) from by decide) (by omega) (by omega)) (show (3 : Nat) = fb 0xa000000000000c0c33000109000d0f % 16 by decide) (by show (3 : Nat) ≤ 3; decide) (fun _ => ⟨_, _, rfl, _, shp_at rw0.1, Or.inr (show fb 0xa000000000000c0c33000109000d0f >>> 68 = 10 by decide)⟩) (by omega) (by show 8 + (3 + 11) + 0 ≤ R.locals; omega) (by show (2 : Nat) ≤ 8; decide) (by show kc + 0 ≤ _; omega) (by show ks + 0 ≤ _; omega) (fun r9 h3 hpo hr9 => ?_) (fun x9 hs9 hx9 hpo => ?_)
    · obtain ⟨-, rfl, x_3, rfl, hx_4⟩ := hpo
      show WpN (gp g0 wp) CLS p l e R s m args below meth c Q D_280.2.2.1 kc0 ks0 13 [some (.ref 124), some (.int a)] (hs, kc, ks) [.int x_3, .int x_1, .ref 124]
      refine n_call tb_pres act hEnd (gx (P := G_call) gp_280 (w := 0xa00000000000080c330000c400100f) rfl (by decide) rfl) (d' := D_196) rfl (as := [.ref 124, .int x_1, .int x_3]) (rest := []) (b_dearer (a9 := (tl (22 + 4 * r9 + 2)).toNat) (b9 := (tl (22 + 4 * r9 + 1)).toNat) (show _ = (((tl (22 + 4 * r9 + 2)).toNat : Nat) : Int) by have q9 := hx_2; omega) (show _ = (((tl (22 + 4 * r9 + 1)).toNat : Nat) : Int) by have q9 := hx_4; omega) (by omega) (by omega) rw0 hA hD hM) (show (3 : Nat) = fb 0xa00000000000080c330000c400100f % 16 by decide) (by show (3 : Nat) ≤ 3; decide) (fun _ => ⟨_, _, rfl, _, shp_at rw0.1, Or.inr (show fb 0xa00000000000080c330000c400100f >>> 68 = 10 by decide)⟩) (by omega) (by show 8 + (3 + 11) + 85 ≤ R.locals; omega) (by show (0 : Nat) ≤ 8; decide) (by show kc + 0 ≤ _; omega) (by show ks + 0 ≤ _; omega) (fun r9 hs_5 hpo hr9 => ?_) (fun x9 hs9 hx9 hpo => ?_)
      · obtain rfl : r9 = none := hr9.elim (fun q => q.2) (fun q => absurd rfl q.1)
        obtain ⟨-, t_6, w_7, e_8, e_9, hK_10, fr_11⟩ := hpo
        have hM_12 := ModF.w0 hM fr_11
        have rw_13 := rw0.fr fr_11 W0_rw
        have f_14 := fTo.fr (fun j9 _ => fr_11.2.2 125 j9 (by unfold W0; omega))
        have f_15 := fW.fr (fun j9 _ => fr_11.2.2 127 j9 (by unfold W0; omega))
        have f_16 := hA.fr (fun j9 _ _ => ⟨fr_11.2.2 144 j9 (by unfold W0; omega), fr_11.2.2 145 j9 (by unfold W0; omega)⟩)
        have f_17 := hD.fr (fun j9 _ _ => ⟨fr_11.2.2 144 j9 (by unfold W0; omega), fr_11.2.2 145 j9 (by unfold W0; omega)⟩)
        have fr_19 := (FrS.rf W0 hs).tr fr_11
        show WpN (gp g0 wp) CLS p l e R s m args below meth c Q D_280.2.2.1 kc0 ks0 16 [some (.ref 124), some (.int a)] (hs_5, kc, ks) []
        refine g_loadA act (gx gp_280 (w := 0x1103) rfl (by decide) rfl) (a := 0) (n := 17) rfl rfl rfl ?_
        refine g_loadA act (gx gp_280 (w := 0x1203) rfl (by decide) rfl) (a := 0) (n := 18) rfl rfl rfl ?_
        refine r_getf act (gx gp_280 (w := 0x20001c9001504) rfl (by decide) rfl) (n := 21) (ci := 9) (j := 7) (N := 39) rfl rfl rfl rw_13.1 (by decide) (v := .long t_6) e_8 ?_
        refine g_loadA act (gx gp_280 (w := 0x1603) rfl (by decide) rfl) (a := 0) (n := 22) rfl rfl rfl ?_
        refine r_getf act (gx gp_280 (w := 0x2000209001904) rfl (by decide) rfl) (n := 25) (ci := 9) (j := 8) (N := 39) rfl rfl rfl rw_13.1 (by decide) (v := .long w_7) e_9 ?_
        refine g_loadA act (gx gp_280 (w := 0x1a03) rfl (by decide) rfl) (a := 0) (n := 26) rfl rfl rfl ?_
        refine g_loadI act (gx gp_280 (w := 0x1001b02) rfl (by decide) rfl) (a := 1) (n := 27) rfl rfl rfl ?_
        refine g_constI act (gx gp_280 (w := 0x40000001c00000019000000001c01) rfl (by decide) rfl) (n := 28) (x := (3 : Int32)) (by decide) rfl ?_
        refine n_call tb_pres act hEnd (gx (P := G_call) gp_280 (w := 0xa000000000000c0c33000109001f0f) rfl (by decide) rfl) (d' := D_265) rfl (as := [.ref 124, .int a, .int (3 : Int32)]) (rest := [.long w_7, .long t_6, .ref 124]) (b_right rw_13 f_14 ha (show (3 : Int32).toInt = ((3 : Nat) : Int) from by decide) (by omega) (by omega)) (show (3 : Nat) = fb 0xa000000000000c0c33000109001f0f % 16 by decide) (by show (3 : Nat) ≤ 3; decide) (fun _ => ⟨_, _, rfl, _, shp_at rw_13.1, Or.inr (show fb 0xa000000000000c0c33000109001f0f >>> 68 = 10 by decide)⟩) (by omega) (by show 8 + (3 + 11) + 0 ≤ R.locals; omega) (by show (5 : Nat) ≤ 8; decide) (by show kc + 0 ≤ _; omega) (by show ks + 0 ≤ _; omega) (fun r9 h3 hpo hr9 => ?_) (fun x9 hs9 hx9 hpo => ?_)
        · obtain ⟨-, rfl, x_20, rfl, hx_21⟩ := hpo
          show WpN (gp g0 wp) CLS p l e R s m args below meth c Q D_280.2.2.1 kc0 ks0 31 [some (.ref 124), some (.int a)] (hs_5, kc, ks) [.int x_20, .long w_7, .long t_6, .ref 124]
          refine g_i2l act (gx gp_280 (w := 0x202c) rfl (by decide) rfl) (n := 32) rfl ?_
          have v_22 := lw_i2l hx_21
          refine g_constL act (gx gp_280 (w := 0x4000000000000000a000000002101) rfl (by decide) rfl) (n := 33) (x := 1) (by decide) rfl ?_
          refine n_call tb_pres act hEnd (gx (P := G_call) gp_280 (w := 0xa0000000000008349500011a00240f) rfl (by decide) rfl) (d' := D_282) rfl (as := [.ref 124, .long t_6, .long w_7, .long (x_20).toInt64, .long (1 : Int64)]) (rest := []) (b_timesK (k1 := 7) (k2 := 1) rw_13.1 hK_10 k2_one (by decide)) (show (5 : Nat) = fb 0xa0000000000008349500011a00240f % 16 by decide) (by show (9 : Nat) ≤ 13; decide) (fun _ => ⟨_, _, rfl, _, shp_at rw_13.1, Or.inr (show fb 0xa0000000000008349500011a00240f >>> 68 = 10 by decide)⟩) (by omega) (by show 8 + (13 + 11) + 55 ≤ R.locals; omega) (by show (0 : Nat) ≤ 8; decide) (by show kc + 0 ≤ _; omega) (by show ks + 0 ≤ _; omega) (fun r9 hs_23 hpo hr9 => ?_) (fun x9 hs9 hx9 hpo => ?_)
          · obtain rfl : r9 = none := hr9.elim (fun q => q.2) (fun q => absurd rfl q.1)
            obtain ⟨-, t_24, w_25, e_26, e_27, hK_28, fr_29⟩ := hpo
            have hM_30 := ModF.w0 hM_12 fr_29
            have rw_31 := rw_13.fr fr_29 W0_rw
            have f_32 := f_14.fr (fun j9 _ => fr_29.2.2 125 j9 (by unfold W0; omega))
            have f_33 := f_15.fr (fun j9 _ => fr_29.2.2 127 j9 (by unfold W0; omega))
            have f_34 := f_16.fr (fun j9 _ _ => ⟨fr_29.2.2 144 j9 (by unfold W0; omega), fr_29.2.2 145 j9 (by unfold W0; omega)⟩)
            have f_35 := f_17.fr (fun j9 _ _ => ⟨fr_29.2.2 144 j9 (by unfold W0; omega), fr_29.2.2 145 j9 (by unfold W0; omega)⟩)
            have fr_37 := fr_19.tr fr_29
            clear rw_13 f_14 f_15 f_16 f_17 hM_12 e_8 e_9 fr_19
            show WpN (gp g0 wp) CLS p l e R s m args below meth c Q D_280.2.2.1 kc0 ks0 36 [some (.ref 124), some (.int a)] (hs_23, kc, ks) []
            exact g_retV hEnd (gx gp_280 (w := 0x18) rfl (by decide) rfl) ⟨rfl, _, _, e_26, e_27, hK_28, fr_37⟩ (by show kc ≤ kc + 0; omega) (by show ks ≤ ks + 0; omega)
          · exact absurd hpo.1 (by omega)
        · exact absurd hpo.1 (by omega)
      · exact absurd hpo.1 (by omega)
    · exact absurd hpo.1 (by omega)
  · exact absurd hpo.1 (by omega)

theorem b_target {g0 : GG} {bl : Nat} {xs : Nat → Int32} {l : Launch} {hs : List CE} {tl wl : Nat → Int} {nl n ng nr : Nat} (hNW : NW tl wl nl n ng nr) {a b c9 : Int32} (hB : BM hs tl wl) (hM : ModF hs) : BodyN SSX TBL g0 CLS bl xs l D_279 11 275 0 0 [.ref 124, .int a, .int b, .int c9] hs (POL hs) := by
  intro wp p e R s m args below meth c Q kc0 ks0 kc ks act hf hl hc hsl hEnd
  have hN9 := hNW
  obtain ⟨n0, n1, n2, n3, n4, n5, n6, n7, n8, hG0, nL, nC, nP, nD⟩ := hN9
  have hGn := hG0.1
  have hGn3 := hG0.2.1
  have hGl := hG0.2.2.1
  obtain ⟨rw0, hTo, hW⟩ := hB
  show WpN (gp g0 wp) CLS p l e R s m args below meth c Q D_279.2.2.1 kc0 ks0 0 [some (.ref 124), some (.int a), some (.int b), some (.int c9), none] (hs, kc, ks) []
  refine g_loadA act (gx gp_279 (w := 0x103) rfl (by decide) rfl) (a := 0) (n := 1) rfl rfl rfl ?_
  refine g_loadI act (gx gp_279 (w := 0x2000202) rfl (by decide) rfl) (a := 2) (n := 2) rfl rfl rfl ?_
  refine n_call tb_pres act hEnd (gx (P := G_call) gp_279 (w := 0xa000000000000c08220000e500050f) rfl (by decide) rfl) (d' := D_229) rfl (as := [.ref 124, .int b]) (rest := []) (b_isRight (tl := tl) rw0 hTo (rfl : Int32.toInt b = _) (by omega) (by omega)) (show (2 : Nat) = fb 0xa000000000000c08220000e500050f % 16 by decide) (by show (2 : Nat) ≤ 2; decide) (fun _ => ⟨_, _, rfl, _, shp_at rw0.1, Or.inr (show fb 0xa000000000000c08220000e500050f >>> 68 = 10 by decide)⟩) (by omega) (by show 8 + (2 + 11) + 22 ≤ R.locals; omega) (by show (0 : Nat) ≤ 8; decide) (by show kc + 0 ≤ _; omega) (by show ks + 0 ≤ _; omega) (fun r9 h3 hpo hr9 => ?_) (fun x9 hs9 hx9 hpo => ?_)
  · obtain ⟨-, rfl, hin_2⟩ := hpo
    obtain ⟨rv_1, rfl, hin_2o⟩ := in1_t hin_2
    show WpN (gp g0 wp) CLS p l e R s m args below meth c Q D_279.2.2.1 kc0 ks0 5 [some (.ref 124), some (.int a), some (.int b), some (.int c9), none] (hs, kc, ks) [.int rv_1]
    refine g_ifEq act (gx gp_279 (w := 0x1c00080e) rfl (by decide) rfl) (tgt := 28) (n := 8) rfl rfl (fun h3 => ?_) (fun h3 => ?_)
    · simp only [i_eq, i0] at h3
      refine g_constI act (gx gp_279 (w := 0x40000000400000001000000001d01) rfl (by decide) rfl) (n := 29) (x := (0 : Int32)) (by decide) rfl ?_
      refine g_storeI act (gx gp_279 (w := 0x4001f10) rfl (by decide) rfl) (a := 4) (n := 31) rfl rfl (L2 := [some (.ref 124), some (.int a), some (.int b), some (.int c9), some (.int (0 : Int32))]) rfl ?_
      refine g_loadA act (gx gp_279 (w := 0x2003) rfl (by decide) rfl) (a := 0) (n := 32) rfl rfl rfl ?_
      refine g_loadA act (gx gp_279 (w := 0x2103) rfl (by decide) rfl) (a := 0) (n := 33) rfl rfl rfl ?_
      refine g_loadI act (gx gp_279 (w := 0x2002202) rfl (by decide) rfl) (a := 2) (n := 34) rfl rfl rfl ?_
      refine n_call tb_pres act hEnd (gx (P := G_call) gp_279 (w := 0xa000000000000c08220000e500250f) rfl (by decide) rfl) (d' := D_229) rfl (as := [.ref 124, .int b]) (rest := [.ref 124]) (b_isRight (tl := tl) rw0 hTo (rfl : Int32.toInt b = _) (by omega) (by omega)) (show (2 : Nat) = fb 0xa000000000000c08220000e500250f % 16 by decide) (by show (2 : Nat) ≤ 2; decide) (fun _ => ⟨_, _, rfl, _, shp_at rw0.1, Or.inr (show fb 0xa000000000000c08220000e500250f >>> 68 = 10 by decide)⟩) (by omega) (by show 8 + (2 + 11) + 22 ≤ R.locals; omega) (by show (1 : Nat) ≤ 8; decide) (by show kc + 0 ≤ _; omega) (by show ks + 0 ≤ _; omega) (fun r9 h3 hpo hr9 => ?_) (fun x9 hs9 hx9 hpo => ?_)
      · obtain ⟨-, rfl, hin_4⟩ := hpo
        obtain ⟨rv_3, rfl, hin_4o⟩ := in1_t hin_4
        show WpN (gp g0 wp) CLS p l e R s m args below meth c Q D_279.2.2.1 kc0 ks0 37 [some (.ref 124), some (.int a), some (.int b), some (.int c9), some (.int (0 : Int32))] (hs, kc, ks) [.int rv_3, .ref 124]
        refine g_loadI act (gx gp_279 (w := 0x1002602) rfl (by decide) rfl) (a := 1) (n := 38) rfl rfl rfl ?_
        refine g_loadI act (gx gp_279 (w := 0x3002702) rfl (by decide) rfl) (a := 3) (n := 39) rfl rfl rfl ?_
        refine g_loadI act (gx gp_279 (w := 0x4002902) rfl (by decide) rfl) (a := 4) (n := 41) rfl rfl rfl ?_
        refine n_call tb_pres act hEnd (gx (P := G_call) gp_279 (w := 0xa000000000000c14550000e4002c0f) rfl (by decide) rfl) (d' := D_228) rfl (as := [.ref 124, .int rv_3, .int a, .int c9, .int (0 : Int32)]) (rest := []) (b_isPriced hNW ⟨rw0, hTo, hW⟩ hM (ti := (Int32.toInt rv_3)) (rfl : Int32.toInt rv_3 = _) (by omega) (x := (Int32.toInt a)) (rfl : Int32.toInt a = _) (y := (Int32.toInt c9)) (rfl : Int32.toInt c9 = _)) (show (5 : Nat) = fb 0xa000000000000c14550000e4002c0f % 16 by decide) (by show (5 : Nat) ≤ 5; decide) (fun _ => ⟨_, _, rfl, _, shp_at rw0.1, Or.inr (show fb 0xa000000000000c14550000e4002c0f >>> 68 = 10 by decide)⟩) (by omega) (by show 8 + (5 + 11) + 251 ≤ R.locals; omega) (by show (0 : Nat) ≤ 8; decide) (by show kc + 0 ≤ _; omega) (by show ks + 0 ≤ _; omega) (fun r9 hs_5 hpo hr9 => ?_) (fun x9 hs9 hx9 hpo => ?_)
        · obtain ⟨-, hM_7, fr_6, rg, rfl, hg_8⟩ := hpo
          have rw_9 := rw0.fr fr_6 WM_rw
          have f_10 := hTo.fr (fun j9 _ => fr_6.2.2 125 j9 (by unfold WM; omega))
          have f_11 := hW.fr (fun j9 _ => fr_6.2.2 127 j9 (by unfold WM; omega))
          have fr_12 := (FrS.rf WM hs).tr fr_6
          show WpN (gp g0 wp) CLS p l e R s m args below meth c Q D_279.2.2.1 kc0 ks0 44 [some (.ref 124), some (.int a), some (.int b), some (.int c9), some (.int (0 : Int32))] (hs_5, kc, ks) [.int rg]
          rcases hg_8 with rfl | ⟨rfl, g1_13, g2_13, g3_13, g4_13, g5_13, hFD_13, hPI_13⟩
          · refine g_ifNe act (gx gp_279 (w := 0x31002f1d) rfl (by decide) rfl) (tgt := 49) (n := 47) rfl rfl (fun q => absurd q (by decide)) (fun _ => ?_)
            refine g_constL act (gx gp_279 (w := 0x40000000000000002000000003001) rfl (by decide) rfl) (n := 48) (x := 0) (by decide) rfl ?_
            exact g_retL hEnd (gx gp_279 (w := 0x19) rfl (by decide) rfl) ⟨rfl, ⟨_, rfl⟩, hM_7, fr_12⟩ (by show kc ≤ kc + 0; omega) (by show ks ≤ ks + 0; omega)
          · exfalso; omega
        · exact absurd hpo.1 (by omega)
      · exact absurd hpo.1 (by omega)
    · simp only [i_eq, i0] at h3
      refine g_constI act (gx gp_279 (w := 0x40000000c00000009000000000901) rfl (by decide) rfl) (n := 9) (x := (1 : Int32)) (by decide) rfl ?_
      refine g_loadA act (gx gp_279 (w := 0xa03) rfl (by decide) rfl) (a := 0) (n := 10) rfl rfl rfl ?_
      refine g_loadI act (gx gp_279 (w := 0x2000b02) rfl (by decide) rfl) (a := 2) (n := 11) rfl rfl rfl ?_
      refine g_constI act (gx gp_279 (w := 0x40000000c00000009000000000c01) rfl (by decide) rfl) (n := 12) (x := (1 : Int32)) (by decide) rfl ?_
      obtain ⟨j_15, hj_16⟩ := Int.eq_ofNat_of_zero_le (show (0 : Int) ≤ (Int32.toInt b) by omega)
      have hr9_19 := n8 j_15
      refine n_call tb_pres act hEnd (gx (P := G_call) gp_279 (w := 0xa000000000000c0c33000109000f0f) rfl (by decide) rfl) (d' := D_265) rfl (as := [.ref 124, .int b, .int (1 : Int32)]) (rest := [.int (1 : Int32)]) (b_right rw0 hTo ((rfl : Int32.toInt b = _).trans hj_16) (show (1 : Int32).toInt = ((1 : Nat) : Int) from by decide) (by omega) (by omega)) (show (3 : Nat) = fb 0xa000000000000c0c33000109000f0f % 16 by decide) (by show (3 : Nat) ≤ 3; decide) (fun _ => ⟨_, _, rfl, _, shp_at rw0.1, Or.inr (show fb 0xa000000000000c0c33000109000f0f >>> 68 = 10 by decide)⟩) (by omega) (by show 8 + (3 + 11) + 0 ≤ R.locals; omega) (by show (1 : Nat) ≤ 8; decide) (by show kc + 0 ≤ _; omega) (by show ks + 0 ≤ _; omega) (fun r9 h3 hpo hr9 => ?_) (fun x9 hs9 hx9 hpo => ?_)
      · obtain ⟨-, rfl, x_17, rfl, hx_18⟩ := hpo
        show WpN (gp g0 wp) CLS p l e R s m args below meth c Q D_279.2.2.1 kc0 ks0 15 [some (.ref 124), some (.int a), some (.int b), some (.int c9), none] (hs, kc, ks) [.int x_17, .int (1 : Int32)]
        refine g_ishl act (gx gp_279 (w := 0x103b) rfl (by decide) rfl) (n := 16) rfl ?_
        refine g_constI act (gx gp_279 (w := 0x40000000c00000009000000001101) rfl (by decide) rfl) (n := 17) (x := (1 : Int32)) (by decide) rfl ?_
        refine g_loadA act (gx gp_279 (w := 0x1203) rfl (by decide) rfl) (a := 0) (n := 18) rfl rfl rfl ?_
        refine g_loadI act (gx gp_279 (w := 0x2001302) rfl (by decide) rfl) (a := 2) (n := 19) rfl rfl rfl ?_
        refine g_constI act (gx gp_279 (w := 0x40000001400000011000000001401) rfl (by decide) rfl) (n := 20) (x := (2 : Int32)) (by decide) rfl ?_
        have hr9_22 := n8 j_15
        refine n_call tb_pres act hEnd (gx (P := G_call) gp_279 (w := 0xa000000000000c0c3300010900170f) rfl (by decide) rfl) (d' := D_265) rfl (as := [.ref 124, .int b, .int (2 : Int32)]) (rest := [.int (1 : Int32), .int ((1 : Int32) <<< (x_17 &&& 31))]) (b_right rw0 hTo ((rfl : Int32.toInt b = _).trans hj_16) (show (2 : Int32).toInt = ((2 : Nat) : Int) from by decide) (by omega) (by omega)) (show (3 : Nat) = fb 0xa000000000000c0c3300010900170f % 16 by decide) (by show (3 : Nat) ≤ 3; decide) (fun _ => ⟨_, _, rfl, _, shp_at rw0.1, Or.inr (show fb 0xa000000000000c0c3300010900170f >>> 68 = 10 by decide)⟩) (by omega) (by show 8 + (3 + 11) + 0 ≤ R.locals; omega) (by show (2 : Nat) ≤ 8; decide) (by show kc + 0 ≤ _; omega) (by show ks + 0 ≤ _; omega) (fun r9 h3 hpo hr9 => ?_) (fun x9 hs9 hx9 hpo => ?_)
        · obtain ⟨-, rfl, x_20, rfl, hx_21⟩ := hpo
          show WpN (gp g0 wp) CLS p l e R s m args below meth c Q D_279.2.2.1 kc0 ks0 23 [some (.ref 124), some (.int a), some (.int b), some (.int c9), none] (hs, kc, ks) [.int x_20, .int (1 : Int32), .int ((1 : Int32) <<< (x_17 &&& 31))]
          refine g_ishl act (gx gp_279 (w := 0x183b) rfl (by decide) rfl) (n := 24) rfl ?_
          refine g_ior act (gx gp_279 (w := 0x194b) rfl (by decide) rfl) (n := 25) rfl ?_
          refine g_goto act (gx gp_279 (w := 0x1d07) rfl (by decide) rfl) (n := 29) rfl ?_
          refine g_storeI act (gx gp_279 (w := 0x4001f10) rfl (by decide) rfl) (a := 4) (n := 31) rfl rfl (L2 := [some (.ref 124), some (.int a), some (.int b), some (.int c9), some (.int (((1 : Int32) <<< (x_17 &&& 31)) ||| ((1 : Int32) <<< (x_20 &&& 31))))]) rfl ?_
          refine g_loadA act (gx gp_279 (w := 0x2003) rfl (by decide) rfl) (a := 0) (n := 32) rfl rfl rfl ?_
          refine g_loadA act (gx gp_279 (w := 0x2103) rfl (by decide) rfl) (a := 0) (n := 33) rfl rfl rfl ?_
          refine g_loadI act (gx gp_279 (w := 0x2002202) rfl (by decide) rfl) (a := 2) (n := 34) rfl rfl rfl ?_
          refine n_call tb_pres act hEnd (gx (P := G_call) gp_279 (w := 0xa000000000000c08220000e500250f) rfl (by decide) rfl) (d' := D_229) rfl (as := [.ref 124, .int b]) (rest := [.ref 124]) (b_isRight (tl := tl) rw0 hTo ((rfl : Int32.toInt b = _).trans hj_16) (by omega) (by omega)) (show (2 : Nat) = fb 0xa000000000000c08220000e500250f % 16 by decide) (by show (2 : Nat) ≤ 2; decide) (fun _ => ⟨_, _, rfl, _, shp_at rw0.1, Or.inr (show fb 0xa000000000000c08220000e500250f >>> 68 = 10 by decide)⟩) (by omega) (by show 8 + (2 + 11) + 22 ≤ R.locals; omega) (by show (1 : Nat) ≤ 8; decide) (by show kc + 0 ≤ _; omega) (by show ks + 0 ≤ _; omega) (fun r9 h3 hpo hr9 => ?_) (fun x9 hs9 hx9 hpo => ?_)
          · obtain ⟨-, rfl, hin_24⟩ := hpo
            obtain ⟨rv_23, rfl, hin_24o⟩ := in1_t hin_24
            show WpN (gp g0 wp) CLS p l e R s m args below meth c Q D_279.2.2.1 kc0 ks0 37 [some (.ref 124), some (.int a), some (.int b), some (.int c9), some (.int (((1 : Int32) <<< (x_17 &&& 31)) ||| ((1 : Int32) <<< (x_20 &&& 31))))] (hs, kc, ks) [.int rv_23, .ref 124]
            refine g_loadI act (gx gp_279 (w := 0x1002602) rfl (by decide) rfl) (a := 1) (n := 38) rfl rfl rfl ?_
            refine g_loadI act (gx gp_279 (w := 0x3002702) rfl (by decide) rfl) (a := 3) (n := 39) rfl rfl rfl ?_
            refine g_loadI act (gx gp_279 (w := 0x4002902) rfl (by decide) rfl) (a := 4) (n := 41) rfl rfl rfl ?_
            refine n_call tb_pres act hEnd (gx (P := G_call) gp_279 (w := 0xa000000000000c14550000e4002c0f) rfl (by decide) rfl) (d' := D_228) rfl (as := [.ref 124, .int rv_23, .int a, .int c9, .int (((1 : Int32) <<< (x_17 &&& 31)) ||| ((1 : Int32) <<< (x_20 &&& 31)))]) (rest := []) (b_isPriced hNW ⟨rw0, hTo, hW⟩ hM (ti := (Int32.toInt rv_23)) (rfl : Int32.toInt rv_23 = _) (by omega) (x := (Int32.toInt a)) (rfl : Int32.toInt a = _) (y := (Int32.toInt c9)) (rfl : Int32.toInt c9 = _)) (show (5 : Nat) = fb 0xa000000000000c14550000e4002c0f % 16 by decide) (by show (5 : Nat) ≤ 5; decide) (fun _ => ⟨_, _, rfl, _, shp_at rw0.1, Or.inr (show fb 0xa000000000000c14550000e4002c0f >>> 68 = 10 by decide)⟩) (by omega) (by show 8 + (5 + 11) + 251 ≤ R.locals; omega) (by show (0 : Nat) ≤ 8; decide) (by show kc + 0 ≤ _; omega) (by show ks + 0 ≤ _; omega) (fun r9 hs_25 hpo hr9 => ?_) (fun x9 hs9 hx9 hpo => ?_)
            · obtain ⟨-, hM_27, fr_26, rg, rfl, hg_28⟩ := hpo
              have rw_29 := rw0.fr fr_26 WM_rw
              have f_30 := hTo.fr (fun j9 _ => fr_26.2.2 125 j9 (by unfold WM; omega))
              have f_31 := hW.fr (fun j9 _ => fr_26.2.2 127 j9 (by unfold WM; omega))
              have fr_32 := (FrS.rf WM hs).tr fr_26
              show WpN (gp g0 wp) CLS p l e R s m args below meth c Q D_279.2.2.1 kc0 ks0 44 [some (.ref 124), some (.int a), some (.int b), some (.int c9), some (.int (((1 : Int32) <<< (x_17 &&& 31)) ||| ((1 : Int32) <<< (x_20 &&& 31))))] (hs_25, kc, ks) [.int rg]
              rcases hg_28 with rfl | ⟨rfl, g1_33, g2_33, g3_33, g4_33, g5_33, hFD_33, hPI_33⟩
              · refine g_ifNe act (gx gp_279 (w := 0x31002f1d) rfl (by decide) rfl) (tgt := 49) (n := 47) rfl rfl (fun q => absurd q (by decide)) (fun _ => ?_)
                refine g_constL act (gx gp_279 (w := 0x40000000000000002000000003001) rfl (by decide) rfl) (n := 48) (x := 0) (by decide) rfl ?_
                exact g_retL hEnd (gx gp_279 (w := 0x19) rfl (by decide) rfl) ⟨rfl, ⟨_, rfl⟩, hM_27, fr_32⟩ (by show kc ≤ kc + 0; omega) (by show ks ≤ ks + 0; omega)
              · obtain ⟨⟨frw_34, fTo_34, fW_34⟩, ⟨hG_34, ⟨oi_34, f24_34, hoi_34⟩, ⟨dm_34, fD_34, hdm_34⟩, ⟨lm_34, fL_34, hlm_34⟩, ⟨em_34, fE_34, hem_34⟩, ⟨cp_34, fC_34, hcp_34⟩⟩, fFo_34, ⟨fK0_34, fK1_34⟩⟩ := hFD_33
                obtain ⟨⟨ct_34, cl_34, f29_34, f30_34, hck_34⟩, fKO_34⟩ := found_k hG_34 fFo_34
                have fO7_34 := found_k7 hG_34 fFo_34
                have fP0_34 := pri_k (k := (tl (22 + 4 * j_15 + 1)).toNat) hG_34 hPI_33 (by omega) (bit_two (show _ = (((tl (22 + 4 * j_15 + 1)).toNat : Nat) : Int) by have q9 := hx_18; omega) (show _ = (((tl (22 + 4 * j_15 + 2)).toNat : Nat) : Int) by have q9 := hx_21; omega) (by omega) (by omega)).1
                have fP1_34 := pri_k (k := (tl (22 + 4 * j_15 + 2)).toNat) hG_34 hPI_33 (by omega) (bit_two (show _ = (((tl (22 + 4 * j_15 + 1)).toNat : Nat) : Int) by have q9 := hx_18; omega) (show _ = (((tl (22 + 4 * j_15 + 2)).toNat : Nat) : Int) by have q9 := hx_21; omega) (by omega) (by omega)).2
                refine g_ifNe act (gx gp_279 (w := 0x31002f1d) rfl (by decide) rfl) (tgt := 49) (n := 47) rfl rfl (fun _ => ?_) (fun q => absurd (by decide) q)
                refine g_loadA act (gx gp_279 (w := 0x3203) rfl (by decide) rfl) (a := 0) (n := 50) rfl rfl rfl ?_
                refine g_loadI act (gx gp_279 (w := 0x2003302) rfl (by decide) rfl) (a := 2) (n := 51) rfl rfl rfl ?_
                have hr9 := n8 j_15
                refine n_call tb_pres act hEnd (gx (P := G_call) gp_279 (w := 0xa0000000000008082200011800360f) rfl (by decide) rfl) (d' := D_280) rfl (as := [.ref 124, .int b]) (rest := []) (b_targets hNW (r9 := j_15) ((rfl : Int32.toInt b = _).trans hj_16) (by omega) ⟨frw_34, fTo_34, fW_34⟩ fP1_34 fP0_34 hM_27) (show (2 : Nat) = fb 0xa0000000000008082200011800360f % 16 by decide) (by show (2 : Nat) ≤ 2; decide) (fun _ => ⟨_, _, rfl, _, shp_at frw_34.1, Or.inr (show fb 0xa0000000000008082200011800360f >>> 68 = 10 by decide)⟩) (by omega) (by show 8 + (2 + 11) + 107 ≤ R.locals; omega) (by show (0 : Nat) ≤ 8; decide) (by show kc + 0 ≤ _; omega) (by show ks + 0 ≤ _; omega) (fun r9 hs_35 hpo hr9 => ?_) (fun x9 hs9 hx9 hpo => ?_)
                · obtain rfl : r9 = none := hr9.elim (fun q => q.2) (fun q => absurd rfl q.1)
                  obtain ⟨-, t_36, w_37, e_38, e_39, hK_40, fr_41⟩ := hpo
                  have hM_42 := ModF.w0 hM_27 fr_41
                  have rw_43 := frw_34.fr fr_41 W0_rw
                  have f_45 := fTo_34.fr (fun j9 _ => fr_41.2.2 125 j9 (by unfold W0; omega))
                  have f_46 := fW_34.fr (fun j9 _ => fr_41.2.2 127 j9 (by unfold W0; omega))
                  have f_47 := fD_34.fr (fun j9 _ => fr_41.2.2 135 j9 (by unfold W0; omega))
                  have f_48 := fL_34.fr (fun j9 _ => fr_41.2.2 136 j9 (by unfold W0; omega))
                  have f_49 := fE_34.fr (fun j9 _ => fr_41.2.2 137 j9 (by unfold W0; omega))
                  have f_50 := fC_34.fr (fun j9 _ => fr_41.2.2 138 j9 (by unfold W0; omega))
                  have f_51 := rd_fr fr_41 f24_34 (by unfold W0; omega)
                  have f_52 := rd_fr fr_41 f29_34 (by unfold W0; omega)
                  have f_53 := rd_fr fr_41 f30_34 (by unfold W0; omega)
                  have f_54 := fK0_34.fr (fun j9 _ _ => ⟨fr_41.2.2 131 j9 (by unfold W0; omega), fr_41.2.2 132 j9 (by unfold W0; omega)⟩)
                  have f_55 := fun q9 => (fK1_34 q9).fr (fun j9 _ _ => ⟨fr_41.2.2 131 j9 (by unfold W0; omega), fr_41.2.2 132 j9 (by unfold W0; omega)⟩)
                  have f_56 := fFo_34.fr fr_41 (fun j9 => by unfold W0; omega) (by unfold W0; omega) (by unfold W0; omega)
                  have f_57 := fO7_34.fr (fun j9 _ _ => ⟨fr_41.2.2 142 j9 (by unfold W0; omega), fr_41.2.2 143 j9 (by unfold W0; omega)⟩)
                  have f_58 := fP0_34.fr (fun j9 _ _ => ⟨fr_41.2.2 144 j9 (by unfold W0; omega), fr_41.2.2 145 j9 (by unfold W0; omega)⟩)
                  have f_59 := fP1_34.fr (fun j9 _ _ => ⟨fr_41.2.2 144 j9 (by unfold W0; omega), fr_41.2.2 145 j9 (by unfold W0; omega)⟩)
                  have fr_60 := fr_32.tr (fr_41.mono (fun k9 j9 h9 => by unfold W0 at h9; unfold WM; omega))
                  clear frw_34 hM_27 fTo_34 fW_34 fD_34 fL_34 fE_34 fC_34 f24_34 f29_34 f30_34 fK0_34 fK1_34 fFo_34 fO7_34 fP0_34 fP1_34 fr_32
                  show WpN (gp g0 wp) CLS p l e R s m args below meth c Q D_279.2.2.1 kc0 ks0 54 [some (.ref 124), some (.int a), some (.int b), some (.int c9), some (.int (((1 : Int32) <<< (x_17 &&& 31)) ||| ((1 : Int32) <<< (x_20 &&& 31))))] (hs_35, kc, ks) []
                  refine g_loadA act (gx gp_279 (w := 0x3703) rfl (by decide) rfl) (a := 0) (n := 55) rfl rfl rfl ?_
                  refine g_loadI act (gx gp_279 (w := 0x3003802) rfl (by decide) rfl) (a := 3) (n := 56) rfl rfl rfl ?_
                  refine n_call tb_pres act hEnd (gx (P := G_call) gp_279 (w := 0xa000000000000c08220000fa003b0f) rfl (by decide) rfl) (d' := D_250) rfl (as := [.ref 124, .int c9]) (rest := []) (b_part rw_43.1 e_38 e_39) (show (2 : Nat) = fb 0xa000000000000c08220000fa003b0f % 16 by decide) (by show (2 : Nat) ≤ 2; decide) (fun _ => ⟨_, _, rfl, _, shp_at rw_43.1, Or.inr (show fb 0xa000000000000c08220000fa003b0f >>> 68 = 10 by decide)⟩) (by omega) (by show 8 + (2 + 11) + 0 ≤ R.locals; omega) (by show (0 : Nat) ≤ 8; decide) (by show kc + 0 ≤ _; omega) (by show ks + 0 ≤ _; omega) (fun r9 h3 hpo hr9 => ?_) (fun x9 hs9 hx9 hpo => ?_)
                  · obtain ⟨-, rfl, pv_61, rfl⟩ := hpo
                    show WpN (gp g0 wp) CLS p l e R s m args below meth c Q D_279.2.2.1 kc0 ks0 59 [some (.ref 124), some (.int a), some (.int b), some (.int c9), some (.int (((1 : Int32) <<< (x_17 &&& 31)) ||| ((1 : Int32) <<< (x_20 &&& 31))))] (hs_35, kc, ks) [.long pv_61]
                    exact g_retL hEnd (gx gp_279 (w := 0x19) rfl (by decide) rfl) ⟨rfl, ⟨_, rfl⟩, hM_42, fr_60⟩ (by show kc ≤ kc + 0; omega) (by show ks ≤ ks + 0; omega)
                  · exact absurd hpo.1 (by omega)
                · exact absurd hpo.1 (by omega)
            · exact absurd hpo.1 (by omega)
          · exact absurd hpo.1 (by omega)
        · exact absurd hpo.1 (by omega)
      · exact absurd hpo.1 (by omega)
  · exact absurd hpo.1 (by omega)

theorem pay_1 {g0 : GG} {bl : Nat} {xs : Nat → Int32} {l : Launch} {wp : va_W} {p : Program} {e : Env} {R : Room} {s : State} {m : MethodId} {args : Array Value} {below : List Frame} {meth : Method} {c : Code} {Q : State → Prop} {kc0 ks0 kc ks f lam KC KS : Nat} {hs : List CE} {tl wl : Nat → Int} {nl n ng nr : Nat} (hNW : NW tl wl nl n ng nr) {dm : Nat → Int} (hdm : ∀ j, 0 ≤ dm j ∧ dm j ≤ 220) (hf : 4 ≤ R.frames) (hl : 115 ≤ R.locals) (hc : kc ≤ R.cells + kc0) (hsl : ks ≤ R.slots + ks0) (act : Act SSX TBL (gp g0 wp) CLS bl xs D_251 p l s m args meth c) (hEnd : EndN SSX TBL (gp g0 wp) CLS D_251 p l e R s m args below meth c Q kc0 ks0 f lam KC KS (fun kd _ h2 => kd = 0 ∧ ∃ x y : Int64, rd h2 124 35 = .long x ∧ rd h2 124 36 = .long y ∧ K2 7 y ∧ ModF h2 ∧ FrS WSm hs h2)) (hk1 : kc ≤ KC) (hk2 : ks ≤ KS) : ∀ j9 : Nat, j9 ≤ n + 1 → ∀ (xi : Int32) (s1 s2 : Int64) (hj : List CE), xi.toInt = (j9 : Int) → K2 7 s2 → RW hj → IArr hj 125 46 tl → IArr hj 127 39 wl → IArr hj 135 4 dm → KR hj 144 145 0 (n + 1) 7 → ModF hj → rd hj 124 35 = .long s1 → rd hj 124 36 = .long s2 → FrS WSm hs hj → WpN (gp g0 wp) CLS p l e R s m args below meth c Q D_251.2.2.1 kc0 ks0 6 [some (.ref 124), some (.int xi)] (hj, kc, ks) [] := by
  have hN9 := hNW
  obtain ⟨n0, n1, n2, n3, n4, n5, n6, n7, n8, hG0, nL, nC, nP, nD⟩ := hN9
  have hGn := hG0.1
  have hGn3 := hG0.2.1
  have hGl := hG0.2.2.1
  refine dn (fun j9 hj9 ih => ?_)
  intro xi s1 s2 hj hxi hks rwj fTo fW fD hP hM e35 e36 hfr
  refine g_loadI act (gx gp_251 (w := 0x1000702) rfl (by decide) rfl) (a := 1) (n := 7) rfl rfl rfl ?_
  refine g_loadA act (gx gp_251 (w := 0x803) rfl (by decide) rfl) (a := 0) (n := 8) rfl rfl rfl ?_
  refine r_getf act (gx gp_251 (w := 0x3000049000b04) rfl (by decide) rfl) (n := 11) (ci := 9) (j := 1) (N := 39) rfl rfl rfl rwj.1 (by decide) (rwj.2 (1, 125, 32, 46) (by decide)).1 ?_
  refine g_constI act (gx gp_251 (w := 0x40000000400000001000000000c01) rfl (by decide) rfl) (n := 12) (x := (0 : Int32)) (by decide) rfl ?_
  obtain ⟨x_1, e_2, hx_3⟩ := fTo 0 (by omega)
  refine r_iald act (gx gp_251 (w := 0xd1a) rfl (by decide) rfl) (n := 13) (j := 0) rfl (rwj.2 (1, 125, 32, 46) (by decide)).2 (show (0 : Int32).toInt = ((0 : Nat) : Int) from by decide) (show 0 < 46 by omega) (v := .int x_1) e_2 ?_
  refine g_icmpGe act (gx gp_251 (w := 0x2e001008) rfl (by decide) rfl) (tgt := 46) (n := 16) rfl rfl (fun h4 => ?_) (fun h4 => ?_)
  · simp only [i_le] at h4
    exact g_retV hEnd (gx gp_251 (w := 0x18) rfl (by decide) rfl) ⟨rfl, _, _, e35, e36, hks, hM, hfr⟩ hk1 hk2
  · simp only [i_le] at h4
    refine g_loadA act (gx gp_251 (w := 0x1103) rfl (by decide) rfl) (a := 0) (n := 17) rfl rfl rfl ?_
    refine g_loadA act (gx gp_251 (w := 0x1203) rfl (by decide) rfl) (a := 0) (n := 18) rfl rfl rfl ?_
    refine r_getf act (gx gp_251 (w := 0x3000849001504) rfl (by decide) rfl) (n := 21) (ci := 9) (j := 33) (N := 39) rfl rfl rfl rwj.1 (by decide) (rwj.2 (33, 144, 33, 4) (by decide)).1 ?_
    refine g_loadI act (gx gp_251 (w := 0x1001602) rfl (by decide) rfl) (a := 1) (n := 22) rfl rfl rfl ?_
    obtain ⟨x_4, w_7, e_5, e_8, hx_6⟩ := hP j9 (by omega) (by omega)
    refine r_lald act (gx gp_251 (w := 0x170d) rfl (by decide) rfl) (n := 23) (j := j9) rfl (rwj.2 (33, 144, 33, 4) (by decide)).2 hxi (show j9 < 4 by omega) (v := .long x_4) e_5 ?_
    refine g_loadA act (gx gp_251 (w := 0x1803) rfl (by decide) rfl) (a := 0) (n := 24) rfl rfl rfl ?_
    refine r_getf act (gx gp_251 (w := 0x3000889001b04) rfl (by decide) rfl) (n := 27) (ci := 9) (j := 34) (N := 39) rfl rfl rfl rwj.1 (by decide) (rwj.2 (34, 145, 33, 4) (by decide)).1 ?_
    refine g_loadI act (gx gp_251 (w := 0x1001c02) rfl (by decide) rfl) (a := 1) (n := 28) rfl rfl rfl ?_
    refine r_lald act (gx gp_251 (w := 0x1d0d) rfl (by decide) rfl) (n := 29) (j := j9) rfl (rwj.2 (34, 145, 33, 4) (by decide)).2 hxi (show j9 < 4 by omega) (v := .long w_7) e_8 ?_
    refine g_loadA act (gx gp_251 (w := 0x1e03) rfl (by decide) rfl) (a := 0) (n := 30) rfl rfl rfl ?_
    refine r_getf act (gx gp_251 (w := 0x3000509002104) rfl (by decide) rfl) (n := 33) (ci := 9) (j := 20) (N := 39) rfl rfl rfl rwj.1 (by decide) (rwj.2 (20, 135, 32, 4) (by decide)).1 ?_
    refine g_loadI act (gx gp_251 (w := 0x1002202) rfl (by decide) rfl) (a := 1) (n := 34) rfl rfl rfl ?_
    obtain ⟨x_14, e_15, hx_16⟩ := fD j9 (by omega)
    have b_17 := hdm j9
    refine r_iald act (gx gp_251 (w := 0x231a) rfl (by decide) rfl) (n := 35) (j := j9) rfl (rwj.2 (20, 135, 32, 4) (by decide)).2 hxi (show j9 < 4 by omega) (v := .int x_14) e_15 ?_
    refine g_i2l act (gx gp_251 (w := 0x242c) rfl (by decide) rfl) (n := 36) rfl ?_
    have v_18 := lw_i2l hx_16
    refine g_constL act (gx gp_251 (w := 0x4000000000000000a000000002501) rfl (by decide) rfl) (n := 37) (x := 1) (by decide) rfl ?_
    refine n_call tb_pres act hEnd (gx (P := G_call) gp_251 (w := 0xa0000000000008249500011200280f) rfl (by decide) rfl) (d' := D_274) rfl (as := [.ref 124, .long x_4, .long w_7, .long (x_14).toInt64, .long (1 : Int64)]) (rest := []) (b_sums (k1 := 7) (k2 := 1) (k := 7) rwj hM e35 e36 hx_6 k2_one (hks.mono (by omega)) (by omega) (by omega) (by omega)) (show (5 : Nat) = fb 0xa0000000000008249500011200280f % 16 by decide) (by show (9 : Nat) ≤ 9; decide) (fun _ => ⟨_, _, rfl, _, shp_at rwj.1, Or.inr (show fb 0xa0000000000008249500011200280f >>> 68 = 10 by decide)⟩) (by omega) (by show 8 + (9 + 11) + 87 ≤ R.locals; omega) (by show (0 : Nat) ≤ 8; decide) (by show kc + 0 ≤ _; omega) (by show ks + 0 ≤ _; omega) (fun r9 hs_19 hpo hr9 => ?_) (fun x9 hs9 hx9 hpo => ?_)
    · obtain rfl : r9 = none := hr9.elim (fun q => q.2) (fun q => absurd rfl q.1)
      obtain ⟨-, sx_24, sw_25, e_22, e_23, hk_26, hM_21, fr_20⟩ := hpo
      have rw_27 := rwj.fr fr_20 WSm_rw
      have f_28 := fTo.fr (fun j9 _ => fr_20.2.2 125 j9 (by unfold WSm; omega))
      have f_29 := fW.fr (fun j9 _ => fr_20.2.2 127 j9 (by unfold WSm; omega))
      have f_30 := fD.fr (fun j9 _ => fr_20.2.2 135 j9 (by unfold WSm; omega))
      have f_31 := hP.fr (fun j9 _ _ => ⟨fr_20.2.2 144 j9 (by unfold WSm; omega), fr_20.2.2 145 j9 (by unfold WSm; omega)⟩)
      have fr_33 := hfr.tr fr_20
      clear rwj fTo fW fD hP hM e35 e36 hfr
      show WpN (gp g0 wp) CLS p l e R s m args below meth c Q D_251.2.2.1 kc0 ks0 40 [some (.ref 124), some (.int xi)] (hs_19, kc, ks) []
      refine g_iinc act (gx gp_251 (w := 0x80000001000001002b09) rfl (by decide) rfl) (a := 1) (i := (1 : Int32)) (n := 43) rfl (by decide) rfl rfl (L2 := [some (.ref 124), some (.int (xi + (1 : Int32)))]) rfl ?_
      have v_34 := iv_addN hxi (show (1 : Int32).toInt = ((1 : Nat) : Int) from by decide) (show (j9 + 1) < 2147483648 by omega)
      refine g_goto act (gx gp_251 (w := 0x607) rfl (by decide) rfl) (n := 6) rfl ?_
      exact ih (j9 + 1) (by omega) (by omega) _ _ _ _ v_34 hk_26 rw_27 f_28 f_29 f_30 f_31 hM_21 e_22 e_23 fr_33
    · exact absurd hpo.1 (by omega)

theorem b_payments {g0 : GG} {bl : Nat} {xs : Nat → Int32} {l : Launch} {hs : List CE} {tl wl : Nat → Int} {nl n ng nr : Nat} (hNW : NW tl wl nl n ng nr) {dm : Nat → Int} (hdm : ∀ j, 0 ≤ dm j ∧ dm j ≤ 220) (rw0 : RW hs) (fTo : IArr hs 125 46 tl) (fW : IArr hs 127 39 wl) (fD : IArr hs 135 4 dm) (hP : KR hs 144 145 0 (n + 1) 7) (hM : ModF hs) : BodyN SSX TBL g0 CLS bl xs l D_251 4 115 0 0 [.ref 124] hs (fun kd _ h2 => kd = 0 ∧ ∃ x y : Int64, rd h2 124 35 = .long x ∧ rd h2 124 36 = .long y ∧ K2 7 y ∧ ModF h2 ∧ FrS WSm hs h2) := by
  intro wp p e R s m args below meth c Q kc0 ks0 kc ks act hf hl hc hsl hEnd
  have hN9 := hNW
  obtain ⟨n0, n1, n2, n3, n4, n5, n6, n7, n8, hG0, nL, nC, nP, nD⟩ := hN9
  have hGn := hG0.1
  have hGn3 := hG0.2.1
  have hGl := hG0.2.2.1
  show WpN (gp g0 wp) CLS p l e R s m args below meth c Q D_251.2.2.1 kc0 ks0 0 [some (.ref 124), none] (hs, kc, ks) []
  refine g_loadA act (gx gp_251 (w := 0x103) rfl (by decide) rfl) (a := 0) (n := 1) rfl rfl rfl ?_
  refine n_call tb_pres act hEnd (gx (P := G_call) gp_251 (w := 0xa000000000000804110000b700040f) rfl (by decide) rfl) (d' := D_183) rfl (as := [.ref 124]) (rest := []) (b_begins rw0 hM) (show (1 : Nat) = fb 0xa000000000000804110000b700040f % 16 by decide) (by show (1 : Nat) ≤ 1; decide) (fun _ => ⟨_, _, rfl, _, shp_at rw0.1, Or.inr (show fb 0xa000000000000804110000b700040f >>> 68 = 10 by decide)⟩) (by omega) (by show 8 + (1 + 11) + 0 ≤ R.locals; omega) (by show (0 : Nat) ≤ 8; decide) (by show kc + 0 ≤ _; omega) (by show ks + 0 ≤ _; omega) (fun r9 hs_1 hpo hr9 => ?_) (fun x9 hs9 hx9 hpo => ?_)
  · obtain rfl : r9 = none := hr9.elim (fun q => q.2) (fun q => absurd rfl q.1)
    obtain ⟨-, e_4, e_5, hM_3, fr_2⟩ := hpo
    have rw_6 := rw0.fr fr_2 WSm_rw
    have f_7 := fTo.fr (fun j9 _ => fr_2.2.2 125 j9 (by unfold WSm; omega))
    have f_8 := fW.fr (fun j9 _ => fr_2.2.2 127 j9 (by unfold WSm; omega))
    have f_9 := fD.fr (fun j9 _ => fr_2.2.2 135 j9 (by unfold WSm; omega))
    have f_10 := hP.fr (fun j9 _ _ => ⟨fr_2.2.2 144 j9 (by unfold WSm; omega), fr_2.2.2 145 j9 (by unfold WSm; omega)⟩)
    have fr_12 := (FrS.rf WSm hs).tr fr_2
    show WpN (gp g0 wp) CLS p l e R s m args below meth c Q D_251.2.2.1 kc0 ks0 4 [some (.ref 124), none] (hs_1, kc, ks) []
    refine g_constI act (gx gp_251 (w := 0x40000000400000001000000000501) rfl (by decide) rfl) (n := 5) (x := (0 : Int32)) (by decide) rfl ?_
    refine g_storeI act (gx gp_251 (w := 0x1000610) rfl (by decide) rfl) (a := 1) (n := 6) rfl rfl (L2 := [some (.ref 124), some (.int (0 : Int32))]) rfl ?_
    exact pay_1 hNW hdm hf hl hc hsl act hEnd (by omega) (by omega) 0 (by omega) _ _ _ _ rfl (k2_one.mono (by decide)) rw_6 f_7 f_8 f_9 f_10 hM_3 e_4 e_5 fr_12
  · exact absurd hpo.1 (by omega)

theorem sur_1 {g0 : GG} {bl : Nat} {xs : Nat → Int32} {l : Launch} {wp : va_W} {p : Program} {e : Env} {R : Room} {s : State} {m : MethodId} {args : Array Value} {below : List Frame} {meth : Method} {c : Code} {Q : State → Prop} {kc0 ks0 kc ks f lam KC KS : Nat} {hs : List CE} {tl wl : Nat → Int} {nl n ng nr : Nat} (hNW : NW tl wl nl n ng nr) {dm : Nat → Int} (hdm : ∀ j, 0 ≤ dm j ∧ dm j ≤ 220) (hf : 5 ≤ R.frames) (hl : 136 ≤ R.locals) (hc : kc ≤ R.cells + kc0) (hsl : ks ≤ R.slots + ks0) (act : Act SSX TBL (gp g0 wp) CLS bl xs D_276 p l s m args meth c) (hEnd : EndN SSX TBL (gp g0 wp) CLS D_276 p l e R s m args below meth c Q kc0 ks0 f lam KC KS (fun kd _ h2 => kd = 0 ∧ ∃ x y : Int64, rd h2 124 35 = .long x ∧ rd h2 124 36 = .long y ∧ K2 13 y ∧ ModF h2 ∧ FrS WSm hs h2)) (hk1 : kc ≤ KC) (hk2 : ks ≤ KS) : ∀ j9 : Nat, j9 ≤ ng → ∀ (xi : Int32) (s1 s2 : Int64) (hj : List CE), xi.toInt = (j9 : Int) → K2 13 s2 → RW hj → IArr hj 125 46 tl → IArr hj 127 39 wl → IArr hj 135 4 dm → KR hj 144 145 0 (n + 1) 7 → KR hj 142 143 0 5 7 → ModF hj → rd hj 124 35 = .long s1 → rd hj 124 36 = .long s2 → FrS WSm hs hj → WpN (gp g0 wp) CLS p l e R s m args below meth c Q D_276.2.2.1 kc0 ks0 6 [some (.ref 124), some (.int xi), none] (hj, kc, ks) [] := by
  have hN9 := hNW
  obtain ⟨n0, n1, n2, n3, n4, n5, n6, n7, n8, hG0, nL, nC, nP, nD⟩ := hN9
  have hGn := hG0.1
  have hGn3 := hG0.2.1
  have hGl := hG0.2.2.1
  refine dn (fun j9 hj9 ih => ?_)
  intro xi s1 s2 hj hxi hks rwj fTo fW fD hP hO hM e35 e36 hfr
  have hag := n7 j9
  refine g_loadI act (gx gp_276 (w := 0x1000702) rfl (by decide) rfl) (a := 1) (n := 7) rfl rfl rfl ?_
  refine g_loadA act (gx gp_276 (w := 0x803) rfl (by decide) rfl) (a := 0) (n := 8) rfl rfl rfl ?_
  refine r_getf act (gx gp_276 (w := 0x3000049000b04) rfl (by decide) rfl) (n := 11) (ci := 9) (j := 1) (N := 39) rfl rfl rfl rwj.1 (by decide) (rwj.2 (1, 125, 32, 46) (by decide)).1 ?_
  refine g_constI act (gx gp_276 (w := 0x40000001c00000019000000000c01) rfl (by decide) rfl) (n := 12) (x := (3 : Int32)) (by decide) rfl ?_
  obtain ⟨x_1, e_2, hx_3⟩ := fTo 3 (by omega)
  refine r_iald act (gx gp_276 (w := 0xd1a) rfl (by decide) rfl) (n := 13) (j := 3) rfl (rwj.2 (1, 125, 32, 46) (by decide)).2 (show (3 : Int32).toInt = ((3 : Nat) : Int) from by decide) (show 3 < 46 by omega) (v := .int x_1) e_2 ?_
  refine g_icmpGe act (gx gp_276 (w := 0x3d001008) rfl (by decide) rfl) (tgt := 61) (n := 16) rfl rfl (fun h4 => ?_) (fun h4 => ?_)
  · simp only [i_le] at h4
    exact g_retV hEnd (gx gp_276 (w := 0x18) rfl (by decide) rfl) ⟨rfl, _, _, e35, e36, hks, hM, hfr⟩ hk1 hk2
  · simp only [i_le] at h4
    refine g_loadA act (gx gp_276 (w := 0x1103) rfl (by decide) rfl) (a := 0) (n := 17) rfl rfl rfl ?_
    refine r_getf act (gx gp_276 (w := 0x3000049001404) rfl (by decide) rfl) (n := 20) (ci := 9) (j := 1) (N := 39) rfl rfl rfl rwj.1 (by decide) (rwj.2 (1, 125, 32, 46) (by decide)).1 ?_
    refine g_constI act (gx gp_276 (w := 0x40000008c00000089000000001601) rfl (by decide) rfl) (n := 22) (x := (17 : Int32)) (by decide) rfl ?_
    refine g_loadI act (gx gp_276 (w := 0x1001702) rfl (by decide) rfl) (a := 1) (n := 23) rfl rfl rfl ?_
    refine g_iadd act (gx gp_276 (w := 0x180a) rfl (by decide) rfl) (n := 24) rfl ?_
    have v_4 := iv_addN (show (17 : Int32).toInt = ((17 : Nat) : Int) from by decide) hxi (show (17 + j9) < 2147483648 by omega)
    obtain ⟨x_5, e_6, hx_7⟩ := fTo (17 + j9) (by omega)
    refine r_iald act (gx gp_276 (w := 0x191a) rfl (by decide) rfl) (n := 25) (j := (17 + j9)) rfl (rwj.2 (1, 125, 32, 46) (by decide)).2 v_4 (show (17 + j9) < 46 by omega) (v := .int x_5) e_6 ?_
    refine g_storeI act (gx gp_276 (w := 0x2001a10) rfl (by decide) rfl) (a := 2) (n := 26) rfl rfl (L2 := [some (.ref 124), some (.int xi), some (.int x_5)]) rfl ?_
    refine g_loadA act (gx gp_276 (w := 0x1b03) rfl (by decide) rfl) (a := 0) (n := 27) rfl rfl rfl ?_
    refine g_loadA act (gx gp_276 (w := 0x1c03) rfl (by decide) rfl) (a := 0) (n := 28) rfl rfl rfl ?_
    refine r_getf act (gx gp_276 (w := 0x3000849001f04) rfl (by decide) rfl) (n := 31) (ci := 9) (j := 33) (N := 39) rfl rfl rfl rwj.1 (by decide) (rwj.2 (33, 144, 33, 4) (by decide)).1 ?_
    refine g_loadI act (gx gp_276 (w := 0x2002002) rfl (by decide) rfl) (a := 2) (n := 32) rfl rfl rfl ?_
    obtain ⟨j_8, hj_9⟩ := Int.eq_ofNat_of_zero_le (show (0 : Int) ≤ (tl (17 + j9)) by omega)
    obtain ⟨x_10, w_13, e_11, e_14, hx_12⟩ := hP j_8 (by omega) (by omega)
    refine r_lald act (gx gp_276 (w := 0x210d) rfl (by decide) rfl) (n := 33) (j := j_8) rfl (rwj.2 (33, 144, 33, 4) (by decide)).2 (hx_7.trans hj_9) (show j_8 < 4 by omega) (v := .long x_10) e_11 ?_
    refine g_loadA act (gx gp_276 (w := 0x2203) rfl (by decide) rfl) (a := 0) (n := 34) rfl rfl rfl ?_
    refine r_getf act (gx gp_276 (w := 0x3000889002504) rfl (by decide) rfl) (n := 37) (ci := 9) (j := 34) (N := 39) rfl rfl rfl rwj.1 (by decide) (rwj.2 (34, 145, 33, 4) (by decide)).1 ?_
    refine g_loadI act (gx gp_276 (w := 0x2002602) rfl (by decide) rfl) (a := 2) (n := 38) rfl rfl rfl ?_
    refine r_lald act (gx gp_276 (w := 0x270d) rfl (by decide) rfl) (n := 39) (j := j_8) rfl (rwj.2 (34, 145, 33, 4) (by decide)).2 (hx_7.trans hj_9) (show j_8 < 4 by omega) (v := .long w_13) e_14 ?_
    refine g_loadA act (gx gp_276 (w := 0x2803) rfl (by decide) rfl) (a := 0) (n := 40) rfl rfl rfl ?_
    refine r_getf act (gx gp_276 (w := 0x30007c9002b04) rfl (by decide) rfl) (n := 43) (ci := 9) (j := 31) (N := 39) rfl rfl rfl rwj.1 (by decide) (rwj.2 (31, 142, 33, 5) (by decide)).1 ?_
    refine g_loadI act (gx gp_276 (w := 0x1002c02) rfl (by decide) rfl) (a := 1) (n := 44) rfl rfl rfl ?_
    obtain ⟨x_20, w_23, e_21, e_24, hx_22⟩ := hO j9 (by omega) (by omega)
    refine r_lald act (gx gp_276 (w := 0x2d0d) rfl (by decide) rfl) (n := 45) (j := j9) rfl (rwj.2 (31, 142, 33, 5) (by decide)).2 hxi (show j9 < 5 by omega) (v := .long x_20) e_21 ?_
    refine g_lneg act (gx gp_276 (w := 0x2e25) rfl (by decide) rfl) (n := 46) rfl ?_
    refine g_loadA act (gx gp_276 (w := 0x2f03) rfl (by decide) rfl) (a := 0) (n := 47) rfl rfl rfl ?_
    refine r_getf act (gx gp_276 (w := 0x3000809003204) rfl (by decide) rfl) (n := 50) (ci := 9) (j := 32) (N := 39) rfl rfl rfl rwj.1 (by decide) (rwj.2 (32, 143, 33, 5) (by decide)).1 ?_
    refine g_loadI act (gx gp_276 (w := 0x1003302) rfl (by decide) rfl) (a := 1) (n := 51) rfl rfl rfl ?_
    refine r_lald act (gx gp_276 (w := 0x340d) rfl (by decide) rfl) (n := 52) (j := j9) rfl (rwj.2 (32, 143, 33, 5) (by decide)).2 hxi (show j9 < 5 by omega) (v := .long w_23) e_24 ?_
    refine n_call tb_pres act hEnd (gx (P := G_call) gp_276 (w := 0xa0000000000008249500011200370f) rfl (by decide) rfl) (d' := D_274) rfl (as := [.ref 124, .long x_10, .long w_13, .long (-x_20), .long w_23]) (rest := []) (b_sums (k1 := 7) (k2 := 7) (k := 13) rwj hM e35 e36 hx_12 hx_22 (hks.mono (by omega)) (by omega) (by omega) (by omega)) (show (5 : Nat) = fb 0xa0000000000008249500011200370f % 16 by decide) (by show (9 : Nat) ≤ 9; decide) (fun _ => ⟨_, _, rfl, _, shp_at rwj.1, Or.inr (show fb 0xa0000000000008249500011200370f >>> 68 = 10 by decide)⟩) (by omega) (by show 8 + (9 + 11) + 87 ≤ R.locals; omega) (by show (0 : Nat) ≤ 8; decide) (by show kc + 0 ≤ _; omega) (by show ks + 0 ≤ _; omega) (fun r9 hs_30 hpo hr9 => ?_) (fun x9 hs9 hx9 hpo => ?_)
    · obtain rfl : r9 = none := hr9.elim (fun q => q.2) (fun q => absurd rfl q.1)
      obtain ⟨-, sx_35, sw_36, e_33, e_34, hk_37, hM_32, fr_31⟩ := hpo
      have rw_38 := rwj.fr fr_31 WSm_rw
      have f_39 := fTo.fr (fun j9 _ => fr_31.2.2 125 j9 (by unfold WSm; omega))
      have f_40 := fW.fr (fun j9 _ => fr_31.2.2 127 j9 (by unfold WSm; omega))
      have f_41 := fD.fr (fun j9 _ => fr_31.2.2 135 j9 (by unfold WSm; omega))
      have f_42 := hP.fr (fun j9 _ _ => ⟨fr_31.2.2 144 j9 (by unfold WSm; omega), fr_31.2.2 145 j9 (by unfold WSm; omega)⟩)
      have f_44 := hO.fr (fun j9 _ _ => ⟨fr_31.2.2 142 j9 (by unfold WSm; omega), fr_31.2.2 143 j9 (by unfold WSm; omega)⟩)
      have fr_45 := hfr.tr fr_31
      clear rwj fTo fW fD hP hM hO e35 e36 hfr
      show WpN (gp g0 wp) CLS p l e R s m args below meth c Q D_276.2.2.1 kc0 ks0 55 [some (.ref 124), some (.int xi), some (.int x_5)] (hs_30, kc, ks) []
      refine g_iinc act (gx gp_276 (w := 0x80000001000001003a09) rfl (by decide) rfl) (a := 1) (i := (1 : Int32)) (n := 58) rfl (by decide) rfl rfl (L2 := [some (.ref 124), some (.int (xi + (1 : Int32))), some (.int x_5)]) rfl ?_
      have v_46 := iv_addN hxi (show (1 : Int32).toInt = ((1 : Nat) : Int) from by decide) (show (j9 + 1) < 2147483648 by omega)
      refine g_goto act (gx gp_276 (w := 0x607) rfl (by decide) rfl) (n := 6) rfl ?_
      exact n_forget (d := D_276) (L2 := [some (.ref 124), some (.int (xi + (1 : Int32))), none]) (fun i v hi => by
        match i, hi with
        | 0, hi => exact hi
        | 1, hi => exact hi
        | 2, hi => cases hi
        | i + 3, hi => cases hi) (ih (j9 + 1) (by omega) (by omega) _ _ _ _ v_46 hk_37 rw_38 f_39 f_40 f_41 f_42 f_44 hM_32 e_33 e_34 fr_45)
    · exact absurd hpo.1 (by omega)

theorem b_surpluses {g0 : GG} {bl : Nat} {xs : Nat → Int32} {l : Launch} {hs : List CE} {tl wl : Nat → Int} {nl n ng nr : Nat} (hNW : NW tl wl nl n ng nr) {dm : Nat → Int} (hdm : ∀ j, 0 ≤ dm j ∧ dm j ≤ 220) (rw0 : RW hs) (fTo : IArr hs 125 46 tl) (fW : IArr hs 127 39 wl) (fD : IArr hs 135 4 dm) (hP : KR hs 144 145 0 (n + 1) 7) (hO : KR hs 142 143 0 5 7) (hM : ModF hs) : BodyN SSX TBL g0 CLS bl xs l D_276 5 136 0 0 [.ref 124] hs (fun kd _ h2 => kd = 0 ∧ ∃ x y : Int64, rd h2 124 35 = .long x ∧ rd h2 124 36 = .long y ∧ K2 13 y ∧ ModF h2 ∧ FrS WSm hs h2) := by
  intro wp p e R s m args below meth c Q kc0 ks0 kc ks act hf hl hc hsl hEnd
  have hN9 := hNW
  obtain ⟨n0, n1, n2, n3, n4, n5, n6, n7, n8, hG0, nL, nC, nP, nD⟩ := hN9
  have hGn := hG0.1
  have hGn3 := hG0.2.1
  have hGl := hG0.2.2.1
  show WpN (gp g0 wp) CLS p l e R s m args below meth c Q D_276.2.2.1 kc0 ks0 0 [some (.ref 124), none, none] (hs, kc, ks) []
  refine g_loadA act (gx gp_276 (w := 0x103) rfl (by decide) rfl) (a := 0) (n := 1) rfl rfl rfl ?_
  refine n_call tb_pres act hEnd (gx (P := G_call) gp_276 (w := 0xa000000000000808110000fb00040f) rfl (by decide) rfl) (d' := D_251) rfl (as := [.ref 124]) (rest := []) (b_payments hNW (fun j9 => by have q9 := hdm j9; omega) rw0 fTo fW fD hP hM) (show (1 : Nat) = fb 0xa000000000000808110000fb00040f % 16 by decide) (by show (1 : Nat) ≤ 2; decide) (fun _ => ⟨_, _, rfl, _, shp_at rw0.1, Or.inr (show fb 0xa000000000000808110000fb00040f >>> 68 = 10 by decide)⟩) (by omega) (by show 8 + (2 + 11) + 115 ≤ R.locals; omega) (by show (0 : Nat) ≤ 8; decide) (by show kc + 0 ≤ _; omega) (by show ks + 0 ≤ _; omega) (fun r9 hs_1 hpo hr9 => ?_) (fun x9 hs9 hx9 hpo => ?_)
  · obtain rfl : r9 = none := hr9.elim (fun q => q.2) (fun q => absurd rfl q.1)
    obtain ⟨-, sx_6, sw_7, e_4, e_5, hk_8, hM_3, fr_2⟩ := hpo
    have rw_9 := rw0.fr fr_2 WSm_rw
    have f_10 := fTo.fr (fun j9 _ => fr_2.2.2 125 j9 (by unfold WSm; omega))
    have f_11 := fW.fr (fun j9 _ => fr_2.2.2 127 j9 (by unfold WSm; omega))
    have f_12 := fD.fr (fun j9 _ => fr_2.2.2 135 j9 (by unfold WSm; omega))
    have f_13 := hP.fr (fun j9 _ _ => ⟨fr_2.2.2 144 j9 (by unfold WSm; omega), fr_2.2.2 145 j9 (by unfold WSm; omega)⟩)
    have f_15 := hO.fr (fun j9 _ _ => ⟨fr_2.2.2 142 j9 (by unfold WSm; omega), fr_2.2.2 143 j9 (by unfold WSm; omega)⟩)
    have fr_16 := (FrS.rf WSm hs).tr fr_2
    show WpN (gp g0 wp) CLS p l e R s m args below meth c Q D_276.2.2.1 kc0 ks0 4 [some (.ref 124), none, none] (hs_1, kc, ks) []
    refine g_constI act (gx gp_276 (w := 0x40000000400000001000000000501) rfl (by decide) rfl) (n := 5) (x := (0 : Int32)) (by decide) rfl ?_
    refine g_storeI act (gx gp_276 (w := 0x1000610) rfl (by decide) rfl) (a := 1) (n := 6) rfl rfl (L2 := [some (.ref 124), some (.int (0 : Int32)), none]) rfl ?_
    exact sur_1 hNW hdm hf hl hc hsl act hEnd (by omega) (by omega) 0 (by omega) _ _ _ _ rfl (hk_8.mono (by decide)) rw_9 f_10 f_11 f_12 f_13 f_15 hM_3 e_4 e_5 fr_16
  · exact absurd hpo.1 (by omega)

theorem b_sum {g0 : GG} {bl : Nat} {xs : Nat → Int32} {l : Launch} {hs : List CE} {a : Int32} {t w : Int64} (hk : shp hs 124 = some (9, 39)) (e7 : rd hs 124 35 = .long t) (e8 : rd hs 124 36 = .long w) : BodyN SSX TBL g0 CLS bl xs l D_273 0 0 0 0 [.ref 124, .int a] hs (fun kd r h2 => kd = 0 ∧ hs = h2 ∧ ∃ x : Int64, r = some (.long x)) := by
  intro wp p e R s m args below meth c Q kc0 ks0 kc ks act hf hl hc hsl hEnd
  show WpN (gp g0 wp) CLS p l e R s m args below meth c Q D_273.2.2.1 kc0 ks0 0 [some (.ref 124), some (.int a)] (hs, kc, ks) []
  refine g_loadI act (gx gp_273 (w := 0x1000102) rfl (by decide) rfl) (a := 1) (n := 1) rfl rfl rfl ?_
  refine g_ifNe act (gx gp_273 (w := 0xb00041d) rfl (by decide) rfl) (tgt := 11) (n := 4) rfl rfl (fun h2 => ?_) (fun h2 => ?_)
  · simp only [i_eq, i0] at h2
    refine g_loadA act (gx gp_273 (w := 0xc03) rfl (by decide) rfl) (a := 0) (n := 12) rfl rfl rfl ?_
    refine r_getf act (gx gp_273 (w := 0x2000909000f04) rfl (by decide) rfl) (n := 15) (ci := 9) (j := 36) (N := 39) rfl rfl rfl hk (by decide) (v := .long w) e8 ?_
    exact g_retL hEnd (gx gp_273 (w := 0x19) rfl (by decide) rfl) ⟨rfl, rfl, _, rfl⟩ (by show kc ≤ kc + 0; omega) (by show ks ≤ ks + 0; omega)
  · simp only [i_eq, i0] at h2
    refine g_loadA act (gx gp_273 (w := 0x503) rfl (by decide) rfl) (a := 0) (n := 5) rfl rfl rfl ?_
    refine r_getf act (gx gp_273 (w := 0x20008c9000804) rfl (by decide) rfl) (n := 8) (ci := 9) (j := 35) (N := 39) rfl rfl rfl hk (by decide) (v := .long t) e7 ?_
    refine g_goto act (gx gp_273 (w := 0xf07) rfl (by decide) rfl) (n := 15) rfl ?_
    exact g_retL hEnd (gx gp_273 (w := 0x19) rfl (by decide) rfl) ⟨rfl, rfl, _, rfl⟩ (by show kc ≤ kc + 0; omega) (by show ks ≤ ks + 0; omega)

theorem b_surplus {g0 : GG} {bl : Nat} {xs : Nat → Int32} {l : Launch} {hs : List CE} {tl wl : Nat → Int} {nl n ng nr : Nat} (hNW : NW tl wl nl n ng nr) {a b : Int32} (hB : BM hs tl wl) (hM : ModF hs) : BodyN SSX TBL g0 CLS bl xs l D_275 11 275 0 0 [.ref 124, .int a, .int b] hs (POL hs) := by
  intro wp p e R s m args below meth c Q kc0 ks0 kc ks act hf hl hc hsl hEnd
  have hN9 := hNW
  obtain ⟨n0, n1, n2, n3, n4, n5, n6, n7, n8, hG0, nL, nC, nP, nD⟩ := hN9
  have hGn := hG0.1
  have hGn3 := hG0.2.1
  have hGl := hG0.2.2.1
  obtain ⟨rw0, hTo, hW⟩ := hB
  show WpN (gp g0 wp) CLS p l e R s m args below meth c Q D_275.2.2.1 kc0 ks0 0 [some (.ref 124), some (.int a), some (.int b)] (hs, kc, ks) []
  refine g_loadA act (gx gp_275 (w := 0x103) rfl (by decide) rfl) (a := 0) (n := 1) rfl rfl rfl ?_
  refine g_constI act (gx gp_275 (w := 0x40000000c00000009000000000201) rfl (by decide) rfl) (n := 2) (x := (1 : Int32)) (by decide) rfl ?_
  refine g_loadI act (gx gp_275 (w := 0x1000302) rfl (by decide) rfl) (a := 1) (n := 3) rfl rfl rfl ?_
  refine g_loadI act (gx gp_275 (w := 0x2000402) rfl (by decide) rfl) (a := 2) (n := 4) rfl rfl rfl ?_
  refine g_loadA act (gx gp_275 (w := 0x503) rfl (by decide) rfl) (a := 0) (n := 5) rfl rfl rfl ?_
  refine n_call tb_pres act hEnd (gx (P := G_call) gp_275 (w := 0xa000000000000c04110000b200080f) rfl (by decide) rfl) (d' := D_178) rfl (as := [.ref 124]) (rest := [.int b, .int a, .int (1 : Int32), .ref 124]) (b_allNodes rw0 hTo) (show (1 : Nat) = fb 0xa000000000000c04110000b200080f % 16 by decide) (by show (1 : Nat) ≤ 1; decide) (fun _ => ⟨_, _, rfl, _, shp_at rw0.1, Or.inr (show fb 0xa000000000000c04110000b200080f >>> 68 = 10 by decide)⟩) (by omega) (by show 8 + (1 + 11) + 0 ≤ R.locals; omega) (by show (4 : Nat) ≤ 8; decide) (by show kc + 0 ≤ _; omega) (by show ks + 0 ≤ _; omega) (fun r9 h3 hpo hr9 => ?_) (fun x9 hs9 hx9 hpo => ?_)
  · obtain ⟨-, rfl, z_3, rfl, hx_2⟩ := hpo
    show WpN (gp g0 wp) CLS p l e R s m args below meth c Q D_275.2.2.1 kc0 ks0 8 [some (.ref 124), some (.int a), some (.int b)] (hs, kc, ks) [.int (((1 : Int32) <<< (z_3 &&& 31)) - 1), .int b, .int a, .int (1 : Int32), .ref 124]
    refine n_call tb_pres act hEnd (gx (P := G_call) gp_275 (w := 0xa000000000000c14550000e4000b0f) rfl (by decide) rfl) (d' := D_228) rfl (as := [.ref 124, .int (1 : Int32), .int a, .int b, .int (((1 : Int32) <<< (z_3 &&& 31)) - 1)]) (rest := []) (b_isPriced hNW ⟨rw0, hTo, hW⟩ hM (ti := ((1 : Nat) : Int)) (show (1 : Int32).toInt = ((1 : Nat) : Int) from by decide) (by omega) (x := (Int32.toInt a)) (rfl : Int32.toInt a = _) (y := (Int32.toInt b)) (rfl : Int32.toInt b = _)) (show (5 : Nat) = fb 0xa000000000000c14550000e4000b0f % 16 by decide) (by show (5 : Nat) ≤ 5; decide) (fun _ => ⟨_, _, rfl, _, shp_at rw0.1, Or.inr (show fb 0xa000000000000c14550000e4000b0f >>> 68 = 10 by decide)⟩) (by omega) (by show 8 + (5 + 11) + 251 ≤ R.locals; omega) (by show (0 : Nat) ≤ 8; decide) (by show kc + 0 ≤ _; omega) (by show ks + 0 ≤ _; omega) (fun r9 hs_4 hpo hr9 => ?_) (fun x9 hs9 hx9 hpo => ?_)
    · obtain ⟨-, hM_6, fr_5, rg, rfl, hg_7⟩ := hpo
      have rw_8 := rw0.fr fr_5 WM_rw
      have f_9 := hTo.fr (fun j9 _ => fr_5.2.2 125 j9 (by unfold WM; omega))
      have f_10 := hW.fr (fun j9 _ => fr_5.2.2 127 j9 (by unfold WM; omega))
      have fr_11 := (FrS.rf WM hs).tr fr_5
      show WpN (gp g0 wp) CLS p l e R s m args below meth c Q D_275.2.2.1 kc0 ks0 11 [some (.ref 124), some (.int a), some (.int b)] (hs_4, kc, ks) [.int rg]
      rcases hg_7 with rfl | ⟨rfl, g1_12, g2_12, g3_12, g4_12, g5_12, hFD_12, hPI_12⟩
      · refine g_ifNe act (gx gp_275 (w := 0x10000e1d) rfl (by decide) rfl) (tgt := 16) (n := 14) rfl rfl (fun q => absurd q (by decide)) (fun _ => ?_)
        refine g_constL act (gx gp_275 (w := 0x40000000000000002000000000f01) rfl (by decide) rfl) (n := 15) (x := 0) (by decide) rfl ?_
        exact g_retL hEnd (gx gp_275 (w := 0x19) rfl (by decide) rfl) ⟨rfl, ⟨_, rfl⟩, hM_6, fr_11⟩ (by show kc ≤ kc + 0; omega) (by show ks ≤ ks + 0; omega)
      · obtain ⟨⟨frw_13, fTo_13, fW_13⟩, ⟨hG_13, ⟨oi_13, f24_13, hoi_13⟩, ⟨dm_13, fD_13, hdm_13⟩, ⟨lm_13, fL_13, hlm_13⟩, ⟨em_13, fE_13, hem_13⟩, ⟨cp_13, fC_13, hcp_13⟩⟩, fFo_13, ⟨fK0_13, fK1_13⟩⟩ := hFD_12
        obtain ⟨⟨ct_13, cl_13, f29_13, f30_13, hck_13⟩, fKO_13⟩ := found_k hG_13 fFo_13
        have fO7_13 := found_k7 hG_13 fFo_13
        have fPA_13 := pri_all hG_13 hPI_12 (bit_all (show _ = (n : Int) + 1 by have q9 := hx_2; omega) (by omega))
        refine g_ifNe act (gx gp_275 (w := 0x10000e1d) rfl (by decide) rfl) (tgt := 16) (n := 14) rfl rfl (fun _ => ?_) (fun q => absurd (by decide) q)
        refine g_loadA act (gx gp_275 (w := 0x1103) rfl (by decide) rfl) (a := 0) (n := 17) rfl rfl rfl ?_
        refine n_call tb_pres act hEnd (gx (P := G_call) gp_275 (w := 0xa00000000000080c1100011400140f) rfl (by decide) rfl) (d' := D_276) rfl (as := [.ref 124]) (rest := []) (b_surpluses hNW (fun j9 => by have q9 := hdm_13 j9; omega) frw_13 fTo_13 fW_13 fD_13 fPA_13 fO7_13 hM_6) (show (1 : Nat) = fb 0xa00000000000080c1100011400140f % 16 by decide) (by show (1 : Nat) ≤ 3; decide) (fun _ => ⟨_, _, rfl, _, shp_at frw_13.1, Or.inr (show fb 0xa00000000000080c1100011400140f >>> 68 = 10 by decide)⟩) (by omega) (by show 8 + (3 + 11) + 136 ≤ R.locals; omega) (by show (0 : Nat) ≤ 8; decide) (by show kc + 0 ≤ _; omega) (by show ks + 0 ≤ _; omega) (fun r9 hs_14 hpo hr9 => ?_) (fun x9 hs9 hx9 hpo => ?_)
        · obtain rfl : r9 = none := hr9.elim (fun q => q.2) (fun q => absurd rfl q.1)
          obtain ⟨-, sx_19, sw_20, e_17, e_18, hk_21, hM_16, fr_15⟩ := hpo
          have rw_22 := frw_13.fr fr_15 WSm_rw
          have f_24 := fTo_13.fr (fun j9 _ => fr_15.2.2 125 j9 (by unfold WSm; omega))
          have f_25 := fW_13.fr (fun j9 _ => fr_15.2.2 127 j9 (by unfold WSm; omega))
          have f_26 := fD_13.fr (fun j9 _ => fr_15.2.2 135 j9 (by unfold WSm; omega))
          have f_27 := fL_13.fr (fun j9 _ => fr_15.2.2 136 j9 (by unfold WSm; omega))
          have f_28 := fE_13.fr (fun j9 _ => fr_15.2.2 137 j9 (by unfold WSm; omega))
          have f_29 := fC_13.fr (fun j9 _ => fr_15.2.2 138 j9 (by unfold WSm; omega))
          have f_30 := rd_fr fr_15 f24_13 (by unfold WSm; omega)
          have f_31 := rd_fr fr_15 f29_13 (by unfold WSm; omega)
          have f_32 := rd_fr fr_15 f30_13 (by unfold WSm; omega)
          have f_33 := fK0_13.fr (fun j9 _ _ => ⟨fr_15.2.2 131 j9 (by unfold WSm; omega), fr_15.2.2 132 j9 (by unfold WSm; omega)⟩)
          have f_34 := fun q9 => (fK1_13 q9).fr (fun j9 _ _ => ⟨fr_15.2.2 131 j9 (by unfold WSm; omega), fr_15.2.2 132 j9 (by unfold WSm; omega)⟩)
          have f_35 := fFo_13.fr fr_15 (fun j9 => by unfold WSm; omega) (by unfold WSm; omega) (by unfold WSm; omega)
          have f_36 := fO7_13.fr (fun j9 _ _ => ⟨fr_15.2.2 142 j9 (by unfold WSm; omega), fr_15.2.2 143 j9 (by unfold WSm; omega)⟩)
          have f_37 := fPA_13.fr (fun j9 _ _ => ⟨fr_15.2.2 144 j9 (by unfold WSm; omega), fr_15.2.2 145 j9 (by unfold WSm; omega)⟩)
          have fr_38 := fr_11.tr (fr_15.mono (fun k9 j9 h9 => by unfold WSm at h9; unfold WM; omega))
          clear frw_13 hM_6 fTo_13 fW_13 fD_13 fL_13 fE_13 fC_13 f24_13 f29_13 f30_13 fK0_13 fK1_13 fFo_13 fO7_13 fPA_13 fr_11
          show WpN (gp g0 wp) CLS p l e R s m args below meth c Q D_275.2.2.1 kc0 ks0 20 [some (.ref 124), some (.int a), some (.int b)] (hs_14, kc, ks) []
          refine g_loadA act (gx gp_275 (w := 0x1503) rfl (by decide) rfl) (a := 0) (n := 21) rfl rfl rfl ?_
          refine g_loadI act (gx gp_275 (w := 0x2001602) rfl (by decide) rfl) (a := 2) (n := 22) rfl rfl rfl ?_
          refine n_call tb_pres act hEnd (gx (P := G_call) gp_275 (w := 0xa000000000000c082200011100190f) rfl (by decide) rfl) (d' := D_273) rfl (as := [.ref 124, .int b]) (rest := []) (b_sum rw_22.1 e_17 e_18) (show (2 : Nat) = fb 0xa000000000000c082200011100190f % 16 by decide) (by show (2 : Nat) ≤ 2; decide) (fun _ => ⟨_, _, rfl, _, shp_at rw_22.1, Or.inr (show fb 0xa000000000000c082200011100190f >>> 68 = 10 by decide)⟩) (by omega) (by show 8 + (2 + 11) + 0 ≤ R.locals; omega) (by show (0 : Nat) ≤ 8; decide) (by show kc + 0 ≤ _; omega) (by show ks + 0 ≤ _; omega) (fun r9 h3 hpo hr9 => ?_) (fun x9 hs9 hx9 hpo => ?_)
          · obtain ⟨-, rfl, pv_39, rfl⟩ := hpo
            show WpN (gp g0 wp) CLS p l e R s m args below meth c Q D_275.2.2.1 kc0 ks0 25 [some (.ref 124), some (.int a), some (.int b)] (hs_14, kc, ks) [.long pv_39]
            exact g_retL hEnd (gx gp_275 (w := 0x19) rfl (by decide) rfl) ⟨rfl, ⟨_, rfl⟩, hM_16, fr_38⟩ (by show kc ≤ kc + 0; omega) (by show ks ≤ ks + 0; omega)
          · exact absurd hpo.1 (by omega)
        · exact absurd hpo.1 (by omega)
    · exact absurd hpo.1 (by omega)
  · exact absurd hpo.1 (by omega)

theorem dn_1 {g0 : GG} {bl : Nat} {xs : Nat → Int32} {l : Launch} {wp : va_W} {p : Program} {e : Env} {R : Room} {s : State} {m : MethodId} {args : Array Value} {below : List Frame} {meth : Method} {c : Code} {Q : State → Prop} {kc0 ks0 kc ks f lam KC KS : Nat} {hs : List CE} {tl wl : Nat → Int} {nl n ng nr : Nat} (hNW : NW tl wl nl n ng nr) {a : Int32} (hf : 11 ≤ R.frames) (hl : 275 ≤ R.locals) (hc : kc ≤ R.cells + kc0) (hsl : ks ≤ R.slots + ks0) (act : Act SSX TBL (gp g0 wp) CLS bl xs D_197 p l s m args meth c) (hEnd : EndN SSX TBL (gp g0 wp) CLS D_197 p l e R s m args below meth c Q kc0 ks0 f lam KC KS (POI hs)) (hk1 : kc ≤ KC) (hk2 : ks ≤ KS) : ∀ j9 : Nat, j9 ≤ n + 1 → ∀ (xi bi : Int32) (b9 : Nat) (hj : List CE), xi.toInt = (j9 : Int) → bi.toInt = (b9 : Int) → b9 ≤ n → RW hj → IArr hj 125 46 tl → KR hj 144 145 0 (n + 1) 7 → ModF hj → FrS WM hs hj → WpN (gp g0 wp) CLS p l e R s m args below meth c Q D_197.2.2.1 kc0 ks0 45 [some (.ref 124), some (.int a), some (.int bi), some (.int xi)] (hj, kc, ks) [] := by
  have hN9 := hNW
  obtain ⟨n0, n1, n2, n3, n4, n5, n6, n7, n8, hG0, nL, nC, nP, nD⟩ := hN9
  have hGn := hG0.1
  have hGn3 := hG0.2.1
  have hGl := hG0.2.2.1
  refine dn (fun j9 hj9 ih => ?_)
  intro xi bi b9 hj hxi hbi hb9 rwj fTo hP hM hfr
  refine g_loadI act (gx gp_197 (w := 0x3002e02) rfl (by decide) rfl) (a := 3) (n := 46) rfl rfl rfl ?_
  refine g_loadA act (gx gp_197 (w := 0x2f03) rfl (by decide) rfl) (a := 0) (n := 47) rfl rfl rfl ?_
  refine r_getf act (gx gp_197 (w := 0x3000049003204) rfl (by decide) rfl) (n := 50) (ci := 9) (j := 1) (N := 39) rfl rfl rfl rwj.1 (by decide) (rwj.2 (1, 125, 32, 46) (by decide)).1 ?_
  refine g_constI act (gx gp_197 (w := 0x40000000400000001000000003301) rfl (by decide) rfl) (n := 51) (x := (0 : Int32)) (by decide) rfl ?_
  obtain ⟨x_1, e_2, hx_3⟩ := fTo 0 (by omega)
  refine r_iald act (gx gp_197 (w := 0x341a) rfl (by decide) rfl) (n := 52) (j := 0) rfl (rwj.2 (1, 125, 32, 46) (by decide)).2 (show (0 : Int32).toInt = ((0 : Nat) : Int) from by decide) (show 0 < 46 by omega) (v := .int x_1) e_2 ?_
  refine g_icmpGe act (gx gp_197 (w := 0x61003708) rfl (by decide) rfl) (tgt := 97) (n := 55) rfl rfl (fun h4 => ?_) (fun h4 => ?_)
  · simp only [i_le] at h4
    refine g_loadI act (gx gp_197 (w := 0x2006202) rfl (by decide) rfl) (a := 2) (n := 98) rfl rfl rfl ?_
    exact g_retI hEnd (gx gp_197 (w := 0x2f) rfl (by decide) rfl) ⟨rfl, ⟨_, rfl⟩, hM, hfr⟩ hk1 hk2
  · simp only [i_le] at h4
    refine g_loadA act (gx gp_197 (w := 0x3803) rfl (by decide) rfl) (a := 0) (n := 56) rfl rfl rfl ?_
    refine r_getf act (gx gp_197 (w := 0x3000849003b04) rfl (by decide) rfl) (n := 59) (ci := 9) (j := 33) (N := 39) rfl rfl rfl rwj.1 (by decide) (rwj.2 (33, 144, 33, 4) (by decide)).1 ?_
    refine g_loadI act (gx gp_197 (w := 0x2003c02) rfl (by decide) rfl) (a := 2) (n := 60) rfl rfl rfl ?_
    obtain ⟨x_4, w_7, e_5, e_8, hx_6⟩ := hP b9 (by omega) (by omega)
    refine r_lald act (gx gp_197 (w := 0x3d0d) rfl (by decide) rfl) (n := 61) (j := b9) rfl (rwj.2 (33, 144, 33, 4) (by decide)).2 hbi (show b9 < 4 by omega) (v := .long x_4) e_5 ?_
    refine g_loadA act (gx gp_197 (w := 0x3e03) rfl (by decide) rfl) (a := 0) (n := 62) rfl rfl rfl ?_
    refine r_getf act (gx gp_197 (w := 0x3000889004104) rfl (by decide) rfl) (n := 65) (ci := 9) (j := 34) (N := 39) rfl rfl rfl rwj.1 (by decide) (rwj.2 (34, 145, 33, 4) (by decide)).1 ?_
    refine g_loadI act (gx gp_197 (w := 0x2004202) rfl (by decide) rfl) (a := 2) (n := 66) rfl rfl rfl ?_
    refine r_lald act (gx gp_197 (w := 0x430d) rfl (by decide) rfl) (n := 67) (j := b9) rfl (rwj.2 (34, 145, 33, 4) (by decide)).2 hbi (show b9 < 4 by omega) (v := .long w_7) e_8 ?_
    refine g_loadA act (gx gp_197 (w := 0x4403) rfl (by decide) rfl) (a := 0) (n := 68) rfl rfl rfl ?_
    refine r_getf act (gx gp_197 (w := 0x3000849004704) rfl (by decide) rfl) (n := 71) (ci := 9) (j := 33) (N := 39) rfl rfl rfl rwj.1 (by decide) (rwj.2 (33, 144, 33, 4) (by decide)).1 ?_
    refine g_loadI act (gx gp_197 (w := 0x3004802) rfl (by decide) rfl) (a := 3) (n := 72) rfl rfl rfl ?_
    obtain ⟨x_14, w_17, e_15, e_18, hx_16⟩ := hP j9 (by omega) (by omega)
    refine r_lald act (gx gp_197 (w := 0x490d) rfl (by decide) rfl) (n := 73) (j := j9) rfl (rwj.2 (33, 144, 33, 4) (by decide)).2 hxi (show j9 < 4 by omega) (v := .long x_14) e_15 ?_
    refine g_loadA act (gx gp_197 (w := 0x4a03) rfl (by decide) rfl) (a := 0) (n := 74) rfl rfl rfl ?_
    refine r_getf act (gx gp_197 (w := 0x3000889004d04) rfl (by decide) rfl) (n := 77) (ci := 9) (j := 34) (N := 39) rfl rfl rfl rwj.1 (by decide) (rwj.2 (34, 145, 33, 4) (by decide)).1 ?_
    refine g_loadI act (gx gp_197 (w := 0x3004e02) rfl (by decide) rfl) (a := 3) (n := 78) rfl rfl rfl ?_
    refine r_lald act (gx gp_197 (w := 0x4f0d) rfl (by decide) rfl) (n := 79) (j := j9) rfl (rwj.2 (34, 145, 33, 4) (by decide)).2 hxi (show j9 < 4 by omega) (v := .long w_17) e_18 ?_
    refine n_call tb_pres act hEnd (gx (P := G_call) gp_197 (w := 0x428840000e100520f) rfl (by decide) rfl) (d' := D_225) rfl (as := [.long x_4, .long w_7, .long x_14, .long w_17]) (rest := []) (b_lessK hx_16) (show (4 : Nat) = fb 0x428840000e100520f % 16 by decide) (by show (8 : Nat) ≤ 10; decide) (fun q => absurd q (by decide)) (by omega) (by show 8 + (10 + 11) + 29 ≤ R.locals; omega) (by show (0 : Nat) ≤ 8; decide) (by show kc + 0 ≤ _; omega) (by show ks + 0 ≤ _; omega) (fun r9 h3 hpo hr9 => ?_) (fun x9 hs9 hx9 hpo => ?_)
    · obtain ⟨-, rfl, hr_25⟩ := hpo
      obtain ⟨rv_24, rfl, hr_25o⟩ := z01_t hr_25
      show WpN (gp g0 wp) CLS p l e R s m args below meth c Q D_197.2.2.1 kc0 ks0 82 [some (.ref 124), some (.int a), some (.int bi), some (.int xi)] (hj, kc, ks) [.int rv_24]
      refine g_ifEq act (gx gp_197 (w := 0x5900550e) rfl (by decide) rfl) (tgt := 89) (n := 85) rfl rfl (fun h14 => ?_) (fun h14 => ?_)
      · simp only [i_eq, i0] at h14
        refine g_loadI act (gx gp_197 (w := 0x2005a02) rfl (by decide) rfl) (a := 2) (n := 90) rfl rfl rfl ?_
        refine g_storeI act (gx gp_197 (w := 0x2005b10) rfl (by decide) rfl) (a := 2) (n := 91) rfl rfl (L2 := [some (.ref 124), some (.int a), some (.int bi), some (.int xi)]) rfl ?_
        refine g_iinc act (gx gp_197 (w := 0x80000001000003005e09) rfl (by decide) rfl) (a := 3) (i := (1 : Int32)) (n := 94) rfl (by decide) rfl rfl (L2 := [some (.ref 124), some (.int a), some (.int bi), some (.int (xi + (1 : Int32)))]) rfl ?_
        have v_26 := iv_addN hxi (show (1 : Int32).toInt = ((1 : Nat) : Int) from by decide) (show (j9 + 1) < 2147483648 by omega)
        refine g_goto act (gx gp_197 (w := 0x2d07) rfl (by decide) rfl) (n := 45) rfl ?_
        exact ih (j9 + 1) (by omega) (by omega) _ _ _ hj v_26 hbi (by omega) rwj fTo hP hM hfr
      · simp only [i_eq, i0] at h14
        refine g_loadI act (gx gp_197 (w := 0x3005602) rfl (by decide) rfl) (a := 3) (n := 86) rfl rfl rfl ?_
        refine g_goto act (gx gp_197 (w := 0x5a07) rfl (by decide) rfl) (n := 90) rfl ?_
        refine g_storeI act (gx gp_197 (w := 0x2005b10) rfl (by decide) rfl) (a := 2) (n := 91) rfl rfl (L2 := [some (.ref 124), some (.int a), some (.int xi), some (.int xi)]) rfl ?_
        refine g_iinc act (gx gp_197 (w := 0x80000001000003005e09) rfl (by decide) rfl) (a := 3) (i := (1 : Int32)) (n := 94) rfl (by decide) rfl rfl (L2 := [some (.ref 124), some (.int a), some (.int xi), some (.int (xi + (1 : Int32)))]) rfl ?_
        have v_27 := iv_addN hxi (show (1 : Int32).toInt = ((1 : Nat) : Int) from by decide) (show (j9 + 1) < 2147483648 by omega)
        refine g_goto act (gx gp_197 (w := 0x2d07) rfl (by decide) rfl) (n := 45) rfl ?_
        exact ih (j9 + 1) (by omega) (by omega) _ _ _ hj v_27 hxi (by omega) rwj fTo hP hM hfr
    · exact absurd hpo.1 (by omega)

theorem b_dearestNode {g0 : GG} {bl : Nat} {xs : Nat → Int32} {l : Launch} {hs : List CE} {tl wl : Nat → Int} {nl n ng nr : Nat} (hNW : NW tl wl nl n ng nr) {a : Int32} (hB : BM hs tl wl) (hM : ModF hs) : BodyN SSX TBL g0 CLS bl xs l D_197 11 275 0 0 [.ref 124, .int a] hs (POI hs) := by
  intro wp p e R s m args below meth c Q kc0 ks0 kc ks act hf hl hc hsl hEnd
  have hN9 := hNW
  obtain ⟨n0, n1, n2, n3, n4, n5, n6, n7, n8, hG0, nL, nC, nP, nD⟩ := hN9
  have hGn := hG0.1
  have hGn3 := hG0.2.1
  have hGl := hG0.2.2.1
  obtain ⟨rw0, hTo, hW⟩ := hB
  show WpN (gp g0 wp) CLS p l e R s m args below meth c Q D_197.2.2.1 kc0 ks0 0 [some (.ref 124), some (.int a), none, none] (hs, kc, ks) []
  refine g_loadA act (gx gp_197 (w := 0x103) rfl (by decide) rfl) (a := 0) (n := 1) rfl rfl rfl ?_
  refine g_constI act (gx gp_197 (w := 0x40000000c00000009000000000201) rfl (by decide) rfl) (n := 2) (x := (1 : Int32)) (by decide) rfl ?_
  refine g_loadI act (gx gp_197 (w := 0x1000302) rfl (by decide) rfl) (a := 1) (n := 3) rfl rfl rfl ?_
  refine g_constI act (gx gp_197 (w := 0x40000000400000001000000000401) rfl (by decide) rfl) (n := 4) (x := (0 : Int32)) (by decide) rfl ?_
  refine g_loadA act (gx gp_197 (w := 0x503) rfl (by decide) rfl) (a := 0) (n := 5) rfl rfl rfl ?_
  refine n_call tb_pres act hEnd (gx (P := G_call) gp_197 (w := 0xa000000000000c04110000b200080f) rfl (by decide) rfl) (d' := D_178) rfl (as := [.ref 124]) (rest := [.int (0 : Int32), .int a, .int (1 : Int32), .ref 124]) (b_allNodes rw0 hTo) (show (1 : Nat) = fb 0xa000000000000c04110000b200080f % 16 by decide) (by show (1 : Nat) ≤ 1; decide) (fun _ => ⟨_, _, rfl, _, shp_at rw0.1, Or.inr (show fb 0xa000000000000c04110000b200080f >>> 68 = 10 by decide)⟩) (by omega) (by show 8 + (1 + 11) + 0 ≤ R.locals; omega) (by show (4 : Nat) ≤ 8; decide) (by show kc + 0 ≤ _; omega) (by show ks + 0 ≤ _; omega) (fun r9 h3 hpo hr9 => ?_) (fun x9 hs9 hx9 hpo => ?_)
  · obtain ⟨-, rfl, z_3, rfl, hx_2⟩ := hpo
    show WpN (gp g0 wp) CLS p l e R s m args below meth c Q D_197.2.2.1 kc0 ks0 8 [some (.ref 124), some (.int a), none, none] (hs, kc, ks) [.int (((1 : Int32) <<< (z_3 &&& 31)) - 1), .int (0 : Int32), .int a, .int (1 : Int32), .ref 124]
    refine n_call tb_pres act hEnd (gx (P := G_call) gp_197 (w := 0xa000000000000c14550000e4000b0f) rfl (by decide) rfl) (d' := D_228) rfl (as := [.ref 124, .int (1 : Int32), .int a, .int (0 : Int32), .int (((1 : Int32) <<< (z_3 &&& 31)) - 1)]) (rest := []) (b_isPriced hNW ⟨rw0, hTo, hW⟩ hM (ti := ((1 : Nat) : Int)) (show (1 : Int32).toInt = ((1 : Nat) : Int) from by decide) (by omega) (x := (Int32.toInt a)) (rfl : Int32.toInt a = _) (y := ((0 : Nat) : Int)) (show (0 : Int32).toInt = ((0 : Nat) : Int) from by decide)) (show (5 : Nat) = fb 0xa000000000000c14550000e4000b0f % 16 by decide) (by show (5 : Nat) ≤ 5; decide) (fun _ => ⟨_, _, rfl, _, shp_at rw0.1, Or.inr (show fb 0xa000000000000c14550000e4000b0f >>> 68 = 10 by decide)⟩) (by omega) (by show 8 + (5 + 11) + 251 ≤ R.locals; omega) (by show (0 : Nat) ≤ 8; decide) (by show kc + 0 ≤ _; omega) (by show ks + 0 ≤ _; omega) (fun r9 hs_4 hpo hr9 => ?_) (fun x9 hs9 hx9 hpo => ?_)
    · obtain ⟨-, hM_6, fr_5, rg, rfl, hg_7⟩ := hpo
      have rw_8 := rw0.fr fr_5 WM_rw
      have f_9 := hTo.fr (fun j9 _ => fr_5.2.2 125 j9 (by unfold WM; omega))
      have f_10 := hW.fr (fun j9 _ => fr_5.2.2 127 j9 (by unfold WM; omega))
      have fr_11 := (FrS.rf WM hs).tr fr_5
      show WpN (gp g0 wp) CLS p l e R s m args below meth c Q D_197.2.2.1 kc0 ks0 11 [some (.ref 124), some (.int a), none, none] (hs_4, kc, ks) [.int rg]
      rcases hg_7 with rfl | ⟨rfl, g1_12, g2_12, g3_12, g4_12, g5_12, hFD_12, hPI_12⟩
      · refine g_ifNe act (gx gp_197 (w := 0x29000e1d) rfl (by decide) rfl) (tgt := 41) (n := 14) rfl rfl (fun q => absurd q (by decide)) (fun _ => ?_)
        refine g_loadA act (gx gp_197 (w := 0xf03) rfl (by decide) rfl) (a := 0) (n := 15) rfl rfl rfl ?_
        refine g_loadA act (gx gp_197 (w := 0x1003) rfl (by decide) rfl) (a := 0) (n := 16) rfl rfl rfl ?_
        obtain ⟨rz_14, e_15, b_16, b_17⟩ := hM_6.1
        refine r_getf act (gx gp_197 (w := 0x9001304) rfl (by decide) rfl) (n := 19) (ci := 9) (j := 0) (N := 39) rfl rfl rfl rw_8.1 (by decide) (v := .int rz_14) e_15 ?_
        refine g_constI act (gx gp_197 (w := 0x40000001400000011000000001401) rfl (by decide) rfl) (n := 20) (x := (2 : Int32)) (by decide) rfl ?_
        refine g_icmpLe act (gx gp_197 (w := 0x2000173c) rfl (by decide) rfl) (tgt := 32) (n := 23) rfl rfl (fun h10 => ?_) (fun h10 => ?_)
        · simp only [i_le, show (2 : Int32).toInt = 2 from by decide] at h10
          refine g_loadA act (gx gp_197 (w := 0x2103) rfl (by decide) rfl) (a := 0) (n := 33) rfl rfl rfl ?_
          refine r_getf act (gx gp_197 (w := 0x9002404) rfl (by decide) rfl) (n := 36) (ci := 9) (j := 0) (N := 39) rfl rfl rfl rw_8.1 (by decide) (v := .int rz_14) e_15 ?_
          refine r_putf act (gx gp_197 (w := 0x9002713) rfl (by decide) rfl) (n := 39) (ci := 9) (j := 0) (N := 39) rfl rfl rfl rw_8.1 (by decide) (Or.inl ⟨rfl, _, rfl⟩) ?_
          have rw_18 := RW.wr (k := 124) (j := 0) (v := .int rz_14) rw_8 (Or.inr (by decide))
          have f_19 := f_9.ne (k := 124) (j := 0) (v := .int rz_14) (by decide)
          have f_20 := f_10.ne (k := 124) (j := 0) (v := .int rz_14) (by decide)
          have f_21 := hM_6.wr0 (x := rz_14) rw_8.1 (by omega) (by omega)
          have f_23 := rd_same (j := 0) (v := .int rz_14) rw_8.1
          have fr_24 := fr_11.wr (k := 124) (j := 0) (.int rz_14) (by unfold WM; omega)
          clear rw_8 fr_11 f_9 f_10 hM_6 e_15
          generalize (wr hs_4 124 0 (.int rz_14)) = hs_25 at *
          refine g_constI act (gx gp_197 (w := 0x40000000400000001000000002801) rfl (by decide) rfl) (n := 40) (x := (0 : Int32)) (by decide) rfl ?_
          exact g_retI hEnd (gx gp_197 (w := 0x2f) rfl (by decide) rfl) ⟨rfl, ⟨_, rfl⟩, f_21, fr_24⟩ (by show kc ≤ kc + 0; omega) (by show ks ≤ ks + 0; omega)
        · simp only [i_le, show (2 : Int32).toInt = 2 from by decide] at h10
          refine g_loadA act (gx gp_197 (w := 0x1803) rfl (by decide) rfl) (a := 0) (n := 24) rfl rfl rfl ?_
          refine r_getf act (gx gp_197 (w := 0x9001b04) rfl (by decide) rfl) (n := 27) (ci := 9) (j := 0) (N := 39) rfl rfl rfl rw_8.1 (by decide) (v := .int rz_14) e_15 ?_
          refine g_constI act (gx gp_197 (w := 0x40000000c00000009000000001c01) rfl (by decide) rfl) (n := 28) (x := (1 : Int32)) (by decide) rfl ?_
          refine g_isub act (gx gp_197 (w := 0x1d26) rfl (by decide) rfl) (n := 29) rfl ?_
          have v_26 := iv_sub (rfl : Int32.toInt rz_14 = _) (show (1 : Int32).toInt = ((1 : Nat) : Int) from by decide) (show -2147483648 ≤ ((Int32.toInt rz_14) - ((1 : Nat) : Int)) by omega) (show ((Int32.toInt rz_14) - ((1 : Nat) : Int)) < 2147483648 by omega)
          refine g_goto act (gx gp_197 (w := 0x2407) rfl (by decide) rfl) (n := 36) rfl ?_
          refine r_putf act (gx gp_197 (w := 0x9002713) rfl (by decide) rfl) (n := 39) (ci := 9) (j := 0) (N := 39) rfl rfl rfl rw_8.1 (by decide) (Or.inl ⟨rfl, _, rfl⟩) ?_
          have rw_27 := RW.wr (k := 124) (j := 0) (v := .int (rz_14 - (1 : Int32))) rw_8 (Or.inr (by decide))
          have f_28 := f_9.ne (k := 124) (j := 0) (v := .int (rz_14 - (1 : Int32))) (by decide)
          have f_29 := f_10.ne (k := 124) (j := 0) (v := .int (rz_14 - (1 : Int32))) (by decide)
          have f_30 := hM_6.wr0 (x := (rz_14 - (1 : Int32))) rw_8.1 (by omega) (by omega)
          have f_32 := rd_same (j := 0) (v := .int (rz_14 - (1 : Int32))) rw_8.1
          have fr_33 := fr_11.wr (k := 124) (j := 0) (.int (rz_14 - (1 : Int32))) (by unfold WM; omega)
          clear rw_8 fr_11 f_9 f_10 hM_6 e_15
          generalize (wr hs_4 124 0 (.int (rz_14 - (1 : Int32)))) = hs_34 at *
          refine g_constI act (gx gp_197 (w := 0x40000000400000001000000002801) rfl (by decide) rfl) (n := 40) (x := (0 : Int32)) (by decide) rfl ?_
          exact g_retI hEnd (gx gp_197 (w := 0x2f) rfl (by decide) rfl) ⟨rfl, ⟨_, rfl⟩, f_30, fr_33⟩ (by show kc ≤ kc + 0; omega) (by show ks ≤ ks + 0; omega)
      · obtain ⟨⟨frw_13, fTo_13, fW_13⟩, ⟨hG_13, ⟨oi_13, f24_13, hoi_13⟩, ⟨dm_13, fD_13, hdm_13⟩, ⟨lm_13, fL_13, hlm_13⟩, ⟨em_13, fE_13, hem_13⟩, ⟨cp_13, fC_13, hcp_13⟩⟩, fFo_13, ⟨fK0_13, fK1_13⟩⟩ := hFD_12
        obtain ⟨⟨ct_13, cl_13, f29_13, f30_13, hck_13⟩, fKO_13⟩ := found_k hG_13 fFo_13
        have fO7_13 := found_k7 hG_13 fFo_13
        have fPA_13 := pri_all hG_13 hPI_12 (bit_all (show _ = (n : Int) + 1 by have q9 := hx_2; omega) (by omega))
        refine g_ifNe act (gx gp_197 (w := 0x29000e1d) rfl (by decide) rfl) (tgt := 41) (n := 14) rfl rfl (fun _ => ?_) (fun q => absurd (by decide) q)
        refine g_constI act (gx gp_197 (w := 0x40000000400000001000000002a01) rfl (by decide) rfl) (n := 42) (x := (0 : Int32)) (by decide) rfl ?_
        refine g_storeI act (gx gp_197 (w := 0x2002b10) rfl (by decide) rfl) (a := 2) (n := 43) rfl rfl (L2 := [some (.ref 124), some (.int a), some (.int (0 : Int32)), none]) rfl ?_
        refine g_constI act (gx gp_197 (w := 0x40000000c00000009000000002c01) rfl (by decide) rfl) (n := 44) (x := (1 : Int32)) (by decide) rfl ?_
        refine g_storeI act (gx gp_197 (w := 0x3002d10) rfl (by decide) rfl) (a := 3) (n := 45) rfl rfl (L2 := [some (.ref 124), some (.int a), some (.int (0 : Int32)), some (.int (1 : Int32))]) rfl ?_
        exact dn_1 hNW hf hl hc hsl act hEnd (by omega) (by omega) 1 (by omega) _ _ 0 _ rfl rfl (by omega) frw_13 fTo_13 fPA_13 hM_6 fr_11
    · exact absurd hpo.1 (by omega)
  · exact absurd hpo.1 (by omega)

/-! The reference: lines at their limits, reserves, rights. -/
def WSm (k j : Nat) : Prop := k = 124 ∧ (j = 7 ∨ j = 8 ∨ j = 35 ∨ j = 36)
theorem WSm_rw : ∀ q ∈ RWT, ¬ WSm 124 q.1 := by
  intro q hq
  have : q.1 ≠ 7 ∧ q.1 ≠ 8 ∧ q.1 ≠ 35 ∧ q.1 ≠ 36 := by revert q; decide
  unfold WSm
  omega

theorem b_right {g0 : GG} {bl : Nat} {xs : Nat → Int32} {l : Launch} {hs : List CE} {tl : Nat → Int} {a b : Int32} {r9 w9 : Nat} (rw0 : RW hs) (hTo : IArr hs 125 46 tl) (ha : a.toInt = (r9 : Int)) (hb : b.toInt = (w9 : Int)) (hr6 : r9 < 6) (hw4 : w9 < 4) : BodyN SSX TBL g0 CLS bl xs l D_265 0 0 0 0 [.ref 124, .int a, .int b] hs (fun kd r h2 => kd = 0 ∧ hs = h2 ∧ ∃ z : Int32, r = some (.int z) ∧ z.toInt = tl (22 + 4 * r9 + w9)) := by
  intro wp p e R s m args below meth c Q kc0 ks0 kc ks act hf hl hc hsl hEnd
  show WpN (gp g0 wp) CLS p l e R s m args below meth c Q D_265.2.2.1 kc0 ks0 0 [some (.ref 124), some (.int a), some (.int b)] (hs, kc, ks) []
  refine g_loadA act (gx gp_265 (w := 0x103) rfl (by decide) rfl) (a := 0) (n := 1) rfl rfl rfl ?_
  refine r_getf act (gx gp_265 (w := 0x3000049000404) rfl (by decide) rfl) (n := 4) (ci := 9) (j := 1) (N := 39) rfl rfl rfl rw0.1 (by decide) (rw0.2 (1, 125, 32, 46) (by decide)).1 ?_
  refine g_constI act (gx gp_265 (w := 0x4000000b4000000b1000000000601) rfl (by decide) rfl) (n := 6) (x := (22 : Int32)) (by decide) rfl ?_
  refine g_constI act (gx gp_265 (w := 0x40000002400000021000000000701) rfl (by decide) rfl) (n := 7) (x := (4 : Int32)) (by decide) rfl ?_
  refine g_loadI act (gx gp_265 (w := 0x1000802) rfl (by decide) rfl) (a := 1) (n := 8) rfl rfl rfl ?_
  refine g_imul act (gx gp_265 (w := 0x911) rfl (by decide) rfl) (n := 9) rfl ?_
  have v_1 := iv_mulN (show (4 : Int32).toInt = ((4 : Nat) : Int) from by decide) ha (show (4 * r9) < 2147483648 by omega)
  refine g_iadd act (gx gp_265 (w := 0xa0a) rfl (by decide) rfl) (n := 10) rfl ?_
  have v_2 := iv_addN (show (22 : Int32).toInt = ((22 : Nat) : Int) from by decide) v_1 (show (22 + (4 * r9)) < 2147483648 by omega)
  refine g_loadI act (gx gp_265 (w := 0x2000b02) rfl (by decide) rfl) (a := 2) (n := 11) rfl rfl rfl ?_
  refine g_iadd act (gx gp_265 (w := 0xc0a) rfl (by decide) rfl) (n := 12) rfl ?_
  have v_3 := iv_addN v_2 hb (show ((22 + (4 * r9)) + w9) < 2147483648 by omega)
  obtain ⟨x_4, e_5, hx_6⟩ := hTo ((22 + (4 * r9)) + w9) (by omega)
  refine r_iald act (gx gp_265 (w := 0xd1a) rfl (by decide) rfl) (n := 13) (j := ((22 + (4 * r9)) + w9)) rfl (rw0.2 (1, 125, 32, 46) (by decide)).2 v_3 (show ((22 + (4 * r9)) + w9) < 46 by omega) (v := .int x_4) e_5 ?_
  exact g_retI hEnd (gx gp_265 (w := 0x2f) rfl (by decide) rfl) ⟨rfl, rfl, _, rfl, hx_6⟩ (by show kc ≤ kc + 0; omega) (by show ks ≤ ks + 0; omega)

theorem b_begins {g0 : GG} {bl : Nat} {xs : Nat → Int32} {l : Launch} {hs : List CE} (rw0 : RW hs) (hM : ModF hs) : BodyN SSX TBL g0 CLS bl xs l D_183 0 0 0 0 [.ref 124] hs (fun kd _ h2 => kd = 0 ∧ rd h2 124 35 = .long 0 ∧ rd h2 124 36 = .long 1 ∧ ModF h2 ∧ FrS WSm hs h2) := by
  intro wp p e R s m args below meth c Q kc0 ks0 kc ks act hf hl hc hsl hEnd
  show WpN (gp g0 wp) CLS p l e R s m args below meth c Q D_183.2.2.1 kc0 ks0 0 [some (.ref 124)] (hs, kc, ks) []
  refine g_loadA act (gx gp_183 (w := 0x103) rfl (by decide) rfl) (a := 0) (n := 1) rfl rfl rfl ?_
  refine g_constL act (gx gp_183 (w := 0x40000000000000002000000000201) rfl (by decide) rfl) (n := 2) (x := 0) (by decide) rfl ?_
  refine r_putf act (gx gp_183 (w := 0x20008c9000513) rfl (by decide) rfl) (n := 5) (ci := 9) (j := 35) (N := 39) rfl rfl rfl rw0.1 (by decide) (Or.inr (Or.inr (Or.inl ⟨rfl, _, rfl⟩))) ?_
  have rw_1 := RW.wr (k := 124) (j := 35) (v := .long (0 : Int64)) rw0 (Or.inr (by decide))
  have f_2 := hM.wrL (x := (0 : Int64)) (i := 35) rw0.1 (by decide)
  have f_3 := rd_same (j := 35) (v := .long (0 : Int64)) rw0.1
  have fr_4 := (FrS.rf WSm hs).wr (k := 124) (j := 35) (.long (0 : Int64)) (by unfold WSm; omega)
  generalize (wr hs 124 35 (.long (0 : Int64))) = hs_5 at *
  refine g_loadA act (gx gp_183 (w := 0x603) rfl (by decide) rfl) (a := 0) (n := 6) rfl rfl rfl ?_
  refine g_constL act (gx gp_183 (w := 0x4000000000000000a000000000701) rfl (by decide) rfl) (n := 7) (x := 1) (by decide) rfl ?_
  refine r_putf act (gx gp_183 (w := 0x2000909000a13) rfl (by decide) rfl) (n := 10) (ci := 9) (j := 36) (N := 39) rfl rfl rfl rw_1.1 (by decide) (Or.inr (Or.inr (Or.inl ⟨rfl, _, rfl⟩))) ?_
  have rw_6 := RW.wr (k := 124) (j := 36) (v := .long (1 : Int64)) rw_1 (Or.inr (by decide))
  have f_7 := f_2.wrL (x := (1 : Int64)) (i := 36) rw_1.1 (by decide)
  have f_8 := (rd_ne hs_5 (k := 124) (j := 36) (.long (1 : Int64)) (Or.inr (by decide))).trans f_3
  have f_9 := rd_same (j := 36) (v := .long (1 : Int64)) rw_1.1
  have fr_10 := fr_4.wr (k := 124) (j := 36) (.long (1 : Int64)) (by unfold WSm; omega)
  clear rw_1 fr_4 f_2 f_3
  generalize (wr hs_5 124 36 (.long (1 : Int64))) = hs_11 at *
  exact g_retV hEnd (gx gp_183 (w := 0x18) rfl (by decide) rfl) ⟨rfl, f_8, f_9, f_7, fr_10⟩ (by show kc ≤ kc + 0; omega) (by show ks ≤ ks + 0; omega)

theorem b_sums {g0 : GG} {bl : Nat} {xs : Nat → Int32} {l : Launch} {hs : List CE} {a b c1 d s1 s2 : Int64} {k1 k2 k : Nat} (rw0 : RW hs) (hM : ModF hs) (e35 : rd hs 124 35 = .long s1) (e36 : rd hs 124 36 = .long s2) (hb : K2 k1 b) (hd : K2 k2 d) (h2 : K2 k s2) (hk : k1 + k2 - 1 ≤ k) (hk64 : k ≤ 64) (hk1 : k1 + k2 - 1 ≤ 64) : BodyN SSX TBL g0 CLS bl xs l D_274 3 87 0 0 [.ref 124, .long a, .long b, .long c1, .long d] hs (fun kd _ h2 => kd = 0 ∧ ∃ x y : Int64, rd h2 124 35 = .long x ∧ rd h2 124 36 = .long y ∧ K2 k y ∧ ModF h2 ∧ FrS WSm hs h2) := by
  intro wp p e R s m args below meth c Q kc0 ks0 kc ks act hf hl hc hsl hEnd
  show WpN (gp g0 wp) CLS p l e R s m args below meth c Q D_274.2.2.1 kc0 ks0 0 [some (.ref 124), some (.long a), none, some (.long b), none, some (.long c1), none, some (.long d), none] (hs, kc, ks) []
  refine g_loadA act (gx gp_274 (w := 0x103) rfl (by decide) rfl) (a := 0) (n := 1) rfl rfl rfl ?_
  refine g_loadL act (gx gp_274 (w := 0x1000206) rfl (by decide) rfl) (a := 1) (n := 2) rfl rfl rfl ?_
  refine g_loadL act (gx gp_274 (w := 0x3000306) rfl (by decide) rfl) (a := 3) (n := 3) rfl rfl rfl ?_
  refine g_loadL act (gx gp_274 (w := 0x5000506) rfl (by decide) rfl) (a := 5) (n := 5) rfl rfl rfl ?_
  refine g_loadL act (gx gp_274 (w := 0x7000706) rfl (by decide) rfl) (a := 7) (n := 7) rfl rfl rfl ?_
  refine n_call tb_pres act hEnd (gx (P := G_call) gp_274 (w := 0xa0000000000008349500011a000a0f) rfl (by decide) rfl) (d' := D_282) rfl (as := [.ref 124, .long a, .long b, .long c1, .long d]) (rest := []) (b_timesK rw0.1 hb hd (by omega)) (show (5 : Nat) = fb 0xa0000000000008349500011a000a0f % 16 by decide) (by show (9 : Nat) ≤ 13; decide) (fun _ => ⟨_, _, rfl, _, shp_at rw0.1, Or.inr (show fb 0xa0000000000008349500011a000a0f >>> 68 = 10 by decide)⟩) (by omega) (by show 8 + (13 + 11) + 55 ≤ R.locals; omega) (by show (0 : Nat) ≤ 8; decide) (by show kc + 0 ≤ _; omega) (by show ks + 0 ≤ _; omega) (fun r9 hs_1 hpo hr9 => ?_) (fun x9 hs9 hx9 hpo => ?_)
  · obtain rfl : r9 = none := hr9.elim (fun q => q.2) (fun q => absurd rfl q.1)
    obtain ⟨-, t_2, w_3, e_4, e_5, hK_6, fr_7⟩ := hpo
    have hM_8 := ModF.w0 hM fr_7
    have rw_9 := rw0.fr fr_7 W0_rw
    have f_11 := rd_fr fr_7 e35 (by unfold W0; omega)
    have f_12 := rd_fr fr_7 e36 (by unfold W0; omega)
    have fr_13 := (FrS.rf WSm hs).tr (fr_7.mono (fun k9 j9 h9 => by unfold W0 at h9; unfold WSm; omega))
    show WpN (gp g0 wp) CLS p l e R s m args below meth c Q D_274.2.2.1 kc0 ks0 10 [some (.ref 124), some (.long a), none, some (.long b), none, some (.long c1), none, some (.long d), none] (hs_1, kc, ks) []
    refine g_loadA act (gx gp_274 (w := 0xb03) rfl (by decide) rfl) (a := 0) (n := 11) rfl rfl rfl ?_
    refine g_loadA act (gx gp_274 (w := 0xc03) rfl (by decide) rfl) (a := 0) (n := 12) rfl rfl rfl ?_
    refine r_getf act (gx gp_274 (w := 0x20008c9000f04) rfl (by decide) rfl) (n := 15) (ci := 9) (j := 35) (N := 39) rfl rfl rfl rw_9.1 (by decide) (v := .long s1) f_11 ?_
    refine g_loadA act (gx gp_274 (w := 0x1003) rfl (by decide) rfl) (a := 0) (n := 16) rfl rfl rfl ?_
    refine r_getf act (gx gp_274 (w := 0x2000909001304) rfl (by decide) rfl) (n := 19) (ci := 9) (j := 36) (N := 39) rfl rfl rfl rw_9.1 (by decide) (v := .long s2) f_12 ?_
    refine g_loadA act (gx gp_274 (w := 0x1403) rfl (by decide) rfl) (a := 0) (n := 20) rfl rfl rfl ?_
    refine r_getf act (gx gp_274 (w := 0x20001c9001704) rfl (by decide) rfl) (n := 23) (ci := 9) (j := 7) (N := 39) rfl rfl rfl rw_9.1 (by decide) (v := .long t_2) e_4 ?_
    refine g_loadA act (gx gp_274 (w := 0x1803) rfl (by decide) rfl) (a := 0) (n := 24) rfl rfl rfl ?_
    refine r_getf act (gx gp_274 (w := 0x2000209001b04) rfl (by decide) rfl) (n := 27) (ci := 9) (j := 8) (N := 39) rfl rfl rfl rw_9.1 (by decide) (v := .long w_3) e_5 ?_
    refine n_call tb_pres act hEnd (gx (P := G_call) gp_274 (w := 0xa00000000000082c950000fc001e0f) rfl (by decide) rfl) (d' := D_252) rfl (as := [.ref 124, .long s1, .long s2, .long t_2, .long w_3]) (rest := []) (b_plusK (k := k) rw_9.1 h2 (hK_6.mono (by omega)) hk64) (show (5 : Nat) = fb 0xa00000000000082c950000fc001e0f % 16 by decide) (by show (9 : Nat) ≤ 11; decide) (fun _ => ⟨_, _, rfl, _, shp_at rw_9.1, Or.inr (show fb 0xa00000000000082c950000fc001e0f >>> 68 = 10 by decide)⟩) (by omega) (by show 8 + (11 + 11) + 55 ≤ R.locals; omega) (by show (0 : Nat) ≤ 8; decide) (by show kc + 0 ≤ _; omega) (by show ks + 0 ≤ _; omega) (fun r9 hs_14 hpo hr9 => ?_) (fun x9 hs9 hx9 hpo => ?_)
    · obtain rfl : r9 = none := hr9.elim (fun q => q.2) (fun q => absurd rfl q.1)
      obtain ⟨-, t_15, w_16, e_17, e_18, hK_19, fr_20⟩ := hpo
      have hM_21 := ModF.w0 hM_8 fr_20
      have rw_22 := rw_9.fr fr_20 W0_rw
      have f_23 := rd_fr fr_20 f_11 (by unfold W0; omega)
      have f_24 := rd_fr fr_20 f_12 (by unfold W0; omega)
      have fr_26 := fr_13.tr (fr_20.mono (fun k9 j9 h9 => by unfold W0 at h9; unfold WSm; omega))
      clear rw_9 f_11 f_12 hM_8 e_4 e_5 fr_13
      show WpN (gp g0 wp) CLS p l e R s m args below meth c Q D_274.2.2.1 kc0 ks0 30 [some (.ref 124), some (.long a), none, some (.long b), none, some (.long c1), none, some (.long d), none] (hs_14, kc, ks) []
      refine g_loadA act (gx gp_274 (w := 0x1f03) rfl (by decide) rfl) (a := 0) (n := 31) rfl rfl rfl ?_
      refine g_loadA act (gx gp_274 (w := 0x2003) rfl (by decide) rfl) (a := 0) (n := 32) rfl rfl rfl ?_
      refine r_getf act (gx gp_274 (w := 0x20001c9002304) rfl (by decide) rfl) (n := 35) (ci := 9) (j := 7) (N := 39) rfl rfl rfl rw_22.1 (by decide) (v := .long t_15) e_17 ?_
      refine r_putf act (gx gp_274 (w := 0x20008c9002613) rfl (by decide) rfl) (n := 38) (ci := 9) (j := 35) (N := 39) rfl rfl rfl rw_22.1 (by decide) (Or.inr (Or.inr (Or.inl ⟨rfl, _, rfl⟩))) ?_
      have rw_27 := RW.wr (k := 124) (j := 35) (v := .long t_15) rw_22 (Or.inr (by decide))
      have f_29 := (rd_ne hs_14 (k := 124) (j := 35) (.long t_15) (Or.inr (by decide))).trans f_24
      have f_30 := hM_21.wrL (x := t_15) (i := 35) rw_22.1 (by decide)
      have f_31 := (rd_ne hs_14 (k := 124) (j := 35) (.long t_15) (Or.inr (by decide))).trans e_17
      have f_32 := (rd_ne hs_14 (k := 124) (j := 35) (.long t_15) (Or.inr (by decide))).trans e_18
      have f_33 := rd_same (j := 35) (v := .long t_15) rw_22.1
      have fr_34 := fr_26.wr (k := 124) (j := 35) (.long t_15) (by unfold WSm; omega)
      clear rw_22 fr_26 f_23 f_24 hM_21 e_17 e_18
      generalize (wr hs_14 124 35 (.long t_15)) = hs_35 at *
      refine g_loadA act (gx gp_274 (w := 0x2703) rfl (by decide) rfl) (a := 0) (n := 39) rfl rfl rfl ?_
      refine g_loadA act (gx gp_274 (w := 0x2803) rfl (by decide) rfl) (a := 0) (n := 40) rfl rfl rfl ?_
      refine r_getf act (gx gp_274 (w := 0x2000209002b04) rfl (by decide) rfl) (n := 43) (ci := 9) (j := 8) (N := 39) rfl rfl rfl rw_27.1 (by decide) (v := .long w_16) f_32 ?_
      refine r_putf act (gx gp_274 (w := 0x2000909002e13) rfl (by decide) rfl) (n := 46) (ci := 9) (j := 36) (N := 39) rfl rfl rfl rw_27.1 (by decide) (Or.inr (Or.inr (Or.inl ⟨rfl, _, rfl⟩))) ?_
      have rw_36 := RW.wr (k := 124) (j := 36) (v := .long w_16) rw_27 (Or.inr (by decide))
      have f_38 := f_30.wrL (x := w_16) (i := 36) rw_27.1 (by decide)
      have f_39 := (rd_ne hs_35 (k := 124) (j := 36) (.long w_16) (Or.inr (by decide))).trans f_31
      have f_40 := (rd_ne hs_35 (k := 124) (j := 36) (.long w_16) (Or.inr (by decide))).trans f_32
      have f_41 := (rd_ne hs_35 (k := 124) (j := 36) (.long w_16) (Or.inr (by decide))).trans f_33
      have f_42 := rd_same (j := 36) (v := .long w_16) rw_27.1
      have fr_43 := fr_34.wr (k := 124) (j := 36) (.long w_16) (by unfold WSm; omega)
      clear rw_27 fr_34 f_29 f_30 f_31 f_32 f_33
      generalize (wr hs_35 124 36 (.long w_16)) = hs_44 at *
      exact g_retV hEnd (gx gp_274 (w := 0x18) rfl (by decide) rfl) ⟨rfl, _, _, f_41, f_42, hK_19, f_38, fr_43⟩ (by show kc ≤ kc + 0; omega) (by show ks ≤ ks + 0; omega)
    · exact absurd hpo.1 (by omega)
  · exact absurd hpo.1 (by omega)

theorem b_brings {g0 : GG} {bl : Nat} {xs : Nat → Int32} {l : Launch} {hs : List CE} {li ai bi : Int32} {ln9 a9 b9 : Nat} (hli : li.toInt = (ln9 : Int)) (hai : ai.toInt = (a9 : Int)) (hbi : bi.toInt = (b9 : Int)) (hl6 : ln9 < 6) (ha4 : a9 < 4) (hb4 : b9 < 4) (rw0 : RW hs) (hK : KR hs 131 132 0 24 5) (hM : ModF hs) : BodyN SSX TBL g0 CLS bl xs l D_186 3 85 0 0 [.ref 124, .int li, .int ai, .int bi] hs (fun kd _ h2 => kd = 0 ∧ ∃ t w : Int64, rd h2 124 7 = .long t ∧ rd h2 124 8 = .long w ∧ K2 5 w ∧ FrS W0 hs h2) := by
  intro wp p e R s m args below meth c Q kc0 ks0 kc ks act hf hl hc hsl hEnd
  show WpN (gp g0 wp) CLS p l e R s m args below meth c Q D_186.2.2.1 kc0 ks0 0 [some (.ref 124), some (.int li), some (.int ai), some (.int bi)] (hs, kc, ks) []
  refine g_loadA act (gx gp_186 (w := 0x103) rfl (by decide) rfl) (a := 0) (n := 1) rfl rfl rfl ?_
  refine g_loadA act (gx gp_186 (w := 0x203) rfl (by decide) rfl) (a := 0) (n := 2) rfl rfl rfl ?_
  refine r_getf act (gx gp_186 (w := 0x3000409000504) rfl (by decide) rfl) (n := 5) (ci := 9) (j := 16) (N := 39) rfl rfl rfl rw0.1 (by decide) (rw0.2 (16, 131, 33, 48) (by decide)).1 ?_
  refine g_constI act (gx gp_186 (w := 0x40000002400000021000000000601) rfl (by decide) rfl) (n := 6) (x := (4 : Int32)) (by decide) rfl ?_
  refine g_loadI act (gx gp_186 (w := 0x1000702) rfl (by decide) rfl) (a := 1) (n := 7) rfl rfl rfl ?_
  refine g_imul act (gx gp_186 (w := 0x811) rfl (by decide) rfl) (n := 8) rfl ?_
  have v_1 := iv_mulN (show (4 : Int32).toInt = ((4 : Nat) : Int) from by decide) hli (show (4 * ln9) < 2147483648 by omega)
  refine g_loadI act (gx gp_186 (w := 0x2000902) rfl (by decide) rfl) (a := 2) (n := 9) rfl rfl rfl ?_
  refine g_iadd act (gx gp_186 (w := 0xa0a) rfl (by decide) rfl) (n := 10) rfl ?_
  have v_2 := iv_addN v_1 hai (show ((4 * ln9) + a9) < 2147483648 by omega)
  obtain ⟨x_3, w_6, e_4, e_7, hx_5⟩ := hK ((4 * ln9) + a9) (by omega) (by omega)
  refine r_lald act (gx gp_186 (w := 0xb0d) rfl (by decide) rfl) (n := 11) (j := ((4 * ln9) + a9)) rfl (rw0.2 (16, 131, 33, 48) (by decide)).2 v_2 (show ((4 * ln9) + a9) < 48 by omega) (v := .long x_3) e_4 ?_
  refine g_loadA act (gx gp_186 (w := 0xc03) rfl (by decide) rfl) (a := 0) (n := 12) rfl rfl rfl ?_
  refine r_getf act (gx gp_186 (w := 0x3000449000f04) rfl (by decide) rfl) (n := 15) (ci := 9) (j := 17) (N := 39) rfl rfl rfl rw0.1 (by decide) (rw0.2 (17, 132, 33, 48) (by decide)).1 ?_
  refine g_constI act (gx gp_186 (w := 0x40000002400000021000000001001) rfl (by decide) rfl) (n := 16) (x := (4 : Int32)) (by decide) rfl ?_
  refine g_loadI act (gx gp_186 (w := 0x1001102) rfl (by decide) rfl) (a := 1) (n := 17) rfl rfl rfl ?_
  refine g_imul act (gx gp_186 (w := 0x1211) rfl (by decide) rfl) (n := 18) rfl ?_
  have v_8 := iv_mulN (show (4 : Int32).toInt = ((4 : Nat) : Int) from by decide) hli (show (4 * ln9) < 2147483648 by omega)
  refine g_loadI act (gx gp_186 (w := 0x2001302) rfl (by decide) rfl) (a := 2) (n := 19) rfl rfl rfl ?_
  refine g_iadd act (gx gp_186 (w := 0x140a) rfl (by decide) rfl) (n := 20) rfl ?_
  have v_9 := iv_addN v_8 hai (show ((4 * ln9) + a9) < 2147483648 by omega)
  refine r_lald act (gx gp_186 (w := 0x150d) rfl (by decide) rfl) (n := 21) (j := ((4 * ln9) + a9)) rfl (rw0.2 (17, 132, 33, 48) (by decide)).2 v_9 (show ((4 * ln9) + a9) < 48 by omega) (v := .long w_6) e_7 ?_
  refine g_loadA act (gx gp_186 (w := 0x1603) rfl (by decide) rfl) (a := 0) (n := 22) rfl rfl rfl ?_
  refine r_getf act (gx gp_186 (w := 0x3000409001904) rfl (by decide) rfl) (n := 25) (ci := 9) (j := 16) (N := 39) rfl rfl rfl rw0.1 (by decide) (rw0.2 (16, 131, 33, 48) (by decide)).1 ?_
  refine g_constI act (gx gp_186 (w := 0x40000002400000021000000001a01) rfl (by decide) rfl) (n := 26) (x := (4 : Int32)) (by decide) rfl ?_
  refine g_loadI act (gx gp_186 (w := 0x1001b02) rfl (by decide) rfl) (a := 1) (n := 27) rfl rfl rfl ?_
  refine g_imul act (gx gp_186 (w := 0x1c11) rfl (by decide) rfl) (n := 28) rfl ?_
  have v_15 := iv_mulN (show (4 : Int32).toInt = ((4 : Nat) : Int) from by decide) hli (show (4 * ln9) < 2147483648 by omega)
  refine g_loadI act (gx gp_186 (w := 0x3001d02) rfl (by decide) rfl) (a := 3) (n := 29) rfl rfl rfl ?_
  refine g_iadd act (gx gp_186 (w := 0x1e0a) rfl (by decide) rfl) (n := 30) rfl ?_
  have v_16 := iv_addN v_15 hbi (show ((4 * ln9) + b9) < 2147483648 by omega)
  obtain ⟨x_17, w_20, e_18, e_21, hx_19⟩ := hK ((4 * ln9) + b9) (by omega) (by omega)
  refine r_lald act (gx gp_186 (w := 0x1f0d) rfl (by decide) rfl) (n := 31) (j := ((4 * ln9) + b9)) rfl (rw0.2 (16, 131, 33, 48) (by decide)).2 v_16 (show ((4 * ln9) + b9) < 48 by omega) (v := .long x_17) e_18 ?_
  refine g_lneg act (gx gp_186 (w := 0x2025) rfl (by decide) rfl) (n := 32) rfl ?_
  refine g_loadA act (gx gp_186 (w := 0x2103) rfl (by decide) rfl) (a := 0) (n := 33) rfl rfl rfl ?_
  refine r_getf act (gx gp_186 (w := 0x3000449002404) rfl (by decide) rfl) (n := 36) (ci := 9) (j := 17) (N := 39) rfl rfl rfl rw0.1 (by decide) (rw0.2 (17, 132, 33, 48) (by decide)).1 ?_
  refine g_constI act (gx gp_186 (w := 0x40000002400000021000000002501) rfl (by decide) rfl) (n := 37) (x := (4 : Int32)) (by decide) rfl ?_
  refine g_loadI act (gx gp_186 (w := 0x1002602) rfl (by decide) rfl) (a := 1) (n := 38) rfl rfl rfl ?_
  refine g_imul act (gx gp_186 (w := 0x2711) rfl (by decide) rfl) (n := 39) rfl ?_
  have v_22 := iv_mulN (show (4 : Int32).toInt = ((4 : Nat) : Int) from by decide) hli (show (4 * ln9) < 2147483648 by omega)
  refine g_loadI act (gx gp_186 (w := 0x3002802) rfl (by decide) rfl) (a := 3) (n := 40) rfl rfl rfl ?_
  refine g_iadd act (gx gp_186 (w := 0x290a) rfl (by decide) rfl) (n := 41) rfl ?_
  have v_23 := iv_addN v_22 hbi (show ((4 * ln9) + b9) < 2147483648 by omega)
  refine r_lald act (gx gp_186 (w := 0x2a0d) rfl (by decide) rfl) (n := 42) (j := ((4 * ln9) + b9)) rfl (rw0.2 (17, 132, 33, 48) (by decide)).2 v_23 (show ((4 * ln9) + b9) < 48 by omega) (v := .long w_20) e_21 ?_
  refine n_call tb_pres act hEnd (gx (P := G_call) gp_186 (w := 0xa00000000000082c950000fc002d0f) rfl (by decide) rfl) (d' := D_252) rfl (as := [.ref 124, .long x_3, .long w_6, .long (-x_17), .long w_20]) (rest := []) (b_plusK (k := 5) rw0.1 (hx_5.mono (by decide)) (hx_19.mono (by decide)) (by decide)) (show (5 : Nat) = fb 0xa00000000000082c950000fc002d0f % 16 by decide) (by show (9 : Nat) ≤ 11; decide) (fun _ => ⟨_, _, rfl, _, shp_at rw0.1, Or.inr (show fb 0xa00000000000082c950000fc002d0f >>> 68 = 10 by decide)⟩) (by omega) (by show 8 + (11 + 11) + 55 ≤ R.locals; omega) (by show (0 : Nat) ≤ 8; decide) (by show kc + 0 ≤ _; omega) (by show ks + 0 ≤ _; omega) (fun r9 hs_29 hpo hr9 => ?_) (fun x9 hs9 hx9 hpo => ?_)
  · obtain rfl : r9 = none := hr9.elim (fun q => q.2) (fun q => absurd rfl q.1)
    obtain ⟨-, t_30, w_31, e_32, e_33, hK_34, fr_35⟩ := hpo
    have hM_36 := ModF.w0 hM fr_35
    have rw_37 := rw0.fr fr_35 W0_rw
    have f_38 := hK.fr (fun j9 _ _ => ⟨fr_35.2.2 131 j9 (by unfold W0; omega), fr_35.2.2 132 j9 (by unfold W0; omega)⟩)
    have fr_40 := (FrS.rf W0 hs).tr fr_35
    show WpN (gp g0 wp) CLS p l e R s m args below meth c Q D_186.2.2.1 kc0 ks0 45 [some (.ref 124), some (.int li), some (.int ai), some (.int bi)] (hs_29, kc, ks) []
    exact g_retV hEnd (gx gp_186 (w := 0x18) rfl (by decide) rfl) ⟨rfl, _, _, e_32, e_33, hK_34, fr_40⟩ (by show kc ≤ kc + 0; omega) (by show ks ≤ ks + 0; omega)
  · exact absurd hpo.1 (by omega)

theorem arf_2 {g0 : GG} {bl : Nat} {xs : Nat → Int32} {l : Launch} {wp : va_W} {p : Program} {e : Env} {R : Room} {s : State} {m : MethodId} {args : Array Value} {below : List Frame} {meth : Method} {c : Code} {Q : State → Prop} {kc0 ks0 kc ks f lam KC KS : Nat} {hs : List CE} {tl wl : Nat → Int} {nl n ng nr : Nat} (hNW : NW tl wl nl n ng nr) {ai li : Int32} {l9 : Nat} (hai : ai = 0 ∨ ai = 1) (hli : li.toInt = (l9 : Int)) (hl9 : l9 < nl) (hf : 6 ≤ R.frames) (hl : 169 ≤ R.locals) (hc : kc ≤ R.cells + kc0) (hsl : ks ≤ R.slots + ks0) (act : Act SSX TBL (gp g0 wp) CLS bl xs D_181 p l s m args meth c) (hEnd : EndN SSX TBL (gp g0 wp) CLS D_181 p l e R s m args below meth c Q kc0 ks0 f lam KC KS (POZ hs)) (hk1 : kc ≤ KC) (hk2 : ks ≤ KS) (KO : ∀ (ai : Int32) (li : Int32) (hj : List CE), (ai = 0 ∨ ai = 1) → li.toInt = ((l9 + 1 : Nat) : Int) → RW hj → IArr hj 125 46 tl → IArr hj 127 39 wl → KR hj 131 132 0 24 5 → ModF hj → FrS WM hs hj → WpN (gp g0 wp) CLS p l e R s m args below meth c Q D_181.2.2.1 kc0 ks0 14 [some (.ref 124), some (.int ai), some (.int li), none, none] (hj, kc, ks) []) : ∀ j9 : Nat, j9 ≤ nr → ∀ (xi : Int32) (s1 s2 : Int64) (hj : List CE), xi.toInt = (j9 : Int) → K2 5 s2 → RW hj → IArr hj 125 46 tl → IArr hj 127 39 wl → KR hj 131 132 0 24 5 → ModF hj → rd hj 124 35 = .long s1 → rd hj 124 36 = .long s2 → FrS WM hs hj → WpN (gp g0 wp) CLS p l e R s m args below meth c Q D_181.2.2.1 kc0 ks0 30 [some (.ref 124), some (.int ai), some (.int li), some (.int xi), none] (hj, kc, ks) [] := by
  have hN9 := hNW
  obtain ⟨n0, n1, n2, n3, n4, n5, n6, n7, n8, hG0, nL, nC, nP, nD⟩ := hN9
  have hGn := hG0.1
  have hGn3 := hG0.2.1
  have hGl := hG0.2.2.1
  refine dn (fun j9 hj9 ih => ?_)
  intro xi s1 s2 hj hxi hk2s rwj fTo fW hK hM e35 e36 hfr
  have hr9 := n8 j9
  refine g_loadI act (gx gp_181 (w := 0x3001f02) rfl (by decide) rfl) (a := 3) (n := 31) rfl rfl rfl ?_
  refine g_loadA act (gx gp_181 (w := 0x2003) rfl (by decide) rfl) (a := 0) (n := 32) rfl rfl rfl ?_
  refine r_getf act (gx gp_181 (w := 0x3000049002304) rfl (by decide) rfl) (n := 35) (ci := 9) (j := 1) (N := 39) rfl rfl rfl rwj.1 (by decide) (rwj.2 (1, 125, 32, 46) (by decide)).1 ?_
  refine g_constI act (gx gp_181 (w := 0x40000002400000021000000002401) rfl (by decide) rfl) (n := 36) (x := (4 : Int32)) (by decide) rfl ?_
  obtain ⟨x_1, e_2, hx_3⟩ := fTo 4 (by omega)
  refine r_iald act (gx gp_181 (w := 0x251a) rfl (by decide) rfl) (n := 37) (j := 4) rfl (rwj.2 (1, 125, 32, 46) (by decide)).2 (show (4 : Int32).toInt = ((4 : Nat) : Int) from by decide) (show 4 < 46 by omega) (v := .int x_1) e_2 ?_
  refine g_icmpGe act (gx gp_181 (w := 0x53002808) rfl (by decide) rfl) (tgt := 83) (n := 40) rfl rfl (fun h4 => ?_) (fun h4 => ?_)
  · simp only [i_le] at h4
    refine g_loadA act (gx gp_181 (w := 0x5403) rfl (by decide) rfl) (a := 0) (n := 84) rfl rfl rfl ?_
    refine r_getf act (gx gp_181 (w := 0x20008c9005704) rfl (by decide) rfl) (n := 87) (ci := 9) (j := 35) (N := 39) rfl rfl rfl rwj.1 (by decide) (v := .long s1) e35 ?_
    refine g_constL act (gx gp_181 (w := 0x40000000000000002000000005801) rfl (by decide) rfl) (n := 88) (x := 0) (by decide) rfl ?_
    refine g_lcmp act (gx gp_181 (w := 0x590c) rfl (by decide) rfl) (n := 89) rfl ?_
    refine g_ifGe act (gx gp_181 (w := 0x64005c14) rfl (by decide) rfl) (tgt := 100) (n := 92) rfl rfl (fun h8 => ?_) (fun h8 => ?_)
    · simp only [cmpGe, show (0 : Int64).toInt = 0 from by decide] at h8
      refine g_loadA act (gx gp_181 (w := 0x6503) rfl (by decide) rfl) (a := 0) (n := 101) rfl rfl rfl ?_
      refine r_getf act (gx gp_181 (w := 0x20008c9006804) rfl (by decide) rfl) (n := 104) (ci := 9) (j := 35) (N := 39) rfl rfl rfl rwj.1 (by decide) (v := .long s1) e35 ?_
      refine g_storeL act (gx gp_181 (w := 0x300690b) rfl (by decide) rfl) (a := 3) (n := 105) rfl rfl (L2 := [some (.ref 124), some (.int ai), some (.int li), some (.long s1), none]) rfl ?_
      refine g_loadI act (gx gp_181 (w := 0x1006a02) rfl (by decide) rfl) (a := 1) (n := 106) rfl rfl rfl ?_
      refine g_ifEq act (gx gp_181 (w := 0x86006d0e) rfl (by decide) rfl) (tgt := 134) (n := 109) rfl rfl (fun h12 => ?_) (fun h12 => ?_)
      · simp only [i_eq, i0] at h12
        refine g_constI act (gx gp_181 (w := 0x40000000400000001000000008701) rfl (by decide) rfl) (n := 135) (x := (0 : Int32)) (by decide) rfl ?_
        refine g_storeI act (gx gp_181 (w := 0x1008810) rfl (by decide) rfl) (a := 1) (n := 136) rfl rfl (L2 := [some (.ref 124), some (.int (0 : Int32)), some (.int li), some (.long s1), none]) rfl ?_
        refine g_iinc act (gx gp_181 (w := 0x80000001000002008b09) rfl (by decide) rfl) (a := 2) (i := (1 : Int32)) (n := 139) rfl (by decide) rfl rfl (L2 := [some (.ref 124), some (.int (0 : Int32)), some (.int (li + (1 : Int32))), some (.long s1), none]) rfl ?_
        have v_4 := iv_addN hli (show (1 : Int32).toInt = ((1 : Nat) : Int) from by decide) (show (l9 + 1) < 2147483648 by omega)
        refine g_goto act (gx gp_181 (w := 0xe07) rfl (by decide) rfl) (n := 14) rfl ?_
        exact n_forget (d := D_181) (L2 := [some (.ref 124), some (.int (0 : Int32)), some (.int (li + (1 : Int32))), none, none]) (fun i v hi => by
          match i, hi with
          | 0, hi => exact hi
          | 1, hi => exact hi
          | 2, hi => exact hi
          | 3, hi => cases hi
          | 4, hi => cases hi
          | i + 5, hi => cases hi) (KO _ _ _ (Or.inl rfl) v_4 rwj fTo fW hK hM hfr)
      · simp only [i_eq, i0] at h12
        refine g_loadA act (gx gp_181 (w := 0x6e03) rfl (by decide) rfl) (a := 0) (n := 110) rfl rfl rfl ?_
        refine r_getf act (gx gp_181 (w := 0x30000c9007104) rfl (by decide) rfl) (n := 113) (ci := 9) (j := 3) (N := 39) rfl rfl rfl rwj.1 (by decide) (rwj.2 (3, 127, 32, 39) (by decide)).1 ?_
        refine g_constI act (gx gp_181 (w := 0x40000000400000001000000007201) rfl (by decide) rfl) (n := 114) (x := (0 : Int32)) (by decide) rfl ?_
        refine g_loadI act (gx gp_181 (w := 0x2007302) rfl (by decide) rfl) (a := 2) (n := 115) rfl rfl rfl ?_
        refine g_iadd act (gx gp_181 (w := 0x740a) rfl (by decide) rfl) (n := 116) rfl ?_
        have v_5 := iv_addN (show (0 : Int32).toInt = ((0 : Nat) : Int) from by decide) hli (show (0 + l9) < 2147483648 by omega)
        obtain ⟨x_6, e_7, hx_8⟩ := fW (0 + l9) (by omega)
        refine r_iald act (gx gp_181 (w := 0x751a) rfl (by decide) rfl) (n := 117) (j := (0 + l9)) rfl (rwj.2 (3, 127, 32, 39) (by decide)).2 v_5 (show (0 + l9) < 39 by omega) (v := .int x_6) e_7 ?_
        refine g_i2l act (gx gp_181 (w := 0x762c) rfl (by decide) rfl) (n := 118) rfl ?_
        have v_9 := lw_i2l hx_8
        refine g_constL act (gx gp_181 (w := 0x4000000000000000a000000007701) rfl (by decide) rfl) (n := 119) (x := 1) (by decide) rfl ?_
        refine g_loadL act (gx gp_181 (w := 0x3007806) rfl (by decide) rfl) (a := 3) (n := 120) rfl rfl rfl ?_
        refine g_loadA act (gx gp_181 (w := 0x7903) rfl (by decide) rfl) (a := 0) (n := 121) rfl rfl rfl ?_
        refine r_getf act (gx gp_181 (w := 0x2000909007c04) rfl (by decide) rfl) (n := 124) (ci := 9) (j := 36) (N := 39) rfl rfl rfl rwj.1 (by decide) (v := .long s2) e36 ?_
        refine n_call tb_pres act hEnd (gx (P := G_call) gp_181 (w := 0x428840000e1007f0f) rfl (by decide) rfl) (d' := D_225) rfl (as := [.long (x_6).toInt64, .long (1 : Int64), .long s1, .long s2]) (rest := []) (b_lessK hk2s) (show (4 : Nat) = fb 0x428840000e1007f0f % 16 by decide) (by show (8 : Nat) ≤ 10; decide) (fun q => absurd q (by decide)) (by omega) (by show 8 + (10 + 11) + 29 ≤ R.locals; omega) (by show (0 : Nat) ≤ 8; decide) (by show kc + 0 ≤ _; omega) (by show ks + 0 ≤ _; omega) (fun r9 h3 hpo hr9 => ?_) (fun x9 hs9 hx9 hpo => ?_)
        · obtain ⟨-, rfl, hr_11⟩ := hpo
          obtain ⟨rv_10, rfl, hr_11o⟩ := z01_t hr_11
          show WpN (gp g0 wp) CLS p l e R s m args below meth c Q D_181.2.2.1 kc0 ks0 127 [some (.ref 124), some (.int ai), some (.int li), some (.long s1), none] (hj, kc, ks) [.int rv_10]
          refine g_ifNe act (gx gp_181 (w := 0x8600821d) rfl (by decide) rfl) (tgt := 134) (n := 130) rfl rfl (fun h22 => ?_) (fun h22 => ?_)
          · simp only [i_eq, i0] at h22
            refine g_constI act (gx gp_181 (w := 0x40000000400000001000000008701) rfl (by decide) rfl) (n := 135) (x := (0 : Int32)) (by decide) rfl ?_
            refine g_storeI act (gx gp_181 (w := 0x1008810) rfl (by decide) rfl) (a := 1) (n := 136) rfl rfl (L2 := [some (.ref 124), some (.int (0 : Int32)), some (.int li), some (.long s1), none]) rfl ?_
            refine g_iinc act (gx gp_181 (w := 0x80000001000002008b09) rfl (by decide) rfl) (a := 2) (i := (1 : Int32)) (n := 139) rfl (by decide) rfl rfl (L2 := [some (.ref 124), some (.int (0 : Int32)), some (.int (li + (1 : Int32))), some (.long s1), none]) rfl ?_
            have v_12 := iv_addN hli (show (1 : Int32).toInt = ((1 : Nat) : Int) from by decide) (show (l9 + 1) < 2147483648 by omega)
            refine g_goto act (gx gp_181 (w := 0xe07) rfl (by decide) rfl) (n := 14) rfl ?_
            exact n_forget (d := D_181) (L2 := [some (.ref 124), some (.int (0 : Int32)), some (.int (li + (1 : Int32))), none, none]) (fun i v hi => by
              match i, hi with
              | 0, hi => exact hi
              | 1, hi => exact hi
              | 2, hi => exact hi
              | 3, hi => cases hi
              | 4, hi => cases hi
              | i + 5, hi => cases hi) (KO _ _ _ (Or.inl rfl) v_12 rwj fTo fW hK hM hfr)
          · simp only [i_eq, i0] at h22
            refine g_constI act (gx gp_181 (w := 0x40000000c00000009000000008301) rfl (by decide) rfl) (n := 131) (x := (1 : Int32)) (by decide) rfl ?_
            refine g_goto act (gx gp_181 (w := 0x8707) rfl (by decide) rfl) (n := 135) rfl ?_
            refine g_storeI act (gx gp_181 (w := 0x1008810) rfl (by decide) rfl) (a := 1) (n := 136) rfl rfl (L2 := [some (.ref 124), some (.int (1 : Int32)), some (.int li), some (.long s1), none]) rfl ?_
            refine g_iinc act (gx gp_181 (w := 0x80000001000002008b09) rfl (by decide) rfl) (a := 2) (i := (1 : Int32)) (n := 139) rfl (by decide) rfl rfl (L2 := [some (.ref 124), some (.int (1 : Int32)), some (.int (li + (1 : Int32))), some (.long s1), none]) rfl ?_
            have v_13 := iv_addN hli (show (1 : Int32).toInt = ((1 : Nat) : Int) from by decide) (show (l9 + 1) < 2147483648 by omega)
            refine g_goto act (gx gp_181 (w := 0xe07) rfl (by decide) rfl) (n := 14) rfl ?_
            exact n_forget (d := D_181) (L2 := [some (.ref 124), some (.int (1 : Int32)), some (.int (li + (1 : Int32))), none, none]) (fun i v hi => by
              match i, hi with
              | 0, hi => exact hi
              | 1, hi => exact hi
              | 2, hi => exact hi
              | 3, hi => cases hi
              | 4, hi => cases hi
              | i + 5, hi => cases hi) (KO _ _ _ (Or.inr rfl) v_13 rwj fTo fW hK hM hfr)
        · exact absurd hpo.1 (by omega)
    · simp only [cmpGe, show (0 : Int64).toInt = 0 from by decide] at h8
      refine g_loadA act (gx gp_181 (w := 0x5d03) rfl (by decide) rfl) (a := 0) (n := 93) rfl rfl rfl ?_
      refine r_getf act (gx gp_181 (w := 0x20008c9006004) rfl (by decide) rfl) (n := 96) (ci := 9) (j := 35) (N := 39) rfl rfl rfl rwj.1 (by decide) (v := .long s1) e35 ?_
      refine g_lneg act (gx gp_181 (w := 0x6125) rfl (by decide) rfl) (n := 97) rfl ?_
      refine g_goto act (gx gp_181 (w := 0x6807) rfl (by decide) rfl) (n := 104) rfl ?_
      refine g_storeL act (gx gp_181 (w := 0x300690b) rfl (by decide) rfl) (a := 3) (n := 105) rfl rfl (L2 := [some (.ref 124), some (.int ai), some (.int li), some (.long (-s1)), none]) rfl ?_
      refine g_loadI act (gx gp_181 (w := 0x1006a02) rfl (by decide) rfl) (a := 1) (n := 106) rfl rfl rfl ?_
      refine g_ifEq act (gx gp_181 (w := 0x86006d0e) rfl (by decide) rfl) (tgt := 134) (n := 109) rfl rfl (fun h34 => ?_) (fun h34 => ?_)
      · simp only [i_eq, i0] at h34
        refine g_constI act (gx gp_181 (w := 0x40000000400000001000000008701) rfl (by decide) rfl) (n := 135) (x := (0 : Int32)) (by decide) rfl ?_
        refine g_storeI act (gx gp_181 (w := 0x1008810) rfl (by decide) rfl) (a := 1) (n := 136) rfl rfl (L2 := [some (.ref 124), some (.int (0 : Int32)), some (.int li), some (.long (-s1)), none]) rfl ?_
        refine g_iinc act (gx gp_181 (w := 0x80000001000002008b09) rfl (by decide) rfl) (a := 2) (i := (1 : Int32)) (n := 139) rfl (by decide) rfl rfl (L2 := [some (.ref 124), some (.int (0 : Int32)), some (.int (li + (1 : Int32))), some (.long (-s1)), none]) rfl ?_
        have v_14 := iv_addN hli (show (1 : Int32).toInt = ((1 : Nat) : Int) from by decide) (show (l9 + 1) < 2147483648 by omega)
        refine g_goto act (gx gp_181 (w := 0xe07) rfl (by decide) rfl) (n := 14) rfl ?_
        exact n_forget (d := D_181) (L2 := [some (.ref 124), some (.int (0 : Int32)), some (.int (li + (1 : Int32))), none, none]) (fun i v hi => by
          match i, hi with
          | 0, hi => exact hi
          | 1, hi => exact hi
          | 2, hi => exact hi
          | 3, hi => cases hi
          | 4, hi => cases hi
          | i + 5, hi => cases hi) (KO _ _ _ (Or.inl rfl) v_14 rwj fTo fW hK hM hfr)
      · simp only [i_eq, i0] at h34
        refine g_loadA act (gx gp_181 (w := 0x6e03) rfl (by decide) rfl) (a := 0) (n := 110) rfl rfl rfl ?_
        refine r_getf act (gx gp_181 (w := 0x30000c9007104) rfl (by decide) rfl) (n := 113) (ci := 9) (j := 3) (N := 39) rfl rfl rfl rwj.1 (by decide) (rwj.2 (3, 127, 32, 39) (by decide)).1 ?_
        refine g_constI act (gx gp_181 (w := 0x40000000400000001000000007201) rfl (by decide) rfl) (n := 114) (x := (0 : Int32)) (by decide) rfl ?_
        refine g_loadI act (gx gp_181 (w := 0x2007302) rfl (by decide) rfl) (a := 2) (n := 115) rfl rfl rfl ?_
        refine g_iadd act (gx gp_181 (w := 0x740a) rfl (by decide) rfl) (n := 116) rfl ?_
        have v_15 := iv_addN (show (0 : Int32).toInt = ((0 : Nat) : Int) from by decide) hli (show (0 + l9) < 2147483648 by omega)
        obtain ⟨x_16, e_17, hx_18⟩ := fW (0 + l9) (by omega)
        refine r_iald act (gx gp_181 (w := 0x751a) rfl (by decide) rfl) (n := 117) (j := (0 + l9)) rfl (rwj.2 (3, 127, 32, 39) (by decide)).2 v_15 (show (0 + l9) < 39 by omega) (v := .int x_16) e_17 ?_
        refine g_i2l act (gx gp_181 (w := 0x762c) rfl (by decide) rfl) (n := 118) rfl ?_
        have v_19 := lw_i2l hx_18
        refine g_constL act (gx gp_181 (w := 0x4000000000000000a000000007701) rfl (by decide) rfl) (n := 119) (x := 1) (by decide) rfl ?_
        refine g_loadL act (gx gp_181 (w := 0x3007806) rfl (by decide) rfl) (a := 3) (n := 120) rfl rfl rfl ?_
        refine g_loadA act (gx gp_181 (w := 0x7903) rfl (by decide) rfl) (a := 0) (n := 121) rfl rfl rfl ?_
        refine r_getf act (gx gp_181 (w := 0x2000909007c04) rfl (by decide) rfl) (n := 124) (ci := 9) (j := 36) (N := 39) rfl rfl rfl rwj.1 (by decide) (v := .long s2) e36 ?_
        refine n_call tb_pres act hEnd (gx (P := G_call) gp_181 (w := 0x428840000e1007f0f) rfl (by decide) rfl) (d' := D_225) rfl (as := [.long (x_16).toInt64, .long (1 : Int64), .long (-s1), .long s2]) (rest := []) (b_lessK hk2s) (show (4 : Nat) = fb 0x428840000e1007f0f % 16 by decide) (by show (8 : Nat) ≤ 10; decide) (fun q => absurd q (by decide)) (by omega) (by show 8 + (10 + 11) + 29 ≤ R.locals; omega) (by show (0 : Nat) ≤ 8; decide) (by show kc + 0 ≤ _; omega) (by show ks + 0 ≤ _; omega) (fun r9 h3 hpo hr9 => ?_) (fun x9 hs9 hx9 hpo => ?_)
        · obtain ⟨-, rfl, hr_21⟩ := hpo
          obtain ⟨rv_20, rfl, hr_21o⟩ := z01_t hr_21
          show WpN (gp g0 wp) CLS p l e R s m args below meth c Q D_181.2.2.1 kc0 ks0 127 [some (.ref 124), some (.int ai), some (.int li), some (.long (-s1)), none] (hj, kc, ks) [.int rv_20]
          refine g_ifNe act (gx gp_181 (w := 0x8600821d) rfl (by decide) rfl) (tgt := 134) (n := 130) rfl rfl (fun h44 => ?_) (fun h44 => ?_)
          · simp only [i_eq, i0] at h44
            refine g_constI act (gx gp_181 (w := 0x40000000400000001000000008701) rfl (by decide) rfl) (n := 135) (x := (0 : Int32)) (by decide) rfl ?_
            refine g_storeI act (gx gp_181 (w := 0x1008810) rfl (by decide) rfl) (a := 1) (n := 136) rfl rfl (L2 := [some (.ref 124), some (.int (0 : Int32)), some (.int li), some (.long (-s1)), none]) rfl ?_
            refine g_iinc act (gx gp_181 (w := 0x80000001000002008b09) rfl (by decide) rfl) (a := 2) (i := (1 : Int32)) (n := 139) rfl (by decide) rfl rfl (L2 := [some (.ref 124), some (.int (0 : Int32)), some (.int (li + (1 : Int32))), some (.long (-s1)), none]) rfl ?_
            have v_22 := iv_addN hli (show (1 : Int32).toInt = ((1 : Nat) : Int) from by decide) (show (l9 + 1) < 2147483648 by omega)
            refine g_goto act (gx gp_181 (w := 0xe07) rfl (by decide) rfl) (n := 14) rfl ?_
            exact n_forget (d := D_181) (L2 := [some (.ref 124), some (.int (0 : Int32)), some (.int (li + (1 : Int32))), none, none]) (fun i v hi => by
              match i, hi with
              | 0, hi => exact hi
              | 1, hi => exact hi
              | 2, hi => exact hi
              | 3, hi => cases hi
              | 4, hi => cases hi
              | i + 5, hi => cases hi) (KO _ _ _ (Or.inl rfl) v_22 rwj fTo fW hK hM hfr)
          · simp only [i_eq, i0] at h44
            refine g_constI act (gx gp_181 (w := 0x40000000c00000009000000008301) rfl (by decide) rfl) (n := 131) (x := (1 : Int32)) (by decide) rfl ?_
            refine g_goto act (gx gp_181 (w := 0x8707) rfl (by decide) rfl) (n := 135) rfl ?_
            refine g_storeI act (gx gp_181 (w := 0x1008810) rfl (by decide) rfl) (a := 1) (n := 136) rfl rfl (L2 := [some (.ref 124), some (.int (1 : Int32)), some (.int li), some (.long (-s1)), none]) rfl ?_
            refine g_iinc act (gx gp_181 (w := 0x80000001000002008b09) rfl (by decide) rfl) (a := 2) (i := (1 : Int32)) (n := 139) rfl (by decide) rfl rfl (L2 := [some (.ref 124), some (.int (1 : Int32)), some (.int (li + (1 : Int32))), some (.long (-s1)), none]) rfl ?_
            have v_23 := iv_addN hli (show (1 : Int32).toInt = ((1 : Nat) : Int) from by decide) (show (l9 + 1) < 2147483648 by omega)
            refine g_goto act (gx gp_181 (w := 0xe07) rfl (by decide) rfl) (n := 14) rfl ?_
            exact n_forget (d := D_181) (L2 := [some (.ref 124), some (.int (1 : Int32)), some (.int (li + (1 : Int32))), none, none]) (fun i v hi => by
              match i, hi with
              | 0, hi => exact hi
              | 1, hi => exact hi
              | 2, hi => exact hi
              | 3, hi => cases hi
              | 4, hi => cases hi
              | i + 5, hi => cases hi) (KO _ _ _ (Or.inr rfl) v_23 rwj fTo fW hK hM hfr)
        · exact absurd hpo.1 (by omega)
  · simp only [i_le] at h4
    refine g_loadA act (gx gp_181 (w := 0x2903) rfl (by decide) rfl) (a := 0) (n := 41) rfl rfl rfl ?_
    refine g_loadI act (gx gp_181 (w := 0x2002a02) rfl (by decide) rfl) (a := 2) (n := 42) rfl rfl rfl ?_
    refine g_loadA act (gx gp_181 (w := 0x2b03) rfl (by decide) rfl) (a := 0) (n := 43) rfl rfl rfl ?_
    refine g_loadI act (gx gp_181 (w := 0x3002c02) rfl (by decide) rfl) (a := 3) (n := 44) rfl rfl rfl ?_
    refine g_constI act (gx gp_181 (w := 0x40000000c00000009000000002d01) rfl (by decide) rfl) (n := 45) (x := (1 : Int32)) (by decide) rfl ?_
    refine n_call tb_pres act hEnd (gx (P := G_call) gp_181 (w := 0xa000000000000c0c3300010900300f) rfl (by decide) rfl) (d' := D_265) rfl (as := [.ref 124, .int xi, .int (1 : Int32)]) (rest := [.int li, .ref 124]) (b_right rwj fTo hxi (show (1 : Int32).toInt = ((1 : Nat) : Int) from by decide) (by omega) (by omega)) (show (3 : Nat) = fb 0xa000000000000c0c3300010900300f % 16 by decide) (by show (3 : Nat) ≤ 3; decide) (fun _ => ⟨_, _, rfl, _, shp_at rwj.1, Or.inr (show fb 0xa000000000000c0c3300010900300f >>> 68 = 10 by decide)⟩) (by omega) (by show 8 + (3 + 11) + 0 ≤ R.locals; omega) (by show (2 : Nat) ≤ 8; decide) (by show kc + 0 ≤ _; omega) (by show ks + 0 ≤ _; omega) (fun r9 h3 hpo hr9 => ?_) (fun x9 hs9 hx9 hpo => ?_)
    · obtain ⟨-, rfl, x_24, rfl, hx_25⟩ := hpo
      show WpN (gp g0 wp) CLS p l e R s m args below meth c Q D_181.2.2.1 kc0 ks0 48 [some (.ref 124), some (.int ai), some (.int li), some (.int xi), none] (hj, kc, ks) [.int x_24, .int li, .ref 124]
      refine g_loadA act (gx gp_181 (w := 0x3103) rfl (by decide) rfl) (a := 0) (n := 49) rfl rfl rfl ?_
      refine g_loadI act (gx gp_181 (w := 0x3003202) rfl (by decide) rfl) (a := 3) (n := 50) rfl rfl rfl ?_
      refine g_constI act (gx gp_181 (w := 0x40000001400000011000000003301) rfl (by decide) rfl) (n := 51) (x := (2 : Int32)) (by decide) rfl ?_
      refine n_call tb_pres act hEnd (gx (P := G_call) gp_181 (w := 0xa000000000000c0c3300010900360f) rfl (by decide) rfl) (d' := D_265) rfl (as := [.ref 124, .int xi, .int (2 : Int32)]) (rest := [.int x_24, .int li, .ref 124]) (b_right rwj fTo hxi (show (2 : Int32).toInt = ((2 : Nat) : Int) from by decide) (by omega) (by omega)) (show (3 : Nat) = fb 0xa000000000000c0c3300010900360f % 16 by decide) (by show (3 : Nat) ≤ 3; decide) (fun _ => ⟨_, _, rfl, _, shp_at rwj.1, Or.inr (show fb 0xa000000000000c0c3300010900360f >>> 68 = 10 by decide)⟩) (by omega) (by show 8 + (3 + 11) + 0 ≤ R.locals; omega) (by show (3 : Nat) ≤ 8; decide) (by show kc + 0 ≤ _; omega) (by show ks + 0 ≤ _; omega) (fun r9 h3 hpo hr9 => ?_) (fun x9 hs9 hx9 hpo => ?_)
      · obtain ⟨-, rfl, x_26, rfl, hx_27⟩ := hpo
        show WpN (gp g0 wp) CLS p l e R s m args below meth c Q D_181.2.2.1 kc0 ks0 54 [some (.ref 124), some (.int ai), some (.int li), some (.int xi), none] (hj, kc, ks) [.int x_26, .int x_24, .int li, .ref 124]
        obtain ⟨j_36, hj_37⟩ := Int.eq_ofNat_of_zero_le (show (0 : Int) ≤ (tl (22 + 4 * j9 + 1)) by omega)
        obtain ⟨j_38, hj_39⟩ := Int.eq_ofNat_of_zero_le (show (0 : Int) ≤ (tl (22 + 4 * j9 + 2)) by omega)
        refine n_call tb_pres act hEnd (gx (P := G_call) gp_181 (w := 0xa000000000000810440000ba00390f) rfl (by decide) rfl) (d' := D_186) rfl (as := [.ref 124, .int li, .int x_24, .int x_26]) (rest := []) (b_brings (ln9 := l9) (a9 := j_36) (b9 := j_38) hli (hx_25.trans hj_37) (hx_27.trans hj_39) (by omega) (by omega) (by omega) rwj hK hM) (show (4 : Nat) = fb 0xa000000000000810440000ba00390f % 16 by decide) (by show (4 : Nat) ≤ 4; decide) (fun _ => ⟨_, _, rfl, _, shp_at rwj.1, Or.inr (show fb 0xa000000000000810440000ba00390f >>> 68 = 10 by decide)⟩) (by omega) (by show 8 + (4 + 11) + 85 ≤ R.locals; omega) (by show (0 : Nat) ≤ 8; decide) (by show kc + 0 ≤ _; omega) (by show ks + 0 ≤ _; omega) (fun r9 hs_28 hpo hr9 => ?_) (fun x9 hs9 hx9 hpo => ?_)
        · obtain rfl : r9 = none := hr9.elim (fun q => q.2) (fun q => absurd rfl q.1)
          obtain ⟨-, t_29, w_30, e_31, e_32, hK_33, fr_34⟩ := hpo
          have hM_35 := ModF.w0 hM fr_34
          have rw_40 := rwj.fr fr_34 W0_rw
          have f_41 := fTo.fr (fun j9 _ => fr_34.2.2 125 j9 (by unfold W0; omega))
          have f_42 := fW.fr (fun j9 _ => fr_34.2.2 127 j9 (by unfold W0; omega))
          have f_43 := hK.fr (fun j9 _ _ => ⟨fr_34.2.2 131 j9 (by unfold W0; omega), fr_34.2.2 132 j9 (by unfold W0; omega)⟩)
          have f_45 := rd_fr fr_34 e35 (by unfold W0; omega)
          have f_46 := rd_fr fr_34 e36 (by unfold W0; omega)
          have fr_47 := hfr.tr (fr_34.mono (fun k9 j9 h9 => by unfold W0 at h9; unfold WM; omega))
          clear rwj fTo fW hK hM e35 e36 hfr
          show WpN (gp g0 wp) CLS p l e R s m args below meth c Q D_181.2.2.1 kc0 ks0 57 [some (.ref 124), some (.int ai), some (.int li), some (.int xi), none] (hs_28, kc, ks) []
          refine g_loadA act (gx gp_181 (w := 0x3a03) rfl (by decide) rfl) (a := 0) (n := 58) rfl rfl rfl ?_
          refine g_loadA act (gx gp_181 (w := 0x3b03) rfl (by decide) rfl) (a := 0) (n := 59) rfl rfl rfl ?_
          refine r_getf act (gx gp_181 (w := 0x20001c9003e04) rfl (by decide) rfl) (n := 62) (ci := 9) (j := 7) (N := 39) rfl rfl rfl rw_40.1 (by decide) (v := .long t_29) e_31 ?_
          refine g_loadA act (gx gp_181 (w := 0x3f03) rfl (by decide) rfl) (a := 0) (n := 63) rfl rfl rfl ?_
          refine r_getf act (gx gp_181 (w := 0x2000209004204) rfl (by decide) rfl) (n := 66) (ci := 9) (j := 8) (N := 39) rfl rfl rfl rw_40.1 (by decide) (v := .long w_30) e_32 ?_
          refine g_loadA act (gx gp_181 (w := 0x4303) rfl (by decide) rfl) (a := 0) (n := 67) rfl rfl rfl ?_
          refine g_loadI act (gx gp_181 (w := 0x3004402) rfl (by decide) rfl) (a := 3) (n := 68) rfl rfl rfl ?_
          refine g_constI act (gx gp_181 (w := 0x40000001c00000019000000004501) rfl (by decide) rfl) (n := 69) (x := (3 : Int32)) (by decide) rfl ?_
          refine n_call tb_pres act hEnd (gx (P := G_call) gp_181 (w := 0xa000000000000c0c3300010900480f) rfl (by decide) rfl) (d' := D_265) rfl (as := [.ref 124, .int xi, .int (3 : Int32)]) (rest := [.long w_30, .long t_29, .ref 124]) (b_right rw_40 f_41 hxi (show (3 : Int32).toInt = ((3 : Nat) : Int) from by decide) (by omega) (by omega)) (show (3 : Nat) = fb 0xa000000000000c0c3300010900480f % 16 by decide) (by show (3 : Nat) ≤ 3; decide) (fun _ => ⟨_, _, rfl, _, shp_at rw_40.1, Or.inr (show fb 0xa000000000000c0c3300010900480f >>> 68 = 10 by decide)⟩) (by omega) (by show 8 + (3 + 11) + 0 ≤ R.locals; omega) (by show (5 : Nat) ≤ 8; decide) (by show kc + 0 ≤ _; omega) (by show ks + 0 ≤ _; omega) (fun r9 h3 hpo hr9 => ?_) (fun x9 hs9 hx9 hpo => ?_)
          · obtain ⟨-, rfl, x_48, rfl, hx_49⟩ := hpo
            show WpN (gp g0 wp) CLS p l e R s m args below meth c Q D_181.2.2.1 kc0 ks0 72 [some (.ref 124), some (.int ai), some (.int li), some (.int xi), none] (hs_28, kc, ks) [.int x_48, .long w_30, .long t_29, .ref 124]
            refine g_i2l act (gx gp_181 (w := 0x492c) rfl (by decide) rfl) (n := 73) rfl ?_
            have v_50 := lw_i2l hx_49
            refine g_constL act (gx gp_181 (w := 0x4000000000000000a000000004a01) rfl (by decide) rfl) (n := 74) (x := 1) (by decide) rfl ?_
            refine n_call tb_pres act hEnd (gx (P := G_call) gp_181 (w := 0xa00000000000082495000112004d0f) rfl (by decide) rfl) (d' := D_274) rfl (as := [.ref 124, .long t_29, .long w_30, .long (x_48).toInt64, .long (1 : Int64)]) (rest := []) (b_sums (k1 := 5) (k2 := 1) (k := 5) rw_40 hM_35 f_45 f_46 hK_33 k2_one (hk2s.mono (by omega)) (by omega) (by omega) (by omega)) (show (5 : Nat) = fb 0xa00000000000082495000112004d0f % 16 by decide) (by show (9 : Nat) ≤ 9; decide) (fun _ => ⟨_, _, rfl, _, shp_at rw_40.1, Or.inr (show fb 0xa00000000000082495000112004d0f >>> 68 = 10 by decide)⟩) (by omega) (by show 8 + (9 + 11) + 87 ≤ R.locals; omega) (by show (0 : Nat) ≤ 8; decide) (by show kc + 0 ≤ _; omega) (by show ks + 0 ≤ _; omega) (fun r9 hs_51 hpo hr9 => ?_) (fun x9 hs9 hx9 hpo => ?_)
            · obtain rfl : r9 = none := hr9.elim (fun q => q.2) (fun q => absurd rfl q.1)
              obtain ⟨-, sx_56, sw_57, e_54, e_55, hk_58, hM_53, fr_52⟩ := hpo
              have rw_59 := rw_40.fr fr_52 WSm_rw
              have f_60 := f_41.fr (fun j9 _ => fr_52.2.2 125 j9 (by unfold WSm; omega))
              have f_61 := f_42.fr (fun j9 _ => fr_52.2.2 127 j9 (by unfold WSm; omega))
              have f_62 := f_43.fr (fun j9 _ _ => ⟨fr_52.2.2 131 j9 (by unfold WSm; omega), fr_52.2.2 132 j9 (by unfold WSm; omega)⟩)
              have fr_64 := fr_47.tr (fr_52.mono (fun k9 j9 h9 => by unfold WSm at h9; unfold WM; omega))
              clear rw_40 f_41 f_42 f_43 f_45 f_46 hM_35 e_31 e_32 fr_47
              show WpN (gp g0 wp) CLS p l e R s m args below meth c Q D_181.2.2.1 kc0 ks0 77 [some (.ref 124), some (.int ai), some (.int li), some (.int xi), none] (hs_51, kc, ks) []
              refine g_iinc act (gx gp_181 (w := 0x80000001000003005009) rfl (by decide) rfl) (a := 3) (i := (1 : Int32)) (n := 80) rfl (by decide) rfl rfl (L2 := [some (.ref 124), some (.int ai), some (.int li), some (.int (xi + (1 : Int32))), none]) rfl ?_
              have v_65 := iv_addN hxi (show (1 : Int32).toInt = ((1 : Nat) : Int) from by decide) (show (j9 + 1) < 2147483648 by omega)
              refine g_goto act (gx gp_181 (w := 0x1e07) rfl (by decide) rfl) (n := 30) rfl ?_
              exact ih (j9 + 1) (by omega) (by omega) _ _ _ _ v_65 (hk_58.mono (by decide)) rw_59 f_60 f_61 f_62 hM_53 e_54 e_55 fr_64
            · exact absurd hpo.1 (by omega)
          · exact absurd hpo.1 (by omega)
        · exact absurd hpo.1 (by omega)
      · exact absurd hpo.1 (by omega)
    · exact absurd hpo.1 (by omega)

theorem arf_1 {g0 : GG} {bl : Nat} {xs : Nat → Int32} {l : Launch} {wp : va_W} {p : Program} {e : Env} {R : Room} {s : State} {m : MethodId} {args : Array Value} {below : List Frame} {meth : Method} {c : Code} {Q : State → Prop} {kc0 ks0 kc ks f lam KC KS : Nat} {hs : List CE} {tl wl : Nat → Int} {nl n ng nr : Nat} (hNW : NW tl wl nl n ng nr)  (hf : 6 ≤ R.frames) (hl : 169 ≤ R.locals) (hc : kc ≤ R.cells + kc0) (hsl : ks ≤ R.slots + ks0) (act : Act SSX TBL (gp g0 wp) CLS bl xs D_181 p l s m args meth c) (hEnd : EndN SSX TBL (gp g0 wp) CLS D_181 p l e R s m args below meth c Q kc0 ks0 f lam KC KS (POZ hs)) (hk1 : kc ≤ KC) (hk2 : ks ≤ KS) : ∀ l9 : Nat, l9 ≤ nl → ∀ (ai li : Int32) (hj : List CE), (ai = 0 ∨ ai = 1) → li.toInt = (l9 : Int) → RW hj → IArr hj 125 46 tl → IArr hj 127 39 wl → KR hj 131 132 0 24 5 → ModF hj → FrS WM hs hj → WpN (gp g0 wp) CLS p l e R s m args below meth c Q D_181.2.2.1 kc0 ks0 14 [some (.ref 124), some (.int ai), some (.int li), none, none] (hj, kc, ks) [] := by
  have hN9 := hNW
  obtain ⟨n0, n1, n2, n3, n4, n5, n6, n7, n8, hG0, nL, nC, nP, nD⟩ := hN9
  have hGn := hG0.1
  have hGn3 := hG0.2.1
  have hGl := hG0.2.2.1
  refine dn (fun l9 hl9 ih => ?_)
  intro ai li hj hai hli rwj fTo fW hK hM hfr
  refine g_loadI act (gx gp_181 (w := 0x2000f02) rfl (by decide) rfl) (a := 2) (n := 15) rfl rfl rfl ?_
  refine g_loadA act (gx gp_181 (w := 0x1003) rfl (by decide) rfl) (a := 0) (n := 16) rfl rfl rfl ?_
  refine r_getf act (gx gp_181 (w := 0x3000049001304) rfl (by decide) rfl) (n := 19) (ci := 9) (j := 1) (N := 39) rfl rfl rfl rwj.1 (by decide) (rwj.2 (1, 125, 32, 46) (by decide)).1 ?_
  refine g_constI act (gx gp_181 (w := 0x40000001400000011000000001401) rfl (by decide) rfl) (n := 20) (x := (2 : Int32)) (by decide) rfl ?_
  obtain ⟨x_1, e_2, hx_3⟩ := fTo 2 (by omega)
  refine r_iald act (gx gp_181 (w := 0x151a) rfl (by decide) rfl) (n := 21) (j := 2) rfl (rwj.2 (1, 125, 32, 46) (by decide)).2 (show (2 : Int32).toInt = ((2 : Nat) : Int) from by decide) (show 2 < 46 by omega) (v := .int x_1) e_2 ?_
  refine g_icmpGe act (gx gp_181 (w := 0x8e001808) rfl (by decide) rfl) (tgt := 142) (n := 24) rfl rfl (fun h4 => ?_) (fun h4 => ?_)
  · simp only [i_le] at h4
    refine g_loadI act (gx gp_181 (w := 0x1008f02) rfl (by decide) rfl) (a := 1) (n := 143) rfl rfl rfl ?_
    exact g_retZ hEnd (gx gp_181 (w := 0x23) rfl (by decide) rfl) hai ⟨rfl, hai.elim (fun q => Or.inl (by rw [q])) (fun q => Or.inr (by rw [q])), hM, hfr⟩ hk1 hk2
  · simp only [i_le] at h4
    refine g_loadA act (gx gp_181 (w := 0x1903) rfl (by decide) rfl) (a := 0) (n := 25) rfl rfl rfl ?_
    refine n_call tb_pres act hEnd (gx (P := G_call) gp_181 (w := 0xa000000000000804110000b7001c0f) rfl (by decide) rfl) (d' := D_183) rfl (as := [.ref 124]) (rest := []) (b_begins rwj hM) (show (1 : Nat) = fb 0xa000000000000804110000b7001c0f % 16 by decide) (by show (1 : Nat) ≤ 1; decide) (fun _ => ⟨_, _, rfl, _, shp_at rwj.1, Or.inr (show fb 0xa000000000000804110000b7001c0f >>> 68 = 10 by decide)⟩) (by omega) (by show 8 + (1 + 11) + 0 ≤ R.locals; omega) (by show (0 : Nat) ≤ 8; decide) (by show kc + 0 ≤ _; omega) (by show ks + 0 ≤ _; omega) (fun r9 hs_4 hpo hr9 => ?_) (fun x9 hs9 hx9 hpo => ?_)
    · obtain rfl : r9 = none := hr9.elim (fun q => q.2) (fun q => absurd rfl q.1)
      obtain ⟨-, e_7, e_8, hM_6, fr_5⟩ := hpo
      have rw_9 := rwj.fr fr_5 WSm_rw
      have f_10 := fTo.fr (fun j9 _ => fr_5.2.2 125 j9 (by unfold WSm; omega))
      have f_11 := fW.fr (fun j9 _ => fr_5.2.2 127 j9 (by unfold WSm; omega))
      have f_12 := hK.fr (fun j9 _ _ => ⟨fr_5.2.2 131 j9 (by unfold WSm; omega), fr_5.2.2 132 j9 (by unfold WSm; omega)⟩)
      have fr_14 := hfr.tr (fr_5.mono (fun k9 j9 h9 => by unfold WSm at h9; unfold WM; omega))
      clear rwj fTo fW hK hM hfr
      show WpN (gp g0 wp) CLS p l e R s m args below meth c Q D_181.2.2.1 kc0 ks0 28 [some (.ref 124), some (.int ai), some (.int li), none, none] (hs_4, kc, ks) []
      refine g_constI act (gx gp_181 (w := 0x40000000400000001000000001d01) rfl (by decide) rfl) (n := 29) (x := (0 : Int32)) (by decide) rfl ?_
      refine g_storeI act (gx gp_181 (w := 0x3001e10) rfl (by decide) rfl) (a := 3) (n := 30) rfl rfl (L2 := [some (.ref 124), some (.int ai), some (.int li), some (.int (0 : Int32)), none]) rfl ?_
      exact arf_2 hNW hai hli (by omega) hf hl hc hsl act hEnd hk1 hk2 (fun ai li hj h1 h2 q1 q2 q3 q4 q5 q6 => ih (l9 + 1) (by omega) (by omega) ai li hj h1 h2 q1 q2 q3 q4 q5 q6) 0 (by omega) _ _ _ _ rfl (k2_one.mono (by decide)) rw_9 f_10 f_11 f_12 hM_6 e_7 e_8 fr_14
    · exact absurd hpo.1 (by omega)

theorem b_areRightsFeasible {g0 : GG} {bl : Nat} {xs : Nat → Int32} {l : Launch} {hs : List CE} {tl wl : Nat → Int} {nl n ng nr : Nat} (hNW : NW tl wl nl n ng nr) (hB : BM hs tl wl) (hM : ModF hs) : BodyN SSX TBL g0 CLS bl xs l D_181 6 169 0 0 [.ref 124] hs (POZ hs) := by
  intro wp p e R s m args below meth c Q kc0 ks0 kc ks act hf hl hc hsl hEnd
  have hN9 := hNW
  obtain ⟨n0, n1, n2, n3, n4, n5, n6, n7, n8, hG0, nL, nC, nP, nD⟩ := hN9
  have hGn := hG0.1
  have hGn3 := hG0.2.1
  have hGl := hG0.2.2.1
  obtain ⟨rw0, hTo, hW⟩ := hB
  show WpN (gp g0 wp) CLS p l e R s m args below meth c Q D_181.2.2.1 kc0 ks0 0 [some (.ref 124), none, none, none, none] (hs, kc, ks) []
  refine g_loadA act (gx gp_181 (w := 0x103) rfl (by decide) rfl) (a := 0) (n := 1) rfl rfl rfl ?_
  refine g_constI act (gx gp_181 (w := 0x40000000400000001000000000201) rfl (by decide) rfl) (n := 2) (x := (0 : Int32)) (by decide) rfl ?_
  refine r_putf act (gx gp_181 (w := 0x9000513) rfl (by decide) rfl) (n := 5) (ci := 9) (j := 0) (N := 39) rfl rfl rfl rw0.1 (by decide) (Or.inl ⟨rfl, _, rfl⟩) ?_
  have rw_1 := RW.wr (k := 124) (j := 0) (v := .int (0 : Int32)) rw0 (Or.inr (by decide))
  have f_2 := hTo.ne (k := 124) (j := 0) (v := .int (0 : Int32)) (by decide)
  have f_3 := hW.ne (k := 124) (j := 0) (v := .int (0 : Int32)) (by decide)
  have f_4 := hM.wr0 (x := (0 : Int32)) rw0.1 (by decide) (by decide)
  have f_5 := rd_same (j := 0) (v := .int (0 : Int32)) rw0.1
  have fr_6 := (FrS.rf WM hs).wr (k := 124) (j := 0) (.int (0 : Int32)) (by unfold WM; omega)
  generalize (wr hs 124 0 (.int (0 : Int32))) = hs_7 at *
  refine g_loadA act (gx gp_181 (w := 0x603) rfl (by decide) rfl) (a := 0) (n := 6) rfl rfl rfl ?_
  refine g_constI act (gx gp_181 (w := 0x3fffffffbfffffff9000000000701) rfl (by decide) rfl) (n := 7) (x := (-1 : Int32)) (by decide) rfl ?_
  refine n_longs (k := 131) (N := 48) (rw_1.2 (16, 131, 33, 48) (by decide)).2 (fun l131 => ?_)
  refine n_longs (k := 132) (N := 48) (rw_1.2 (17, 132, 33, 48) (by decide)).2 (fun l132 => ?_)
  refine n_longs (k := 133) (N := 12) (rw_1.2 (18, 133, 33, 12) (by decide)).2 (fun l133 => ?_)
  refine n_longs (k := 134) (N := 12) (rw_1.2 (19, 134, 33, 12) (by decide)).2 (fun l134 => ?_)
  refine n_call tb_pres act hEnd (gx (P := G_call) gp_181 (w := 0xa000000000000808220000e7000a0f) rfl (by decide) rfl) (d' := D_231) rfl (as := [.ref 124, .int (-1 : Int32)]) (rest := []) (b_all (show (-1 : Int32).toInt = (-1 : Int) from by decide) n0 n2 (ng_none hG0) rw_1 f_2 l131 l132 l133 l134) (show (2 : Nat) = fb 0xa000000000000808220000e7000a0f % 16 by decide) (by show (2 : Nat) ≤ 2; decide) (fun _ => ⟨_, _, rfl, _, shp_at rw_1.1, Or.inr (show fb 0xa000000000000808220000e7000a0f >>> 68 = 10 by decide)⟩) (by omega) (by show 8 + (2 + 11) + 148 ≤ R.locals; omega) (by show (0 : Nat) ≤ 8; decide) (by show kc + 0 ≤ _; omega) (by show ks + 0 ≤ _; omega) (fun r9 hs_8 hpo hr9 => ?_) (fun x9 hs9 hx9 hpo => ?_)
  · obtain rfl : r9 = none := hr9.elim (fun q => q.2) (fun q => absurd rfl q.1)
    obtain ⟨-, h_11, h_12, -, -, -, -, fr_9⟩ := hpo
    have hM_10 := ModF.wa f_4 fr_9
    have k_17 := h_11.kr (facA_den (ng_none hG0)).1
    have k_18 := fun q9 => (h_12 q9).kr ((facA_den (ng_none hG0)).2 q9)
    have rw_19 := rw_1.fr fr_9 WA_rw
    have f_20 := f_2.fr (fun j9 _ => fr_9.2.2 125 j9 (by unfold WA; omega))
    have f_21 := f_3.fr (fun j9 _ => fr_9.2.2 127 j9 (by unfold WA; omega))
    have f_23 := rd_fr fr_9 f_5 (by unfold WA; omega)
    have fr_24 := fr_6.tr (fr_9.mono (fun k9 j9 h9 => by unfold WA at h9; unfold WM; omega))
    clear rw_1 f_2 f_3 f_4 f_5 fr_6
    show WpN (gp g0 wp) CLS p l e R s m args below meth c Q D_181.2.2.1 kc0 ks0 10 [some (.ref 124), none, none, none, none] (hs_8, kc, ks) []
    refine g_constI act (gx gp_181 (w := 0x40000000c00000009000000000b01) rfl (by decide) rfl) (n := 11) (x := (1 : Int32)) (by decide) rfl ?_
    refine g_storeI act (gx gp_181 (w := 0x1000c10) rfl (by decide) rfl) (a := 1) (n := 12) rfl rfl (L2 := [some (.ref 124), some (.int (1 : Int32)), none, none, none]) rfl ?_
    refine g_constI act (gx gp_181 (w := 0x40000000400000001000000000d01) rfl (by decide) rfl) (n := 13) (x := (0 : Int32)) (by decide) rfl ?_
    refine g_storeI act (gx gp_181 (w := 0x2000e10) rfl (by decide) rfl) (a := 2) (n := 14) rfl rfl (L2 := [some (.ref 124), some (.int (1 : Int32)), some (.int (0 : Int32)), none, none]) rfl ?_
    exact arf_1 hNW hf hl hc hsl act hEnd (by omega) (by omega) 0 (by omega) _ _ _ (Or.inr rfl) rfl rw_19 f_20 f_21 k_17 hM_10 fr_24
  · exact absurd hpo.1 (by omega)

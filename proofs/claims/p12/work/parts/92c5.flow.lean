/-! The reference: flows and factors. -/
def W00 (k j : Nat) : Prop := k = 124 ∧ j = 0
theorem W00_rw : ∀ q ∈ RWT, ¬ W00 124 q.1 := by
  intro q hq
  have : q.1 ≠ 0 := by revert q; decide
  unfold W00
  omega
theorem K2.any {x : Int64} (h : x.toInt ≠ 0) : K2 64 x := fun q => by
  have := Nat.le_of_dvd (by omega) q
  have hr := l_rng x
  have e : (2 : Nat) ^ 64 = 18446744073709551616 := by decide
  omega

theorem b_fails {g0 : GG} {bl : Nat} {xs : Nat → Int32} {l : Launch} {hs : List CE} {a : Int32} (hk : shp hs 124 = some (9, 39)) : BodyN SSX TBL g0 CLS bl xs l D_205 0 0 0 0 [.ref 124, .int a] hs (fun kd r h2 => kd = 0 ∧ r = some (.int 0) ∧ FrS W00 hs h2 ∧ h2 = wr hs 124 0 (.int a)) := by
  intro wp p e R s m args below meth c Q kc0 ks0 kc ks act hf hl hc hsl hEnd
  show WpN (gp g0 wp) CLS p l e R s m args below meth c Q D_205.2.2.1 kc0 ks0 0 [some (.ref 124), some (.int a)] (hs, kc, ks) []
  refine g_loadA act (gx gp_205 (w := 0x103) rfl (by decide) rfl) (a := 0) (n := 1) rfl rfl rfl ?_
  refine g_loadI act (gx gp_205 (w := 0x1000202) rfl (by decide) rfl) (a := 1) (n := 2) rfl rfl rfl ?_
  refine r_putf act (gx gp_205 (w := 0x9000513) rfl (by decide) rfl) (n := 5) (ci := 9) (j := 0) (N := 39) rfl rfl rfl hk (by decide) (Or.inl ⟨rfl, _, rfl⟩) ?_
  refine g_constI act (gx gp_205 (w := 0x40000000400000001000000000601) rfl (by decide) rfl) (n := 6) (x := (0 : Int32)) (by decide) rfl ?_
  exact g_retI hEnd (gx gp_205 (w := 0x2f) rfl (by decide) rfl) ⟨rfl, rfl, (FrS.rf W00 hs).wr (k := 124) (j := 0) _ ⟨rfl, rfl⟩, rfl⟩ (by show kc ≤ kc + 0; omega) (by show ks ≤ ks + 0; omega)

theorem flows_2 {g0 : GG} {bl : Nat} {xs : Nat → Int32} {l : Launch} {wp : va_W} {p : Program} {e : Env} {R : Room} {s : State} {m : MethodId} {args : Array Value} {below : List Frame} {meth : Method} {c : Code} {Q : State → Prop} {kc0 ks0 kc ks f lam KC KS : Nat} {hs : List CE} {tl wl : Nat → Int} {nl n ng nr : Nat} (hNW : NW tl wl nl n ng nr) {dm : Nat → Int} {li gi : Int32} {ln9 gr : Nat} (hli : li.toInt = (ln9 : Int)) (hl6 : ln9 < 6) (hgi : gi.toInt = (gr : Int)) (hg2 : gr < 2) (hdm : ∀ j, 0 ≤ dm j ∧ dm j ≤ 220) (hf : 3 ≤ R.frames) (hl : 87 ≤ R.locals) (hc : kc ≤ R.cells + kc0) (hsl : ks ≤ R.slots + ks0) (act : Act SSX TBL (gp g0 wp) CLS bl xs D_209 p l s m args meth c) (hEnd : EndN SSX TBL (gp g0 wp) CLS D_209 p l e R s m args below meth c Q kc0 ks0 f lam KC KS (fun kd _ h2 => kd = 0 ∧ ∃ t w : Int64, rd h2 124 7 = .long t ∧ rd h2 124 8 = .long w ∧ K2 13 w ∧ FrS W0 hs h2)) (hk1 : kc ≤ KC) (hk2 : ks ≤ KS) : ∀ j9 : Nat, j9 ≤ n + 1 → ∀ (xi : Int32) (a b : Int64) (hj : List CE), xi.toInt = (j9 : Int) → K2 13 b → RW hj → IArr hj 125 46 tl → IArr hj 127 39 wl → IArr hj 135 4 dm → KR hj 142 143 0 5 9 → KR hj 131 132 (24 * gr) (24 * gr + 24) 5 → ModF hj → (j9 = 0 ∨ (rd hj 124 7 = .long a ∧ rd hj 124 8 = .long b)) → FrS W0 hs hj → WpN (gp g0 wp) CLS p l e R s m args below meth c Q D_209.2.2.1 kc0 ks0 107 [some (.ref 124), some (.int li), some (.int gi), some (.long a), none, some (.long b), none, some (.int xi), none] (hj, kc, ks) [] := by
  have hN9 := hNW
  obtain ⟨n0, n1, n2, n3, n4, n5, n6, n7, n8, hG0, nL, nC, nP, nD⟩ := hN9
  have hGn := hG0.1
  have hGn3 := hG0.2.1
  refine dn (fun j9 hj9 ih => ?_)
  intro xi a b hj hxi hkb rwj fTo fW hD hO hK hM hv hfr
  refine g_loadI act (gx gp_209 (w := 0x7006d02) rfl (by decide) rfl) (a := 7) (n := 109) rfl rfl rfl ?_
  refine g_loadA act (gx gp_209 (w := 0x6e03) rfl (by decide) rfl) (a := 0) (n := 110) rfl rfl rfl ?_
  refine r_getf act (gx gp_209 (w := 0x3000049007104) rfl (by decide) rfl) (n := 113) (ci := 9) (j := 1) (N := 39) rfl rfl rfl rwj.1 (by decide) (rwj.2 (1, 125, 32, 46) (by decide)).1 ?_
  refine g_constI act (gx gp_209 (w := 0x40000000400000001000000007201) rfl (by decide) rfl) (n := 114) (x := (0 : Int32)) (by decide) rfl ?_
  obtain ⟨x_1, e_2, hx_3⟩ := fTo 0 (by omega)
  refine r_iald act (gx gp_209 (w := 0x731a) rfl (by decide) rfl) (n := 115) (j := 0) rfl (rwj.2 (1, 125, 32, 46) (by decide)).2 (show (0 : Int32).toInt = ((0 : Nat) : Int) from by decide) (show 0 < 46 by omega) (v := .int x_1) e_2 ?_
  refine g_icmpGe act (gx gp_209 (w := 0xbf007608) rfl (by decide) rfl) (tgt := 191) (n := 118) rfl rfl (fun h4 => ?_) (fun h4 => ?_)
  · simp only [i_le] at h4
    obtain rfl : j9 = n + 1 := by omega
    rcases hv with hv | ⟨hv7, hv8⟩
    · omega
    · exact g_retV hEnd (gx gp_209 (w := 0x18) rfl (by decide) rfl) ⟨rfl, _, _, hv7, hv8, hkb, hfr⟩ hk1 hk2
  · simp only [i_le] at h4
    refine g_constI act (gx gp_209 (w := 0x4000000c4000000c1000000007801) rfl (by decide) rfl) (n := 120) (x := (24 : Int32)) (by decide) rfl ?_
    refine g_loadI act (gx gp_209 (w := 0x2007902) rfl (by decide) rfl) (a := 2) (n := 121) rfl rfl rfl ?_
    refine g_imul act (gx gp_209 (w := 0x7a11) rfl (by decide) rfl) (n := 122) rfl ?_
    have v_4 := iv_mulN (show (24 : Int32).toInt = ((24 : Nat) : Int) from by decide) hgi (show (24 * gr) < 2147483648 by omega)
    refine g_constI act (gx gp_209 (w := 0x40000002400000021000000007b01) rfl (by decide) rfl) (n := 123) (x := (4 : Int32)) (by decide) rfl ?_
    refine g_loadI act (gx gp_209 (w := 0x1007c02) rfl (by decide) rfl) (a := 1) (n := 124) rfl rfl rfl ?_
    refine g_imul act (gx gp_209 (w := 0x7d11) rfl (by decide) rfl) (n := 125) rfl ?_
    have v_5 := iv_mulN (show (4 : Int32).toInt = ((4 : Nat) : Int) from by decide) hli (show (4 * ln9) < 2147483648 by omega)
    refine g_iadd act (gx gp_209 (w := 0x7e0a) rfl (by decide) rfl) (n := 126) rfl ?_
    have v_6 := iv_addN v_4 v_5 (show ((24 * gr) + (4 * ln9)) < 2147483648 by omega)
    refine g_loadI act (gx gp_209 (w := 0x7008002) rfl (by decide) rfl) (a := 7) (n := 128) rfl rfl rfl ?_
    refine g_iadd act (gx gp_209 (w := 0x810a) rfl (by decide) rfl) (n := 129) rfl ?_
    have v_7 := iv_addN v_6 hxi (show (((24 * gr) + (4 * ln9)) + j9) < 2147483648 by omega)
    refine g_storeI act (gx gp_209 (w := 0x8008310) rfl (by decide) rfl) (a := 8) (n := 131) rfl rfl (L2 := [some (.ref 124), some (.int li), some (.int gi), some (.long a), none, some (.long b), none, some (.int xi), some (.int ((((24 : Int32) * gi) + ((4 : Int32) * li)) + xi))]) rfl ?_
    refine g_loadA act (gx gp_209 (w := 0x8403) rfl (by decide) rfl) (a := 0) (n := 132) rfl rfl rfl ?_
    refine g_loadA act (gx gp_209 (w := 0x8503) rfl (by decide) rfl) (a := 0) (n := 133) rfl rfl rfl ?_
    refine r_getf act (gx gp_209 (w := 0x3000409008804) rfl (by decide) rfl) (n := 136) (ci := 9) (j := 16) (N := 39) rfl rfl rfl rwj.1 (by decide) (rwj.2 (16, 131, 33, 48) (by decide)).1 ?_
    refine g_loadI act (gx gp_209 (w := 0x8008a02) rfl (by decide) rfl) (a := 8) (n := 138) rfl rfl rfl ?_
    obtain ⟨x_8, w_11, e_9, e_12, hx_10⟩ := hK (((24 * gr) + (4 * ln9)) + j9) (by omega) (by omega)
    refine r_lald act (gx gp_209 (w := 0x8b0d) rfl (by decide) rfl) (n := 139) (j := (((24 * gr) + (4 * ln9)) + j9)) rfl (rwj.2 (16, 131, 33, 48) (by decide)).2 v_7 (show (((24 * gr) + (4 * ln9)) + j9) < 48 by omega) (v := .long x_8) e_9 ?_
    refine g_loadA act (gx gp_209 (w := 0x8c03) rfl (by decide) rfl) (a := 0) (n := 140) rfl rfl rfl ?_
    refine r_getf act (gx gp_209 (w := 0x3000449008f04) rfl (by decide) rfl) (n := 143) (ci := 9) (j := 17) (N := 39) rfl rfl rfl rwj.1 (by decide) (rwj.2 (17, 132, 33, 48) (by decide)).1 ?_
    refine g_loadI act (gx gp_209 (w := 0x8009102) rfl (by decide) rfl) (a := 8) (n := 145) rfl rfl rfl ?_
    refine r_lald act (gx gp_209 (w := 0x920d) rfl (by decide) rfl) (n := 146) (j := (((24 * gr) + (4 * ln9)) + j9)) rfl (rwj.2 (17, 132, 33, 48) (by decide)).2 v_7 (show (((24 * gr) + (4 * ln9)) + j9) < 48 by omega) (v := .long w_11) e_12 ?_
    refine g_loadA act (gx gp_209 (w := 0x9303) rfl (by decide) rfl) (a := 0) (n := 147) rfl rfl rfl ?_
    refine r_getf act (gx gp_209 (w := 0x3000509009604) rfl (by decide) rfl) (n := 150) (ci := 9) (j := 20) (N := 39) rfl rfl rfl rwj.1 (by decide) (rwj.2 (20, 135, 32, 4) (by decide)).1 ?_
    refine g_loadI act (gx gp_209 (w := 0x7009802) rfl (by decide) rfl) (a := 7) (n := 152) rfl rfl rfl ?_
    obtain ⟨x_18, e_19, hx_20⟩ := hD j9 (by omega)
    have b_21 := hdm j9
    refine r_iald act (gx gp_209 (w := 0x991a) rfl (by decide) rfl) (n := 153) (j := j9) rfl (rwj.2 (20, 135, 32, 4) (by decide)).2 hxi (show j9 < 4 by omega) (v := .int x_18) e_19 ?_
    refine g_ineg act (gx gp_209 (w := 0x9a4c) rfl (by decide) rfl) (n := 154) rfl ?_
    refine g_i2l act (gx gp_209 (w := 0x9b2c) rfl (by decide) rfl) (n := 155) rfl ?_
    have v_22 := lw_i2l (rfl : Int32.toInt (-x_18) = _)
    refine g_constL act (gx gp_209 (w := 0x4000000000000000a000000009c01) rfl (by decide) rfl) (n := 156) (x := 1) (by decide) rfl ?_
    refine n_call tb_pres act hEnd (gx (P := G_call) gp_209 (w := 0xa0000000000008349500011a009f0f) rfl (by decide) rfl) (d' := D_282) rfl (as := [.ref 124, .long x_8, .long w_11, .long ((-x_18)).toInt64, .long (1 : Int64)]) (rest := []) (b_timesK (k1 := 5) (k2 := 1) rwj.1 hx_10 k2_one (by decide)) (show (5 : Nat) = fb 0xa0000000000008349500011a009f0f % 16 by decide) (by show (9 : Nat) ≤ 13; decide) (fun _ => ⟨_, _, rfl, _, shp_at rwj.1, Or.inr (show fb 0xa0000000000008349500011a009f0f >>> 68 = 10 by decide)⟩) (by omega) (by show 8 + (13 + 11) + 55 ≤ R.locals; omega) (by show (0 : Nat) ≤ 8; decide) (by show kc + 0 ≤ _; omega) (by show ks + 0 ≤ _; omega) (fun r9 hs_23 hpo hr9 => ?_) (fun x9 hs9 hx9 hpo => ?_)
    · obtain rfl : r9 = none := hr9.elim (fun q => q.2) (fun q => absurd rfl q.1)
      obtain ⟨-, t_24, w_25, e_26, e_27, hK_28, fr_29⟩ := hpo
      have hM_30 := ModF.w0 hM fr_29
      have rw_31 := rwj.fr fr_29 W0_rw
      have f_32 := fTo.fr (fun j9 _ => fr_29.2.2 125 j9 (by unfold W0; omega))
      have f_33 := fW.fr (fun j9 _ => fr_29.2.2 127 j9 (by unfold W0; omega))
      have f_34 := hD.fr (fun j9 _ => fr_29.2.2 135 j9 (by unfold W0; omega))
      have f_35 := hO.fr (fun j9 _ _ => ⟨fr_29.2.2 142 j9 (by unfold W0; omega), fr_29.2.2 143 j9 (by unfold W0; omega)⟩)
      have f_36 := hK.fr (fun j9 _ _ => ⟨fr_29.2.2 131 j9 (by unfold W0; omega), fr_29.2.2 132 j9 (by unfold W0; omega)⟩)
      have fr_38 := hfr.tr fr_29
      clear rwj fTo fW hD hO hK hM hfr
      show WpN (gp g0 wp) CLS p l e R s m args below meth c Q D_209.2.2.1 kc0 ks0 159 [some (.ref 124), some (.int li), some (.int gi), some (.long a), none, some (.long b), none, some (.int xi), some (.int ((((24 : Int32) * gi) + ((4 : Int32) * li)) + xi))] (hs_23, kc, ks) []
      refine g_loadA act (gx gp_209 (w := 0xa003) rfl (by decide) rfl) (a := 0) (n := 160) rfl rfl rfl ?_
      refine g_loadL act (gx gp_209 (w := 0x300a106) rfl (by decide) rfl) (a := 3) (n := 161) rfl rfl rfl ?_
      refine g_loadL act (gx gp_209 (w := 0x500a306) rfl (by decide) rfl) (a := 5) (n := 163) rfl rfl rfl ?_
      refine g_loadA act (gx gp_209 (w := 0xa403) rfl (by decide) rfl) (a := 0) (n := 164) rfl rfl rfl ?_
      refine r_getf act (gx gp_209 (w := 0x20001c900a704) rfl (by decide) rfl) (n := 167) (ci := 9) (j := 7) (N := 39) rfl rfl rfl rw_31.1 (by decide) (v := .long t_24) e_26 ?_
      refine g_loadA act (gx gp_209 (w := 0xa803) rfl (by decide) rfl) (a := 0) (n := 168) rfl rfl rfl ?_
      refine r_getf act (gx gp_209 (w := 0x200020900ab04) rfl (by decide) rfl) (n := 171) (ci := 9) (j := 8) (N := 39) rfl rfl rfl rw_31.1 (by decide) (v := .long w_25) e_27 ?_
      refine n_call tb_pres act hEnd (gx (P := G_call) gp_209 (w := 0xa00000000000082c950000fc00ae0f) rfl (by decide) rfl) (d' := D_252) rfl (as := [.ref 124, .long a, .long b, .long t_24, .long w_25]) (rest := []) (b_plusK (k := 13) rw_31.1 (hkb.mono (by decide)) (hK_28.mono (by decide)) (by decide)) (show (5 : Nat) = fb 0xa00000000000082c950000fc00ae0f % 16 by decide) (by show (9 : Nat) ≤ 11; decide) (fun _ => ⟨_, _, rfl, _, shp_at rw_31.1, Or.inr (show fb 0xa00000000000082c950000fc00ae0f >>> 68 = 10 by decide)⟩) (by omega) (by show 8 + (11 + 11) + 55 ≤ R.locals; omega) (by show (0 : Nat) ≤ 8; decide) (by show kc + 0 ≤ _; omega) (by show ks + 0 ≤ _; omega) (fun r9 hs_39 hpo hr9 => ?_) (fun x9 hs9 hx9 hpo => ?_)
      · obtain rfl : r9 = none := hr9.elim (fun q => q.2) (fun q => absurd rfl q.1)
        obtain ⟨-, t_40, w_41, e_42, e_43, hK_44, fr_45⟩ := hpo
        have hM_46 := ModF.w0 hM_30 fr_45
        have rw_47 := rw_31.fr fr_45 W0_rw
        have f_48 := f_32.fr (fun j9 _ => fr_45.2.2 125 j9 (by unfold W0; omega))
        have f_49 := f_33.fr (fun j9 _ => fr_45.2.2 127 j9 (by unfold W0; omega))
        have f_50 := f_34.fr (fun j9 _ => fr_45.2.2 135 j9 (by unfold W0; omega))
        have f_51 := f_35.fr (fun j9 _ _ => ⟨fr_45.2.2 142 j9 (by unfold W0; omega), fr_45.2.2 143 j9 (by unfold W0; omega)⟩)
        have f_52 := f_36.fr (fun j9 _ _ => ⟨fr_45.2.2 131 j9 (by unfold W0; omega), fr_45.2.2 132 j9 (by unfold W0; omega)⟩)
        have fr_54 := fr_38.tr fr_45
        clear rw_31 f_32 f_33 f_34 f_35 f_36 hM_30 e_26 e_27 fr_38
        show WpN (gp g0 wp) CLS p l e R s m args below meth c Q D_209.2.2.1 kc0 ks0 174 [some (.ref 124), some (.int li), some (.int gi), some (.long a), none, some (.long b), none, some (.int xi), some (.int ((((24 : Int32) * gi) + ((4 : Int32) * li)) + xi))] (hs_39, kc, ks) []
        refine g_loadA act (gx gp_209 (w := 0xaf03) rfl (by decide) rfl) (a := 0) (n := 175) rfl rfl rfl ?_
        refine r_getf act (gx gp_209 (w := 0x20001c900b204) rfl (by decide) rfl) (n := 178) (ci := 9) (j := 7) (N := 39) rfl rfl rfl rw_47.1 (by decide) (v := .long t_40) e_42 ?_
        refine g_storeL act (gx gp_209 (w := 0x300b30b) rfl (by decide) rfl) (a := 3) (n := 179) rfl rfl (L2 := [some (.ref 124), some (.int li), some (.int gi), some (.long t_40), none, some (.long b), none, some (.int xi), some (.int ((((24 : Int32) * gi) + ((4 : Int32) * li)) + xi))]) rfl ?_
        refine g_loadA act (gx gp_209 (w := 0xb403) rfl (by decide) rfl) (a := 0) (n := 180) rfl rfl rfl ?_
        refine r_getf act (gx gp_209 (w := 0x200020900b704) rfl (by decide) rfl) (n := 183) (ci := 9) (j := 8) (N := 39) rfl rfl rfl rw_47.1 (by decide) (v := .long w_41) e_43 ?_
        refine g_storeL act (gx gp_209 (w := 0x500b90b) rfl (by decide) rfl) (a := 5) (n := 185) rfl rfl (L2 := [some (.ref 124), some (.int li), some (.int gi), some (.long t_40), none, some (.long w_41), none, some (.int xi), some (.int ((((24 : Int32) * gi) + ((4 : Int32) * li)) + xi))]) rfl ?_
        refine g_iinc act (gx gp_209 (w := 0x8000000100000700bc09) rfl (by decide) rfl) (a := 7) (i := (1 : Int32)) (n := 188) rfl (by decide) rfl rfl (L2 := [some (.ref 124), some (.int li), some (.int gi), some (.long t_40), none, some (.long w_41), none, some (.int (xi + (1 : Int32))), some (.int ((((24 : Int32) * gi) + ((4 : Int32) * li)) + xi))]) rfl ?_
        have v_55 := iv_addN hxi (show (1 : Int32).toInt = ((1 : Nat) : Int) from by decide) (show (j9 + 1) < 2147483648 by omega)
        refine g_goto act (gx gp_209 (w := 0x6b07) rfl (by decide) rfl) (n := 107) rfl ?_
        exact n_forget (d := D_209) (L2 := [some (.ref 124), some (.int li), some (.int gi), some (.long t_40), none, some (.long w_41), none, some (.int (xi + (1 : Int32))), none]) (fun i v hi => by
          match i, hi with
          | 0, hi => exact hi
          | 1, hi => exact hi
          | 2, hi => exact hi
          | 3, hi => exact hi
          | 4, hi => cases hi
          | 5, hi => exact hi
          | 6, hi => cases hi
          | 7, hi => exact hi
          | 8, hi => cases hi
          | i + 9, hi => cases hi) (ih (j9 + 1) (by omega) (by omega) _ _ _ _ v_55 (hK_44.mono (by decide)) rw_47 f_48 f_49 f_50 f_51 f_52 hM_46 (Or.inr ⟨e_42, e_43⟩) fr_54)
      · exact absurd hpo.1 (by omega)
    · exact absurd hpo.1 (by omega)

theorem flows_1 {g0 : GG} {bl : Nat} {xs : Nat → Int32} {l : Launch} {wp : va_W} {p : Program} {e : Env} {R : Room} {s : State} {m : MethodId} {args : Array Value} {below : List Frame} {meth : Method} {c : Code} {Q : State → Prop} {kc0 ks0 kc ks f lam KC KS : Nat} {hs : List CE} {tl wl : Nat → Int} {nl n ng nr : Nat} (hNW : NW tl wl nl n ng nr) {dm : Nat → Int} {li gi : Int32} {ln9 gr : Nat} (hli : li.toInt = (ln9 : Int)) (hl6 : ln9 < 6) (hgi : gi.toInt = (gr : Int)) (hg2 : gr < 2) (hdm : ∀ j, 0 ≤ dm j ∧ dm j ≤ 220) (hf : 3 ≤ R.frames) (hl : 87 ≤ R.locals) (hc : kc ≤ R.cells + kc0) (hsl : ks ≤ R.slots + ks0) (act : Act SSX TBL (gp g0 wp) CLS bl xs D_209 p l s m args meth c) (hEnd : EndN SSX TBL (gp g0 wp) CLS D_209 p l e R s m args below meth c Q kc0 ks0 f lam KC KS (fun kd _ h2 => kd = 0 ∧ ∃ t w : Int64, rd h2 124 7 = .long t ∧ rd h2 124 8 = .long w ∧ K2 13 w ∧ FrS W0 hs h2)) (hk1 : kc ≤ KC) (hk2 : ks ≤ KS) : ∀ j9 : Nat, j9 ≤ ng → ∀ (xi : Int32) (a b : Int64) (hj : List CE), xi.toInt = (j9 : Int) → K2 13 b → RW hj → IArr hj 125 46 tl → IArr hj 127 39 wl → IArr hj 135 4 dm → KR hj 142 143 0 5 9 → KR hj 131 132 (24 * gr) (24 * gr + 24) 5 → ModF hj → FrS W0 hs hj → WpN (gp g0 wp) CLS p l e R s m args below meth c Q D_209.2.2.1 kc0 ks0 8 [some (.ref 124), some (.int li), some (.int gi), some (.long a), none, some (.long b), none, some (.int xi), none] (hj, kc, ks) [] := by
  have hN9 := hNW
  obtain ⟨n0, n1, n2, n3, n4, n5, n6, n7, n8, hG0, nL, nC, nP, nD⟩ := hN9
  have hGn := hG0.1
  have hGn3 := hG0.2.1
  refine dn (fun j9 hj9 ih => ?_)
  intro xi a b hj hxi hkb rwj fTo fW hD hO hK hM hfr
  have hag := n7 j9
  refine g_loadI act (gx gp_209 (w := 0x7000a02) rfl (by decide) rfl) (a := 7) (n := 10) rfl rfl rfl ?_
  refine g_loadA act (gx gp_209 (w := 0xb03) rfl (by decide) rfl) (a := 0) (n := 11) rfl rfl rfl ?_
  refine r_getf act (gx gp_209 (w := 0x3000049000e04) rfl (by decide) rfl) (n := 14) (ci := 9) (j := 1) (N := 39) rfl rfl rfl rwj.1 (by decide) (rwj.2 (1, 125, 32, 46) (by decide)).1 ?_
  refine g_constI act (gx gp_209 (w := 0x40000001c00000019000000000f01) rfl (by decide) rfl) (n := 15) (x := (3 : Int32)) (by decide) rfl ?_
  obtain ⟨x_1, e_2, hx_3⟩ := fTo 3 (by omega)
  refine r_iald act (gx gp_209 (w := 0x101a) rfl (by decide) rfl) (n := 16) (j := 3) rfl (rwj.2 (1, 125, 32, 46) (by decide)).2 (show (3 : Int32).toInt = ((3 : Nat) : Int) from by decide) (show 3 < 46 by omega) (v := .int x_1) e_2 ?_
  refine g_icmpGe act (gx gp_209 (w := 0x68001308) rfl (by decide) rfl) (tgt := 104) (n := 19) rfl rfl (fun h4 => ?_) (fun h4 => ?_)
  · simp only [i_le] at h4
    refine g_constI act (gx gp_209 (w := 0x40000000400000001000000006901) rfl (by decide) rfl) (n := 105) (x := (0 : Int32)) (by decide) rfl ?_
    refine g_storeI act (gx gp_209 (w := 0x7006b10) rfl (by decide) rfl) (a := 7) (n := 107) rfl rfl (L2 := [some (.ref 124), some (.int li), some (.int gi), some (.long a), none, some (.long b), none, some (.int (0 : Int32)), none]) rfl ?_
    obtain rfl : j9 = ng := by omega
    exact flows_2 hNW hli hl6 hgi hg2 hdm hf hl hc hsl act hEnd hk1 hk2 0 (by omega) _ a b hj rfl hkb rwj fTo fW hD hO hK hM (Or.inl rfl) hfr
  · simp only [i_le] at h4
    refine g_constI act (gx gp_209 (w := 0x4000000c4000000c1000000001501) rfl (by decide) rfl) (n := 21) (x := (24 : Int32)) (by decide) rfl ?_
    refine g_loadI act (gx gp_209 (w := 0x2001602) rfl (by decide) rfl) (a := 2) (n := 22) rfl rfl rfl ?_
    refine g_imul act (gx gp_209 (w := 0x1711) rfl (by decide) rfl) (n := 23) rfl ?_
    have v_4 := iv_mulN (show (24 : Int32).toInt = ((24 : Nat) : Int) from by decide) hgi (show (24 * gr) < 2147483648 by omega)
    refine g_constI act (gx gp_209 (w := 0x40000002400000021000000001801) rfl (by decide) rfl) (n := 24) (x := (4 : Int32)) (by decide) rfl ?_
    refine g_loadI act (gx gp_209 (w := 0x1001902) rfl (by decide) rfl) (a := 1) (n := 25) rfl rfl rfl ?_
    refine g_imul act (gx gp_209 (w := 0x1a11) rfl (by decide) rfl) (n := 26) rfl ?_
    have v_5 := iv_mulN (show (4 : Int32).toInt = ((4 : Nat) : Int) from by decide) hli (show (4 * ln9) < 2147483648 by omega)
    refine g_iadd act (gx gp_209 (w := 0x1b0a) rfl (by decide) rfl) (n := 27) rfl ?_
    have v_6 := iv_addN v_4 v_5 (show ((24 * gr) + (4 * ln9)) < 2147483648 by omega)
    refine g_loadA act (gx gp_209 (w := 0x1c03) rfl (by decide) rfl) (a := 0) (n := 28) rfl rfl rfl ?_
    refine r_getf act (gx gp_209 (w := 0x3000049001f04) rfl (by decide) rfl) (n := 31) (ci := 9) (j := 1) (N := 39) rfl rfl rfl rwj.1 (by decide) (rwj.2 (1, 125, 32, 46) (by decide)).1 ?_
    refine g_constI act (gx gp_209 (w := 0x40000008c00000089000000002101) rfl (by decide) rfl) (n := 33) (x := (17 : Int32)) (by decide) rfl ?_
    refine g_loadI act (gx gp_209 (w := 0x7002302) rfl (by decide) rfl) (a := 7) (n := 35) rfl rfl rfl ?_
    refine g_iadd act (gx gp_209 (w := 0x240a) rfl (by decide) rfl) (n := 36) rfl ?_
    have v_7 := iv_addN (show (17 : Int32).toInt = ((17 : Nat) : Int) from by decide) hxi (show (17 + j9) < 2147483648 by omega)
    obtain ⟨x_8, e_9, hx_10⟩ := fTo (17 + j9) (by omega)
    refine r_iald act (gx gp_209 (w := 0x251a) rfl (by decide) rfl) (n := 37) (j := (17 + j9)) rfl (rwj.2 (1, 125, 32, 46) (by decide)).2 v_7 (show (17 + j9) < 46 by omega) (v := .int x_8) e_9 ?_
    refine g_iadd act (gx gp_209 (w := 0x260a) rfl (by decide) rfl) (n := 38) rfl ?_
    have v_11 := iv_add v_6 hx_10 (show -2147483648 ≤ (((((24 * gr) + (4 * ln9)) : Nat) : Int) + (tl (17 + j9))) by omega) (show (((((24 * gr) + (4 * ln9)) : Nat) : Int) + (tl (17 + j9))) < 2147483648 by omega)
    refine g_storeI act (gx gp_209 (w := 0x8002810) rfl (by decide) rfl) (a := 8) (n := 40) rfl rfl (L2 := [some (.ref 124), some (.int li), some (.int gi), some (.long a), none, some (.long b), none, some (.int xi), some (.int ((((24 : Int32) * gi) + ((4 : Int32) * li)) + x_8))]) rfl ?_
    refine g_loadA act (gx gp_209 (w := 0x2903) rfl (by decide) rfl) (a := 0) (n := 41) rfl rfl rfl ?_
    refine g_loadA act (gx gp_209 (w := 0x2a03) rfl (by decide) rfl) (a := 0) (n := 42) rfl rfl rfl ?_
    refine r_getf act (gx gp_209 (w := 0x3000409002d04) rfl (by decide) rfl) (n := 45) (ci := 9) (j := 16) (N := 39) rfl rfl rfl rwj.1 (by decide) (rwj.2 (16, 131, 33, 48) (by decide)).1 ?_
    refine g_loadI act (gx gp_209 (w := 0x8002f02) rfl (by decide) rfl) (a := 8) (n := 47) rfl rfl rfl ?_
    obtain ⟨j_12, hj_13⟩ := Int.eq_ofNat_of_zero_le (show (0 : Int) ≤ (((((24 * gr) + (4 * ln9)) : Nat) : Int) + (tl (17 + j9))) by omega)
    obtain ⟨x_14, w_17, e_15, e_18, hx_16⟩ := hK j_12 (by omega) (by omega)
    refine r_lald act (gx gp_209 (w := 0x300d) rfl (by decide) rfl) (n := 48) (j := j_12) rfl (rwj.2 (16, 131, 33, 48) (by decide)).2 (v_11.trans hj_13) (show j_12 < 48 by omega) (v := .long x_14) e_15 ?_
    refine g_loadA act (gx gp_209 (w := 0x3103) rfl (by decide) rfl) (a := 0) (n := 49) rfl rfl rfl ?_
    refine r_getf act (gx gp_209 (w := 0x3000449003404) rfl (by decide) rfl) (n := 52) (ci := 9) (j := 17) (N := 39) rfl rfl rfl rwj.1 (by decide) (rwj.2 (17, 132, 33, 48) (by decide)).1 ?_
    refine g_loadI act (gx gp_209 (w := 0x8003602) rfl (by decide) rfl) (a := 8) (n := 54) rfl rfl rfl ?_
    refine r_lald act (gx gp_209 (w := 0x370d) rfl (by decide) rfl) (n := 55) (j := j_12) rfl (rwj.2 (17, 132, 33, 48) (by decide)).2 (v_11.trans hj_13) (show j_12 < 48 by omega) (v := .long w_17) e_18 ?_
    refine g_loadA act (gx gp_209 (w := 0x3803) rfl (by decide) rfl) (a := 0) (n := 56) rfl rfl rfl ?_
    refine r_getf act (gx gp_209 (w := 0x30007c9003b04) rfl (by decide) rfl) (n := 59) (ci := 9) (j := 31) (N := 39) rfl rfl rfl rwj.1 (by decide) (rwj.2 (31, 142, 33, 5) (by decide)).1 ?_
    refine g_loadI act (gx gp_209 (w := 0x7003d02) rfl (by decide) rfl) (a := 7) (n := 61) rfl rfl rfl ?_
    obtain ⟨x_24, w_27, e_25, e_28, hx_26⟩ := hO j9 (by omega) (by omega)
    refine r_lald act (gx gp_209 (w := 0x3e0d) rfl (by decide) rfl) (n := 62) (j := j9) rfl (rwj.2 (31, 142, 33, 5) (by decide)).2 hxi (show j9 < 5 by omega) (v := .long x_24) e_25 ?_
    refine g_loadA act (gx gp_209 (w := 0x3f03) rfl (by decide) rfl) (a := 0) (n := 63) rfl rfl rfl ?_
    refine r_getf act (gx gp_209 (w := 0x3000809004204) rfl (by decide) rfl) (n := 66) (ci := 9) (j := 32) (N := 39) rfl rfl rfl rwj.1 (by decide) (rwj.2 (32, 143, 33, 5) (by decide)).1 ?_
    refine g_loadI act (gx gp_209 (w := 0x7004402) rfl (by decide) rfl) (a := 7) (n := 68) rfl rfl rfl ?_
    refine r_lald act (gx gp_209 (w := 0x450d) rfl (by decide) rfl) (n := 69) (j := j9) rfl (rwj.2 (32, 143, 33, 5) (by decide)).2 hxi (show j9 < 5 by omega) (v := .long w_27) e_28 ?_
    refine n_call tb_pres act hEnd (gx (P := G_call) gp_209 (w := 0xa0000000000008349500011a00480f) rfl (by decide) rfl) (d' := D_282) rfl (as := [.ref 124, .long x_14, .long w_17, .long x_24, .long w_27]) (rest := []) (b_timesK (k1 := 5) (k2 := 9) rwj.1 hx_16 hx_26 (by decide)) (show (5 : Nat) = fb 0xa0000000000008349500011a00480f % 16 by decide) (by show (9 : Nat) ≤ 13; decide) (fun _ => ⟨_, _, rfl, _, shp_at rwj.1, Or.inr (show fb 0xa0000000000008349500011a00480f >>> 68 = 10 by decide)⟩) (by omega) (by show 8 + (13 + 11) + 55 ≤ R.locals; omega) (by show (0 : Nat) ≤ 8; decide) (by show kc + 0 ≤ _; omega) (by show ks + 0 ≤ _; omega) (fun r9 hs_34 hpo hr9 => ?_) (fun x9 hs9 hx9 hpo => ?_)
    · obtain rfl : r9 = none := hr9.elim (fun q => q.2) (fun q => absurd rfl q.1)
      obtain ⟨-, t_35, w_36, e_37, e_38, hK_39, fr_40⟩ := hpo
      have hM_41 := ModF.w0 hM fr_40
      have rw_42 := rwj.fr fr_40 W0_rw
      have f_43 := fTo.fr (fun j9 _ => fr_40.2.2 125 j9 (by unfold W0; omega))
      have f_44 := fW.fr (fun j9 _ => fr_40.2.2 127 j9 (by unfold W0; omega))
      have f_45 := hD.fr (fun j9 _ => fr_40.2.2 135 j9 (by unfold W0; omega))
      have f_46 := hO.fr (fun j9 _ _ => ⟨fr_40.2.2 142 j9 (by unfold W0; omega), fr_40.2.2 143 j9 (by unfold W0; omega)⟩)
      have f_47 := hK.fr (fun j9 _ _ => ⟨fr_40.2.2 131 j9 (by unfold W0; omega), fr_40.2.2 132 j9 (by unfold W0; omega)⟩)
      have fr_49 := hfr.tr fr_40
      clear rwj fTo fW hD hO hK hM hfr
      show WpN (gp g0 wp) CLS p l e R s m args below meth c Q D_209.2.2.1 kc0 ks0 72 [some (.ref 124), some (.int li), some (.int gi), some (.long a), none, some (.long b), none, some (.int xi), some (.int ((((24 : Int32) * gi) + ((4 : Int32) * li)) + x_8))] (hs_34, kc, ks) []
      refine g_loadA act (gx gp_209 (w := 0x4903) rfl (by decide) rfl) (a := 0) (n := 73) rfl rfl rfl ?_
      refine g_loadL act (gx gp_209 (w := 0x3004a06) rfl (by decide) rfl) (a := 3) (n := 74) rfl rfl rfl ?_
      refine g_loadL act (gx gp_209 (w := 0x5004c06) rfl (by decide) rfl) (a := 5) (n := 76) rfl rfl rfl ?_
      refine g_loadA act (gx gp_209 (w := 0x4d03) rfl (by decide) rfl) (a := 0) (n := 77) rfl rfl rfl ?_
      refine r_getf act (gx gp_209 (w := 0x20001c9005004) rfl (by decide) rfl) (n := 80) (ci := 9) (j := 7) (N := 39) rfl rfl rfl rw_42.1 (by decide) (v := .long t_35) e_37 ?_
      refine g_loadA act (gx gp_209 (w := 0x5103) rfl (by decide) rfl) (a := 0) (n := 81) rfl rfl rfl ?_
      refine r_getf act (gx gp_209 (w := 0x2000209005404) rfl (by decide) rfl) (n := 84) (ci := 9) (j := 8) (N := 39) rfl rfl rfl rw_42.1 (by decide) (v := .long w_36) e_38 ?_
      refine n_call tb_pres act hEnd (gx (P := G_call) gp_209 (w := 0xa00000000000082c950000fc00570f) rfl (by decide) rfl) (d' := D_252) rfl (as := [.ref 124, .long a, .long b, .long t_35, .long w_36]) (rest := []) (b_plusK (k := 13) rw_42.1 (hkb.mono (by decide)) (hK_39.mono (by decide)) (by decide)) (show (5 : Nat) = fb 0xa00000000000082c950000fc00570f % 16 by decide) (by show (9 : Nat) ≤ 11; decide) (fun _ => ⟨_, _, rfl, _, shp_at rw_42.1, Or.inr (show fb 0xa00000000000082c950000fc00570f >>> 68 = 10 by decide)⟩) (by omega) (by show 8 + (11 + 11) + 55 ≤ R.locals; omega) (by show (0 : Nat) ≤ 8; decide) (by show kc + 0 ≤ _; omega) (by show ks + 0 ≤ _; omega) (fun r9 hs_50 hpo hr9 => ?_) (fun x9 hs9 hx9 hpo => ?_)
      · obtain rfl : r9 = none := hr9.elim (fun q => q.2) (fun q => absurd rfl q.1)
        obtain ⟨-, t_51, w_52, e_53, e_54, hK_55, fr_56⟩ := hpo
        have hM_57 := ModF.w0 hM_41 fr_56
        have rw_58 := rw_42.fr fr_56 W0_rw
        have f_59 := f_43.fr (fun j9 _ => fr_56.2.2 125 j9 (by unfold W0; omega))
        have f_60 := f_44.fr (fun j9 _ => fr_56.2.2 127 j9 (by unfold W0; omega))
        have f_61 := f_45.fr (fun j9 _ => fr_56.2.2 135 j9 (by unfold W0; omega))
        have f_62 := f_46.fr (fun j9 _ _ => ⟨fr_56.2.2 142 j9 (by unfold W0; omega), fr_56.2.2 143 j9 (by unfold W0; omega)⟩)
        have f_63 := f_47.fr (fun j9 _ _ => ⟨fr_56.2.2 131 j9 (by unfold W0; omega), fr_56.2.2 132 j9 (by unfold W0; omega)⟩)
        have fr_65 := fr_49.tr fr_56
        clear rw_42 f_43 f_44 f_45 f_46 f_47 hM_41 e_37 e_38 fr_49
        show WpN (gp g0 wp) CLS p l e R s m args below meth c Q D_209.2.2.1 kc0 ks0 87 [some (.ref 124), some (.int li), some (.int gi), some (.long a), none, some (.long b), none, some (.int xi), some (.int ((((24 : Int32) * gi) + ((4 : Int32) * li)) + x_8))] (hs_50, kc, ks) []
        refine g_loadA act (gx gp_209 (w := 0x5803) rfl (by decide) rfl) (a := 0) (n := 88) rfl rfl rfl ?_
        refine r_getf act (gx gp_209 (w := 0x20001c9005b04) rfl (by decide) rfl) (n := 91) (ci := 9) (j := 7) (N := 39) rfl rfl rfl rw_58.1 (by decide) (v := .long t_51) e_53 ?_
        refine g_storeL act (gx gp_209 (w := 0x3005c0b) rfl (by decide) rfl) (a := 3) (n := 92) rfl rfl (L2 := [some (.ref 124), some (.int li), some (.int gi), some (.long t_51), none, some (.long b), none, some (.int xi), some (.int ((((24 : Int32) * gi) + ((4 : Int32) * li)) + x_8))]) rfl ?_
        refine g_loadA act (gx gp_209 (w := 0x5d03) rfl (by decide) rfl) (a := 0) (n := 93) rfl rfl rfl ?_
        refine r_getf act (gx gp_209 (w := 0x2000209006004) rfl (by decide) rfl) (n := 96) (ci := 9) (j := 8) (N := 39) rfl rfl rfl rw_58.1 (by decide) (v := .long w_52) e_54 ?_
        refine g_storeL act (gx gp_209 (w := 0x500620b) rfl (by decide) rfl) (a := 5) (n := 98) rfl rfl (L2 := [some (.ref 124), some (.int li), some (.int gi), some (.long t_51), none, some (.long w_52), none, some (.int xi), some (.int ((((24 : Int32) * gi) + ((4 : Int32) * li)) + x_8))]) rfl ?_
        refine g_iinc act (gx gp_209 (w := 0x80000001000007006509) rfl (by decide) rfl) (a := 7) (i := (1 : Int32)) (n := 101) rfl (by decide) rfl rfl (L2 := [some (.ref 124), some (.int li), some (.int gi), some (.long t_51), none, some (.long w_52), none, some (.int (xi + (1 : Int32))), some (.int ((((24 : Int32) * gi) + ((4 : Int32) * li)) + x_8))]) rfl ?_
        have v_66 := iv_addN hxi (show (1 : Int32).toInt = ((1 : Nat) : Int) from by decide) (show (j9 + 1) < 2147483648 by omega)
        refine g_goto act (gx gp_209 (w := 0x807) rfl (by decide) rfl) (n := 8) rfl ?_
        exact n_forget (d := D_209) (L2 := [some (.ref 124), some (.int li), some (.int gi), some (.long t_51), none, some (.long w_52), none, some (.int (xi + (1 : Int32))), none]) (fun i v hi => by
          match i, hi with
          | 0, hi => exact hi
          | 1, hi => exact hi
          | 2, hi => exact hi
          | 3, hi => exact hi
          | 4, hi => cases hi
          | 5, hi => exact hi
          | 6, hi => cases hi
          | 7, hi => exact hi
          | 8, hi => cases hi
          | i + 9, hi => cases hi) (ih (j9 + 1) (by omega) (by omega) _ _ _ _ v_66 (hK_55.mono (by decide)) rw_58 f_59 f_60 f_61 f_62 f_63 hM_57 fr_65)
      · exact absurd hpo.1 (by omega)
    · exact absurd hpo.1 (by omega)

theorem b_flows {g0 : GG} {bl : Nat} {xs : Nat → Int32} {l : Launch} {hs : List CE} {tl wl : Nat → Int} {nl n ng nr : Nat} (hNW : NW tl wl nl n ng nr) {dm : Nat → Int} {li gi : Int32} {ln9 gr : Nat} (hli : li.toInt = (ln9 : Int)) (hl6 : ln9 < 6) (hgi : gi.toInt = (gr : Int)) (hg2 : gr < 2) (hB : BM hs tl wl) (hD : IArr hs 135 4 dm) (hdm : ∀ j, 0 ≤ dm j ∧ dm j ≤ 220) (hO : KR hs 142 143 0 5 9) (hK : KR hs 131 132 (24 * gr) (24 * gr + 24) 5) (hM : ModF hs) : BodyN SSX TBL g0 CLS bl xs l D_209 3 87 0 0 [.ref 124, .int li, .int gi] hs (fun kd _ h2 => kd = 0 ∧ ∃ t w : Int64, rd h2 124 7 = .long t ∧ rd h2 124 8 = .long w ∧ K2 13 w ∧ FrS W0 hs h2) := by
  intro wp p e R s m args below meth c Q kc0 ks0 kc ks act hf hl hc hsl hEnd
  show WpN (gp g0 wp) CLS p l e R s m args below meth c Q D_209.2.2.1 kc0 ks0 0 [some (.ref 124), some (.int li), some (.int gi), none, none, none, none, none, none] (hs, kc, ks) []
  refine g_constL act (gx gp_209 (w := 0x40000000000000002000000000101) rfl (by decide) rfl) (n := 1) (x := 0) (by decide) rfl ?_
  refine g_storeL act (gx gp_209 (w := 0x300020b) rfl (by decide) rfl) (a := 3) (n := 2) rfl rfl (L2 := [some (.ref 124), some (.int li), some (.int gi), some (.long (0 : Int64)), none, none, none, none, none]) rfl ?_
  refine g_constL act (gx gp_209 (w := 0x4000000000000000a000000000301) rfl (by decide) rfl) (n := 3) (x := 1) (by decide) rfl ?_
  refine g_storeL act (gx gp_209 (w := 0x500050b) rfl (by decide) rfl) (a := 5) (n := 5) rfl rfl (L2 := [some (.ref 124), some (.int li), some (.int gi), some (.long (0 : Int64)), none, some (.long (1 : Int64)), none, none, none]) rfl ?_
  refine g_constI act (gx gp_209 (w := 0x40000000400000001000000000601) rfl (by decide) rfl) (n := 6) (x := (0 : Int32)) (by decide) rfl ?_
  refine g_storeI act (gx gp_209 (w := 0x7000810) rfl (by decide) rfl) (a := 7) (n := 8) rfl rfl (L2 := [some (.ref 124), some (.int li), some (.int gi), some (.long (0 : Int64)), none, some (.long (1 : Int64)), none, some (.int (0 : Int32)), none]) rfl ?_
  exact flows_1 hNW hli hl6 hgi hg2 hdm hf hl hc hsl act hEnd (by omega) (by omega) 0 (by omega) _ _ _ hs rfl (k2_one.mono (by decide)) hB.1 hB.2.1 hB.2.2 hD hO hK hM (FrS.rf _ _)

theorem b_flow {g0 : GG} {bl : Nat} {xs : Nat → Int32} {l : Launch} {hs : List CE} {tl wl : Nat → Int} {nl n ng nr : Nat} (hNW : NW tl wl nl n ng nr) {a b c9 : Int32} (hB : BM hs tl wl) (hM : ModF hs) : BodyN SSX TBL g0 CLS bl xs l D_207 10 251 0 0 [.ref 124, .int a, .int b, .int c9] hs (POL hs) := by
  intro wp p e R s m args below meth c Q kc0 ks0 kc ks act hf hl hc hsl hEnd
  have hN9 := hNW
  obtain ⟨n0, n1, n2, n3, n4, n5, n6, n7, n8, hG0, nL, nC, nP, nD⟩ := hN9
  have hGn := hG0.1
  have hGn3 := hG0.2.1
  have hGl := hG0.2.2.1
  obtain ⟨rw0, hTo, hW⟩ := hB
  show WpN (gp g0 wp) CLS p l e R s m args below meth c Q D_207.2.2.1 kc0 ks0 0 [some (.ref 124), some (.int a), some (.int b), some (.int c9)] (hs, kc, ks) []
  refine g_loadA act (gx gp_207 (w := 0x103) rfl (by decide) rfl) (a := 0) (n := 1) rfl rfl rfl ?_
  refine g_loadA act (gx gp_207 (w := 0x203) rfl (by decide) rfl) (a := 0) (n := 2) rfl rfl rfl ?_
  refine g_loadI act (gx gp_207 (w := 0x2000302) rfl (by decide) rfl) (a := 2) (n := 3) rfl rfl rfl ?_
  refine n_call tb_pres act hEnd (gx (P := G_call) gp_207 (w := 0xa000000000000c08220000e200060f) rfl (by decide) rfl) (d' := D_226) rfl (as := [.ref 124, .int b]) (rest := [.ref 124]) (b_isLine (tl := tl) rw0 hTo (rfl : Int32.toInt b = _) (by omega) (by omega)) (show (2 : Nat) = fb 0xa000000000000c08220000e200060f % 16 by decide) (by show (2 : Nat) ≤ 2; decide) (fun _ => ⟨_, _, rfl, _, shp_at rw0.1, Or.inr (show fb 0xa000000000000c08220000e200060f >>> 68 = 10 by decide)⟩) (by omega) (by show 8 + (2 + 11) + 22 ≤ R.locals; omega) (by show (1 : Nat) ≤ 8; decide) (by show kc + 0 ≤ _; omega) (by show ks + 0 ≤ _; omega) (fun r9 h3 hpo hr9 => ?_) (fun x9 hs9 hx9 hpo => ?_)
  · obtain ⟨-, rfl, hin_2⟩ := hpo
    obtain ⟨rv_1, rfl, hin_2o⟩ := in1_t hin_2
    show WpN (gp g0 wp) CLS p l e R s m args below meth c Q D_207.2.2.1 kc0 ks0 6 [some (.ref 124), some (.int a), some (.int b), some (.int c9)] (hs, kc, ks) [.int rv_1, .ref 124]
    refine g_loadI act (gx gp_207 (w := 0x1000702) rfl (by decide) rfl) (a := 1) (n := 7) rfl rfl rfl ?_
    refine g_loadI act (gx gp_207 (w := 0x3000802) rfl (by decide) rfl) (a := 3) (n := 8) rfl rfl rfl ?_
    refine n_call tb_pres act hEnd (gx (P := G_call) gp_207 (w := 0xa000000000000c10440000df000b0f) rfl (by decide) rfl) (d' := D_223) rfl (as := [.ref 124, .int rv_1, .int a, .int c9]) (rest := []) (b_isGood hNW ⟨rw0, hTo, hW⟩ hM (ti := (Int32.toInt rv_1)) (rfl : Int32.toInt rv_1 = _) (by omega) (x := (Int32.toInt a)) (rfl : Int32.toInt a = _) (y := (Int32.toInt c9)) (rfl : Int32.toInt c9 = _)) (show (4 : Nat) = fb 0xa000000000000c10440000df000b0f % 16 by decide) (by show (4 : Nat) ≤ 4; decide) (fun _ => ⟨_, _, rfl, _, shp_at rw0.1, Or.inr (show fb 0xa000000000000c10440000df000b0f >>> 68 = 10 by decide)⟩) (by omega) (by show 8 + (4 + 11) + 228 ≤ R.locals; omega) (by show (0 : Nat) ≤ 8; decide) (by show kc + 0 ≤ _; omega) (by show ks + 0 ≤ _; omega) (fun r9 hs_3 hpo hr9 => ?_) (fun x9 hs9 hx9 hpo => ?_)
    · obtain ⟨-, hM_5, fr_4, rg, rfl, hg_6⟩ := hpo
      have rw_8 := rw0.fr fr_4 WM_rw
      have f_9 := hTo.fr (fun j9 _ => fr_4.2.2 125 j9 (by unfold WM; omega))
      have f_10 := hW.fr (fun j9 _ => fr_4.2.2 127 j9 (by unfold WM; omega))
      have fr_11 := (FrS.rf WM hs).tr fr_4
      show WpN (gp g0 wp) CLS p l e R s m args below meth c Q D_207.2.2.1 kc0 ks0 11 [some (.ref 124), some (.int a), some (.int b), some (.int c9)] (hs_3, kc, ks) [.int rg]
      rcases hg_6 with rfl | ⟨rfl, g1_13, g2_13, g3_13, g4_13, g5_13, hFD_13⟩
      · refine g_ifNe act (gx gp_207 (w := 0x10000e1d) rfl (by decide) rfl) (tgt := 16) (n := 14) rfl rfl (fun q => absurd q (by decide)) (fun _ => ?_)
        refine g_constL act (gx gp_207 (w := 0x40000000000000002000000000f01) rfl (by decide) rfl) (n := 15) (x := 0) (by decide) rfl ?_
        exact g_retL hEnd (gx gp_207 (w := 0x19) rfl (by decide) rfl) ⟨rfl, ⟨_, rfl⟩, hM_5, fr_11⟩ (by show kc ≤ kc + 0; omega) (by show ks ≤ ks + 0; omega)
      · obtain ⟨⟨frw_12, fTo_12, fW_12⟩, ⟨hG_12, ⟨oi_12, f24_12, hoi_12⟩, ⟨dm_12, fD_12, hdm_12⟩, ⟨lm_12, fL_12, hlm_12⟩, ⟨em_12, fE_12, hem_12⟩, ⟨cp_12, fC_12, hcp_12⟩⟩, fFo_12, ⟨fK0_12, fK1_12⟩⟩ := hFD_13
        obtain ⟨⟨ct_12, cl_12, f29_12, f30_12, hck_12⟩, fKO_12⟩ := found_k hG_12 fFo_12
        refine g_ifNe act (gx gp_207 (w := 0x10000e1d) rfl (by decide) rfl) (tgt := 16) (n := 14) rfl rfl (fun _ => ?_) (fun q => absurd (by decide) q)
        refine g_loadA act (gx gp_207 (w := 0x1103) rfl (by decide) rfl) (a := 0) (n := 17) rfl rfl rfl ?_
        refine g_loadI act (gx gp_207 (w := 0x2001202) rfl (by decide) rfl) (a := 2) (n := 18) rfl rfl rfl ?_
        refine g_constI act (gx gp_207 (w := 0x40000000400000001000000001301) rfl (by decide) rfl) (n := 19) (x := (0 : Int32)) (by decide) rfl ?_
        obtain ⟨j_22, hj_23⟩ := Int.eq_ofNat_of_zero_le (show (0 : Int) ≤ (Int32.toInt b) by omega)
        refine n_call tb_pres act hEnd (gx (P := G_call) gp_207 (w := 0xa000000000000824330000d100160f) rfl (by decide) rfl) (d' := D_209) rfl (as := [.ref 124, .int b, .int (0 : Int32)]) (rest := []) (b_flows hNW (ln9 := j_22) (gr := 0) ((rfl : Int32.toInt b = _).trans hj_23) (by omega) (show (0 : Int32).toInt = ((0 : Nat) : Int) from by decide) (by decide) ⟨frw_12, fTo_12, fW_12⟩ fD_12 (fun j9 => by have q9 := hdm_12 j9; omega) fKO_12 fK0_12 hM_5) (show (3 : Nat) = fb 0xa000000000000824330000d100160f % 16 by decide) (by show (3 : Nat) ≤ 9; decide) (fun _ => ⟨_, _, rfl, _, shp_at frw_12.1, Or.inr (show fb 0xa000000000000824330000d100160f >>> 68 = 10 by decide)⟩) (by omega) (by show 8 + (9 + 11) + 87 ≤ R.locals; omega) (by show (0 : Nat) ≤ 8; decide) (by show kc + 0 ≤ _; omega) (by show ks + 0 ≤ _; omega) (fun r9 hs_14 hpo hr9 => ?_) (fun x9 hs9 hx9 hpo => ?_)
        · obtain rfl : r9 = none := hr9.elim (fun q => q.2) (fun q => absurd rfl q.1)
          obtain ⟨-, t_15, w_16, e_17, e_18, hK_19, fr_20⟩ := hpo
          have hM_21 := ModF.w0 hM_5 fr_20
          have rw_24 := frw_12.fr fr_20 W0_rw
          have f_26 := fTo_12.fr (fun j9 _ => fr_20.2.2 125 j9 (by unfold W0; omega))
          have f_27 := fW_12.fr (fun j9 _ => fr_20.2.2 127 j9 (by unfold W0; omega))
          have f_28 := fD_12.fr (fun j9 _ => fr_20.2.2 135 j9 (by unfold W0; omega))
          have f_29 := fL_12.fr (fun j9 _ => fr_20.2.2 136 j9 (by unfold W0; omega))
          have f_30 := fE_12.fr (fun j9 _ => fr_20.2.2 137 j9 (by unfold W0; omega))
          have f_31 := fC_12.fr (fun j9 _ => fr_20.2.2 138 j9 (by unfold W0; omega))
          have f_32 := rd_fr fr_20 f24_12 (by unfold W0; omega)
          have f_33 := rd_fr fr_20 f29_12 (by unfold W0; omega)
          have f_34 := rd_fr fr_20 f30_12 (by unfold W0; omega)
          have f_35 := fKO_12.fr (fun j9 _ _ => ⟨fr_20.2.2 142 j9 (by unfold W0; omega), fr_20.2.2 143 j9 (by unfold W0; omega)⟩)
          have f_36 := fK0_12.fr (fun j9 _ _ => ⟨fr_20.2.2 131 j9 (by unfold W0; omega), fr_20.2.2 132 j9 (by unfold W0; omega)⟩)
          have f_37 := fun q9 => (fK1_12 q9).fr (fun j9 _ _ => ⟨fr_20.2.2 131 j9 (by unfold W0; omega), fr_20.2.2 132 j9 (by unfold W0; omega)⟩)
          have f_38 := fFo_12.fr fr_20 (fun j9 => by unfold W0; omega) (by unfold W0; omega) (by unfold W0; omega)
          have fr_39 := fr_11.tr (fr_20.mono (fun k9 j9 h9 => by unfold W0 at h9; unfold WM; omega))
          clear frw_12 hM_5 fTo_12 fW_12 fD_12 fL_12 fE_12 fC_12 f24_12 f29_12 f30_12 fKO_12 fK0_12 fK1_12 fFo_12 fr_11
          show WpN (gp g0 wp) CLS p l e R s m args below meth c Q D_207.2.2.1 kc0 ks0 22 [some (.ref 124), some (.int a), some (.int b), some (.int c9)] (hs_14, kc, ks) []
          refine g_loadA act (gx gp_207 (w := 0x1703) rfl (by decide) rfl) (a := 0) (n := 23) rfl rfl rfl ?_
          refine g_loadI act (gx gp_207 (w := 0x3001802) rfl (by decide) rfl) (a := 3) (n := 24) rfl rfl rfl ?_
          refine n_call tb_pres act hEnd (gx (P := G_call) gp_207 (w := 0xa000000000000c08220000fa001b0f) rfl (by decide) rfl) (d' := D_250) rfl (as := [.ref 124, .int c9]) (rest := []) (b_part rw_24.1 e_17 e_18) (show (2 : Nat) = fb 0xa000000000000c08220000fa001b0f % 16 by decide) (by show (2 : Nat) ≤ 2; decide) (fun _ => ⟨_, _, rfl, _, shp_at rw_24.1, Or.inr (show fb 0xa000000000000c08220000fa001b0f >>> 68 = 10 by decide)⟩) (by omega) (by show 8 + (2 + 11) + 0 ≤ R.locals; omega) (by show (0 : Nat) ≤ 8; decide) (by show kc + 0 ≤ _; omega) (by show ks + 0 ≤ _; omega) (fun r9 h3 hpo hr9 => ?_) (fun x9 hs9 hx9 hpo => ?_)
          · obtain ⟨-, rfl, pv_40, rfl⟩ := hpo
            show WpN (gp g0 wp) CLS p l e R s m args below meth c Q D_207.2.2.1 kc0 ks0 27 [some (.ref 124), some (.int a), some (.int b), some (.int c9)] (hs_14, kc, ks) [.long pv_40]
            exact g_retL hEnd (gx gp_207 (w := 0x19) rfl (by decide) rfl) ⟨rfl, ⟨_, rfl⟩, hM_21, fr_39⟩ (by show kc ≤ kc + 0; omega) (by show ks ≤ ks + 0; omega)
          · exact absurd hpo.1 (by omega)
        · exact absurd hpo.1 (by omega)
    · exact absurd hpo.1 (by omega)
  · exact absurd hpo.1 (by omega)

theorem b_flowAfter {g0 : GG} {bl : Nat} {xs : Nat → Int32} {l : Launch} {hs : List CE} {tl wl : Nat → Int} {nl n ng nr : Nat} (hNW : NW tl wl nl n ng nr) {a b c9 : Int32} (hB : BM hs tl wl) (hM : ModF hs) : BodyN SSX TBL g0 CLS bl xs l D_208 10 251 0 0 [.ref 124, .int a, .int b, .int c9] hs (POL hs) := by
  intro wp p e R s m args below meth c Q kc0 ks0 kc ks act hf hl hc hsl hEnd
  have hN9 := hNW
  obtain ⟨n0, n1, n2, n3, n4, n5, n6, n7, n8, hG0, nL, nC, nP, nD⟩ := hN9
  have hGn := hG0.1
  have hGn3 := hG0.2.1
  have hGl := hG0.2.2.1
  obtain ⟨rw0, hTo, hW⟩ := hB
  show WpN (gp g0 wp) CLS p l e R s m args below meth c Q D_208.2.2.1 kc0 ks0 0 [some (.ref 124), some (.int a), some (.int b), some (.int c9)] (hs, kc, ks) []
  refine g_loadA act (gx gp_208 (w := 0x103) rfl (by decide) rfl) (a := 0) (n := 1) rfl rfl rfl ?_
  refine g_loadA act (gx gp_208 (w := 0x203) rfl (by decide) rfl) (a := 0) (n := 2) rfl rfl rfl ?_
  refine g_loadI act (gx gp_208 (w := 0x2000302) rfl (by decide) rfl) (a := 2) (n := 3) rfl rfl rfl ?_
  refine n_call tb_pres act hEnd (gx (P := G_call) gp_208 (w := 0xa000000000000c08220000e200060f) rfl (by decide) rfl) (d' := D_226) rfl (as := [.ref 124, .int b]) (rest := [.ref 124]) (b_isLine (tl := tl) rw0 hTo (rfl : Int32.toInt b = _) (by omega) (by omega)) (show (2 : Nat) = fb 0xa000000000000c08220000e200060f % 16 by decide) (by show (2 : Nat) ≤ 2; decide) (fun _ => ⟨_, _, rfl, _, shp_at rw0.1, Or.inr (show fb 0xa000000000000c08220000e200060f >>> 68 = 10 by decide)⟩) (by omega) (by show 8 + (2 + 11) + 22 ≤ R.locals; omega) (by show (1 : Nat) ≤ 8; decide) (by show kc + 0 ≤ _; omega) (by show ks + 0 ≤ _; omega) (fun r9 h3 hpo hr9 => ?_) (fun x9 hs9 hx9 hpo => ?_)
  · obtain ⟨-, rfl, hin_2⟩ := hpo
    obtain ⟨rv_1, rfl, hin_2o⟩ := in1_t hin_2
    show WpN (gp g0 wp) CLS p l e R s m args below meth c Q D_208.2.2.1 kc0 ks0 6 [some (.ref 124), some (.int a), some (.int b), some (.int c9)] (hs, kc, ks) [.int rv_1, .ref 124]
    refine g_loadI act (gx gp_208 (w := 0x1000702) rfl (by decide) rfl) (a := 1) (n := 7) rfl rfl rfl ?_
    refine g_loadI act (gx gp_208 (w := 0x3000802) rfl (by decide) rfl) (a := 3) (n := 8) rfl rfl rfl ?_
    refine n_call tb_pres act hEnd (gx (P := G_call) gp_208 (w := 0xa000000000000c10440000df000b0f) rfl (by decide) rfl) (d' := D_223) rfl (as := [.ref 124, .int rv_1, .int a, .int c9]) (rest := []) (b_isGood hNW ⟨rw0, hTo, hW⟩ hM (ti := (Int32.toInt rv_1)) (rfl : Int32.toInt rv_1 = _) (by omega) (x := (Int32.toInt a)) (rfl : Int32.toInt a = _) (y := (Int32.toInt c9)) (rfl : Int32.toInt c9 = _)) (show (4 : Nat) = fb 0xa000000000000c10440000df000b0f % 16 by decide) (by show (4 : Nat) ≤ 4; decide) (fun _ => ⟨_, _, rfl, _, shp_at rw0.1, Or.inr (show fb 0xa000000000000c10440000df000b0f >>> 68 = 10 by decide)⟩) (by omega) (by show 8 + (4 + 11) + 228 ≤ R.locals; omega) (by show (0 : Nat) ≤ 8; decide) (by show kc + 0 ≤ _; omega) (by show ks + 0 ≤ _; omega) (fun r9 hs_3 hpo hr9 => ?_) (fun x9 hs9 hx9 hpo => ?_)
    · obtain ⟨-, hM_5, fr_4, rg, rfl, hg_6⟩ := hpo
      have rw_8 := rw0.fr fr_4 WM_rw
      have f_9 := hTo.fr (fun j9 _ => fr_4.2.2 125 j9 (by unfold WM; omega))
      have f_10 := hW.fr (fun j9 _ => fr_4.2.2 127 j9 (by unfold WM; omega))
      have fr_11 := (FrS.rf WM hs).tr fr_4
      show WpN (gp g0 wp) CLS p l e R s m args below meth c Q D_208.2.2.1 kc0 ks0 11 [some (.ref 124), some (.int a), some (.int b), some (.int c9)] (hs_3, kc, ks) [.int rg]
      rcases hg_6 with rfl | ⟨rfl, g1_13, g2_13, g3_13, g4_13, g5_13, hFD_13⟩
      · refine g_ifNe act (gx gp_208 (w := 0x10000e1d) rfl (by decide) rfl) (tgt := 16) (n := 14) rfl rfl (fun q => absurd q (by decide)) (fun _ => ?_)
        refine g_constL act (gx gp_208 (w := 0x40000000000000002000000000f01) rfl (by decide) rfl) (n := 15) (x := 0) (by decide) rfl ?_
        exact g_retL hEnd (gx gp_208 (w := 0x19) rfl (by decide) rfl) ⟨rfl, ⟨_, rfl⟩, hM_5, fr_11⟩ (by show kc ≤ kc + 0; omega) (by show ks ≤ ks + 0; omega)
      · obtain ⟨⟨frw_12, fTo_12, fW_12⟩, ⟨hG_12, ⟨oi_12, f24_12, hoi_12⟩, ⟨dm_12, fD_12, hdm_12⟩, ⟨lm_12, fL_12, hlm_12⟩, ⟨em_12, fE_12, hem_12⟩, ⟨cp_12, fC_12, hcp_12⟩⟩, fFo_12, ⟨fK0_12, fK1_12⟩⟩ := hFD_13
        obtain ⟨⟨ct_12, cl_12, f29_12, f30_12, hck_12⟩, fKO_12⟩ := found_k hG_12 fFo_12
        refine g_ifNe act (gx gp_208 (w := 0x10000e1d) rfl (by decide) rfl) (tgt := 16) (n := 14) rfl rfl (fun _ => ?_) (fun q => absurd (by decide) q)
        refine g_loadA act (gx gp_208 (w := 0x1103) rfl (by decide) rfl) (a := 0) (n := 17) rfl rfl rfl ?_
        refine r_getf act (gx gp_208 (w := 0x609001404) rfl (by decide) rfl) (n := 20) (ci := 9) (j := 24) (N := 39) rfl rfl rfl frw_12.1 (by decide) (v := .int oi_12) f24_12 ?_
        refine g_constI act (gx gp_208 (w := 0x3fffffffbfffffff9000000001501) rfl (by decide) rfl) (n := 21) (x := (-1 : Int32)) (by decide) rfl ?_
        refine g_icmpNe act (gx gp_208 (w := 0x1f001821) rfl (by decide) rfl) (tgt := 31) (n := 24) rfl rfl (fun h11 => ?_) (fun h11 => ?_)
        · simp only [i_eq, show (-1 : Int32).toInt = -1 from by decide] at h11
          refine g_loadA act (gx gp_208 (w := 0x2003) rfl (by decide) rfl) (a := 0) (n := 32) rfl rfl rfl ?_
          refine g_loadI act (gx gp_208 (w := 0x2002102) rfl (by decide) rfl) (a := 2) (n := 33) rfl rfl rfl ?_
          refine g_constI act (gx gp_208 (w := 0x40000000c00000009000000002201) rfl (by decide) rfl) (n := 34) (x := (1 : Int32)) (by decide) rfl ?_
          obtain ⟨j_22, hj_23⟩ := Int.eq_ofNat_of_zero_le (show (0 : Int) ≤ (Int32.toInt b) by omega)
          refine n_call tb_pres act hEnd (gx (P := G_call) gp_208 (w := 0xa000000000000824330000d100250f) rfl (by decide) rfl) (d' := D_209) rfl (as := [.ref 124, .int b, .int (1 : Int32)]) (rest := []) (b_flows hNW (ln9 := j_22) (gr := 1) ((rfl : Int32.toInt b = _).trans hj_23) (by omega) (show (1 : Int32).toInt = ((1 : Nat) : Int) from by decide) (by decide) ⟨frw_12, fTo_12, fW_12⟩ fD_12 (fun j9 => by have q9 := hdm_12 j9; omega) fKO_12 (fK1_12 (by omega)) hM_5) (show (3 : Nat) = fb 0xa000000000000824330000d100250f % 16 by decide) (by show (3 : Nat) ≤ 9; decide) (fun _ => ⟨_, _, rfl, _, shp_at frw_12.1, Or.inr (show fb 0xa000000000000824330000d100250f >>> 68 = 10 by decide)⟩) (by omega) (by show 8 + (9 + 11) + 87 ≤ R.locals; omega) (by show (0 : Nat) ≤ 8; decide) (by show kc + 0 ≤ _; omega) (by show ks + 0 ≤ _; omega) (fun r9 hs_14 hpo hr9 => ?_) (fun x9 hs9 hx9 hpo => ?_)
          · obtain rfl : r9 = none := hr9.elim (fun q => q.2) (fun q => absurd rfl q.1)
            obtain ⟨-, t_15, w_16, e_17, e_18, hK_19, fr_20⟩ := hpo
            have hM_21 := ModF.w0 hM_5 fr_20
            have rw_24 := frw_12.fr fr_20 W0_rw
            have f_26 := fTo_12.fr (fun j9 _ => fr_20.2.2 125 j9 (by unfold W0; omega))
            have f_27 := fW_12.fr (fun j9 _ => fr_20.2.2 127 j9 (by unfold W0; omega))
            have f_28 := fD_12.fr (fun j9 _ => fr_20.2.2 135 j9 (by unfold W0; omega))
            have f_29 := fL_12.fr (fun j9 _ => fr_20.2.2 136 j9 (by unfold W0; omega))
            have f_30 := fE_12.fr (fun j9 _ => fr_20.2.2 137 j9 (by unfold W0; omega))
            have f_31 := fC_12.fr (fun j9 _ => fr_20.2.2 138 j9 (by unfold W0; omega))
            have f_32 := rd_fr fr_20 f24_12 (by unfold W0; omega)
            have f_33 := rd_fr fr_20 f29_12 (by unfold W0; omega)
            have f_34 := rd_fr fr_20 f30_12 (by unfold W0; omega)
            have f_35 := fKO_12.fr (fun j9 _ _ => ⟨fr_20.2.2 142 j9 (by unfold W0; omega), fr_20.2.2 143 j9 (by unfold W0; omega)⟩)
            have f_36 := fK0_12.fr (fun j9 _ _ => ⟨fr_20.2.2 131 j9 (by unfold W0; omega), fr_20.2.2 132 j9 (by unfold W0; omega)⟩)
            have f_37 := fun q9 => (fK1_12 q9).fr (fun j9 _ _ => ⟨fr_20.2.2 131 j9 (by unfold W0; omega), fr_20.2.2 132 j9 (by unfold W0; omega)⟩)
            have f_38 := fFo_12.fr fr_20 (fun j9 => by unfold W0; omega) (by unfold W0; omega) (by unfold W0; omega)
            have fr_39 := fr_11.tr (fr_20.mono (fun k9 j9 h9 => by unfold W0 at h9; unfold WM; omega))
            clear frw_12 hM_5 fTo_12 fW_12 fD_12 fL_12 fE_12 fC_12 f24_12 f29_12 f30_12 fKO_12 fK0_12 fK1_12 fFo_12 fr_11
            show WpN (gp g0 wp) CLS p l e R s m args below meth c Q D_208.2.2.1 kc0 ks0 37 [some (.ref 124), some (.int a), some (.int b), some (.int c9)] (hs_14, kc, ks) []
            refine g_loadA act (gx gp_208 (w := 0x2603) rfl (by decide) rfl) (a := 0) (n := 38) rfl rfl rfl ?_
            refine g_loadI act (gx gp_208 (w := 0x3002702) rfl (by decide) rfl) (a := 3) (n := 39) rfl rfl rfl ?_
            refine n_call tb_pres act hEnd (gx (P := G_call) gp_208 (w := 0xa000000000000c08220000fa002a0f) rfl (by decide) rfl) (d' := D_250) rfl (as := [.ref 124, .int c9]) (rest := []) (b_part rw_24.1 e_17 e_18) (show (2 : Nat) = fb 0xa000000000000c08220000fa002a0f % 16 by decide) (by show (2 : Nat) ≤ 2; decide) (fun _ => ⟨_, _, rfl, _, shp_at rw_24.1, Or.inr (show fb 0xa000000000000c08220000fa002a0f >>> 68 = 10 by decide)⟩) (by omega) (by show 8 + (2 + 11) + 0 ≤ R.locals; omega) (by show (0 : Nat) ≤ 8; decide) (by show kc + 0 ≤ _; omega) (by show ks + 0 ≤ _; omega) (fun r9 h3 hpo hr9 => ?_) (fun x9 hs9 hx9 hpo => ?_)
            · obtain ⟨-, rfl, pv_40, rfl⟩ := hpo
              show WpN (gp g0 wp) CLS p l e R s m args below meth c Q D_208.2.2.1 kc0 ks0 42 [some (.ref 124), some (.int a), some (.int b), some (.int c9)] (hs_14, kc, ks) [.long pv_40]
              exact g_retL hEnd (gx gp_208 (w := 0x19) rfl (by decide) rfl) ⟨rfl, ⟨_, rfl⟩, hM_21, fr_39⟩ (by show kc ≤ kc + 0; omega) (by show ks ≤ ks + 0; omega)
            · exact absurd hpo.1 (by omega)
          · exact absurd hpo.1 (by omega)
        · simp only [i_eq, show (-1 : Int32).toInt = -1 from by decide] at h11
          refine g_loadA act (gx gp_208 (w := 0x1903) rfl (by decide) rfl) (a := 0) (n := 25) rfl rfl rfl ?_
          refine g_constI act (gx gp_208 (w := 0x40000001c00000019000000001a01) rfl (by decide) rfl) (n := 26) (x := (3 : Int32)) (by decide) rfl ?_
          refine n_call tb_pres act hEnd (gx (P := G_call) gp_208 (w := 0xa000000000000c08220000cd001d0f) rfl (by decide) rfl) (d' := D_205) rfl (as := [.ref 124, .int (3 : Int32)]) (rest := []) (b_fails frw_12.1) (show (2 : Nat) = fb 0xa000000000000c08220000cd001d0f % 16 by decide) (by show (2 : Nat) ≤ 2; decide) (fun _ => ⟨_, _, rfl, _, shp_at frw_12.1, Or.inr (show fb 0xa000000000000c08220000cd001d0f >>> 68 = 10 by decide)⟩) (by omega) (by show 8 + (2 + 11) + 0 ≤ R.locals; omega) (by show (0 : Nat) ≤ 8; decide) (by show kc + 0 ≤ _; omega) (by show ks + 0 ≤ _; omega) (fun r9 hs_41 hpo hr9 => ?_) (fun x9 hs9 hx9 hpo => ?_)
          · obtain ⟨-, rfl, fr_42, h9q⟩ := hpo
            have hM_43 : ModF hs_41 := by rw [h9q]; exact hM_5.wr0 frw_12.1 (by decide) (by decide)
            have rw_44 := frw_12.fr fr_42 W00_rw
            have f_46 := fTo_12.fr (fun j9 _ => fr_42.2.2 125 j9 (by unfold W00; omega))
            have f_47 := fW_12.fr (fun j9 _ => fr_42.2.2 127 j9 (by unfold W00; omega))
            have f_48 := fD_12.fr (fun j9 _ => fr_42.2.2 135 j9 (by unfold W00; omega))
            have f_49 := fL_12.fr (fun j9 _ => fr_42.2.2 136 j9 (by unfold W00; omega))
            have f_50 := fE_12.fr (fun j9 _ => fr_42.2.2 137 j9 (by unfold W00; omega))
            have f_51 := fC_12.fr (fun j9 _ => fr_42.2.2 138 j9 (by unfold W00; omega))
            have f_52 := rd_fr fr_42 f24_12 (by unfold W00; omega)
            have f_53 := rd_fr fr_42 f29_12 (by unfold W00; omega)
            have f_54 := rd_fr fr_42 f30_12 (by unfold W00; omega)
            have f_55 := fKO_12.fr (fun j9 _ _ => ⟨fr_42.2.2 142 j9 (by unfold W00; omega), fr_42.2.2 143 j9 (by unfold W00; omega)⟩)
            have f_56 := fK0_12.fr (fun j9 _ _ => ⟨fr_42.2.2 131 j9 (by unfold W00; omega), fr_42.2.2 132 j9 (by unfold W00; omega)⟩)
            have f_57 := fun q9 => (fK1_12 q9).fr (fun j9 _ _ => ⟨fr_42.2.2 131 j9 (by unfold W00; omega), fr_42.2.2 132 j9 (by unfold W00; omega)⟩)
            have f_58 := fFo_12.fr fr_42 (fun j9 => by unfold W00; omega) (by unfold W00; omega) (by unfold W00; omega)
            have fr_59 := fr_11.tr (fr_42.mono (fun k9 j9 h9 => by unfold W00 at h9; unfold WM; omega))
            clear frw_12 hM_5 fTo_12 fW_12 fD_12 fL_12 fE_12 fC_12 f24_12 f29_12 f30_12 fKO_12 fK0_12 fK1_12 fFo_12 fr_11
            show WpN (gp g0 wp) CLS p l e R s m args below meth c Q D_208.2.2.1 kc0 ks0 29 [some (.ref 124), some (.int a), some (.int b), some (.int c9)] (hs_41, kc, ks) [.int (0 : Int32)]
            refine g_i2l act (gx gp_208 (w := 0x1e2c) rfl (by decide) rfl) (n := 30) rfl ?_
            have v_60 := lw_i2l (show (0 : Int32).toInt = ((0 : Nat) : Int) from by decide)
            exact g_retL hEnd (gx gp_208 (w := 0x19) rfl (by decide) rfl) ⟨rfl, ⟨_, rfl⟩, hM_43, fr_59⟩ (by show kc ≤ kc + 0; omega) (by show ks ≤ ks + 0; omega)
          · exact absurd hpo.1 (by omega)
    · exact absurd hpo.1 (by omega)
  · exact absurd hpo.1 (by omega)

theorem b_factor {g0 : GG} {bl : Nat} {xs : Nat → Int32} {l : Launch} {hs : List CE} {tl wl : Nat → Int} {nl n ng nr : Nat} (hNW : NW tl wl nl n ng nr) {a b c9 : Int32} (hB : BM hs tl wl) (hM : ModF hs) : BodyN SSX TBL g0 CLS bl xs l D_204 6 169 0 0 [.ref 124, .int a, .int b, .int c9] hs (POL hs) := by
  intro wp p e R s m args below meth c Q kc0 ks0 kc ks act hf hl hc hsl hEnd
  have hN9 := hNW
  obtain ⟨n0, n1, n2, n3, n4, n5, n6, n7, n8, hG0, nL, nC, nP, nD⟩ := hN9
  have hGn := hG0.1
  have hGn3 := hG0.2.1
  have hGl := hG0.2.2.1
  obtain ⟨rw0, hTo, hW⟩ := hB
  show WpN (gp g0 wp) CLS p l e R s m args below meth c Q D_204.2.2.1 kc0 ks0 0 [some (.ref 124), some (.int a), some (.int b), some (.int c9)] (hs, kc, ks) []
  refine g_loadA act (gx gp_204 (w := 0x103) rfl (by decide) rfl) (a := 0) (n := 1) rfl rfl rfl ?_
  refine g_loadA act (gx gp_204 (w := 0x203) rfl (by decide) rfl) (a := 0) (n := 2) rfl rfl rfl ?_
  refine g_loadI act (gx gp_204 (w := 0x1000302) rfl (by decide) rfl) (a := 1) (n := 3) rfl rfl rfl ?_
  refine n_call tb_pres act hEnd (gx (P := G_call) gp_204 (w := 0xa000000000000c08220000e200060f) rfl (by decide) rfl) (d' := D_226) rfl (as := [.ref 124, .int a]) (rest := [.ref 124]) (b_isLine (tl := tl) rw0 hTo (rfl : Int32.toInt a = _) (by omega) (by omega)) (show (2 : Nat) = fb 0xa000000000000c08220000e200060f % 16 by decide) (by show (2 : Nat) ≤ 2; decide) (fun _ => ⟨_, _, rfl, _, shp_at rw0.1, Or.inr (show fb 0xa000000000000c08220000e200060f >>> 68 = 10 by decide)⟩) (by omega) (by show 8 + (2 + 11) + 22 ≤ R.locals; omega) (by show (1 : Nat) ≤ 8; decide) (by show kc + 0 ≤ _; omega) (by show ks + 0 ≤ _; omega) (fun r9 h3 hpo hr9 => ?_) (fun x9 hs9 hx9 hpo => ?_)
  · obtain ⟨-, rfl, hin_2⟩ := hpo
    obtain ⟨rv_1, rfl, hin_2o⟩ := in1_t hin_2
    show WpN (gp g0 wp) CLS p l e R s m args below meth c Q D_204.2.2.1 kc0 ks0 6 [some (.ref 124), some (.int a), some (.int b), some (.int c9)] (hs, kc, ks) [.int rv_1, .ref 124]
    refine g_ifEq act (gx gp_204 (w := 0x1100090e) rfl (by decide) rfl) (tgt := 17) (n := 9) rfl rfl (fun h4 => ?_) (fun h4 => ?_)
    · simp only [i_eq, i0] at h4
      refine g_constI act (gx gp_204 (w := 0x40000000c00000009000000001201) rfl (by decide) rfl) (n := 18) (x := (1 : Int32)) (by decide) rfl ?_
      refine g_goto act (gx gp_204 (w := 0x2307) rfl (by decide) rfl) (n := 35) rfl ?_
      refine r_putf act (gx gp_204 (w := 0x9002613) rfl (by decide) rfl) (n := 38) (ci := 9) (j := 0) (N := 39) rfl rfl rfl rw0.1 (by decide) (Or.inl ⟨rfl, _, rfl⟩) ?_
      have rw_3 := RW.wr (k := 124) (j := 0) (v := .int (1 : Int32)) rw0 (Or.inr (by decide))
      have f_4 := hTo.ne (k := 124) (j := 0) (v := .int (1 : Int32)) (by decide)
      have f_5 := hW.ne (k := 124) (j := 0) (v := .int (1 : Int32)) (by decide)
      have f_6 := hM.wr0 (x := (1 : Int32)) rw0.1 (by decide) (by decide)
      have f_7 := rd_same (j := 0) (v := .int (1 : Int32)) rw0.1
      have fr_8 := (FrS.rf WM hs).wr (k := 124) (j := 0) (.int (1 : Int32)) (by unfold WM; omega)
      generalize (wr hs 124 0 (.int (1 : Int32))) = hs_9 at *
      refine g_loadA act (gx gp_204 (w := 0x2703) rfl (by decide) rfl) (a := 0) (n := 39) rfl rfl rfl ?_
      refine r_getf act (gx gp_204 (w := 0x9002a04) rfl (by decide) rfl) (n := 42) (ci := 9) (j := 0) (N := 39) rfl rfl rfl rw_3.1 (by decide) (v := .int (1 : Int32)) f_7 ?_
      refine g_ifLe act (gx gp_204 (w := 0x2f002d3d) rfl (by decide) rfl) (tgt := 47) (n := 45) rfl rfl (fun q => absurd q (by decide)) (fun _ => ?_)
      refine g_constL act (gx gp_204 (w := 0x40000000000000002000000002e01) rfl (by decide) rfl) (n := 46) (x := 0) (by decide) rfl ?_
      exact g_retL hEnd (gx gp_204 (w := 0x19) rfl (by decide) rfl) ⟨rfl, ⟨_, rfl⟩, f_6, fr_8⟩ (by show kc ≤ kc + 0; omega) (by show ks ≤ ks + 0; omega)
    · simp only [i_eq, i0] at h4
      refine g_loadA act (gx gp_204 (w := 0xa03) rfl (by decide) rfl) (a := 0) (n := 10) rfl rfl rfl ?_
      refine g_loadI act (gx gp_204 (w := 0x2000b02) rfl (by decide) rfl) (a := 2) (n := 11) rfl rfl rfl ?_
      refine n_call tb_pres act hEnd (gx (P := G_call) gp_204 (w := 0xa000000000000c08220000e3000e0f) rfl (by decide) rfl) (d' := D_227) rfl (as := [.ref 124, .int b]) (rest := [.ref 124]) (b_isNode (tl := tl) rw0 hTo (rfl : Int32.toInt b = _) (by omega) (by omega)) (show (2 : Nat) = fb 0xa000000000000c08220000e3000e0f % 16 by decide) (by show (2 : Nat) ≤ 2; decide) (fun _ => ⟨_, _, rfl, _, shp_at rw0.1, Or.inr (show fb 0xa000000000000c08220000e3000e0f >>> 68 = 10 by decide)⟩) (by omega) (by show 8 + (2 + 11) + 22 ≤ R.locals; omega) (by show (1 : Nat) ≤ 8; decide) (by show kc + 0 ≤ _; omega) (by show ks + 0 ≤ _; omega) (fun r9 h3 hpo hr9 => ?_) (fun x9 hs9 hx9 hpo => ?_)
      · obtain ⟨-, rfl, hin_11⟩ := hpo
        obtain ⟨rv_10, rfl, hin_11o⟩ := in1_t hin_11
        show WpN (gp g0 wp) CLS p l e R s m args below meth c Q D_204.2.2.1 kc0 ks0 14 [some (.ref 124), some (.int a), some (.int b), some (.int c9)] (hs, kc, ks) [.int rv_10, .ref 124]
        refine g_ifNe act (gx gp_204 (w := 0x1500111d) rfl (by decide) rfl) (tgt := 21) (n := 17) rfl rfl (fun h12 => ?_) (fun h12 => ?_)
        · simp only [i_eq, i0] at h12
          refine g_loadI act (gx gp_204 (w := 0x3001602) rfl (by decide) rfl) (a := 3) (n := 22) rfl rfl rfl ?_
          refine g_constI act (gx gp_204 (w := 0x40000000400000001000000001701) rfl (by decide) rfl) (n := 23) (x := (0 : Int32)) (by decide) rfl ?_
          refine g_constI act (gx gp_204 (w := 0x40000000c00000009000000001801) rfl (by decide) rfl) (n := 24) (x := (1 : Int32)) (by decide) rfl ?_
          refine n_call tb_pres act hEnd (gx (P := G_call) gp_204 (w := 0x40c330000d9001b0f) rfl (by decide) rfl) (d' := D_217) rfl (as := [.int c9, .int (0 : Int32), .int (1 : Int32)]) (rest := [.ref 124]) (b_in (rfl : Int32.toInt c9 = _) (show (0 : Int32).toInt = ((0 : Nat) : Int) from by decide) (show (1 : Int32).toInt = ((1 : Nat) : Int) from by decide)) (show (3 : Nat) = fb 0x40c330000d9001b0f % 16 by decide) (by show (3 : Nat) ≤ 3; decide) (fun q => absurd q (by decide)) (by omega) (by show 8 + (3 + 11) + 0 ≤ R.locals; omega) (by show (1 : Nat) ≤ 8; decide) (by show kc + 0 ≤ _; omega) (by show ks + 0 ≤ _; omega) (fun r9 h3 hpo hr9 => ?_) (fun x9 hs9 hx9 hpo => ?_)
          · obtain ⟨-, rfl, hin_13⟩ := hpo
            obtain ⟨rv_12, rfl, hin_13o⟩ := in1_t hin_13
            show WpN (gp g0 wp) CLS p l e R s m args below meth c Q D_204.2.2.1 kc0 ks0 27 [some (.ref 124), some (.int a), some (.int b), some (.int c9)] (hs, kc, ks) [.int rv_12, .ref 124]
            refine g_ifEq act (gx gp_204 (w := 0x22001e0e) rfl (by decide) rfl) (tgt := 34) (n := 30) rfl rfl (fun h16 => ?_) (fun h16 => ?_)
            · simp only [i_eq, i0] at h16
              refine g_constI act (gx gp_204 (w := 0x40000001400000011000000002301) rfl (by decide) rfl) (n := 35) (x := (2 : Int32)) (by decide) rfl ?_
              refine r_putf act (gx gp_204 (w := 0x9002613) rfl (by decide) rfl) (n := 38) (ci := 9) (j := 0) (N := 39) rfl rfl rfl rw0.1 (by decide) (Or.inl ⟨rfl, _, rfl⟩) ?_
              have rw_14 := RW.wr (k := 124) (j := 0) (v := .int (2 : Int32)) rw0 (Or.inr (by decide))
              have f_15 := hTo.ne (k := 124) (j := 0) (v := .int (2 : Int32)) (by decide)
              have f_16 := hW.ne (k := 124) (j := 0) (v := .int (2 : Int32)) (by decide)
              have f_17 := hM.wr0 (x := (2 : Int32)) rw0.1 (by decide) (by decide)
              have f_18 := rd_same (j := 0) (v := .int (2 : Int32)) rw0.1
              have fr_19 := (FrS.rf WM hs).wr (k := 124) (j := 0) (.int (2 : Int32)) (by unfold WM; omega)
              generalize (wr hs 124 0 (.int (2 : Int32))) = hs_20 at *
              refine g_loadA act (gx gp_204 (w := 0x2703) rfl (by decide) rfl) (a := 0) (n := 39) rfl rfl rfl ?_
              refine r_getf act (gx gp_204 (w := 0x9002a04) rfl (by decide) rfl) (n := 42) (ci := 9) (j := 0) (N := 39) rfl rfl rfl rw_14.1 (by decide) (v := .int (2 : Int32)) f_18 ?_
              refine g_ifLe act (gx gp_204 (w := 0x2f002d3d) rfl (by decide) rfl) (tgt := 47) (n := 45) rfl rfl (fun q => absurd q (by decide)) (fun _ => ?_)
              refine g_constL act (gx gp_204 (w := 0x40000000000000002000000002e01) rfl (by decide) rfl) (n := 46) (x := 0) (by decide) rfl ?_
              exact g_retL hEnd (gx gp_204 (w := 0x19) rfl (by decide) rfl) ⟨rfl, ⟨_, rfl⟩, f_17, fr_19⟩ (by show kc ≤ kc + 0; omega) (by show ks ≤ ks + 0; omega)
            · simp only [i_eq, i0] at h16
              refine g_constI act (gx gp_204 (w := 0x40000000400000001000000001f01) rfl (by decide) rfl) (n := 31) (x := (0 : Int32)) (by decide) rfl ?_
              refine g_goto act (gx gp_204 (w := 0x2307) rfl (by decide) rfl) (n := 35) rfl ?_
              refine r_putf act (gx gp_204 (w := 0x9002613) rfl (by decide) rfl) (n := 38) (ci := 9) (j := 0) (N := 39) rfl rfl rfl rw0.1 (by decide) (Or.inl ⟨rfl, _, rfl⟩) ?_
              have rw_21 := RW.wr (k := 124) (j := 0) (v := .int (0 : Int32)) rw0 (Or.inr (by decide))
              have f_22 := hTo.ne (k := 124) (j := 0) (v := .int (0 : Int32)) (by decide)
              have f_23 := hW.ne (k := 124) (j := 0) (v := .int (0 : Int32)) (by decide)
              have f_24 := hM.wr0 (x := (0 : Int32)) rw0.1 (by decide) (by decide)
              have f_25 := rd_same (j := 0) (v := .int (0 : Int32)) rw0.1
              have fr_26 := (FrS.rf WM hs).wr (k := 124) (j := 0) (.int (0 : Int32)) (by unfold WM; omega)
              generalize (wr hs 124 0 (.int (0 : Int32))) = hs_27 at *
              refine g_loadA act (gx gp_204 (w := 0x2703) rfl (by decide) rfl) (a := 0) (n := 39) rfl rfl rfl ?_
              refine r_getf act (gx gp_204 (w := 0x9002a04) rfl (by decide) rfl) (n := 42) (ci := 9) (j := 0) (N := 39) rfl rfl rfl rw_21.1 (by decide) (v := .int (0 : Int32)) f_25 ?_
              refine g_ifLe act (gx gp_204 (w := 0x2f002d3d) rfl (by decide) rfl) (tgt := 47) (n := 45) rfl rfl (fun _ => ?_) (fun q => absurd (by decide) q)
              refine g_loadA act (gx gp_204 (w := 0x3003) rfl (by decide) rfl) (a := 0) (n := 48) rfl rfl rfl ?_
              refine g_constI act (gx gp_204 (w := 0x3fffffffbfffffff9000000003101) rfl (by decide) rfl) (n := 49) (x := (-1 : Int32)) (by decide) rfl ?_
              refine n_longs (k := 131) (N := 48) (rw_21.2 (16, 131, 33, 48) (by decide)).2 (fun l131 => ?_)
              refine n_longs (k := 132) (N := 48) (rw_21.2 (17, 132, 33, 48) (by decide)).2 (fun l132 => ?_)
              refine n_longs (k := 133) (N := 12) (rw_21.2 (18, 133, 33, 12) (by decide)).2 (fun l133 => ?_)
              refine n_longs (k := 134) (N := 12) (rw_21.2 (19, 134, 33, 12) (by decide)).2 (fun l134 => ?_)
              refine n_call tb_pres act hEnd (gx (P := G_call) gp_204 (w := 0xa000000000000808220000e700340f) rfl (by decide) rfl) (d' := D_231) rfl (as := [.ref 124, .int (-1 : Int32)]) (rest := []) (b_all (show (-1 : Int32).toInt = (-1 : Int) from by decide) n0 n2 (ng_none hG0) rw_21 f_22 l131 l132 l133 l134) (show (2 : Nat) = fb 0xa000000000000808220000e700340f % 16 by decide) (by show (2 : Nat) ≤ 2; decide) (fun _ => ⟨_, _, rfl, _, shp_at rw_21.1, Or.inr (show fb 0xa000000000000808220000e700340f >>> 68 = 10 by decide)⟩) (by omega) (by show 8 + (2 + 11) + 148 ≤ R.locals; omega) (by show (0 : Nat) ≤ 8; decide) (by show kc + 0 ≤ _; omega) (by show ks + 0 ≤ _; omega) (fun r9 hs_28 hpo hr9 => ?_) (fun x9 hs9 hx9 hpo => ?_)
              · obtain rfl : r9 = none := hr9.elim (fun q => q.2) (fun q => absurd rfl q.1)
                obtain ⟨-, h_31, h_32, -, -, -, -, fr_29⟩ := hpo
                have hM_30 := ModF.wa f_24 fr_29
                have k_37 := h_31.kr (facA_den (ng_none hG0)).1
                have k_38 := fun q9 => (h_32 q9).kr ((facA_den (ng_none hG0)).2 q9)
                have rw_39 := rw_21.fr fr_29 WA_rw
                have f_40 := f_22.fr (fun j9 _ => fr_29.2.2 125 j9 (by unfold WA; omega))
                have f_41 := f_23.fr (fun j9 _ => fr_29.2.2 127 j9 (by unfold WA; omega))
                have f_43 := rd_fr fr_29 f_25 (by unfold WA; omega)
                have fr_44 := fr_26.tr (fr_29.mono (fun k9 j9 h9 => by unfold WA at h9; unfold WM; omega))
                clear rw_21 f_22 f_23 f_24 f_25 fr_26
                show WpN (gp g0 wp) CLS p l e R s m args below meth c Q D_204.2.2.1 kc0 ks0 52 [some (.ref 124), some (.int a), some (.int b), some (.int c9)] (hs_28, kc, ks) []
                refine g_loadA act (gx gp_204 (w := 0x3503) rfl (by decide) rfl) (a := 0) (n := 53) rfl rfl rfl ?_
                refine g_loadA act (gx gp_204 (w := 0x3603) rfl (by decide) rfl) (a := 0) (n := 54) rfl rfl rfl ?_
                refine r_getf act (gx gp_204 (w := 0x3000409003904) rfl (by decide) rfl) (n := 57) (ci := 9) (j := 16) (N := 39) rfl rfl rfl rw_39.1 (by decide) (rw_39.2 (16, 131, 33, 48) (by decide)).1 ?_
                refine g_constI act (gx gp_204 (w := 0x40000002400000021000000003a01) rfl (by decide) rfl) (n := 58) (x := (4 : Int32)) (by decide) rfl ?_
                refine g_loadI act (gx gp_204 (w := 0x1003b02) rfl (by decide) rfl) (a := 1) (n := 59) rfl rfl rfl ?_
                refine g_imul act (gx gp_204 (w := 0x3c11) rfl (by decide) rfl) (n := 60) rfl ?_
                have v_45 := iv_mul (show (4 : Int32).toInt = ((4 : Nat) : Int) from by decide) (rfl : Int32.toInt a = _) (show -2147483648 ≤ (((4 : Nat) : Int) * (Int32.toInt a)) by omega) (show (((4 : Nat) : Int) * (Int32.toInt a)) < 2147483648 by omega)
                refine g_loadI act (gx gp_204 (w := 0x2003d02) rfl (by decide) rfl) (a := 2) (n := 61) rfl rfl rfl ?_
                refine g_iadd act (gx gp_204 (w := 0x3e0a) rfl (by decide) rfl) (n := 62) rfl ?_
                have v_46 := iv_add v_45 (rfl : Int32.toInt b = _) (show -2147483648 ≤ ((((4 : Nat) : Int) * (Int32.toInt a)) + (Int32.toInt b)) by omega) (show ((((4 : Nat) : Int) * (Int32.toInt a)) + (Int32.toInt b)) < 2147483648 by omega)
                obtain ⟨j_47, hj_48⟩ := Int.eq_ofNat_of_zero_le (show (0 : Int) ≤ ((((4 : Nat) : Int) * (Int32.toInt a)) + (Int32.toInt b)) by omega)
                obtain ⟨x_49, w_52, e_50, e_53, hx_51⟩ := k_37 j_47 (by omega) (by omega)
                refine r_lald act (gx gp_204 (w := 0x3f0d) rfl (by decide) rfl) (n := 63) (j := j_47) rfl (rw_39.2 (16, 131, 33, 48) (by decide)).2 (v_46.trans hj_48) (show j_47 < 48 by omega) (v := .long x_49) e_50 ?_
                refine g_loadA act (gx gp_204 (w := 0x4003) rfl (by decide) rfl) (a := 0) (n := 64) rfl rfl rfl ?_
                refine r_getf act (gx gp_204 (w := 0x3000449004304) rfl (by decide) rfl) (n := 67) (ci := 9) (j := 17) (N := 39) rfl rfl rfl rw_39.1 (by decide) (rw_39.2 (17, 132, 33, 48) (by decide)).1 ?_
                refine g_constI act (gx gp_204 (w := 0x40000002400000021000000004401) rfl (by decide) rfl) (n := 68) (x := (4 : Int32)) (by decide) rfl ?_
                refine g_loadI act (gx gp_204 (w := 0x1004502) rfl (by decide) rfl) (a := 1) (n := 69) rfl rfl rfl ?_
                refine g_imul act (gx gp_204 (w := 0x4611) rfl (by decide) rfl) (n := 70) rfl ?_
                have v_54 := iv_mul (show (4 : Int32).toInt = ((4 : Nat) : Int) from by decide) (rfl : Int32.toInt a = _) (show -2147483648 ≤ (((4 : Nat) : Int) * (Int32.toInt a)) by omega) (show (((4 : Nat) : Int) * (Int32.toInt a)) < 2147483648 by omega)
                refine g_loadI act (gx gp_204 (w := 0x2004702) rfl (by decide) rfl) (a := 2) (n := 71) rfl rfl rfl ?_
                refine g_iadd act (gx gp_204 (w := 0x480a) rfl (by decide) rfl) (n := 72) rfl ?_
                have v_55 := iv_add v_54 (rfl : Int32.toInt b = _) (show -2147483648 ≤ ((((4 : Nat) : Int) * (Int32.toInt a)) + (Int32.toInt b)) by omega) (show ((((4 : Nat) : Int) * (Int32.toInt a)) + (Int32.toInt b)) < 2147483648 by omega)
                obtain ⟨j_56, hj_57⟩ := Int.eq_ofNat_of_zero_le (show (0 : Int) ≤ ((((4 : Nat) : Int) * (Int32.toInt a)) + (Int32.toInt b)) by omega)
                obtain ⟨x_58, w_61, e_59, e_62, hx_60⟩ := k_37 j_56 (by omega) (by omega)
                refine r_lald act (gx gp_204 (w := 0x490d) rfl (by decide) rfl) (n := 73) (j := j_56) rfl (rw_39.2 (17, 132, 33, 48) (by decide)).2 (v_55.trans hj_57) (show j_56 < 48 by omega) (v := .long w_61) e_62 ?_
                refine n_call tb_pres act hEnd (gx (P := G_call) gp_204 (w := 0xa00000000000081c530000da004c0f) rfl (by decide) rfl) (d' := D_218) rfl (as := [.ref 124, .long x_49, .long w_61]) (rest := []) (b_isK rw_39.1 hx_60) (show (3 : Nat) = fb 0xa00000000000081c530000da004c0f % 16 by decide) (by show (5 : Nat) ≤ 7; decide) (fun _ => ⟨_, _, rfl, _, shp_at rw_39.1, Or.inr (show fb 0xa00000000000081c530000da004c0f >>> 68 = 10 by decide)⟩) (by omega) (by show 8 + (7 + 11) + 29 ≤ R.locals; omega) (by show (0 : Nat) ≤ 8; decide) (by show kc + 0 ≤ _; omega) (by show ks + 0 ≤ _; omega) (fun r9 hs_63 hpo hr9 => ?_) (fun x9 hs9 hx9 hpo => ?_)
                · obtain rfl : r9 = none := hr9.elim (fun q => q.2) (fun q => absurd rfl q.1)
                  obtain ⟨-, t_64, w_65, e_66, e_67, hK_68, fr_69⟩ := hpo
                  have hM_70 := ModF.w0 hM_30 fr_69
                  have rw_71 := rw_39.fr fr_69 W0_rw
                  have f_72 := f_40.fr (fun j9 _ => fr_69.2.2 125 j9 (by unfold W0; omega))
                  have f_73 := f_41.fr (fun j9 _ => fr_69.2.2 127 j9 (by unfold W0; omega))
                  have f_74 := rd_fr fr_69 f_43 (by unfold W0; omega)
                  have f_76 := k_37.fr (fun j9 _ _ => ⟨fr_69.2.2 131 j9 (by unfold W0; omega), fr_69.2.2 132 j9 (by unfold W0; omega)⟩)
                  have f_77 := fun q9 => (k_38 q9).fr (fun j9 _ _ => ⟨fr_69.2.2 131 j9 (by unfold W0; omega), fr_69.2.2 132 j9 (by unfold W0; omega)⟩)
                  have fr_78 := fr_44.tr (fr_69.mono (fun k9 j9 h9 => by unfold W0 at h9; unfold WM; omega))
                  clear rw_39 f_40 f_41 f_43 hM_30 k_37 k_38 fr_44
                  show WpN (gp g0 wp) CLS p l e R s m args below meth c Q D_204.2.2.1 kc0 ks0 76 [some (.ref 124), some (.int a), some (.int b), some (.int c9)] (hs_63, kc, ks) []
                  refine g_loadA act (gx gp_204 (w := 0x4d03) rfl (by decide) rfl) (a := 0) (n := 77) rfl rfl rfl ?_
                  refine g_loadI act (gx gp_204 (w := 0x3004e02) rfl (by decide) rfl) (a := 3) (n := 78) rfl rfl rfl ?_
                  refine n_call tb_pres act hEnd (gx (P := G_call) gp_204 (w := 0xa000000000000c08220000fa00510f) rfl (by decide) rfl) (d' := D_250) rfl (as := [.ref 124, .int c9]) (rest := []) (b_part rw_71.1 e_66 e_67) (show (2 : Nat) = fb 0xa000000000000c08220000fa00510f % 16 by decide) (by show (2 : Nat) ≤ 2; decide) (fun _ => ⟨_, _, rfl, _, shp_at rw_71.1, Or.inr (show fb 0xa000000000000c08220000fa00510f >>> 68 = 10 by decide)⟩) (by omega) (by show 8 + (2 + 11) + 0 ≤ R.locals; omega) (by show (0 : Nat) ≤ 8; decide) (by show kc + 0 ≤ _; omega) (by show ks + 0 ≤ _; omega) (fun r9 h3 hpo hr9 => ?_) (fun x9 hs9 hx9 hpo => ?_)
                  · obtain ⟨-, rfl, pv_79, rfl⟩ := hpo
                    show WpN (gp g0 wp) CLS p l e R s m args below meth c Q D_204.2.2.1 kc0 ks0 81 [some (.ref 124), some (.int a), some (.int b), some (.int c9)] (hs_63, kc, ks) [.long pv_79]
                    exact g_retL hEnd (gx gp_204 (w := 0x19) rfl (by decide) rfl) ⟨rfl, ⟨_, rfl⟩, hM_70, fr_78⟩ (by show kc ≤ kc + 0; omega) (by show ks ≤ ks + 0; omega)
                  · exact absurd hpo.1 (by omega)
                · exact absurd hpo.1 (by omega)
              · exact absurd hpo.1 (by omega)
          · exact absurd hpo.1 (by omega)
        · simp only [i_eq, i0] at h12
          refine g_constI act (gx gp_204 (w := 0x40000000c00000009000000001201) rfl (by decide) rfl) (n := 18) (x := (1 : Int32)) (by decide) rfl ?_
          refine g_goto act (gx gp_204 (w := 0x2307) rfl (by decide) rfl) (n := 35) rfl ?_
          refine r_putf act (gx gp_204 (w := 0x9002613) rfl (by decide) rfl) (n := 38) (ci := 9) (j := 0) (N := 39) rfl rfl rfl rw0.1 (by decide) (Or.inl ⟨rfl, _, rfl⟩) ?_
          have rw_80 := RW.wr (k := 124) (j := 0) (v := .int (1 : Int32)) rw0 (Or.inr (by decide))
          have f_81 := hTo.ne (k := 124) (j := 0) (v := .int (1 : Int32)) (by decide)
          have f_82 := hW.ne (k := 124) (j := 0) (v := .int (1 : Int32)) (by decide)
          have f_83 := hM.wr0 (x := (1 : Int32)) rw0.1 (by decide) (by decide)
          have f_84 := rd_same (j := 0) (v := .int (1 : Int32)) rw0.1
          have fr_85 := (FrS.rf WM hs).wr (k := 124) (j := 0) (.int (1 : Int32)) (by unfold WM; omega)
          generalize (wr hs 124 0 (.int (1 : Int32))) = hs_86 at *
          refine g_loadA act (gx gp_204 (w := 0x2703) rfl (by decide) rfl) (a := 0) (n := 39) rfl rfl rfl ?_
          refine r_getf act (gx gp_204 (w := 0x9002a04) rfl (by decide) rfl) (n := 42) (ci := 9) (j := 0) (N := 39) rfl rfl rfl rw_80.1 (by decide) (v := .int (1 : Int32)) f_84 ?_
          refine g_ifLe act (gx gp_204 (w := 0x2f002d3d) rfl (by decide) rfl) (tgt := 47) (n := 45) rfl rfl (fun q => absurd q (by decide)) (fun _ => ?_)
          refine g_constL act (gx gp_204 (w := 0x40000000000000002000000002e01) rfl (by decide) rfl) (n := 46) (x := 0) (by decide) rfl ?_
          exact g_retL hEnd (gx gp_204 (w := 0x19) rfl (by decide) rfl) ⟨rfl, ⟨_, rfl⟩, f_83, fr_85⟩ (by show kc ≤ kc + 0; omega) (by show ks ≤ ks + 0; omega)
      · exact absurd hpo.1 (by omega)
  · exact absurd hpo.1 (by omega)

theorem b_outageFactor {g0 : GG} {bl : Nat} {xs : Nat → Int32} {l : Launch} {hs : List CE} {tl wl : Nat → Int} {nl n ng nr : Nat} (hNW : NW tl wl nl n ng nr) {a b c9 : Int32} (hB : BM hs tl wl) (hM : ModF hs) : BodyN SSX TBL g0 CLS bl xs l D_247 6 169 0 0 [.ref 124, .int a, .int b, .int c9] hs (POL hs) := by
  intro wp p e R s m args below meth c Q kc0 ks0 kc ks act hf hl hc hsl hEnd
  have hN9 := hNW
  obtain ⟨n0, n1, n2, n3, n4, n5, n6, n7, n8, hG0, nL, nC, nP, nD⟩ := hN9
  have hGn := hG0.1
  have hGn3 := hG0.2.1
  have hGl := hG0.2.2.1
  obtain ⟨rw0, hTo, hW⟩ := hB
  show WpN (gp g0 wp) CLS p l e R s m args below meth c Q D_247.2.2.1 kc0 ks0 0 [some (.ref 124), some (.int a), some (.int b), some (.int c9)] (hs, kc, ks) []
  refine g_loadA act (gx gp_247 (w := 0x103) rfl (by decide) rfl) (a := 0) (n := 1) rfl rfl rfl ?_
  refine g_loadA act (gx gp_247 (w := 0x203) rfl (by decide) rfl) (a := 0) (n := 2) rfl rfl rfl ?_
  refine g_loadI act (gx gp_247 (w := 0x1000302) rfl (by decide) rfl) (a := 1) (n := 3) rfl rfl rfl ?_
  refine n_call tb_pres act hEnd (gx (P := G_call) gp_247 (w := 0xa000000000000c08220000e200060f) rfl (by decide) rfl) (d' := D_226) rfl (as := [.ref 124, .int a]) (rest := [.ref 124]) (b_isLine (tl := tl) rw0 hTo (rfl : Int32.toInt a = _) (by omega) (by omega)) (show (2 : Nat) = fb 0xa000000000000c08220000e200060f % 16 by decide) (by show (2 : Nat) ≤ 2; decide) (fun _ => ⟨_, _, rfl, _, shp_at rw0.1, Or.inr (show fb 0xa000000000000c08220000e200060f >>> 68 = 10 by decide)⟩) (by omega) (by show 8 + (2 + 11) + 22 ≤ R.locals; omega) (by show (1 : Nat) ≤ 8; decide) (by show kc + 0 ≤ _; omega) (by show ks + 0 ≤ _; omega) (fun r9 h3 hpo hr9 => ?_) (fun x9 hs9 hx9 hpo => ?_)
  · obtain ⟨-, rfl, hin_2⟩ := hpo
    obtain ⟨rv_1, rfl, hin_2o⟩ := in1_t hin_2
    show WpN (gp g0 wp) CLS p l e R s m args below meth c Q D_247.2.2.1 kc0 ks0 6 [some (.ref 124), some (.int a), some (.int b), some (.int c9)] (hs, kc, ks) [.int rv_1, .ref 124]
    refine g_ifEq act (gx gp_247 (w := 0x1100090e) rfl (by decide) rfl) (tgt := 17) (n := 9) rfl rfl (fun h4 => ?_) (fun h4 => ?_)
    · simp only [i_eq, i0] at h4
      refine g_constI act (gx gp_247 (w := 0x40000000c00000009000000001201) rfl (by decide) rfl) (n := 18) (x := (1 : Int32)) (by decide) rfl ?_
      refine g_goto act (gx gp_247 (w := 0x3207) rfl (by decide) rfl) (n := 50) rfl ?_
      refine r_putf act (gx gp_247 (w := 0x9003513) rfl (by decide) rfl) (n := 53) (ci := 9) (j := 0) (N := 39) rfl rfl rfl rw0.1 (by decide) (Or.inl ⟨rfl, _, rfl⟩) ?_
      have rw_3 := RW.wr (k := 124) (j := 0) (v := .int (1 : Int32)) rw0 (Or.inr (by decide))
      have f_4 := hTo.ne (k := 124) (j := 0) (v := .int (1 : Int32)) (by decide)
      have f_5 := hW.ne (k := 124) (j := 0) (v := .int (1 : Int32)) (by decide)
      have f_6 := hM.wr0 (x := (1 : Int32)) rw0.1 (by decide) (by decide)
      have f_7 := rd_same (j := 0) (v := .int (1 : Int32)) rw0.1
      have fr_8 := (FrS.rf WM hs).wr (k := 124) (j := 0) (.int (1 : Int32)) (by unfold WM; omega)
      generalize (wr hs 124 0 (.int (1 : Int32))) = hs_9 at *
      refine g_loadA act (gx gp_247 (w := 0x3603) rfl (by decide) rfl) (a := 0) (n := 54) rfl rfl rfl ?_
      refine r_getf act (gx gp_247 (w := 0x9003904) rfl (by decide) rfl) (n := 57) (ci := 9) (j := 0) (N := 39) rfl rfl rfl rw_3.1 (by decide) (v := .int (1 : Int32)) f_7 ?_
      refine g_ifLe act (gx gp_247 (w := 0x3e003c3d) rfl (by decide) rfl) (tgt := 62) (n := 60) rfl rfl (fun q => absurd q (by decide)) (fun _ => ?_)
      refine g_constL act (gx gp_247 (w := 0x40000000000000002000000003d01) rfl (by decide) rfl) (n := 61) (x := 0) (by decide) rfl ?_
      exact g_retL hEnd (gx gp_247 (w := 0x19) rfl (by decide) rfl) ⟨rfl, ⟨_, rfl⟩, f_6, fr_8⟩ (by show kc ≤ kc + 0; omega) (by show ks ≤ ks + 0; omega)
    · simp only [i_eq, i0] at h4
      refine g_loadA act (gx gp_247 (w := 0xa03) rfl (by decide) rfl) (a := 0) (n := 10) rfl rfl rfl ?_
      refine g_loadI act (gx gp_247 (w := 0x2000b02) rfl (by decide) rfl) (a := 2) (n := 11) rfl rfl rfl ?_
      refine n_call tb_pres act hEnd (gx (P := G_call) gp_247 (w := 0xa000000000000c08220000e3000e0f) rfl (by decide) rfl) (d' := D_227) rfl (as := [.ref 124, .int b]) (rest := [.ref 124]) (b_isNode (tl := tl) rw0 hTo (rfl : Int32.toInt b = _) (by omega) (by omega)) (show (2 : Nat) = fb 0xa000000000000c08220000e3000e0f % 16 by decide) (by show (2 : Nat) ≤ 2; decide) (fun _ => ⟨_, _, rfl, _, shp_at rw0.1, Or.inr (show fb 0xa000000000000c08220000e3000e0f >>> 68 = 10 by decide)⟩) (by omega) (by show 8 + (2 + 11) + 22 ≤ R.locals; omega) (by show (1 : Nat) ≤ 8; decide) (by show kc + 0 ≤ _; omega) (by show ks + 0 ≤ _; omega) (fun r9 h3 hpo hr9 => ?_) (fun x9 hs9 hx9 hpo => ?_)
      · obtain ⟨-, rfl, hin_11⟩ := hpo
        obtain ⟨rv_10, rfl, hin_11o⟩ := in1_t hin_11
        show WpN (gp g0 wp) CLS p l e R s m args below meth c Q D_247.2.2.1 kc0 ks0 14 [some (.ref 124), some (.int a), some (.int b), some (.int c9)] (hs, kc, ks) [.int rv_10, .ref 124]
        refine g_ifNe act (gx gp_247 (w := 0x1500111d) rfl (by decide) rfl) (tgt := 21) (n := 17) rfl rfl (fun h12 => ?_) (fun h12 => ?_)
        · simp only [i_eq, i0] at h12
          refine g_loadI act (gx gp_247 (w := 0x3001602) rfl (by decide) rfl) (a := 3) (n := 22) rfl rfl rfl ?_
          refine g_constI act (gx gp_247 (w := 0x40000000400000001000000001701) rfl (by decide) rfl) (n := 23) (x := (0 : Int32)) (by decide) rfl ?_
          refine g_constI act (gx gp_247 (w := 0x40000000c00000009000000001801) rfl (by decide) rfl) (n := 24) (x := (1 : Int32)) (by decide) rfl ?_
          refine n_call tb_pres act hEnd (gx (P := G_call) gp_247 (w := 0x40c330000d9001b0f) rfl (by decide) rfl) (d' := D_217) rfl (as := [.int c9, .int (0 : Int32), .int (1 : Int32)]) (rest := [.ref 124]) (b_in (rfl : Int32.toInt c9 = _) (show (0 : Int32).toInt = ((0 : Nat) : Int) from by decide) (show (1 : Int32).toInt = ((1 : Nat) : Int) from by decide)) (show (3 : Nat) = fb 0x40c330000d9001b0f % 16 by decide) (by show (3 : Nat) ≤ 3; decide) (fun q => absurd q (by decide)) (by omega) (by show 8 + (3 + 11) + 0 ≤ R.locals; omega) (by show (1 : Nat) ≤ 8; decide) (by show kc + 0 ≤ _; omega) (by show ks + 0 ≤ _; omega) (fun r9 h3 hpo hr9 => ?_) (fun x9 hs9 hx9 hpo => ?_)
          · obtain ⟨-, rfl, hin_13⟩ := hpo
            obtain ⟨rv_12, rfl, hin_13o⟩ := in1_t hin_13
            show WpN (gp g0 wp) CLS p l e R s m args below meth c Q D_247.2.2.1 kc0 ks0 27 [some (.ref 124), some (.int a), some (.int b), some (.int c9)] (hs, kc, ks) [.int rv_12, .ref 124]
            refine g_ifNe act (gx gp_247 (w := 0x22001e1d) rfl (by decide) rfl) (tgt := 34) (n := 30) rfl rfl (fun h16 => ?_) (fun h16 => ?_)
            · simp only [i_eq, i0] at h16
              refine g_loadA act (gx gp_247 (w := 0x2303) rfl (by decide) rfl) (a := 0) (n := 35) rfl rfl rfl ?_
              refine r_getf act (gx gp_247 (w := 0x30000c9002604) rfl (by decide) rfl) (n := 38) (ci := 9) (j := 3) (N := 39) rfl rfl rfl rw0.1 (by decide) (rw0.2 (3, 127, 32, 39) (by decide)).1 ?_
              refine g_constI act (gx gp_247 (w := 0x40000013400000131000000002801) rfl (by decide) rfl) (n := 40) (x := (38 : Int32)) (by decide) rfl ?_
              obtain ⟨x_14, e_15, hx_16⟩ := hW 38 (by omega)
              refine r_iald act (gx gp_247 (w := 0x291a) rfl (by decide) rfl) (n := 41) (j := 38) rfl (rw0.2 (3, 127, 32, 39) (by decide)).2 (show (38 : Int32).toInt = ((38 : Nat) : Int) from by decide) (show 38 < 39 by omega) (v := .int x_14) e_15 ?_
              refine g_constI act (gx gp_247 (w := 0x3fffffffbfffffff9000000002a01) rfl (by decide) rfl) (n := 42) (x := (-1 : Int32)) (by decide) rfl ?_
              refine g_icmpNe act (gx gp_247 (w := 0x31002d21) rfl (by decide) rfl) (tgt := 49) (n := 45) rfl rfl (fun h20 => ?_) (fun h20 => ?_)
              · simp only [i_eq, show (-1 : Int32).toInt = -1 from by decide] at h20
                refine g_constI act (gx gp_247 (w := 0x40000000400000001000000003201) rfl (by decide) rfl) (n := 50) (x := (0 : Int32)) (by decide) rfl ?_
                refine r_putf act (gx gp_247 (w := 0x9003513) rfl (by decide) rfl) (n := 53) (ci := 9) (j := 0) (N := 39) rfl rfl rfl rw0.1 (by decide) (Or.inl ⟨rfl, _, rfl⟩) ?_
                have rw_17 := RW.wr (k := 124) (j := 0) (v := .int (0 : Int32)) rw0 (Or.inr (by decide))
                have f_18 := hTo.ne (k := 124) (j := 0) (v := .int (0 : Int32)) (by decide)
                have f_19 := hW.ne (k := 124) (j := 0) (v := .int (0 : Int32)) (by decide)
                have f_20 := hM.wr0 (x := (0 : Int32)) rw0.1 (by decide) (by decide)
                have f_21 := rd_same (j := 0) (v := .int (0 : Int32)) rw0.1
                have fr_22 := (FrS.rf WM hs).wr (k := 124) (j := 0) (.int (0 : Int32)) (by unfold WM; omega)
                generalize (wr hs 124 0 (.int (0 : Int32))) = hs_23 at *
                refine g_loadA act (gx gp_247 (w := 0x3603) rfl (by decide) rfl) (a := 0) (n := 54) rfl rfl rfl ?_
                refine r_getf act (gx gp_247 (w := 0x9003904) rfl (by decide) rfl) (n := 57) (ci := 9) (j := 0) (N := 39) rfl rfl rfl rw_17.1 (by decide) (v := .int (0 : Int32)) f_21 ?_
                refine g_ifLe act (gx gp_247 (w := 0x3e003c3d) rfl (by decide) rfl) (tgt := 62) (n := 60) rfl rfl (fun _ => ?_) (fun q => absurd (by decide) q)
                refine g_loadA act (gx gp_247 (w := 0x3f03) rfl (by decide) rfl) (a := 0) (n := 63) rfl rfl rfl ?_
                refine g_loadA act (gx gp_247 (w := 0x4003) rfl (by decide) rfl) (a := 0) (n := 64) rfl rfl rfl ?_
                refine r_getf act (gx gp_247 (w := 0x30000c9004304) rfl (by decide) rfl) (n := 67) (ci := 9) (j := 3) (N := 39) rfl rfl rfl rw_17.1 (by decide) (rw_17.2 (3, 127, 32, 39) (by decide)).1 ?_
                refine g_constI act (gx gp_247 (w := 0x40000013400000131000000004501) rfl (by decide) rfl) (n := 69) (x := (38 : Int32)) (by decide) rfl ?_
                obtain ⟨x_24, e_25, hx_26⟩ := f_19 38 (by omega)
                refine r_iald act (gx gp_247 (w := 0x461a) rfl (by decide) rfl) (n := 70) (j := 38) rfl (rw_17.2 (3, 127, 32, 39) (by decide)).2 (show (38 : Int32).toInt = ((38 : Nat) : Int) from by decide) (show 38 < 39 by omega) (v := .int x_24) e_25 ?_
                refine n_longs (k := 131) (N := 48) (rw_17.2 (16, 131, 33, 48) (by decide)).2 (fun l131 => ?_)
                refine n_longs (k := 132) (N := 48) (rw_17.2 (17, 132, 33, 48) (by decide)).2 (fun l132 => ?_)
                refine n_longs (k := 133) (N := 12) (rw_17.2 (18, 133, 33, 12) (by decide)).2 (fun l133 => ?_)
                refine n_longs (k := 134) (N := 12) (rw_17.2 (19, 134, 33, 12) (by decide)).2 (fun l134 => ?_)
                refine n_call tb_pres act hEnd (gx (P := G_call) gp_247 (w := 0xa000000000000808220000e700490f) rfl (by decide) rfl) (d' := D_231) rfl (as := [.ref 124, .int x_24]) (rest := []) (b_all hx_26 n0 n2 hG0 rw_17 f_18 l131 l132 l133 l134) (show (2 : Nat) = fb 0xa000000000000808220000e700490f % 16 by decide) (by show (2 : Nat) ≤ 2; decide) (fun _ => ⟨_, _, rfl, _, shp_at rw_17.1, Or.inr (show fb 0xa000000000000808220000e700490f >>> 68 = 10 by decide)⟩) (by omega) (by show 8 + (2 + 11) + 148 ≤ R.locals; omega) (by show (0 : Nat) ≤ 8; decide) (by show kc + 0 ≤ _; omega) (by show ks + 0 ≤ _; omega) (fun r9 hs_27 hpo hr9 => ?_) (fun x9 hs9 hx9 hpo => ?_)
                · obtain rfl : r9 = none := hr9.elim (fun q => q.2) (fun q => absurd rfl q.1)
                  obtain ⟨-, h_30, h_31, -, -, -, -, fr_28⟩ := hpo
                  have hM_29 := ModF.wa f_20 fr_28
                  have k_36 := h_30.kr (facA_den hG0).1
                  have k_37 := fun q9 => (h_31 q9).kr ((facA_den hG0).2 q9)
                  have rw_38 := rw_17.fr fr_28 WA_rw
                  have f_39 := f_18.fr (fun j9 _ => fr_28.2.2 125 j9 (by unfold WA; omega))
                  have f_40 := f_19.fr (fun j9 _ => fr_28.2.2 127 j9 (by unfold WA; omega))
                  have f_42 := rd_fr fr_28 f_21 (by unfold WA; omega)
                  have fr_43 := fr_22.tr (fr_28.mono (fun k9 j9 h9 => by unfold WA at h9; unfold WM; omega))
                  clear rw_17 f_18 f_19 f_20 f_21 fr_22
                  show WpN (gp g0 wp) CLS p l e R s m args below meth c Q D_247.2.2.1 kc0 ks0 73 [some (.ref 124), some (.int a), some (.int b), some (.int c9)] (hs_27, kc, ks) []
                  have k_44 := k_37 (by omega)
                  refine g_loadA act (gx gp_247 (w := 0x4a03) rfl (by decide) rfl) (a := 0) (n := 74) rfl rfl rfl ?_
                  refine g_loadA act (gx gp_247 (w := 0x4b03) rfl (by decide) rfl) (a := 0) (n := 75) rfl rfl rfl ?_
                  refine r_getf act (gx gp_247 (w := 0x3000409004e04) rfl (by decide) rfl) (n := 78) (ci := 9) (j := 16) (N := 39) rfl rfl rfl rw_38.1 (by decide) (rw_38.2 (16, 131, 33, 48) (by decide)).1 ?_
                  refine g_constI act (gx gp_247 (w := 0x4000000c4000000c1000000005001) rfl (by decide) rfl) (n := 80) (x := (24 : Int32)) (by decide) rfl ?_
                  refine g_constI act (gx gp_247 (w := 0x40000002400000021000000005101) rfl (by decide) rfl) (n := 81) (x := (4 : Int32)) (by decide) rfl ?_
                  refine g_loadI act (gx gp_247 (w := 0x1005202) rfl (by decide) rfl) (a := 1) (n := 82) rfl rfl rfl ?_
                  refine g_imul act (gx gp_247 (w := 0x5311) rfl (by decide) rfl) (n := 83) rfl ?_
                  have v_45 := iv_mul (show (4 : Int32).toInt = ((4 : Nat) : Int) from by decide) (rfl : Int32.toInt a = _) (show -2147483648 ≤ (((4 : Nat) : Int) * (Int32.toInt a)) by omega) (show (((4 : Nat) : Int) * (Int32.toInt a)) < 2147483648 by omega)
                  refine g_iadd act (gx gp_247 (w := 0x540a) rfl (by decide) rfl) (n := 84) rfl ?_
                  have v_46 := iv_add (show (24 : Int32).toInt = ((24 : Nat) : Int) from by decide) v_45 (show -2147483648 ≤ (((24 : Nat) : Int) + (((4 : Nat) : Int) * (Int32.toInt a))) by omega) (show (((24 : Nat) : Int) + (((4 : Nat) : Int) * (Int32.toInt a))) < 2147483648 by omega)
                  refine g_loadI act (gx gp_247 (w := 0x2005502) rfl (by decide) rfl) (a := 2) (n := 85) rfl rfl rfl ?_
                  refine g_iadd act (gx gp_247 (w := 0x560a) rfl (by decide) rfl) (n := 86) rfl ?_
                  have v_47 := iv_add v_46 (rfl : Int32.toInt b = _) (show -2147483648 ≤ ((((24 : Nat) : Int) + (((4 : Nat) : Int) * (Int32.toInt a))) + (Int32.toInt b)) by omega) (show ((((24 : Nat) : Int) + (((4 : Nat) : Int) * (Int32.toInt a))) + (Int32.toInt b)) < 2147483648 by omega)
                  obtain ⟨j_48, hj_49⟩ := Int.eq_ofNat_of_zero_le (show (0 : Int) ≤ ((((24 : Nat) : Int) + (((4 : Nat) : Int) * (Int32.toInt a))) + (Int32.toInt b)) by omega)
                  obtain ⟨x_50, w_53, e_51, e_54, hx_52⟩ := k_44 j_48 (by omega) (by omega)
                  refine r_lald act (gx gp_247 (w := 0x570d) rfl (by decide) rfl) (n := 87) (j := j_48) rfl (rw_38.2 (16, 131, 33, 48) (by decide)).2 (v_47.trans hj_49) (show j_48 < 48 by omega) (v := .long x_50) e_51 ?_
                  refine g_loadA act (gx gp_247 (w := 0x5803) rfl (by decide) rfl) (a := 0) (n := 88) rfl rfl rfl ?_
                  refine r_getf act (gx gp_247 (w := 0x3000449005b04) rfl (by decide) rfl) (n := 91) (ci := 9) (j := 17) (N := 39) rfl rfl rfl rw_38.1 (by decide) (rw_38.2 (17, 132, 33, 48) (by decide)).1 ?_
                  refine g_constI act (gx gp_247 (w := 0x4000000c4000000c1000000005d01) rfl (by decide) rfl) (n := 93) (x := (24 : Int32)) (by decide) rfl ?_
                  refine g_constI act (gx gp_247 (w := 0x40000002400000021000000005e01) rfl (by decide) rfl) (n := 94) (x := (4 : Int32)) (by decide) rfl ?_
                  refine g_loadI act (gx gp_247 (w := 0x1005f02) rfl (by decide) rfl) (a := 1) (n := 95) rfl rfl rfl ?_
                  refine g_imul act (gx gp_247 (w := 0x6011) rfl (by decide) rfl) (n := 96) rfl ?_
                  have v_55 := iv_mul (show (4 : Int32).toInt = ((4 : Nat) : Int) from by decide) (rfl : Int32.toInt a = _) (show -2147483648 ≤ (((4 : Nat) : Int) * (Int32.toInt a)) by omega) (show (((4 : Nat) : Int) * (Int32.toInt a)) < 2147483648 by omega)
                  refine g_iadd act (gx gp_247 (w := 0x610a) rfl (by decide) rfl) (n := 97) rfl ?_
                  have v_56 := iv_add (show (24 : Int32).toInt = ((24 : Nat) : Int) from by decide) v_55 (show -2147483648 ≤ (((24 : Nat) : Int) + (((4 : Nat) : Int) * (Int32.toInt a))) by omega) (show (((24 : Nat) : Int) + (((4 : Nat) : Int) * (Int32.toInt a))) < 2147483648 by omega)
                  refine g_loadI act (gx gp_247 (w := 0x2006202) rfl (by decide) rfl) (a := 2) (n := 98) rfl rfl rfl ?_
                  refine g_iadd act (gx gp_247 (w := 0x630a) rfl (by decide) rfl) (n := 99) rfl ?_
                  have v_57 := iv_add v_56 (rfl : Int32.toInt b = _) (show -2147483648 ≤ ((((24 : Nat) : Int) + (((4 : Nat) : Int) * (Int32.toInt a))) + (Int32.toInt b)) by omega) (show ((((24 : Nat) : Int) + (((4 : Nat) : Int) * (Int32.toInt a))) + (Int32.toInt b)) < 2147483648 by omega)
                  obtain ⟨j_58, hj_59⟩ := Int.eq_ofNat_of_zero_le (show (0 : Int) ≤ ((((24 : Nat) : Int) + (((4 : Nat) : Int) * (Int32.toInt a))) + (Int32.toInt b)) by omega)
                  obtain ⟨x_60, w_63, e_61, e_64, hx_62⟩ := k_44 j_58 (by omega) (by omega)
                  refine r_lald act (gx gp_247 (w := 0x640d) rfl (by decide) rfl) (n := 100) (j := j_58) rfl (rw_38.2 (17, 132, 33, 48) (by decide)).2 (v_57.trans hj_59) (show j_58 < 48 by omega) (v := .long w_63) e_64 ?_
                  refine n_call tb_pres act hEnd (gx (P := G_call) gp_247 (w := 0xa00000000000081c530000da00670f) rfl (by decide) rfl) (d' := D_218) rfl (as := [.ref 124, .long x_50, .long w_63]) (rest := []) (b_isK rw_38.1 hx_62) (show (3 : Nat) = fb 0xa00000000000081c530000da00670f % 16 by decide) (by show (5 : Nat) ≤ 7; decide) (fun _ => ⟨_, _, rfl, _, shp_at rw_38.1, Or.inr (show fb 0xa00000000000081c530000da00670f >>> 68 = 10 by decide)⟩) (by omega) (by show 8 + (7 + 11) + 29 ≤ R.locals; omega) (by show (0 : Nat) ≤ 8; decide) (by show kc + 0 ≤ _; omega) (by show ks + 0 ≤ _; omega) (fun r9 hs_65 hpo hr9 => ?_) (fun x9 hs9 hx9 hpo => ?_)
                  · obtain rfl : r9 = none := hr9.elim (fun q => q.2) (fun q => absurd rfl q.1)
                    obtain ⟨-, t_66, w_67, e_68, e_69, hK_70, fr_71⟩ := hpo
                    have hM_72 := ModF.w0 hM_29 fr_71
                    have rw_73 := rw_38.fr fr_71 W0_rw
                    have f_74 := f_39.fr (fun j9 _ => fr_71.2.2 125 j9 (by unfold W0; omega))
                    have f_75 := f_40.fr (fun j9 _ => fr_71.2.2 127 j9 (by unfold W0; omega))
                    have f_76 := rd_fr fr_71 f_42 (by unfold W0; omega)
                    have f_78 := k_44.fr (fun j9 _ _ => ⟨fr_71.2.2 131 j9 (by unfold W0; omega), fr_71.2.2 132 j9 (by unfold W0; omega)⟩)
                    have fr_79 := fr_43.tr (fr_71.mono (fun k9 j9 h9 => by unfold W0 at h9; unfold WM; omega))
                    clear rw_38 f_39 f_40 f_42 hM_29 k_44 fr_43
                    show WpN (gp g0 wp) CLS p l e R s m args below meth c Q D_247.2.2.1 kc0 ks0 103 [some (.ref 124), some (.int a), some (.int b), some (.int c9)] (hs_65, kc, ks) []
                    refine g_loadA act (gx gp_247 (w := 0x6803) rfl (by decide) rfl) (a := 0) (n := 104) rfl rfl rfl ?_
                    refine g_loadI act (gx gp_247 (w := 0x3006902) rfl (by decide) rfl) (a := 3) (n := 105) rfl rfl rfl ?_
                    refine n_call tb_pres act hEnd (gx (P := G_call) gp_247 (w := 0xa000000000000c08220000fa006c0f) rfl (by decide) rfl) (d' := D_250) rfl (as := [.ref 124, .int c9]) (rest := []) (b_part rw_73.1 e_68 e_69) (show (2 : Nat) = fb 0xa000000000000c08220000fa006c0f % 16 by decide) (by show (2 : Nat) ≤ 2; decide) (fun _ => ⟨_, _, rfl, _, shp_at rw_73.1, Or.inr (show fb 0xa000000000000c08220000fa006c0f >>> 68 = 10 by decide)⟩) (by omega) (by show 8 + (2 + 11) + 0 ≤ R.locals; omega) (by show (0 : Nat) ≤ 8; decide) (by show kc + 0 ≤ _; omega) (by show ks + 0 ≤ _; omega) (fun r9 h3 hpo hr9 => ?_) (fun x9 hs9 hx9 hpo => ?_)
                    · obtain ⟨-, rfl, pv_80, rfl⟩ := hpo
                      show WpN (gp g0 wp) CLS p l e R s m args below meth c Q D_247.2.2.1 kc0 ks0 108 [some (.ref 124), some (.int a), some (.int b), some (.int c9)] (hs_65, kc, ks) [.long pv_80]
                      exact g_retL hEnd (gx gp_247 (w := 0x19) rfl (by decide) rfl) ⟨rfl, ⟨_, rfl⟩, hM_72, fr_79⟩ (by show kc ≤ kc + 0; omega) (by show ks ≤ ks + 0; omega)
                    · exact absurd hpo.1 (by omega)
                  · exact absurd hpo.1 (by omega)
                · exact absurd hpo.1 (by omega)
              · simp only [i_eq, show (-1 : Int32).toInt = -1 from by decide] at h20
                refine g_constI act (gx gp_247 (w := 0x40000001c00000019000000002e01) rfl (by decide) rfl) (n := 46) (x := (3 : Int32)) (by decide) rfl ?_
                refine g_goto act (gx gp_247 (w := 0x3207) rfl (by decide) rfl) (n := 50) rfl ?_
                refine r_putf act (gx gp_247 (w := 0x9003513) rfl (by decide) rfl) (n := 53) (ci := 9) (j := 0) (N := 39) rfl rfl rfl rw0.1 (by decide) (Or.inl ⟨rfl, _, rfl⟩) ?_
                have rw_81 := RW.wr (k := 124) (j := 0) (v := .int (3 : Int32)) rw0 (Or.inr (by decide))
                have f_82 := hTo.ne (k := 124) (j := 0) (v := .int (3 : Int32)) (by decide)
                have f_83 := hW.ne (k := 124) (j := 0) (v := .int (3 : Int32)) (by decide)
                have f_84 := hM.wr0 (x := (3 : Int32)) rw0.1 (by decide) (by decide)
                have f_85 := rd_same (j := 0) (v := .int (3 : Int32)) rw0.1
                have fr_86 := (FrS.rf WM hs).wr (k := 124) (j := 0) (.int (3 : Int32)) (by unfold WM; omega)
                generalize (wr hs 124 0 (.int (3 : Int32))) = hs_87 at *
                refine g_loadA act (gx gp_247 (w := 0x3603) rfl (by decide) rfl) (a := 0) (n := 54) rfl rfl rfl ?_
                refine r_getf act (gx gp_247 (w := 0x9003904) rfl (by decide) rfl) (n := 57) (ci := 9) (j := 0) (N := 39) rfl rfl rfl rw_81.1 (by decide) (v := .int (3 : Int32)) f_85 ?_
                refine g_ifLe act (gx gp_247 (w := 0x3e003c3d) rfl (by decide) rfl) (tgt := 62) (n := 60) rfl rfl (fun q => absurd q (by decide)) (fun _ => ?_)
                refine g_constL act (gx gp_247 (w := 0x40000000000000002000000003d01) rfl (by decide) rfl) (n := 61) (x := 0) (by decide) rfl ?_
                exact g_retL hEnd (gx gp_247 (w := 0x19) rfl (by decide) rfl) ⟨rfl, ⟨_, rfl⟩, f_84, fr_86⟩ (by show kc ≤ kc + 0; omega) (by show ks ≤ ks + 0; omega)
            · simp only [i_eq, i0] at h16
              refine g_constI act (gx gp_247 (w := 0x40000001400000011000000001f01) rfl (by decide) rfl) (n := 31) (x := (2 : Int32)) (by decide) rfl ?_
              refine g_goto act (gx gp_247 (w := 0x3207) rfl (by decide) rfl) (n := 50) rfl ?_
              refine r_putf act (gx gp_247 (w := 0x9003513) rfl (by decide) rfl) (n := 53) (ci := 9) (j := 0) (N := 39) rfl rfl rfl rw0.1 (by decide) (Or.inl ⟨rfl, _, rfl⟩) ?_
              have rw_88 := RW.wr (k := 124) (j := 0) (v := .int (2 : Int32)) rw0 (Or.inr (by decide))
              have f_89 := hTo.ne (k := 124) (j := 0) (v := .int (2 : Int32)) (by decide)
              have f_90 := hW.ne (k := 124) (j := 0) (v := .int (2 : Int32)) (by decide)
              have f_91 := hM.wr0 (x := (2 : Int32)) rw0.1 (by decide) (by decide)
              have f_92 := rd_same (j := 0) (v := .int (2 : Int32)) rw0.1
              have fr_93 := (FrS.rf WM hs).wr (k := 124) (j := 0) (.int (2 : Int32)) (by unfold WM; omega)
              generalize (wr hs 124 0 (.int (2 : Int32))) = hs_94 at *
              refine g_loadA act (gx gp_247 (w := 0x3603) rfl (by decide) rfl) (a := 0) (n := 54) rfl rfl rfl ?_
              refine r_getf act (gx gp_247 (w := 0x9003904) rfl (by decide) rfl) (n := 57) (ci := 9) (j := 0) (N := 39) rfl rfl rfl rw_88.1 (by decide) (v := .int (2 : Int32)) f_92 ?_
              refine g_ifLe act (gx gp_247 (w := 0x3e003c3d) rfl (by decide) rfl) (tgt := 62) (n := 60) rfl rfl (fun q => absurd q (by decide)) (fun _ => ?_)
              refine g_constL act (gx gp_247 (w := 0x40000000000000002000000003d01) rfl (by decide) rfl) (n := 61) (x := 0) (by decide) rfl ?_
              exact g_retL hEnd (gx gp_247 (w := 0x19) rfl (by decide) rfl) ⟨rfl, ⟨_, rfl⟩, f_91, fr_93⟩ (by show kc ≤ kc + 0; omega) (by show ks ≤ ks + 0; omega)
          · exact absurd hpo.1 (by omega)
        · simp only [i_eq, i0] at h12
          refine g_constI act (gx gp_247 (w := 0x40000000c00000009000000001201) rfl (by decide) rfl) (n := 18) (x := (1 : Int32)) (by decide) rfl ?_
          refine g_goto act (gx gp_247 (w := 0x3207) rfl (by decide) rfl) (n := 50) rfl ?_
          refine r_putf act (gx gp_247 (w := 0x9003513) rfl (by decide) rfl) (n := 53) (ci := 9) (j := 0) (N := 39) rfl rfl rfl rw0.1 (by decide) (Or.inl ⟨rfl, _, rfl⟩) ?_
          have rw_95 := RW.wr (k := 124) (j := 0) (v := .int (1 : Int32)) rw0 (Or.inr (by decide))
          have f_96 := hTo.ne (k := 124) (j := 0) (v := .int (1 : Int32)) (by decide)
          have f_97 := hW.ne (k := 124) (j := 0) (v := .int (1 : Int32)) (by decide)
          have f_98 := hM.wr0 (x := (1 : Int32)) rw0.1 (by decide) (by decide)
          have f_99 := rd_same (j := 0) (v := .int (1 : Int32)) rw0.1
          have fr_100 := (FrS.rf WM hs).wr (k := 124) (j := 0) (.int (1 : Int32)) (by unfold WM; omega)
          generalize (wr hs 124 0 (.int (1 : Int32))) = hs_101 at *
          refine g_loadA act (gx gp_247 (w := 0x3603) rfl (by decide) rfl) (a := 0) (n := 54) rfl rfl rfl ?_
          refine r_getf act (gx gp_247 (w := 0x9003904) rfl (by decide) rfl) (n := 57) (ci := 9) (j := 0) (N := 39) rfl rfl rfl rw_95.1 (by decide) (v := .int (1 : Int32)) f_99 ?_
          refine g_ifLe act (gx gp_247 (w := 0x3e003c3d) rfl (by decide) rfl) (tgt := 62) (n := 60) rfl rfl (fun q => absurd q (by decide)) (fun _ => ?_)
          refine g_constL act (gx gp_247 (w := 0x40000000000000002000000003d01) rfl (by decide) rfl) (n := 61) (x := 0) (by decide) rfl ?_
          exact g_retL hEnd (gx gp_247 (w := 0x19) rfl (by decide) rfl) ⟨rfl, ⟨_, rfl⟩, f_98, fr_100⟩ (by show kc ≤ kc + 0; omega) (by show ks ≤ ks + 0; omega)
      · exact absurd hpo.1 (by omega)
  · exact absurd hpo.1 (by omega)

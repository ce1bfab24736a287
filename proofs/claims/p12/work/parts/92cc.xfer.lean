/-! The reference: transferLimit. -/
theorem fac_sml {tl : Nat → Int} {nl n : Nat} {ou : Int} (h : NG tl nl n ou) : ∀ j, j < 24 → Sml (facA tl nl n ou j) := fun j hj => by
  have hl := lam_ok h
  obtain ⟨hn1, hn3, h6, hN, hC, -⟩ := h
  unfold facA
  rw [if_pos hj]
  have := facG_b hN hn1 hn3 h6 hC (lo := 0) (j := j) (by omega)
  exact sml_of (X := 1) hl.2.2.2.2.1 (by have := hl.2.2.2.2.2.1; omega) this.1 this.2 (by decide)
theorem fr_zero {t w : Int64} {q1 q2 : Rat} (h : FR t w (q1 + -q2)) (h0 : t.toInt = 0) : q1 = q2 := by
  have := h.z.mp h0
  grind
theorem all_next {P : Nat → Prop} {k : Nat} (h : ∀ l, l < k → P l) (hk : P k) : ∀ l, l < k + 1 → P l := fun l hl => by
  by_cases z : l = k
  · rw [z]; exact hk
  · exact h l (by omega)

theorem b_bringsX {g0 : GG} {bl : Nat} {xs : Nat → Int32} {l : Launch} {hs : List CE} {li ai bi : Int32} {ln9 a9 b9 : Nat} {f9 : Nat → Rat} (hli : li.toInt = (ln9 : Int)) (hai : ai.toInt = (a9 : Int)) (hbi : bi.toInt = (b9 : Int)) (hl6 : ln9 < 6) (ha4 : a9 < 4) (hb4 : b9 < 4) (rw0 : RW hs) (hQ : QRng hs 131 132 0 24 f9) (hS : ∀ j, j < 24 → Sml (f9 j)) : BodyN SSX TBL g0 CLS bl xs l D_186 3 85 0 0 [.ref 124, .int li, .int ai, .int bi] hs (fun kd _ h2 => kd = 0 ∧ ∃ t w : Int64, rd h2 124 7 = .long t ∧ rd h2 124 8 = .long w ∧ FR t w (f9 (4 * ln9 + a9) + -f9 (4 * ln9 + b9)) ∧ FrS W0 hs h2) := by
  intro wp p e R s m args below meth c Q kc0 ks0 kc ks act hf hl hc hsl hEnd
  show WpN (gp g0 wp) CLS p l e R s m args below meth c Q D_186.2.2.1 kc0 ks0 0 [some (.ref 124), some (.int li), some (.int ai), some (.int bi)] (hs, kc, ks) []
  refine g_loadA act (gx gp_186 (w := 0x103) rfl (by decide) rfl) (a := 0) (n := 1) rfl rfl rfl ?_
  refine g_loadA act (gx gp_186 (w := 0x203) rfl (by decide) rfl) (a := 0) (n := 2) rfl rfl rfl ?_
  refine r_getf act (gx gp_186 (w := 0x3000409000504) rfl (by decide) rfl) (n := 5) (ci := 9) (j := 16) (N := 39) rfl rfl rfl rw0.1 (by decide) (rw0.2 (16, 131, 33, 48) (by decide)).1 ?_
  refine g_constI act (gx gp_186 (w := 0x40000002400000021000000000601) rfl (by decide) rfl) (n := 6) (x := (4 : Int32)) (by decide) rfl ?_
  refine g_loadI act (gx gp_186 (w := 0x1000702) rfl (by decide) rfl) (a := 1) (n := 7) rfl rfl rfl ?_
  refine g_imul act (gx gp_186 (w := 0x811) rfl (by decide) rfl) (n := 8) rfl ?_
  have v_1 := iv_mulN (show (4 : Int32).toInt = ((4 : Nat) : Int) from by decide) hli (show (4 * ln9) < 2147483648 by omega)
  refine g_loadI act (gx gp_186 (w := 0x2000902) rfl (by decide) rfl) (a := 2) (n := 9) rfl rfl rfl ?_
  refine g_iadd act (gx gp_186 (w := 0xa0a) rfl (by decide) rfl) (n := 10) rfl ?_
  have v_2 := iv_addN v_1 hai (show ((4 * ln9) + a9) < 2147483648 by omega)
  obtain ⟨x_3, w_6, e_4, e_7, hx_5⟩ := hQ ((4 * ln9) + a9) (by omega) (by omega)
  refine r_lald act (gx gp_186 (w := 0xb0d) rfl (by decide) rfl) (n := 11) (j := ((4 * ln9) + a9)) rfl (rw0.2 (16, 131, 33, 48) (by decide)).2 v_2 (show ((4 * ln9) + a9) < 48 by omega) (v := .long x_3) e_4 ?_
  refine g_loadA act (gx gp_186 (w := 0xc03) rfl (by decide) rfl) (a := 0) (n := 12) rfl rfl rfl ?_
  refine r_getf act (gx gp_186 (w := 0x3000449000f04) rfl (by decide) rfl) (n := 15) (ci := 9) (j := 17) (N := 39) rfl rfl rfl rw0.1 (by decide) (rw0.2 (17, 132, 33, 48) (by decide)).1 ?_
  refine g_constI act (gx gp_186 (w := 0x40000002400000021000000001001) rfl (by decide) rfl) (n := 16) (x := (4 : Int32)) (by decide) rfl ?_
  refine g_loadI act (gx gp_186 (w := 0x1001102) rfl (by decide) rfl) (a := 1) (n := 17) rfl rfl rfl ?_
  refine g_imul act (gx gp_186 (w := 0x1211) rfl (by decide) rfl) (n := 18) rfl ?_
  have v_8 := iv_mulN (show (4 : Int32).toInt = ((4 : Nat) : Int) from by decide) hli (show (4 * ln9) < 2147483648 by omega)
  refine g_loadI act (gx gp_186 (w := 0x2001302) rfl (by decide) rfl) (a := 2) (n := 19) rfl rfl rfl ?_
  refine g_iadd act (gx gp_186 (w := 0x140a) rfl (by decide) rfl) (n := 20) rfl ?_
  have v_9 := iv_addN v_8 hai (show ((4 * ln9) + a9) < 2147483648 by omega)
  refine r_lald act (gx gp_186 (w := 0x150d) rfl (by decide) rfl) (n := 21) (j := ((4 * ln9) + a9)) rfl (rw0.2 (17, 132, 33, 48) (by decide)).2 v_9 (show ((4 * ln9) + a9) < 48 by omega) (v := .long w_6) e_7 ?_
  refine g_loadA act (gx gp_186 (w := 0x1603) rfl (by decide) rfl) (a := 0) (n := 22) rfl rfl rfl ?_
  refine r_getf act (gx gp_186 (w := 0x3000409001904) rfl (by decide) rfl) (n := 25) (ci := 9) (j := 16) (N := 39) rfl rfl rfl rw0.1 (by decide) (rw0.2 (16, 131, 33, 48) (by decide)).1 ?_
  refine g_constI act (gx gp_186 (w := 0x40000002400000021000000001a01) rfl (by decide) rfl) (n := 26) (x := (4 : Int32)) (by decide) rfl ?_
  refine g_loadI act (gx gp_186 (w := 0x1001b02) rfl (by decide) rfl) (a := 1) (n := 27) rfl rfl rfl ?_
  refine g_imul act (gx gp_186 (w := 0x1c11) rfl (by decide) rfl) (n := 28) rfl ?_
  have v_15 := iv_mulN (show (4 : Int32).toInt = ((4 : Nat) : Int) from by decide) hli (show (4 * ln9) < 2147483648 by omega)
  refine g_loadI act (gx gp_186 (w := 0x3001d02) rfl (by decide) rfl) (a := 3) (n := 29) rfl rfl rfl ?_
  refine g_iadd act (gx gp_186 (w := 0x1e0a) rfl (by decide) rfl) (n := 30) rfl ?_
  have v_16 := iv_addN v_15 hbi (show ((4 * ln9) + b9) < 2147483648 by omega)
  obtain ⟨x_17, w_20, e_18, e_21, hx_19⟩ := hQ ((4 * ln9) + b9) (by omega) (by omega)
  refine r_lald act (gx gp_186 (w := 0x1f0d) rfl (by decide) rfl) (n := 31) (j := ((4 * ln9) + b9)) rfl (rw0.2 (16, 131, 33, 48) (by decide)).2 v_16 (show ((4 * ln9) + b9) < 48 by omega) (v := .long x_17) e_18 ?_
  refine g_lneg act (gx gp_186 (w := 0x2025) rfl (by decide) rfl) (n := 32) rfl ?_
  refine g_loadA act (gx gp_186 (w := 0x2103) rfl (by decide) rfl) (a := 0) (n := 33) rfl rfl rfl ?_
  refine r_getf act (gx gp_186 (w := 0x3000449002404) rfl (by decide) rfl) (n := 36) (ci := 9) (j := 17) (N := 39) rfl rfl rfl rw0.1 (by decide) (rw0.2 (17, 132, 33, 48) (by decide)).1 ?_
  refine g_constI act (gx gp_186 (w := 0x40000002400000021000000002501) rfl (by decide) rfl) (n := 37) (x := (4 : Int32)) (by decide) rfl ?_
  refine g_loadI act (gx gp_186 (w := 0x1002602) rfl (by decide) rfl) (a := 1) (n := 38) rfl rfl rfl ?_
  refine g_imul act (gx gp_186 (w := 0x2711) rfl (by decide) rfl) (n := 39) rfl ?_
  have v_22 := iv_mulN (show (4 : Int32).toInt = ((4 : Nat) : Int) from by decide) hli (show (4 * ln9) < 2147483648 by omega)
  refine g_loadI act (gx gp_186 (w := 0x3002802) rfl (by decide) rfl) (a := 3) (n := 40) rfl rfl rfl ?_
  refine g_iadd act (gx gp_186 (w := 0x290a) rfl (by decide) rfl) (n := 41) rfl ?_
  have v_23 := iv_addN v_22 hbi (show ((4 * ln9) + b9) < 2147483648 by omega)
  refine r_lald act (gx gp_186 (w := 0x2a0d) rfl (by decide) rfl) (n := 42) (j := ((4 * ln9) + b9)) rfl (rw0.2 (17, 132, 33, 48) (by decide)).2 v_23 (show ((4 * ln9) + b9) < 48 by omega) (v := .long w_20) e_21 ?_
  refine n_call tb_pres act hEnd (gx (P := G_call) gp_186 (w := 0xa00000000000082c950000fc002d0f) rfl (by decide) rfl) (d' := D_252) rfl (as := [.ref 124, .long x_3, .long w_6, .long (-x_17), .long w_20]) (rest := []) (b_plusQ rw0 hx_5 (FR.ngS hx_19 (hS _ (by omega))) (hS _ (by omega)) (Sml.neg (hS _ (by omega)))) (show (5 : Nat) = fb 0xa00000000000082c950000fc002d0f % 16 by decide) (by show (9 : Nat) ≤ 11; decide) (fun _ => ⟨_, _, rfl, _, shp_at rw0.1, Or.inr (show fb 0xa00000000000082c950000fc002d0f >>> 68 = 10 by decide)⟩) (by omega) (by show 8 + (11 + 11) + 55 ≤ R.locals; omega) (by show (0 : Nat) ≤ 8; decide) (by show kc + 0 ≤ _; omega) (by show ks + 0 ≤ _; omega) (fun r9 hs_29 hpo hr9 => ?_) (fun x9 hs9 hx9 hpo => ?_)
  · obtain rfl : r9 = none := hr9.elim (fun q => q.2) (fun q => absurd rfl q.1)
    obtain ⟨-, t_30, w_31, e_32, e_33, hF_34, fr_35⟩ := hpo
    have rw_36 := rw0.fr fr_35 W0_rw
    have f_37 := hQ.fr (fun j9 _ _ => ⟨fr_35.2.2 131 j9 (by unfold W0; omega), fr_35.2.2 132 j9 (by unfold W0; omega)⟩)
    have fr_38 := (FrS.rf W0 hs).tr fr_35
    show WpN (gp g0 wp) CLS p l e R s m args below meth c Q D_186.2.2.1 kc0 ks0 45 [some (.ref 124), some (.int li), some (.int ai), some (.int bi)] (hs_29, kc, ks) []
    exact g_retV hEnd (gx gp_186 (w := 0x18) rfl (by decide) rfl) ⟨rfl, _, _, e_32, e_33, hF_34, fr_38⟩ (by show kc ≤ kc + 0; omega) (by show ks ≤ ks + 0; omega)
  · exact absurd hpo.1 (by omega)

theorem tr_1 {g0 : GG} {bl : Nat} {xs : Nat → Int32} {l : Launch} {wp : va_W} {p : Program} {e : Env} {R : Room} {s : State} {m : MethodId} {args : Array Value} {below : List Frame} {meth : Method} {c : Code} {Q : State → Prop} {kc0 ks0 kc ks f lam KC KS : Nat} {hs : List CE} {tl wl : Nat → Int} {nl n ng nr : Nat} (hNW : NW tl wl nl n ng nr) {ai bi pi : Int32} {a9 b9 : Nat} (hai : ai.toInt = (a9 : Int)) (hbi : bi.toInt = (b9 : Int)) (ha9 : a9 ≤ n) (hb9 : b9 ≤ n) (hab : a9 ≠ b9) (hf : 6 ≤ R.frames) (hl : 169 ≤ R.locals) (hc : kc ≤ R.cells + kc0) (hsl : ks ≤ R.slots + ks0) (act : Act SSX TBL (gp g0 wp) CLS bl xs D_283 p l s m args meth c) (hEnd : EndN SSX TBL (gp g0 wp) CLS D_283 p l e R s m args below meth c Q kc0 ks0 f lam KC KS (POL hs)) (hk1 : kc ≤ KC) (hk2 : ks ≤ KS) : ∀ j9 : Nat, j9 ≤ nl → ∀ (xi : Int32) (s1 s2 : Int64) (hj : List CE), xi.toInt = (j9 : Int) → (K2 64 s2 ∨ (s2 = 0 ∧ ∀ l7, l7 < j9 → facA tl nl n (-1) (4 * l7 + a9) = facA tl nl n (-1) (4 * l7 + b9))) → RW hj → IArr hj 125 46 tl → IArr hj 127 39 wl → QRng hj 131 132 0 24 (facA tl nl n (-1)) → ModF hj → FrS WM hs hj → WpN (gp g0 wp) CLS p l e R s m args below meth c Q D_283.2.2.1 kc0 ks0 66 [some (.ref 124), some (.int ai), some (.int bi), some (.int pi), some (.long s1), none, some (.long s2), none, some (.int xi)] (hj, kc, ks) [] := by
  have hN9 := hNW
  obtain ⟨n0, n1, n2, n3, n4, n5, n6, n7, n8, hG0, nL, nC, nP, nD⟩ := hN9
  have hGn := hG0.1
  have hGn3 := hG0.2.1
  have hGl := hG0.2.2.1
  refine dn (fun j9 hj9 ih => ?_)
  intro xi s1 s2 hj hxi hd9 rwj fTo fW hQ hM hfr
  refine g_loadI act (gx gp_283 (w := 0x8004402) rfl (by decide) rfl) (a := 8) (n := 68) rfl rfl rfl ?_
  refine g_loadA act (gx gp_283 (w := 0x4503) rfl (by decide) rfl) (a := 0) (n := 69) rfl rfl rfl ?_
  refine r_getf act (gx gp_283 (w := 0x3000049004804) rfl (by decide) rfl) (n := 72) (ci := 9) (j := 1) (N := 39) rfl rfl rfl rwj.1 (by decide) (rwj.2 (1, 125, 32, 46) (by decide)).1 ?_
  refine g_constI act (gx gp_283 (w := 0x40000001400000011000000004901) rfl (by decide) rfl) (n := 73) (x := (2 : Int32)) (by decide) rfl ?_
  obtain ⟨x_1, e_2, hx_3⟩ := fTo 2 (by omega)
  refine r_iald act (gx gp_283 (w := 0x4a1a) rfl (by decide) rfl) (n := 74) (j := 2) rfl (rwj.2 (1, 125, 32, 46) (by decide)).2 (show (2 : Int32).toInt = ((2 : Nat) : Int) from by decide) (show 2 < 46 by omega) (v := .int x_1) e_2 ?_
  refine g_icmpGe act (gx gp_283 (w := 0xb4004d08) rfl (by decide) rfl) (tgt := 180) (n := 77) rfl rfl (fun h4 => ?_) (fun h4 => ?_)
  · simp only [i_le] at h4
    have hz9 : s2.toInt ≠ 0 := hd9.elim (fun q => q.ne) (fun q => by obtain ⟨l7, q1, q2⟩ := fac_dif (ng_none hG0) ha9 hb9 hab; exact absurd (q.2 l7 (by omega)) q2)
    refine g_loadA act (gx gp_283 (w := 0xb503) rfl (by decide) rfl) (a := 0) (n := 181) rfl rfl rfl ?_
    refine g_loadL act (gx gp_283 (w := 0x400b706) rfl (by decide) rfl) (a := 4) (n := 183) rfl rfl rfl ?_
    refine g_loadL act (gx gp_283 (w := 0x600b906) rfl (by decide) rfl) (a := 6) (n := 185) rfl rfl rfl ?_
    refine n_call tb_pres act hEnd (gx (P := G_call) gp_283 (w := 0xa00000000000081c530000da00bc0f) rfl (by decide) rfl) (d' := D_218) rfl (as := [.ref 124, .long s1, .long s2]) (rest := []) (b_isK rwj.1 (K2.any (x := s2) (by omega))) (show (3 : Nat) = fb 0xa00000000000081c530000da00bc0f % 16 by decide) (by show (5 : Nat) ≤ 7; decide) (fun _ => ⟨_, _, rfl, _, shp_at rwj.1, Or.inr (show fb 0xa00000000000081c530000da00bc0f >>> 68 = 10 by decide)⟩) (by omega) (by show 8 + (7 + 11) + 29 ≤ R.locals; omega) (by show (0 : Nat) ≤ 8; decide) (by show kc + 0 ≤ _; omega) (by show ks + 0 ≤ _; omega) (fun r9 hs_4 hpo hr9 => ?_) (fun x9 hs9 hx9 hpo => ?_)
    · obtain rfl : r9 = none := hr9.elim (fun q => q.2) (fun q => absurd rfl q.1)
      obtain ⟨-, t_5, w_6, e_7, e_8, hK_9, fr_10⟩ := hpo
      have hM_11 := ModF.w0 hM fr_10
      have rw_12 := rwj.fr fr_10 W0_rw
      have f_13 := fTo.fr (fun j9 _ => fr_10.2.2 125 j9 (by unfold W0; omega))
      have f_14 := fW.fr (fun j9 _ => fr_10.2.2 127 j9 (by unfold W0; omega))
      have f_15 := hQ.fr (fun j9 _ _ => ⟨fr_10.2.2 131 j9 (by unfold W0; omega), fr_10.2.2 132 j9 (by unfold W0; omega)⟩)
      have fr_17 := hfr.tr (fr_10.mono (fun k9 j9 h9 => by unfold W0 at h9; unfold WM; omega))
      clear rwj fTo fW hQ hM hfr
      show WpN (gp g0 wp) CLS p l e R s m args below meth c Q D_283.2.2.1 kc0 ks0 188 [some (.ref 124), some (.int ai), some (.int bi), some (.int pi), some (.long s1), none, some (.long s2), none, some (.int xi)] (hs_4, kc, ks) []
      refine g_loadA act (gx gp_283 (w := 0xbd03) rfl (by decide) rfl) (a := 0) (n := 189) rfl rfl rfl ?_
      refine g_loadI act (gx gp_283 (w := 0x300be02) rfl (by decide) rfl) (a := 3) (n := 190) rfl rfl rfl ?_
      refine n_call tb_pres act hEnd (gx (P := G_call) gp_283 (w := 0xa000000000000c08220000fa00c10f) rfl (by decide) rfl) (d' := D_250) rfl (as := [.ref 124, .int pi]) (rest := []) (b_part rw_12.1 e_7 e_8) (show (2 : Nat) = fb 0xa000000000000c08220000fa00c10f % 16 by decide) (by show (2 : Nat) ≤ 2; decide) (fun _ => ⟨_, _, rfl, _, shp_at rw_12.1, Or.inr (show fb 0xa000000000000c08220000fa00c10f >>> 68 = 10 by decide)⟩) (by omega) (by show 8 + (2 + 11) + 0 ≤ R.locals; omega) (by show (0 : Nat) ≤ 8; decide) (by show kc + 0 ≤ _; omega) (by show ks + 0 ≤ _; omega) (fun r9 h3 hpo hr9 => ?_) (fun x9 hs9 hx9 hpo => ?_)
      · obtain ⟨-, rfl, pv_18, rfl⟩ := hpo
        show WpN (gp g0 wp) CLS p l e R s m args below meth c Q D_283.2.2.1 kc0 ks0 193 [some (.ref 124), some (.int ai), some (.int bi), some (.int pi), some (.long s1), none, some (.long s2), none, some (.int xi)] (hs_4, kc, ks) [.long pv_18]
        exact g_retL hEnd (gx gp_283 (w := 0x19) rfl (by decide) rfl) ⟨rfl, ⟨_, rfl⟩, hM_11, fr_17⟩ hk1 hk2
      · exact absurd hpo.1 (by omega)
    · exact absurd hpo.1 (by omega)
  · simp only [i_le] at h4
    refine g_loadA act (gx gp_283 (w := 0x4e03) rfl (by decide) rfl) (a := 0) (n := 78) rfl rfl rfl ?_
    refine g_loadI act (gx gp_283 (w := 0x8005002) rfl (by decide) rfl) (a := 8) (n := 80) rfl rfl rfl ?_
    refine g_loadI act (gx gp_283 (w := 0x1005102) rfl (by decide) rfl) (a := 1) (n := 81) rfl rfl rfl ?_
    refine g_loadI act (gx gp_283 (w := 0x2005202) rfl (by decide) rfl) (a := 2) (n := 82) rfl rfl rfl ?_
    refine n_call tb_pres act hEnd (gx (P := G_call) gp_283 (w := 0xa000000000000810440000ba00550f) rfl (by decide) rfl) (d' := D_186) rfl (as := [.ref 124, .int xi, .int ai, .int bi]) (rest := []) (b_bringsX (ln9 := j9) (a9 := a9) (b9 := b9) hxi hai hbi (by omega) (by omega) (by omega) rwj hQ (fac_sml (ng_none hG0))) (show (4 : Nat) = fb 0xa000000000000810440000ba00550f % 16 by decide) (by show (4 : Nat) ≤ 4; decide) (fun _ => ⟨_, _, rfl, _, shp_at rwj.1, Or.inr (show fb 0xa000000000000810440000ba00550f >>> 68 = 10 by decide)⟩) (by omega) (by show 8 + (4 + 11) + 85 ≤ R.locals; omega) (by show (0 : Nat) ≤ 8; decide) (by show kc + 0 ≤ _; omega) (by show ks + 0 ≤ _; omega) (fun r9 hs_19 hpo hr9 => ?_) (fun x9 hs9 hx9 hpo => ?_)
    · obtain rfl : r9 = none := hr9.elim (fun q => q.2) (fun q => absurd rfl q.1)
      obtain ⟨-, t_20, w_21, e_22, e_23, hF_24, fr_25⟩ := hpo
      have hM_26 := ModF.w0 hM fr_25
      have rw_27 := rwj.fr fr_25 W0_rw
      have f_28 := fTo.fr (fun j9 _ => fr_25.2.2 125 j9 (by unfold W0; omega))
      have f_29 := fW.fr (fun j9 _ => fr_25.2.2 127 j9 (by unfold W0; omega))
      have f_30 := hQ.fr (fun j9 _ _ => ⟨fr_25.2.2 131 j9 (by unfold W0; omega), fr_25.2.2 132 j9 (by unfold W0; omega)⟩)
      have fr_32 := hfr.tr (fr_25.mono (fun k9 j9 h9 => by unfold W0 at h9; unfold WM; omega))
      clear rwj fTo fW hQ hM hfr
      show WpN (gp g0 wp) CLS p l e R s m args below meth c Q D_283.2.2.1 kc0 ks0 85 [some (.ref 124), some (.int ai), some (.int bi), some (.int pi), some (.long s1), none, some (.long s2), none, some (.int xi)] (hs_19, kc, ks) []
      refine g_loadA act (gx gp_283 (w := 0x5603) rfl (by decide) rfl) (a := 0) (n := 86) rfl rfl rfl ?_
      refine r_getf act (gx gp_283 (w := 0x20001c9005904) rfl (by decide) rfl) (n := 89) (ci := 9) (j := 7) (N := 39) rfl rfl rfl rw_27.1 (by decide) (v := .long t_20) e_22 ?_
      refine g_constL act (gx gp_283 (w := 0x40000000000000002000000005a01) rfl (by decide) rfl) (n := 90) (x := 0) (by decide) rfl ?_
      refine g_lcmp act (gx gp_283 (w := 0x5b0c) rfl (by decide) rfl) (n := 91) rfl ?_
      refine g_ifNe act (gx gp_283 (w := 0x61005e1d) rfl (by decide) rfl) (tgt := 97) (n := 94) rfl rfl (fun h17 => ?_) (fun h17 => ?_)
      · simp only [cmpEq, show (0 : Int64).toInt = 0 from by decide] at h17
        refine g_loadA act (gx gp_283 (w := 0x6203) rfl (by decide) rfl) (a := 0) (n := 98) rfl rfl rfl ?_
        refine g_loadA act (gx gp_283 (w := 0x6303) rfl (by decide) rfl) (a := 0) (n := 99) rfl rfl rfl ?_
        refine r_getf act (gx gp_283 (w := 0x30000c9006604) rfl (by decide) rfl) (n := 102) (ci := 9) (j := 3) (N := 39) rfl rfl rfl rw_27.1 (by decide) (rw_27.2 (3, 127, 32, 39) (by decide)).1 ?_
        refine g_constI act (gx gp_283 (w := 0x40000000400000001000000006701) rfl (by decide) rfl) (n := 103) (x := (0 : Int32)) (by decide) rfl ?_
        refine g_loadI act (gx gp_283 (w := 0x8006902) rfl (by decide) rfl) (a := 8) (n := 105) rfl rfl rfl ?_
        refine g_iadd act (gx gp_283 (w := 0x6a0a) rfl (by decide) rfl) (n := 106) rfl ?_
        have v_33 := iv_addN (show (0 : Int32).toInt = ((0 : Nat) : Int) from by decide) hxi (show (0 + j9) < 2147483648 by omega)
        obtain ⟨x_34, e_35, hx_36⟩ := f_29 (0 + j9) (by omega)
        refine r_iald act (gx gp_283 (w := 0x6b1a) rfl (by decide) rfl) (n := 107) (j := (0 + j9)) rfl (rw_27.2 (3, 127, 32, 39) (by decide)).2 v_33 (show (0 + j9) < 39 by omega) (v := .int x_34) e_35 ?_
        refine g_i2l act (gx gp_283 (w := 0x6c2c) rfl (by decide) rfl) (n := 108) rfl ?_
        have v_37 := lw_i2l hx_36
        refine g_loadA act (gx gp_283 (w := 0x6d03) rfl (by decide) rfl) (a := 0) (n := 109) rfl rfl rfl ?_
        refine r_getf act (gx gp_283 (w := 0x2000209007004) rfl (by decide) rfl) (n := 112) (ci := 9) (j := 8) (N := 39) rfl rfl rfl rw_27.1 (by decide) (v := .long w_21) e_23 ?_
        refine g_lmul act (gx gp_283 (w := 0x7115) rfl (by decide) rfl) (n := 113) rfl ?_
        refine g_loadA act (gx gp_283 (w := 0x7203) rfl (by decide) rfl) (a := 0) (n := 114) rfl rfl rfl ?_
        refine r_getf act (gx gp_283 (w := 0x20001c9007504) rfl (by decide) rfl) (n := 117) (ci := 9) (j := 7) (N := 39) rfl rfl rfl rw_27.1 (by decide) (v := .long t_20) e_22 ?_
        refine g_constL act (gx gp_283 (w := 0x40000000000000002000000007601) rfl (by decide) rfl) (n := 118) (x := 0) (by decide) rfl ?_
        refine g_lcmp act (gx gp_283 (w := 0x770c) rfl (by decide) rfl) (n := 119) rfl ?_
        refine g_ifGe act (gx gp_283 (w := 0x82007a14) rfl (by decide) rfl) (tgt := 130) (n := 122) rfl rfl (fun h26 => ?_) (fun h26 => ?_)
        · simp only [cmpGe, show (0 : Int64).toInt = 0 from by decide] at h26
          refine g_loadA act (gx gp_283 (w := 0x8303) rfl (by decide) rfl) (a := 0) (n := 131) rfl rfl rfl ?_
          refine r_getf act (gx gp_283 (w := 0x20001c9008604) rfl (by decide) rfl) (n := 134) (ci := 9) (j := 7) (N := 39) rfl rfl rfl rw_27.1 (by decide) (v := .long t_20) e_22 ?_
          refine n_call tb_pres act hEnd (gx (P := G_call) gp_283 (w := 0xa00000000000081c530000da00890f) rfl (by decide) rfl) (d' := D_218) rfl (as := [.ref 124, .long ((x_34).toInt64 * w_21), .long t_20]) (rest := []) (b_isK rw_27.1 (K2.any (x := t_20) (by omega))) (show (3 : Nat) = fb 0xa00000000000081c530000da00890f % 16 by decide) (by show (5 : Nat) ≤ 7; decide) (fun _ => ⟨_, _, rfl, _, shp_at rw_27.1, Or.inr (show fb 0xa00000000000081c530000da00890f >>> 68 = 10 by decide)⟩) (by omega) (by show 8 + (7 + 11) + 29 ≤ R.locals; omega) (by show (0 : Nat) ≤ 8; decide) (by show kc + 0 ≤ _; omega) (by show ks + 0 ≤ _; omega) (fun r9 hs_38 hpo hr9 => ?_) (fun x9 hs9 hx9 hpo => ?_)
          · obtain rfl : r9 = none := hr9.elim (fun q => q.2) (fun q => absurd rfl q.1)
            obtain ⟨-, t_39, w_40, e_41, e_42, hK_43, fr_44⟩ := hpo
            have hM_45 := ModF.w0 hM_26 fr_44
            have rw_46 := rw_27.fr fr_44 W0_rw
            have f_47 := f_28.fr (fun j9 _ => fr_44.2.2 125 j9 (by unfold W0; omega))
            have f_48 := f_29.fr (fun j9 _ => fr_44.2.2 127 j9 (by unfold W0; omega))
            have f_49 := f_30.fr (fun j9 _ _ => ⟨fr_44.2.2 131 j9 (by unfold W0; omega), fr_44.2.2 132 j9 (by unfold W0; omega)⟩)
            have fr_51 := fr_32.tr (fr_44.mono (fun k9 j9 h9 => by unfold W0 at h9; unfold WM; omega))
            clear rw_27 f_28 f_29 f_30 hM_26 e_22 e_23 fr_32
            show WpN (gp g0 wp) CLS p l e R s m args below meth c Q D_283.2.2.1 kc0 ks0 137 [some (.ref 124), some (.int ai), some (.int bi), some (.int pi), some (.long s1), none, some (.long s2), none, some (.int xi)] (hs_38, kc, ks) []
            refine g_loadL act (gx gp_283 (w := 0x6008b06) rfl (by decide) rfl) (a := 6) (n := 139) rfl rfl rfl ?_
            refine g_constL act (gx gp_283 (w := 0x40000000000000002000000008c01) rfl (by decide) rfl) (n := 140) (x := 0) (by decide) rfl ?_
            refine g_lcmp act (gx gp_283 (w := 0x8d0c) rfl (by decide) rfl) (n := 141) rfl ?_
            refine g_ifEq act (gx gp_283 (w := 0xa200900e) rfl (by decide) rfl) (tgt := 162) (n := 144) rfl rfl (fun h31 => ?_) (fun h31 => ?_)
            · simp only [cmpEq, show (0 : Int64).toInt = 0 from by decide] at h31
              refine g_loadA act (gx gp_283 (w := 0xa303) rfl (by decide) rfl) (a := 0) (n := 163) rfl rfl rfl ?_
              refine r_getf act (gx gp_283 (w := 0x20001c900a604) rfl (by decide) rfl) (n := 166) (ci := 9) (j := 7) (N := 39) rfl rfl rfl rw_46.1 (by decide) (v := .long t_39) e_41 ?_
              refine g_storeL act (gx gp_283 (w := 0x400a80b) rfl (by decide) rfl) (a := 4) (n := 168) rfl rfl (L2 := [some (.ref 124), some (.int ai), some (.int bi), some (.int pi), some (.long t_39), none, some (.long s2), none, some (.int xi)]) rfl ?_
              refine g_loadA act (gx gp_283 (w := 0xa903) rfl (by decide) rfl) (a := 0) (n := 169) rfl rfl rfl ?_
              refine r_getf act (gx gp_283 (w := 0x200020900ac04) rfl (by decide) rfl) (n := 172) (ci := 9) (j := 8) (N := 39) rfl rfl rfl rw_46.1 (by decide) (v := .long w_40) e_42 ?_
              refine g_storeL act (gx gp_283 (w := 0x600ae0b) rfl (by decide) rfl) (a := 6) (n := 174) rfl rfl (L2 := [some (.ref 124), some (.int ai), some (.int bi), some (.int pi), some (.long t_39), none, some (.long w_40), none, some (.int xi)]) rfl ?_
              refine g_iinc act (gx gp_283 (w := 0x8000000100000800b109) rfl (by decide) rfl) (a := 8) (i := (1 : Int32)) (n := 177) rfl (by decide) rfl rfl (L2 := [some (.ref 124), some (.int ai), some (.int bi), some (.int pi), some (.long t_39), none, some (.long w_40), none, some (.int (xi + (1 : Int32)))]) rfl ?_
              have v_52 := iv_addN hxi (show (1 : Int32).toInt = ((1 : Nat) : Int) from by decide) (show (j9 + 1) < 2147483648 by omega)
              refine g_goto act (gx gp_283 (w := 0x4207) rfl (by decide) rfl) (n := 66) rfl ?_
              exact n_forget (d := D_283) (L2 := [some (.ref 124), some (.int ai), some (.int bi), some (.int pi), some (.long t_39), none, some (.long w_40), none, some (.int (xi + (1 : Int32)))]) (fun i v hi => by
                match i, hi with
                | 0, hi => exact hi
                | 1, hi => exact hi
                | 2, hi => exact hi
                | 3, hi => exact hi
                | 4, hi => exact hi
                | 5, hi => cases hi
                | 6, hi => exact hi
                | 7, hi => cases hi
                | 8, hi => exact hi
                | i + 9, hi => cases hi) (ih (j9 + 1) (by omega) (by omega) _ _ _ _ v_52 (Or.inl hK_43) rw_46 f_47 f_48 f_49 hM_45 fr_51)
            · simp only [cmpEq, show (0 : Int64).toInt = 0 from by decide] at h31
              refine g_loadA act (gx gp_283 (w := 0x9103) rfl (by decide) rfl) (a := 0) (n := 145) rfl rfl rfl ?_
              refine r_getf act (gx gp_283 (w := 0x20001c9009404) rfl (by decide) rfl) (n := 148) (ci := 9) (j := 7) (N := 39) rfl rfl rfl rw_46.1 (by decide) (v := .long t_39) e_41 ?_
              refine g_loadA act (gx gp_283 (w := 0x9503) rfl (by decide) rfl) (a := 0) (n := 149) rfl rfl rfl ?_
              refine r_getf act (gx gp_283 (w := 0x2000209009804) rfl (by decide) rfl) (n := 152) (ci := 9) (j := 8) (N := 39) rfl rfl rfl rw_46.1 (by decide) (v := .long w_40) e_42 ?_
              refine g_loadL act (gx gp_283 (w := 0x4009a06) rfl (by decide) rfl) (a := 4) (n := 154) rfl rfl rfl ?_
              refine g_loadL act (gx gp_283 (w := 0x6009c06) rfl (by decide) rfl) (a := 6) (n := 156) rfl rfl rfl ?_
              refine n_call tb_pres act hEnd (gx (P := G_call) gp_283 (w := 0x428840000e1009f0f) rfl (by decide) rfl) (d' := D_225) rfl (as := [.long t_39, .long w_40, .long s1, .long s2]) (rest := []) (b_lessK (K2.any (x := s2) (by omega))) (show (4 : Nat) = fb 0x428840000e1009f0f % 16 by decide) (by show (8 : Nat) ≤ 10; decide) (fun q => absurd q (by decide)) (by omega) (by show 8 + (10 + 11) + 29 ≤ R.locals; omega) (by show (0 : Nat) ≤ 8; decide) (by show kc + 0 ≤ _; omega) (by show ks + 0 ≤ _; omega) (fun r9 h3 hpo hr9 => ?_) (fun x9 hs9 hx9 hpo => ?_)
              · obtain ⟨-, rfl, hr_54⟩ := hpo
                obtain ⟨rv_53, rfl, hr_54o⟩ := z01_t hr_54
                show WpN (gp g0 wp) CLS p l e R s m args below meth c Q D_283.2.2.1 kc0 ks0 159 [some (.ref 124), some (.int ai), some (.int bi), some (.int pi), some (.long s1), none, some (.long s2), none, some (.int xi)] (hs_38, kc, ks) [.int rv_53]
                refine g_ifEq act (gx gp_283 (w := 0xae00a20e) rfl (by decide) rfl) (tgt := 174) (n := 162) rfl rfl (fun h41 => ?_) (fun h41 => ?_)
                · simp only [i_eq, i0] at h41
                  refine g_iinc act (gx gp_283 (w := 0x8000000100000800b109) rfl (by decide) rfl) (a := 8) (i := (1 : Int32)) (n := 177) rfl (by decide) rfl rfl (L2 := [some (.ref 124), some (.int ai), some (.int bi), some (.int pi), some (.long s1), none, some (.long s2), none, some (.int (xi + (1 : Int32)))]) rfl ?_
                  have v_55 := iv_addN hxi (show (1 : Int32).toInt = ((1 : Nat) : Int) from by decide) (show (j9 + 1) < 2147483648 by omega)
                  refine g_goto act (gx gp_283 (w := 0x4207) rfl (by decide) rfl) (n := 66) rfl ?_
                  exact n_forget (d := D_283) (L2 := [some (.ref 124), some (.int ai), some (.int bi), some (.int pi), some (.long s1), none, some (.long s2), none, some (.int (xi + (1 : Int32)))]) (fun i v hi => by
                    match i, hi with
                    | 0, hi => exact hi
                    | 1, hi => exact hi
                    | 2, hi => exact hi
                    | 3, hi => exact hi
                    | 4, hi => exact hi
                    | 5, hi => cases hi
                    | 6, hi => exact hi
                    | 7, hi => cases hi
                    | 8, hi => exact hi
                    | i + 9, hi => cases hi) (ih (j9 + 1) (by omega) (by omega) _ _ _ _ v_55 (Or.inl (K2.any (x := s2) (by omega))) rw_46 f_47 f_48 f_49 hM_45 fr_51)
                · simp only [i_eq, i0] at h41
                  refine g_loadA act (gx gp_283 (w := 0xa303) rfl (by decide) rfl) (a := 0) (n := 163) rfl rfl rfl ?_
                  refine r_getf act (gx gp_283 (w := 0x20001c900a604) rfl (by decide) rfl) (n := 166) (ci := 9) (j := 7) (N := 39) rfl rfl rfl rw_46.1 (by decide) (v := .long t_39) e_41 ?_
                  refine g_storeL act (gx gp_283 (w := 0x400a80b) rfl (by decide) rfl) (a := 4) (n := 168) rfl rfl (L2 := [some (.ref 124), some (.int ai), some (.int bi), some (.int pi), some (.long t_39), none, some (.long s2), none, some (.int xi)]) rfl ?_
                  refine g_loadA act (gx gp_283 (w := 0xa903) rfl (by decide) rfl) (a := 0) (n := 169) rfl rfl rfl ?_
                  refine r_getf act (gx gp_283 (w := 0x200020900ac04) rfl (by decide) rfl) (n := 172) (ci := 9) (j := 8) (N := 39) rfl rfl rfl rw_46.1 (by decide) (v := .long w_40) e_42 ?_
                  refine g_storeL act (gx gp_283 (w := 0x600ae0b) rfl (by decide) rfl) (a := 6) (n := 174) rfl rfl (L2 := [some (.ref 124), some (.int ai), some (.int bi), some (.int pi), some (.long t_39), none, some (.long w_40), none, some (.int xi)]) rfl ?_
                  refine g_iinc act (gx gp_283 (w := 0x8000000100000800b109) rfl (by decide) rfl) (a := 8) (i := (1 : Int32)) (n := 177) rfl (by decide) rfl rfl (L2 := [some (.ref 124), some (.int ai), some (.int bi), some (.int pi), some (.long t_39), none, some (.long w_40), none, some (.int (xi + (1 : Int32)))]) rfl ?_
                  have v_56 := iv_addN hxi (show (1 : Int32).toInt = ((1 : Nat) : Int) from by decide) (show (j9 + 1) < 2147483648 by omega)
                  refine g_goto act (gx gp_283 (w := 0x4207) rfl (by decide) rfl) (n := 66) rfl ?_
                  exact n_forget (d := D_283) (L2 := [some (.ref 124), some (.int ai), some (.int bi), some (.int pi), some (.long t_39), none, some (.long w_40), none, some (.int (xi + (1 : Int32)))]) (fun i v hi => by
                    match i, hi with
                    | 0, hi => exact hi
                    | 1, hi => exact hi
                    | 2, hi => exact hi
                    | 3, hi => exact hi
                    | 4, hi => exact hi
                    | 5, hi => cases hi
                    | 6, hi => exact hi
                    | 7, hi => cases hi
                    | 8, hi => exact hi
                    | i + 9, hi => cases hi) (ih (j9 + 1) (by omega) (by omega) _ _ _ _ v_56 (Or.inl hK_43) rw_46 f_47 f_48 f_49 hM_45 fr_51)
              · exact absurd hpo.1 (by omega)
          · exact absurd hpo.1 (by omega)
        · simp only [cmpGe, show (0 : Int64).toInt = 0 from by decide] at h26
          refine g_loadA act (gx gp_283 (w := 0x7b03) rfl (by decide) rfl) (a := 0) (n := 123) rfl rfl rfl ?_
          refine r_getf act (gx gp_283 (w := 0x20001c9007e04) rfl (by decide) rfl) (n := 126) (ci := 9) (j := 7) (N := 39) rfl rfl rfl rw_27.1 (by decide) (v := .long t_20) e_22 ?_
          refine g_lneg act (gx gp_283 (w := 0x7f25) rfl (by decide) rfl) (n := 127) rfl ?_
          refine g_goto act (gx gp_283 (w := 0x8607) rfl (by decide) rfl) (n := 134) rfl ?_
          refine n_call tb_pres act hEnd (gx (P := G_call) gp_283 (w := 0xa00000000000081c530000da00890f) rfl (by decide) rfl) (d' := D_218) rfl (as := [.ref 124, .long ((x_34).toInt64 * w_21), .long (-t_20)]) (rest := []) (b_isK rw_27.1 (K2.neg (K2.any (x := t_20) (by omega)))) (show (3 : Nat) = fb 0xa00000000000081c530000da00890f % 16 by decide) (by show (5 : Nat) ≤ 7; decide) (fun _ => ⟨_, _, rfl, _, shp_at rw_27.1, Or.inr (show fb 0xa00000000000081c530000da00890f >>> 68 = 10 by decide)⟩) (by omega) (by show 8 + (7 + 11) + 29 ≤ R.locals; omega) (by show (0 : Nat) ≤ 8; decide) (by show kc + 0 ≤ _; omega) (by show ks + 0 ≤ _; omega) (fun r9 hs_57 hpo hr9 => ?_) (fun x9 hs9 hx9 hpo => ?_)
          · obtain rfl : r9 = none := hr9.elim (fun q => q.2) (fun q => absurd rfl q.1)
            obtain ⟨-, t_58, w_59, e_60, e_61, hK_62, fr_63⟩ := hpo
            have hM_64 := ModF.w0 hM_26 fr_63
            have rw_65 := rw_27.fr fr_63 W0_rw
            have f_66 := f_28.fr (fun j9 _ => fr_63.2.2 125 j9 (by unfold W0; omega))
            have f_67 := f_29.fr (fun j9 _ => fr_63.2.2 127 j9 (by unfold W0; omega))
            have f_68 := f_30.fr (fun j9 _ _ => ⟨fr_63.2.2 131 j9 (by unfold W0; omega), fr_63.2.2 132 j9 (by unfold W0; omega)⟩)
            have fr_70 := fr_32.tr (fr_63.mono (fun k9 j9 h9 => by unfold W0 at h9; unfold WM; omega))
            clear rw_27 f_28 f_29 f_30 hM_26 e_22 e_23 fr_32
            show WpN (gp g0 wp) CLS p l e R s m args below meth c Q D_283.2.2.1 kc0 ks0 137 [some (.ref 124), some (.int ai), some (.int bi), some (.int pi), some (.long s1), none, some (.long s2), none, some (.int xi)] (hs_57, kc, ks) []
            refine g_loadL act (gx gp_283 (w := 0x6008b06) rfl (by decide) rfl) (a := 6) (n := 139) rfl rfl rfl ?_
            refine g_constL act (gx gp_283 (w := 0x40000000000000002000000008c01) rfl (by decide) rfl) (n := 140) (x := 0) (by decide) rfl ?_
            refine g_lcmp act (gx gp_283 (w := 0x8d0c) rfl (by decide) rfl) (n := 141) rfl ?_
            refine g_ifEq act (gx gp_283 (w := 0xa200900e) rfl (by decide) rfl) (tgt := 162) (n := 144) rfl rfl (fun h53 => ?_) (fun h53 => ?_)
            · simp only [cmpEq, show (0 : Int64).toInt = 0 from by decide] at h53
              refine g_loadA act (gx gp_283 (w := 0xa303) rfl (by decide) rfl) (a := 0) (n := 163) rfl rfl rfl ?_
              refine r_getf act (gx gp_283 (w := 0x20001c900a604) rfl (by decide) rfl) (n := 166) (ci := 9) (j := 7) (N := 39) rfl rfl rfl rw_65.1 (by decide) (v := .long t_58) e_60 ?_
              refine g_storeL act (gx gp_283 (w := 0x400a80b) rfl (by decide) rfl) (a := 4) (n := 168) rfl rfl (L2 := [some (.ref 124), some (.int ai), some (.int bi), some (.int pi), some (.long t_58), none, some (.long s2), none, some (.int xi)]) rfl ?_
              refine g_loadA act (gx gp_283 (w := 0xa903) rfl (by decide) rfl) (a := 0) (n := 169) rfl rfl rfl ?_
              refine r_getf act (gx gp_283 (w := 0x200020900ac04) rfl (by decide) rfl) (n := 172) (ci := 9) (j := 8) (N := 39) rfl rfl rfl rw_65.1 (by decide) (v := .long w_59) e_61 ?_
              refine g_storeL act (gx gp_283 (w := 0x600ae0b) rfl (by decide) rfl) (a := 6) (n := 174) rfl rfl (L2 := [some (.ref 124), some (.int ai), some (.int bi), some (.int pi), some (.long t_58), none, some (.long w_59), none, some (.int xi)]) rfl ?_
              refine g_iinc act (gx gp_283 (w := 0x8000000100000800b109) rfl (by decide) rfl) (a := 8) (i := (1 : Int32)) (n := 177) rfl (by decide) rfl rfl (L2 := [some (.ref 124), some (.int ai), some (.int bi), some (.int pi), some (.long t_58), none, some (.long w_59), none, some (.int (xi + (1 : Int32)))]) rfl ?_
              have v_71 := iv_addN hxi (show (1 : Int32).toInt = ((1 : Nat) : Int) from by decide) (show (j9 + 1) < 2147483648 by omega)
              refine g_goto act (gx gp_283 (w := 0x4207) rfl (by decide) rfl) (n := 66) rfl ?_
              exact n_forget (d := D_283) (L2 := [some (.ref 124), some (.int ai), some (.int bi), some (.int pi), some (.long t_58), none, some (.long w_59), none, some (.int (xi + (1 : Int32)))]) (fun i v hi => by
                match i, hi with
                | 0, hi => exact hi
                | 1, hi => exact hi
                | 2, hi => exact hi
                | 3, hi => exact hi
                | 4, hi => exact hi
                | 5, hi => cases hi
                | 6, hi => exact hi
                | 7, hi => cases hi
                | 8, hi => exact hi
                | i + 9, hi => cases hi) (ih (j9 + 1) (by omega) (by omega) _ _ _ _ v_71 (Or.inl hK_62) rw_65 f_66 f_67 f_68 hM_64 fr_70)
            · simp only [cmpEq, show (0 : Int64).toInt = 0 from by decide] at h53
              refine g_loadA act (gx gp_283 (w := 0x9103) rfl (by decide) rfl) (a := 0) (n := 145) rfl rfl rfl ?_
              refine r_getf act (gx gp_283 (w := 0x20001c9009404) rfl (by decide) rfl) (n := 148) (ci := 9) (j := 7) (N := 39) rfl rfl rfl rw_65.1 (by decide) (v := .long t_58) e_60 ?_
              refine g_loadA act (gx gp_283 (w := 0x9503) rfl (by decide) rfl) (a := 0) (n := 149) rfl rfl rfl ?_
              refine r_getf act (gx gp_283 (w := 0x2000209009804) rfl (by decide) rfl) (n := 152) (ci := 9) (j := 8) (N := 39) rfl rfl rfl rw_65.1 (by decide) (v := .long w_59) e_61 ?_
              refine g_loadL act (gx gp_283 (w := 0x4009a06) rfl (by decide) rfl) (a := 4) (n := 154) rfl rfl rfl ?_
              refine g_loadL act (gx gp_283 (w := 0x6009c06) rfl (by decide) rfl) (a := 6) (n := 156) rfl rfl rfl ?_
              refine n_call tb_pres act hEnd (gx (P := G_call) gp_283 (w := 0x428840000e1009f0f) rfl (by decide) rfl) (d' := D_225) rfl (as := [.long t_58, .long w_59, .long s1, .long s2]) (rest := []) (b_lessK (K2.any (x := s2) (by omega))) (show (4 : Nat) = fb 0x428840000e1009f0f % 16 by decide) (by show (8 : Nat) ≤ 10; decide) (fun q => absurd q (by decide)) (by omega) (by show 8 + (10 + 11) + 29 ≤ R.locals; omega) (by show (0 : Nat) ≤ 8; decide) (by show kc + 0 ≤ _; omega) (by show ks + 0 ≤ _; omega) (fun r9 h3 hpo hr9 => ?_) (fun x9 hs9 hx9 hpo => ?_)
              · obtain ⟨-, rfl, hr_73⟩ := hpo
                obtain ⟨rv_72, rfl, hr_73o⟩ := z01_t hr_73
                show WpN (gp g0 wp) CLS p l e R s m args below meth c Q D_283.2.2.1 kc0 ks0 159 [some (.ref 124), some (.int ai), some (.int bi), some (.int pi), some (.long s1), none, some (.long s2), none, some (.int xi)] (hs_57, kc, ks) [.int rv_72]
                refine g_ifEq act (gx gp_283 (w := 0xae00a20e) rfl (by decide) rfl) (tgt := 174) (n := 162) rfl rfl (fun h63 => ?_) (fun h63 => ?_)
                · simp only [i_eq, i0] at h63
                  refine g_iinc act (gx gp_283 (w := 0x8000000100000800b109) rfl (by decide) rfl) (a := 8) (i := (1 : Int32)) (n := 177) rfl (by decide) rfl rfl (L2 := [some (.ref 124), some (.int ai), some (.int bi), some (.int pi), some (.long s1), none, some (.long s2), none, some (.int (xi + (1 : Int32)))]) rfl ?_
                  have v_74 := iv_addN hxi (show (1 : Int32).toInt = ((1 : Nat) : Int) from by decide) (show (j9 + 1) < 2147483648 by omega)
                  refine g_goto act (gx gp_283 (w := 0x4207) rfl (by decide) rfl) (n := 66) rfl ?_
                  exact n_forget (d := D_283) (L2 := [some (.ref 124), some (.int ai), some (.int bi), some (.int pi), some (.long s1), none, some (.long s2), none, some (.int (xi + (1 : Int32)))]) (fun i v hi => by
                    match i, hi with
                    | 0, hi => exact hi
                    | 1, hi => exact hi
                    | 2, hi => exact hi
                    | 3, hi => exact hi
                    | 4, hi => exact hi
                    | 5, hi => cases hi
                    | 6, hi => exact hi
                    | 7, hi => cases hi
                    | 8, hi => exact hi
                    | i + 9, hi => cases hi) (ih (j9 + 1) (by omega) (by omega) _ _ _ _ v_74 (Or.inl (K2.any (x := s2) (by omega))) rw_65 f_66 f_67 f_68 hM_64 fr_70)
                · simp only [i_eq, i0] at h63
                  refine g_loadA act (gx gp_283 (w := 0xa303) rfl (by decide) rfl) (a := 0) (n := 163) rfl rfl rfl ?_
                  refine r_getf act (gx gp_283 (w := 0x20001c900a604) rfl (by decide) rfl) (n := 166) (ci := 9) (j := 7) (N := 39) rfl rfl rfl rw_65.1 (by decide) (v := .long t_58) e_60 ?_
                  refine g_storeL act (gx gp_283 (w := 0x400a80b) rfl (by decide) rfl) (a := 4) (n := 168) rfl rfl (L2 := [some (.ref 124), some (.int ai), some (.int bi), some (.int pi), some (.long t_58), none, some (.long s2), none, some (.int xi)]) rfl ?_
                  refine g_loadA act (gx gp_283 (w := 0xa903) rfl (by decide) rfl) (a := 0) (n := 169) rfl rfl rfl ?_
                  refine r_getf act (gx gp_283 (w := 0x200020900ac04) rfl (by decide) rfl) (n := 172) (ci := 9) (j := 8) (N := 39) rfl rfl rfl rw_65.1 (by decide) (v := .long w_59) e_61 ?_
                  refine g_storeL act (gx gp_283 (w := 0x600ae0b) rfl (by decide) rfl) (a := 6) (n := 174) rfl rfl (L2 := [some (.ref 124), some (.int ai), some (.int bi), some (.int pi), some (.long t_58), none, some (.long w_59), none, some (.int xi)]) rfl ?_
                  refine g_iinc act (gx gp_283 (w := 0x8000000100000800b109) rfl (by decide) rfl) (a := 8) (i := (1 : Int32)) (n := 177) rfl (by decide) rfl rfl (L2 := [some (.ref 124), some (.int ai), some (.int bi), some (.int pi), some (.long t_58), none, some (.long w_59), none, some (.int (xi + (1 : Int32)))]) rfl ?_
                  have v_75 := iv_addN hxi (show (1 : Int32).toInt = ((1 : Nat) : Int) from by decide) (show (j9 + 1) < 2147483648 by omega)
                  refine g_goto act (gx gp_283 (w := 0x4207) rfl (by decide) rfl) (n := 66) rfl ?_
                  exact n_forget (d := D_283) (L2 := [some (.ref 124), some (.int ai), some (.int bi), some (.int pi), some (.long t_58), none, some (.long w_59), none, some (.int (xi + (1 : Int32)))]) (fun i v hi => by
                    match i, hi with
                    | 0, hi => exact hi
                    | 1, hi => exact hi
                    | 2, hi => exact hi
                    | 3, hi => exact hi
                    | 4, hi => exact hi
                    | 5, hi => cases hi
                    | 6, hi => exact hi
                    | 7, hi => cases hi
                    | 8, hi => exact hi
                    | i + 9, hi => cases hi) (ih (j9 + 1) (by omega) (by omega) _ _ _ _ v_75 (Or.inl hK_62) rw_65 f_66 f_67 f_68 hM_64 fr_70)
              · exact absurd hpo.1 (by omega)
          · exact absurd hpo.1 (by omega)
      · simp only [cmpEq, show (0 : Int64).toInt = 0 from by decide] at h17
        refine g_goto act (gx gp_283 (w := 0xae07) rfl (by decide) rfl) (n := 174) rfl ?_
        refine g_iinc act (gx gp_283 (w := 0x8000000100000800b109) rfl (by decide) rfl) (a := 8) (i := (1 : Int32)) (n := 177) rfl (by decide) rfl rfl (L2 := [some (.ref 124), some (.int ai), some (.int bi), some (.int pi), some (.long s1), none, some (.long s2), none, some (.int (xi + (1 : Int32)))]) rfl ?_
        have v_76 := iv_addN hxi (show (1 : Int32).toInt = ((1 : Nat) : Int) from by decide) (show (j9 + 1) < 2147483648 by omega)
        refine g_goto act (gx gp_283 (w := 0x4207) rfl (by decide) rfl) (n := 66) rfl ?_
        exact n_forget (d := D_283) (L2 := [some (.ref 124), some (.int ai), some (.int bi), some (.int pi), some (.long s1), none, some (.long s2), none, some (.int (xi + (1 : Int32)))]) (fun i v hi => by
          match i, hi with
          | 0, hi => exact hi
          | 1, hi => exact hi
          | 2, hi => exact hi
          | 3, hi => exact hi
          | 4, hi => exact hi
          | 5, hi => cases hi
          | 6, hi => exact hi
          | 7, hi => cases hi
          | 8, hi => exact hi
          | i + 9, hi => cases hi) (ih (j9 + 1) (by omega) (by omega) _ _ _ _ v_76 (hd9.imp id (fun q9 => ⟨q9.1, all_next (P := fun l7 => facA tl nl n (-1) (4 * l7 + a9) = facA tl nl n (-1) (4 * l7 + b9)) q9.2 (fr_zero hF_24 (by omega))⟩)) rw_27 f_28 f_29 f_30 hM_26 fr_32)
    · exact absurd hpo.1 (by omega)

theorem b_transferLimit {g0 : GG} {bl : Nat} {xs : Nat → Int32} {l : Launch} {hs : List CE} {tl wl : Nat → Int} {nl n ng nr : Nat} (hNW : NW tl wl nl n ng nr) {ai bi pi : Int32} (hB : BM hs tl wl) (hM : ModF hs) : BodyN SSX TBL g0 CLS bl xs l D_283 6 169 0 0 [.ref 124, .int ai, .int bi, .int pi] hs (POL hs) := by
  intro wp p e R s m args below meth c Q kc0 ks0 kc ks act hf hl hc hsl hEnd
  have hN9 := hNW
  obtain ⟨n0, n1, n2, n3, n4, n5, n6, n7, n8, hG0, nL, nC, nP, nD⟩ := hN9
  have hGn := hG0.1
  have hGn3 := hG0.2.1
  have hGl := hG0.2.2.1
  obtain ⟨rw0, hTo, hW⟩ := hB
  show WpN (gp g0 wp) CLS p l e R s m args below meth c Q D_283.2.2.1 kc0 ks0 0 [some (.ref 124), some (.int ai), some (.int bi), some (.int pi), none, none, none, none, none] (hs, kc, ks) []
  refine g_loadA act (gx gp_283 (w := 0x103) rfl (by decide) rfl) (a := 0) (n := 1) rfl rfl rfl ?_
  refine g_loadA act (gx gp_283 (w := 0x203) rfl (by decide) rfl) (a := 0) (n := 2) rfl rfl rfl ?_
  refine g_loadI act (gx gp_283 (w := 0x1000302) rfl (by decide) rfl) (a := 1) (n := 3) rfl rfl rfl ?_
  refine n_call tb_pres act hEnd (gx (P := G_call) gp_283 (w := 0xa000000000000c08220000e300060f) rfl (by decide) rfl) (d' := D_227) rfl (as := [.ref 124, .int ai]) (rest := [.ref 124]) (b_isNode (tl := tl) rw0 hTo (rfl : Int32.toInt ai = _) (by omega) (by omega)) (show (2 : Nat) = fb 0xa000000000000c08220000e300060f % 16 by decide) (by show (2 : Nat) ≤ 2; decide) (fun _ => ⟨_, _, rfl, _, shp_at rw0.1, Or.inr (show fb 0xa000000000000c08220000e300060f >>> 68 = 10 by decide)⟩) (by omega) (by show 8 + (2 + 11) + 22 ≤ R.locals; omega) (by show (1 : Nat) ≤ 8; decide) (by show kc + 0 ≤ _; omega) (by show ks + 0 ≤ _; omega) (fun r9 h3 hpo hr9 => ?_) (fun x9 hs9 hx9 hpo => ?_)
  · obtain ⟨-, rfl, hin_2⟩ := hpo
    obtain ⟨rv_1, rfl, hin_2o⟩ := in1_t hin_2
    show WpN (gp g0 wp) CLS p l e R s m args below meth c Q D_283.2.2.1 kc0 ks0 6 [some (.ref 124), some (.int ai), some (.int bi), some (.int pi), none, none, none, none, none] (hs, kc, ks) [.int rv_1, .ref 124]
    refine g_ifEq act (gx gp_283 (w := 0x1100090e) rfl (by decide) rfl) (tgt := 17) (n := 9) rfl rfl (fun h4 => ?_) (fun h4 => ?_)
    · simp only [i_eq, i0] at h4
      refine g_constI act (gx gp_283 (w := 0x40000000c00000009000000001201) rfl (by decide) rfl) (n := 18) (x := (1 : Int32)) (by decide) rfl ?_
      refine g_goto act (gx gp_283 (w := 0x2807) rfl (by decide) rfl) (n := 40) rfl ?_
      refine r_putf act (gx gp_283 (w := 0x9002b13) rfl (by decide) rfl) (n := 43) (ci := 9) (j := 0) (N := 39) rfl rfl rfl rw0.1 (by decide) (Or.inl ⟨rfl, _, rfl⟩) ?_
      have rw_3 := RW.wr (k := 124) (j := 0) (v := .int (1 : Int32)) rw0 (Or.inr (by decide))
      have f_4 := hTo.ne (k := 124) (j := 0) (v := .int (1 : Int32)) (by decide)
      have f_5 := hW.ne (k := 124) (j := 0) (v := .int (1 : Int32)) (by decide)
      have f_6 := hM.wr0 (x := (1 : Int32)) rw0.1 (by decide) (by decide)
      have f_7 := rd_same (j := 0) (v := .int (1 : Int32)) rw0.1
      have fr_8 := (FrS.rf WM hs).wr (k := 124) (j := 0) (.int (1 : Int32)) (by unfold WM; omega)
      generalize (wr hs 124 0 (.int (1 : Int32))) = hs_9 at *
      refine g_loadA act (gx gp_283 (w := 0x2c03) rfl (by decide) rfl) (a := 0) (n := 44) rfl rfl rfl ?_
      refine r_getf act (gx gp_283 (w := 0x9002f04) rfl (by decide) rfl) (n := 47) (ci := 9) (j := 0) (N := 39) rfl rfl rfl rw_3.1 (by decide) (v := .int (1 : Int32)) f_7 ?_
      refine g_ifLe act (gx gp_283 (w := 0x3400323d) rfl (by decide) rfl) (tgt := 52) (n := 50) rfl rfl (fun q => absurd q (by decide)) (fun _ => ?_)
      refine g_constL act (gx gp_283 (w := 0x40000000000000002000000003301) rfl (by decide) rfl) (n := 51) (x := 0) (by decide) rfl ?_
      exact g_retL hEnd (gx gp_283 (w := 0x19) rfl (by decide) rfl) ⟨rfl, ⟨_, rfl⟩, f_6, fr_8⟩ (by show kc ≤ kc + 0; omega) (by show ks ≤ ks + 0; omega)
    · simp only [i_eq, i0] at h4
      refine g_loadA act (gx gp_283 (w := 0xa03) rfl (by decide) rfl) (a := 0) (n := 10) rfl rfl rfl ?_
      refine g_loadI act (gx gp_283 (w := 0x2000b02) rfl (by decide) rfl) (a := 2) (n := 11) rfl rfl rfl ?_
      refine n_call tb_pres act hEnd (gx (P := G_call) gp_283 (w := 0xa000000000000c08220000e3000e0f) rfl (by decide) rfl) (d' := D_227) rfl (as := [.ref 124, .int bi]) (rest := [.ref 124]) (b_isNode (tl := tl) rw0 hTo (rfl : Int32.toInt bi = _) (by omega) (by omega)) (show (2 : Nat) = fb 0xa000000000000c08220000e3000e0f % 16 by decide) (by show (2 : Nat) ≤ 2; decide) (fun _ => ⟨_, _, rfl, _, shp_at rw0.1, Or.inr (show fb 0xa000000000000c08220000e3000e0f >>> 68 = 10 by decide)⟩) (by omega) (by show 8 + (2 + 11) + 22 ≤ R.locals; omega) (by show (1 : Nat) ≤ 8; decide) (by show kc + 0 ≤ _; omega) (by show ks + 0 ≤ _; omega) (fun r9 h3 hpo hr9 => ?_) (fun x9 hs9 hx9 hpo => ?_)
      · obtain ⟨-, rfl, hin_11⟩ := hpo
        obtain ⟨rv_10, rfl, hin_11o⟩ := in1_t hin_11
        show WpN (gp g0 wp) CLS p l e R s m args below meth c Q D_283.2.2.1 kc0 ks0 14 [some (.ref 124), some (.int ai), some (.int bi), some (.int pi), none, none, none, none, none] (hs, kc, ks) [.int rv_10, .ref 124]
        refine g_ifNe act (gx gp_283 (w := 0x1500111d) rfl (by decide) rfl) (tgt := 21) (n := 17) rfl rfl (fun h12 => ?_) (fun h12 => ?_)
        · simp only [i_eq, i0] at h12
          refine g_loadI act (gx gp_283 (w := 0x1001602) rfl (by decide) rfl) (a := 1) (n := 22) rfl rfl rfl ?_
          refine g_loadI act (gx gp_283 (w := 0x2001702) rfl (by decide) rfl) (a := 2) (n := 23) rfl rfl rfl ?_
          refine g_icmpEq act (gx gp_283 (w := 0x23001a2e) rfl (by decide) rfl) (tgt := 35) (n := 26) rfl rfl (fun h15 => ?_) (fun h15 => ?_)
          · simp only [i_eq] at h15
            refine g_constI act (gx gp_283 (w := 0x40000001400000011000000002401) rfl (by decide) rfl) (n := 36) (x := (2 : Int32)) (by decide) rfl ?_
            refine g_goto act (gx gp_283 (w := 0x2807) rfl (by decide) rfl) (n := 40) rfl ?_
            refine r_putf act (gx gp_283 (w := 0x9002b13) rfl (by decide) rfl) (n := 43) (ci := 9) (j := 0) (N := 39) rfl rfl rfl rw0.1 (by decide) (Or.inl ⟨rfl, _, rfl⟩) ?_
            have rw_12 := RW.wr (k := 124) (j := 0) (v := .int (2 : Int32)) rw0 (Or.inr (by decide))
            have f_13 := hTo.ne (k := 124) (j := 0) (v := .int (2 : Int32)) (by decide)
            have f_14 := hW.ne (k := 124) (j := 0) (v := .int (2 : Int32)) (by decide)
            have f_15 := hM.wr0 (x := (2 : Int32)) rw0.1 (by decide) (by decide)
            have f_16 := rd_same (j := 0) (v := .int (2 : Int32)) rw0.1
            have fr_17 := (FrS.rf WM hs).wr (k := 124) (j := 0) (.int (2 : Int32)) (by unfold WM; omega)
            generalize (wr hs 124 0 (.int (2 : Int32))) = hs_18 at *
            refine g_loadA act (gx gp_283 (w := 0x2c03) rfl (by decide) rfl) (a := 0) (n := 44) rfl rfl rfl ?_
            refine r_getf act (gx gp_283 (w := 0x9002f04) rfl (by decide) rfl) (n := 47) (ci := 9) (j := 0) (N := 39) rfl rfl rfl rw_12.1 (by decide) (v := .int (2 : Int32)) f_16 ?_
            refine g_ifLe act (gx gp_283 (w := 0x3400323d) rfl (by decide) rfl) (tgt := 52) (n := 50) rfl rfl (fun q => absurd q (by decide)) (fun _ => ?_)
            refine g_constL act (gx gp_283 (w := 0x40000000000000002000000003301) rfl (by decide) rfl) (n := 51) (x := 0) (by decide) rfl ?_
            exact g_retL hEnd (gx gp_283 (w := 0x19) rfl (by decide) rfl) ⟨rfl, ⟨_, rfl⟩, f_15, fr_17⟩ (by show kc ≤ kc + 0; omega) (by show ks ≤ ks + 0; omega)
          · simp only [i_eq] at h15
            refine g_loadI act (gx gp_283 (w := 0x3001b02) rfl (by decide) rfl) (a := 3) (n := 27) rfl rfl rfl ?_
            refine g_constI act (gx gp_283 (w := 0x40000000400000001000000001c01) rfl (by decide) rfl) (n := 28) (x := (0 : Int32)) (by decide) rfl ?_
            refine g_constI act (gx gp_283 (w := 0x40000000c00000009000000001d01) rfl (by decide) rfl) (n := 29) (x := (1 : Int32)) (by decide) rfl ?_
            refine n_call tb_pres act hEnd (gx (P := G_call) gp_283 (w := 0x40c330000d900200f) rfl (by decide) rfl) (d' := D_217) rfl (as := [.int pi, .int (0 : Int32), .int (1 : Int32)]) (rest := [.ref 124]) (b_in (rfl : Int32.toInt pi = _) (show (0 : Int32).toInt = ((0 : Nat) : Int) from by decide) (show (1 : Int32).toInt = ((1 : Nat) : Int) from by decide)) (show (3 : Nat) = fb 0x40c330000d900200f % 16 by decide) (by show (3 : Nat) ≤ 3; decide) (fun q => absurd q (by decide)) (by omega) (by show 8 + (3 + 11) + 0 ≤ R.locals; omega) (by show (1 : Nat) ≤ 8; decide) (by show kc + 0 ≤ _; omega) (by show ks + 0 ≤ _; omega) (fun r9 h3 hpo hr9 => ?_) (fun x9 hs9 hx9 hpo => ?_)
            · obtain ⟨-, rfl, hin_20⟩ := hpo
              obtain ⟨rv_19, rfl, hin_20o⟩ := in1_t hin_20
              show WpN (gp g0 wp) CLS p l e R s m args below meth c Q D_283.2.2.1 kc0 ks0 32 [some (.ref 124), some (.int ai), some (.int bi), some (.int pi), none, none, none, none, none] (hs, kc, ks) [.int rv_19, .ref 124]
              refine g_ifNe act (gx gp_283 (w := 0x2700231d) rfl (by decide) rfl) (tgt := 39) (n := 35) rfl rfl (fun h24 => ?_) (fun h24 => ?_)
              · simp only [i_eq, i0] at h24
                refine g_constI act (gx gp_283 (w := 0x40000000400000001000000002801) rfl (by decide) rfl) (n := 40) (x := (0 : Int32)) (by decide) rfl ?_
                refine r_putf act (gx gp_283 (w := 0x9002b13) rfl (by decide) rfl) (n := 43) (ci := 9) (j := 0) (N := 39) rfl rfl rfl rw0.1 (by decide) (Or.inl ⟨rfl, _, rfl⟩) ?_
                have rw_21 := RW.wr (k := 124) (j := 0) (v := .int (0 : Int32)) rw0 (Or.inr (by decide))
                have f_22 := hTo.ne (k := 124) (j := 0) (v := .int (0 : Int32)) (by decide)
                have f_23 := hW.ne (k := 124) (j := 0) (v := .int (0 : Int32)) (by decide)
                have f_24 := hM.wr0 (x := (0 : Int32)) rw0.1 (by decide) (by decide)
                have f_25 := rd_same (j := 0) (v := .int (0 : Int32)) rw0.1
                have fr_26 := (FrS.rf WM hs).wr (k := 124) (j := 0) (.int (0 : Int32)) (by unfold WM; omega)
                generalize (wr hs 124 0 (.int (0 : Int32))) = hs_27 at *
                refine g_loadA act (gx gp_283 (w := 0x2c03) rfl (by decide) rfl) (a := 0) (n := 44) rfl rfl rfl ?_
                refine r_getf act (gx gp_283 (w := 0x9002f04) rfl (by decide) rfl) (n := 47) (ci := 9) (j := 0) (N := 39) rfl rfl rfl rw_21.1 (by decide) (v := .int (0 : Int32)) f_25 ?_
                refine g_ifLe act (gx gp_283 (w := 0x3400323d) rfl (by decide) rfl) (tgt := 52) (n := 50) rfl rfl (fun _ => ?_) (fun q => absurd (by decide) q)
                refine g_loadA act (gx gp_283 (w := 0x3503) rfl (by decide) rfl) (a := 0) (n := 53) rfl rfl rfl ?_
                refine g_constI act (gx gp_283 (w := 0x3fffffffbfffffff9000000003601) rfl (by decide) rfl) (n := 54) (x := (-1 : Int32)) (by decide) rfl ?_
                refine n_longs (k := 131) (N := 48) (rw_21.2 (16, 131, 33, 48) (by decide)).2 (fun l131 => ?_)
                refine n_longs (k := 132) (N := 48) (rw_21.2 (17, 132, 33, 48) (by decide)).2 (fun l132 => ?_)
                refine n_longs (k := 133) (N := 12) (rw_21.2 (18, 133, 33, 12) (by decide)).2 (fun l133 => ?_)
                refine n_longs (k := 134) (N := 12) (rw_21.2 (19, 134, 33, 12) (by decide)).2 (fun l134 => ?_)
                refine n_call tb_pres act hEnd (gx (P := G_call) gp_283 (w := 0xa000000000000808220000e700390f) rfl (by decide) rfl) (d' := D_231) rfl (as := [.ref 124, .int (-1 : Int32)]) (rest := []) (b_all (show (-1 : Int32).toInt = (-1 : Int) from by decide) n0 n2 (ng_none hG0) rw_21 f_22 l131 l132 l133 l134) (show (2 : Nat) = fb 0xa000000000000808220000e700390f % 16 by decide) (by show (2 : Nat) ≤ 2; decide) (fun _ => ⟨_, _, rfl, _, shp_at rw_21.1, Or.inr (show fb 0xa000000000000808220000e700390f >>> 68 = 10 by decide)⟩) (by omega) (by show 8 + (2 + 11) + 148 ≤ R.locals; omega) (by show (0 : Nat) ≤ 8; decide) (by show kc + 0 ≤ _; omega) (by show ks + 0 ≤ _; omega) (fun r9 hs_28 hpo hr9 => ?_) (fun x9 hs9 hx9 hpo => ?_)
                · obtain rfl : r9 = none := hr9.elim (fun q => q.2) (fun q => absurd rfl q.1)
                  obtain ⟨-, h_31, h_32, -, -, -, -, fr_29⟩ := hpo
                  have hM_30 := ModF.wa f_24 fr_29
                  have k_37 := h_31.kr (facA_den (ng_none hG0)).1
                  have k_38 := fun q9 => (h_32 q9).kr ((facA_den (ng_none hG0)).2 q9)
                  have rw_39 := rw_21.fr fr_29 WA_rw
                  have f_40 := f_22.fr (fun j9 _ => fr_29.2.2 125 j9 (by unfold WA; omega))
                  have f_41 := f_23.fr (fun j9 _ => fr_29.2.2 127 j9 (by unfold WA; omega))
                  have f_43 := rd_fr fr_29 f_25 (by unfold WA; omega)
                  have fr_44 := fr_26.tr (fr_29.mono (fun k9 j9 h9 => by unfold WA at h9; unfold WM; omega))
                  clear rw_21 f_22 f_23 f_24 f_25 fr_26
                  show WpN (gp g0 wp) CLS p l e R s m args below meth c Q D_283.2.2.1 kc0 ks0 57 [some (.ref 124), some (.int ai), some (.int bi), some (.int pi), none, none, none, none, none] (hs_28, kc, ks) []
                  refine g_constL act (gx gp_283 (w := 0x40000000000000002000000003a01) rfl (by decide) rfl) (n := 58) (x := 0) (by decide) rfl ?_
                  refine g_storeL act (gx gp_283 (w := 0x4003c0b) rfl (by decide) rfl) (a := 4) (n := 60) rfl rfl (L2 := [some (.ref 124), some (.int ai), some (.int bi), some (.int pi), some (.long (0 : Int64)), none, none, none, none]) rfl ?_
                  refine g_constL act (gx gp_283 (w := 0x40000000000000002000000003d01) rfl (by decide) rfl) (n := 61) (x := 0) (by decide) rfl ?_
                  refine g_storeL act (gx gp_283 (w := 0x6003f0b) rfl (by decide) rfl) (a := 6) (n := 63) rfl rfl (L2 := [some (.ref 124), some (.int ai), some (.int bi), some (.int pi), some (.long (0 : Int64)), none, some (.long (0 : Int64)), none, none]) rfl ?_
                  refine g_constI act (gx gp_283 (w := 0x40000000400000001000000004001) rfl (by decide) rfl) (n := 64) (x := (0 : Int32)) (by decide) rfl ?_
                  refine g_storeI act (gx gp_283 (w := 0x8004210) rfl (by decide) rfl) (a := 8) (n := 66) rfl rfl (L2 := [some (.ref 124), some (.int ai), some (.int bi), some (.int pi), some (.long (0 : Int64)), none, some (.long (0 : Int64)), none, some (.int (0 : Int32))]) rfl ?_
                  obtain ⟨j_45, hj_46⟩ := Int.eq_ofNat_of_zero_le (show (0 : Int) ≤ (Int32.toInt ai) by omega)
                  obtain ⟨j_47, hj_48⟩ := Int.eq_ofNat_of_zero_le (show (0 : Int) ≤ (Int32.toInt bi) by omega)
                  exact n_forget (d := D_283) (L2 := [some (.ref 124), some (.int ai), some (.int bi), some (.int pi), some (.long (0 : Int64)), none, some (.long (0 : Int64)), none, some (.int (0 : Int32))]) (fun i v hi => by
                    match i, hi with
                    | 0, hi => exact hi
                    | 1, hi => exact hi
                    | 2, hi => exact hi
                    | 3, hi => exact hi
                    | 4, hi => exact hi
                    | 5, hi => cases hi
                    | 6, hi => exact hi
                    | 7, hi => cases hi
                    | 8, hi => exact hi
                    | i + 9, hi => cases hi) (tr_1 hNW (a9 := j_45) (b9 := j_47) ((rfl : Int32.toInt ai = _).trans hj_46) ((rfl : Int32.toInt bi = _).trans hj_48) (by omega) (by omega) (by omega) hf hl hc hsl act hEnd (by omega) (by omega) 0 (by omega) _ _ _ _ rfl (Or.inr ⟨rfl, fun l7 q7 => absurd q7 (by omega)⟩) rw_39 f_40 f_41 h_31 hM_30 fr_44)
                · exact absurd hpo.1 (by omega)
              · simp only [i_eq, i0] at h24
                refine g_constI act (gx gp_283 (w := 0x40000001400000011000000002401) rfl (by decide) rfl) (n := 36) (x := (2 : Int32)) (by decide) rfl ?_
                refine g_goto act (gx gp_283 (w := 0x2807) rfl (by decide) rfl) (n := 40) rfl ?_
                refine r_putf act (gx gp_283 (w := 0x9002b13) rfl (by decide) rfl) (n := 43) (ci := 9) (j := 0) (N := 39) rfl rfl rfl rw0.1 (by decide) (Or.inl ⟨rfl, _, rfl⟩) ?_
                have rw_49 := RW.wr (k := 124) (j := 0) (v := .int (2 : Int32)) rw0 (Or.inr (by decide))
                have f_50 := hTo.ne (k := 124) (j := 0) (v := .int (2 : Int32)) (by decide)
                have f_51 := hW.ne (k := 124) (j := 0) (v := .int (2 : Int32)) (by decide)
                have f_52 := hM.wr0 (x := (2 : Int32)) rw0.1 (by decide) (by decide)
                have f_53 := rd_same (j := 0) (v := .int (2 : Int32)) rw0.1
                have fr_54 := (FrS.rf WM hs).wr (k := 124) (j := 0) (.int (2 : Int32)) (by unfold WM; omega)
                generalize (wr hs 124 0 (.int (2 : Int32))) = hs_55 at *
                refine g_loadA act (gx gp_283 (w := 0x2c03) rfl (by decide) rfl) (a := 0) (n := 44) rfl rfl rfl ?_
                refine r_getf act (gx gp_283 (w := 0x9002f04) rfl (by decide) rfl) (n := 47) (ci := 9) (j := 0) (N := 39) rfl rfl rfl rw_49.1 (by decide) (v := .int (2 : Int32)) f_53 ?_
                refine g_ifLe act (gx gp_283 (w := 0x3400323d) rfl (by decide) rfl) (tgt := 52) (n := 50) rfl rfl (fun q => absurd q (by decide)) (fun _ => ?_)
                refine g_constL act (gx gp_283 (w := 0x40000000000000002000000003301) rfl (by decide) rfl) (n := 51) (x := 0) (by decide) rfl ?_
                exact g_retL hEnd (gx gp_283 (w := 0x19) rfl (by decide) rfl) ⟨rfl, ⟨_, rfl⟩, f_52, fr_54⟩ (by show kc ≤ kc + 0; omega) (by show ks ≤ ks + 0; omega)
            · exact absurd hpo.1 (by omega)
        · simp only [i_eq, i0] at h12
          refine g_constI act (gx gp_283 (w := 0x40000000c00000009000000001201) rfl (by decide) rfl) (n := 18) (x := (1 : Int32)) (by decide) rfl ?_
          refine g_goto act (gx gp_283 (w := 0x2807) rfl (by decide) rfl) (n := 40) rfl ?_
          refine r_putf act (gx gp_283 (w := 0x9002b13) rfl (by decide) rfl) (n := 43) (ci := 9) (j := 0) (N := 39) rfl rfl rfl rw0.1 (by decide) (Or.inl ⟨rfl, _, rfl⟩) ?_
          have rw_56 := RW.wr (k := 124) (j := 0) (v := .int (1 : Int32)) rw0 (Or.inr (by decide))
          have f_57 := hTo.ne (k := 124) (j := 0) (v := .int (1 : Int32)) (by decide)
          have f_58 := hW.ne (k := 124) (j := 0) (v := .int (1 : Int32)) (by decide)
          have f_59 := hM.wr0 (x := (1 : Int32)) rw0.1 (by decide) (by decide)
          have f_60 := rd_same (j := 0) (v := .int (1 : Int32)) rw0.1
          have fr_61 := (FrS.rf WM hs).wr (k := 124) (j := 0) (.int (1 : Int32)) (by unfold WM; omega)
          generalize (wr hs 124 0 (.int (1 : Int32))) = hs_62 at *
          refine g_loadA act (gx gp_283 (w := 0x2c03) rfl (by decide) rfl) (a := 0) (n := 44) rfl rfl rfl ?_
          refine r_getf act (gx gp_283 (w := 0x9002f04) rfl (by decide) rfl) (n := 47) (ci := 9) (j := 0) (N := 39) rfl rfl rfl rw_56.1 (by decide) (v := .int (1 : Int32)) f_60 ?_
          refine g_ifLe act (gx gp_283 (w := 0x3400323d) rfl (by decide) rfl) (tgt := 52) (n := 50) rfl rfl (fun q => absurd q (by decide)) (fun _ => ?_)
          refine g_constL act (gx gp_283 (w := 0x40000000000000002000000003301) rfl (by decide) rfl) (n := 51) (x := 0) (by decide) rfl ?_
          exact g_retL hEnd (gx gp_283 (w := 0x19) rfl (by decide) rfl) ⟨rfl, ⟨_, rfl⟩, f_59, fr_61⟩ (by show kc ≤ kc + 0; omega) (by show ks ≤ ks + 0; omega)
      · exact absurd hpo.1 (by omega)
  · exact absurd hpo.1 (by omega)

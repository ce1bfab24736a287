/-! The reference: funds, paid. -/
def WFu (k j : Nat) : Prop := k = 124 ∧ (j = 7 ∨ j = 8 ∨ (35 ≤ j ∧ j ≤ 38))
theorem WFu_rw : ∀ q ∈ RWT, ¬ WFu 124 q.1 := by
  intro q hq
  have : q.1 ≠ 7 ∧ q.1 ≠ 8 ∧ q.1 ≠ 35 ∧ q.1 ≠ 36 ∧ q.1 ≠ 37 ∧ q.1 ≠ 38 := by revert q; decide
  unfold WFu
  omega
theorem den_k {t w : Int64} {q : Rat} {L s : Nat} {N : Int} (h : FR t w q) (hL : 0 < L) (e : (L : Rat) * q = (N : Rat)) (hl : ¬ 2 ^ (s + 1) ∣ L) : K2 (s + 1) w := K2.den h (fun z => by
  obtain ⟨u, hu0, hu, eN⟩ := num_of hL e
  exact hl (Nat.dvd_trans z ⟨u, hu⟩))
theorem zero_fr {t w : Int64} {q : Rat} (h : FR t w q) (z : t.toInt = 0) : t = 0 ∧ w = 1 := by
  have e := h.z.mp z
  refine ⟨Int64.toInt_inj.mp (z.trans (by decide)), Int64.toInt_inj.mp ?_⟩
  rw [h.2, e]
  rfl
theorem K2.min {b : Nat} {x : Int64} (h : K2 b x) (hb : b ≤ 63) : -9223372036854775808 < x.toInt := by
  have h1 := Int64.le_toInt x
  by_cases q : x.toInt = -9223372036854775808
  · exact absurd (by rw [q]; exact Nat.pow_dvd_pow 2 hb) h
  · have : Int64.minValue.toInt = -9223372036854775808 := by decide
    omega
/-- n / d of the first sum -/
def NDF (t9 : Nat) (n d : Int64) : Prop := (n = 0 ∧ d = 1) ∨ (K2 (50 - t9) n ∧ K2 64 d)
theorem ndf_of {n d : Int64} {q : Rat} {L t : Nat} {N : Int} (h : FR n d q) (hL : 0 < L) (e : (L : Rat) * q = (N : Rat)) (h0 : 0 ≤ N) (h1 : N ≤ 6 * 148500000000000) (ht : 2 ^ t ∣ L) (ht6 : t ≤ 6) : NDF t n d := by
  by_cases z : n.toInt = 0
  · exact Or.inl (zero_fr h z)
  · exact Or.inr ⟨n_k h hL e z (by omega) ht ht6, K2.any (by have := h.pos; omega)⟩
theorem b_lessF {g0 : GG} {bl : Nat} {xs : Nat → Int32} {l : Launch} {hs : List CE} {t9 : Nat} {a b c1 d : Int64} (h : NDF t9 c1 d) (ha0 : 0 ≤ a.toInt) (hb : -9223372036854775808 < b.toInt) : BodyN SSX TBL g0 CLS bl xs l D_225 1 29 0 0 [.long a, .long b, .long c1, .long d] hs (fun kd r h2 => kd = 0 ∧ hs = h2 ∧ (r = some (.int 0) ∨ (r = some (.int 1) ∧ K2 (50 - t9) c1))) := by
  rcases h with ⟨h1, h2⟩ | ⟨h1, h2⟩
  · exact (b_less0 ha0 hb h1 h2).mono (fun kd r h2 q => ⟨q.1, q.2.1, Or.inl q.2.2⟩)
  · exact (b_lessK h2).mono (fun kd r h2 q => ⟨q.1, q.2.1, q.2.2.imp id (fun z => ⟨z, h1⟩)⟩)
theorem z01_p {r : Option Value} {P : Prop} (h : r = some (.int 0) ∨ (r = some (.int 1) ∧ P)) : ∃ x : Int32, r = some (.int x) ∧ (x.toInt = 0 ∨ (x.toInt = 1 ∧ P)) := h.elim (fun q => ⟨0, q, Or.inl (by decide)⟩) (fun q => ⟨1, q.1, Or.inr ⟨by decide, q.2⟩⟩)
def PFu (hs : List CE) (t9 : Nat) : Nat → Option Value → List CE → Prop := fun kd _ h2 => kd = 0 ∧ (∃ x y : Int64, rd h2 124 37 = .long x ∧ rd h2 124 38 = .long y ∧ K2 (62 - t9) y) ∧ ModF h2 ∧ FrS WFu hs h2

theorem fu_2 {g0 : GG} {bl : Nat} {xs : Nat → Int32} {l : Launch} {wp : va_W} {p : Program} {e : Env} {R : Room} {s : State} {m : MethodId} {args : Array Value} {below : List Frame} {meth : Method} {c : Code} {Q : State → Prop} {kc0 ks0 kc ks f lam KC KS : Nat} {hs : List CE} {tl wl : Nat → Int} {nl n ng nr : Nat} (hNW : NW tl wl nl n ng nr) {dm : Nat → Int} (hdm : ∀ j, 0 ≤ dm j ∧ dm j ≤ 220) {t9 : Nat} {nv dv : Int64} (ht6 : t9 ≤ 6) (hnd : NDF t9 nv dv) (hf : 6 ≤ R.frames) (hl : 158 ≤ R.locals) (hc : kc ≤ R.cells + kc0) (hsl : ks ≤ R.slots + ks0) (act : Act SSX TBL (gp g0 wp) CLS bl xs D_212 p l s m args meth c) (hEnd : EndN SSX TBL (gp g0 wp) CLS D_212 p l e R s m args below meth c Q kc0 ks0 f lam KC KS (PFu hs t9)) (hk1 : kc ≤ KC) (hk2 : ks ≤ KS) : ∀ j9 : Nat, j9 ≤ nr → ∀ (xi : Int32) (s1 s2 : Int64) (hj : List CE), xi.toInt = (j9 : Int) → K2 13 s2 → RW hj → IArr hj 125 46 tl → IArr hj 127 39 wl → IArr hj 135 4 dm → KR hj 144 145 0 (n + 1) 7 → KR hj 142 143 0 5 7 → ModF hj → rd hj 124 35 = .long s1 → rd hj 124 36 = .long s2 → FrS WFu hs hj → WpN (gp g0 wp) CLS p l e R s m args below meth c Q D_212.2.2.1 kc0 ks0 71 [some (.ref 124), some (.long nv), none, some (.long dv), none, some (.int xi)] (hj, kc, ks) [] := by
  have hN9 := hNW
  obtain ⟨n0, n1, n2, n3, n4, n5, n6, n7, n8, hG0, nL, nC, nP, nD⟩ := hN9
  have hGn := hG0.1
  have hGn3 := hG0.2.1
  have hGl := hG0.2.2.1
  refine dn (fun j9 hj9 ih => ?_)
  intro xi s1 s2 hj hxi hks rwj fTo fW fD hP hO hM e35 e36 hfr
  have hr9 := n8 j9
  refine g_loadI act (gx gp_212 (w := 0x5004902) rfl (by decide) rfl) (a := 5) (n := 73) rfl rfl rfl ?_
  refine g_loadA act (gx gp_212 (w := 0x4a03) rfl (by decide) rfl) (a := 0) (n := 74) rfl rfl rfl ?_
  refine r_getf act (gx gp_212 (w := 0x3000049004d04) rfl (by decide) rfl) (n := 77) (ci := 9) (j := 1) (N := 39) rfl rfl rfl rwj.1 (by decide) (rwj.2 (1, 125, 32, 46) (by decide)).1 ?_
  refine g_constI act (gx gp_212 (w := 0x40000002400000021000000004e01) rfl (by decide) rfl) (n := 78) (x := (4 : Int32)) (by decide) rfl ?_
  obtain ⟨x_1, e_2, hx_3⟩ := fTo 4 (by omega)
  refine r_iald act (gx gp_212 (w := 0x4f1a) rfl (by decide) rfl) (n := 79) (j := 4) rfl (rwj.2 (1, 125, 32, 46) (by decide)).2 (show (4 : Int32).toInt = ((4 : Nat) : Int) from by decide) (show 4 < 46 by omega) (v := .int x_1) e_2 ?_
  refine g_icmpGe act (gx gp_212 (w := 0x7a005208) rfl (by decide) rfl) (tgt := 122) (n := 82) rfl rfl (fun h4 => ?_) (fun h4 => ?_)
  · simp only [i_le] at h4
    refine g_loadA act (gx gp_212 (w := 0x7b03) rfl (by decide) rfl) (a := 0) (n := 123) rfl rfl rfl ?_
    refine g_loadA act (gx gp_212 (w := 0x7c03) rfl (by decide) rfl) (a := 0) (n := 124) rfl rfl rfl ?_
    refine r_getf act (gx gp_212 (w := 0x20008c9007f04) rfl (by decide) rfl) (n := 127) (ci := 9) (j := 35) (N := 39) rfl rfl rfl rwj.1 (by decide) (v := .long s1) e35 ?_
    refine g_constL act (gx gp_212 (w := 0x40000000000000002000000008001) rfl (by decide) rfl) (n := 128) (x := 0) (by decide) rfl ?_
    refine g_lcmp act (gx gp_212 (w := 0x810c) rfl (by decide) rfl) (n := 129) rfl ?_
    refine g_ifGe act (gx gp_212 (w := 0x88008414) rfl (by decide) rfl) (tgt := 136) (n := 132) rfl rfl (fun h9 => ?_) (fun h9 => ?_)
    · simp only [cmpGe, show (0 : Int64).toInt = 0 from by decide] at h9
      refine g_loadA act (gx gp_212 (w := 0x8903) rfl (by decide) rfl) (a := 0) (n := 137) rfl rfl rfl ?_
      refine r_getf act (gx gp_212 (w := 0x20008c9008c04) rfl (by decide) rfl) (n := 140) (ci := 9) (j := 35) (N := 39) rfl rfl rfl rwj.1 (by decide) (v := .long s1) e35 ?_
      refine r_putf act (gx gp_212 (w := 0x20008c9008f13) rfl (by decide) rfl) (n := 143) (ci := 9) (j := 35) (N := 39) rfl rfl rfl rwj.1 (by decide) (Or.inr (Or.inr (Or.inl ⟨rfl, _, rfl⟩))) ?_
      have rw_4 := RW.wr (k := 124) (j := 35) (v := .long s1) rwj (Or.inr (by decide))
      have f_5 := fTo.ne (k := 124) (j := 35) (v := .long s1) (by decide)
      have f_6 := fW.ne (k := 124) (j := 35) (v := .long s1) (by decide)
      have f_7 := fD.ne (k := 124) (j := 35) (v := .long s1) (by decide)
      have f_8 := hP.ne (k := 124) (j := 35) (v := .long s1) (by decide) (by decide)
      have f_9 := hO.ne (k := 124) (j := 35) (v := .long s1) (by decide) (by decide)
      have f_10 := hM.wrL (x := s1) (i := 35) rwj.1 (by decide)
      have f_12 := (rd_ne hj (k := 124) (j := 35) (.long s1) (Or.inr (by decide))).trans e36
      have f_13 := rd_same (j := 35) (v := .long s1) rwj.1
      have fr_14 := hfr.wr (k := 124) (j := 35) (.long s1) (by unfold WFu; omega)
      clear rwj hfr fTo fW fD hP hO hM e35 e36
      generalize (wr hj 124 35 (.long s1)) = hs_15 at *
      refine g_loadA act (gx gp_212 (w := 0x9003) rfl (by decide) rfl) (a := 0) (n := 144) rfl rfl rfl ?_
      refine g_constL act (gx gp_212 (w := 0x4000000000000000a000000009101) rfl (by decide) rfl) (n := 145) (x := 1) (by decide) rfl ?_
      refine r_putf act (gx gp_212 (w := 0x2000949009413) rfl (by decide) rfl) (n := 148) (ci := 9) (j := 37) (N := 39) rfl rfl rfl rw_4.1 (by decide) (Or.inr (Or.inr (Or.inl ⟨rfl, _, rfl⟩))) ?_
      have rw_16 := RW.wr (k := 124) (j := 37) (v := .long (1 : Int64)) rw_4 (Or.inr (by decide))
      have f_17 := f_5.ne (k := 124) (j := 37) (v := .long (1 : Int64)) (by decide)
      have f_18 := f_6.ne (k := 124) (j := 37) (v := .long (1 : Int64)) (by decide)
      have f_19 := f_7.ne (k := 124) (j := 37) (v := .long (1 : Int64)) (by decide)
      have f_20 := f_8.ne (k := 124) (j := 37) (v := .long (1 : Int64)) (by decide) (by decide)
      have f_21 := f_9.ne (k := 124) (j := 37) (v := .long (1 : Int64)) (by decide) (by decide)
      have f_22 := f_10.wrL (x := (1 : Int64)) (i := 37) rw_4.1 (by decide)
      have f_23 := (rd_ne hs_15 (k := 124) (j := 37) (.long (1 : Int64)) (Or.inr (by decide))).trans f_12
      have f_24 := (rd_ne hs_15 (k := 124) (j := 37) (.long (1 : Int64)) (Or.inr (by decide))).trans f_13
      have f_25 := rd_same (j := 37) (v := .long (1 : Int64)) rw_4.1
      have fr_26 := fr_14.wr (k := 124) (j := 37) (.long (1 : Int64)) (by unfold WFu; omega)
      clear rw_4 fr_14 f_5 f_6 f_7 f_8 f_9 f_10 f_12 f_13
      generalize (wr hs_15 124 37 (.long (1 : Int64))) = hs_27 at *
      refine g_loadA act (gx gp_212 (w := 0x9503) rfl (by decide) rfl) (a := 0) (n := 149) rfl rfl rfl ?_
      refine g_constL act (gx gp_212 (w := 0x4000000000000000a000000009601) rfl (by decide) rfl) (n := 150) (x := 1) (by decide) rfl ?_
      refine r_putf act (gx gp_212 (w := 0x2000989009913) rfl (by decide) rfl) (n := 153) (ci := 9) (j := 38) (N := 39) rfl rfl rfl rw_16.1 (by decide) (Or.inr (Or.inr (Or.inl ⟨rfl, _, rfl⟩))) ?_
      have rw_28 := RW.wr (k := 124) (j := 38) (v := .long (1 : Int64)) rw_16 (Or.inr (by decide))
      have f_29 := f_17.ne (k := 124) (j := 38) (v := .long (1 : Int64)) (by decide)
      have f_30 := f_18.ne (k := 124) (j := 38) (v := .long (1 : Int64)) (by decide)
      have f_31 := f_19.ne (k := 124) (j := 38) (v := .long (1 : Int64)) (by decide)
      have f_32 := f_20.ne (k := 124) (j := 38) (v := .long (1 : Int64)) (by decide) (by decide)
      have f_33 := f_21.ne (k := 124) (j := 38) (v := .long (1 : Int64)) (by decide) (by decide)
      have f_34 := f_22.wrL (x := (1 : Int64)) (i := 38) rw_16.1 (by decide)
      have f_35 := (rd_ne hs_27 (k := 124) (j := 38) (.long (1 : Int64)) (Or.inr (by decide))).trans f_23
      have f_36 := (rd_ne hs_27 (k := 124) (j := 38) (.long (1 : Int64)) (Or.inr (by decide))).trans f_24
      have f_37 := (rd_ne hs_27 (k := 124) (j := 38) (.long (1 : Int64)) (Or.inr (by decide))).trans f_25
      have f_38 := rd_same (j := 38) (v := .long (1 : Int64)) rw_16.1
      have fr_39 := fr_26.wr (k := 124) (j := 38) (.long (1 : Int64)) (by unfold WFu; omega)
      clear rw_16 fr_26 f_17 f_18 f_19 f_20 f_21 f_22 f_23 f_24 f_25
      generalize (wr hs_27 124 38 (.long (1 : Int64))) = hs_40 at *
      refine g_loadA act (gx gp_212 (w := 0x9a03) rfl (by decide) rfl) (a := 0) (n := 154) rfl rfl rfl ?_
      refine r_getf act (gx gp_212 (w := 0x20008c9009d04) rfl (by decide) rfl) (n := 157) (ci := 9) (j := 35) (N := 39) rfl rfl rfl rw_28.1 (by decide) (v := .long s1) f_36 ?_
      refine g_loadA act (gx gp_212 (w := 0x9e03) rfl (by decide) rfl) (a := 0) (n := 158) rfl rfl rfl ?_
      refine r_getf act (gx gp_212 (w := 0x200090900a104) rfl (by decide) rfl) (n := 161) (ci := 9) (j := 36) (N := 39) rfl rfl rfl rw_28.1 (by decide) (v := .long s2) f_35 ?_
      refine g_loadL act (gx gp_212 (w := 0x100a206) rfl (by decide) rfl) (a := 1) (n := 162) rfl rfl rfl ?_
      refine g_loadL act (gx gp_212 (w := 0x300a306) rfl (by decide) rfl) (a := 3) (n := 163) rfl rfl rfl ?_
      refine n_call tb_pres act hEnd (gx (P := G_call) gp_212 (w := 0x428840000e100a60f) rfl (by decide) rfl) (d' := D_225) rfl (as := [.long s1, .long s2, .long nv, .long dv]) (rest := []) (b_lessF (t9 := t9) hnd (by omega) (K2.min hks (by decide))) (show (4 : Nat) = fb 0x428840000e100a60f % 16 by decide) (by show (8 : Nat) ≤ 10; decide) (fun q => absurd q (by decide)) (by omega) (by show 8 + (10 + 11) + 29 ≤ R.locals; omega) (by show (0 : Nat) ≤ 8; decide) (by show kc + 0 ≤ _; omega) (by show ks + 0 ≤ _; omega) (fun r9 h3 hpo hr9 => ?_) (fun x9 hs9 hx9 hpo => ?_)
      · obtain ⟨-, rfl, hr_42⟩ := hpo
        obtain ⟨rv_41, rfl, hr_42o⟩ := z01_p hr_42
        show WpN (gp g0 wp) CLS p l e R s m args below meth c Q D_212.2.2.1 kc0 ks0 166 [some (.ref 124), some (.long nv), none, some (.long dv), none, some (.int xi)] (hs_40, kc, ks) [.int rv_41]
        refine g_ifEq act (gx gp_212 (w := 0xc700a90e) rfl (by decide) rfl) (tgt := 199) (n := 169) rfl rfl (fun h19 => ?_) (fun h19 => ?_)
        · simp only [i_eq, i0] at h19
          exact g_retV hEnd (gx gp_212 (w := 0x18) rfl (by decide) rfl) ⟨rfl, ⟨_, _, f_37, f_38, k2_one.mono (by omega)⟩, f_34, fr_39⟩ hk1 hk2
        · simp only [i_eq, i0] at h19
          refine g_loadA act (gx gp_212 (w := 0xaa03) rfl (by decide) rfl) (a := 0) (n := 170) rfl rfl rfl ?_
          refine g_loadA act (gx gp_212 (w := 0xab03) rfl (by decide) rfl) (a := 0) (n := 171) rfl rfl rfl ?_
          refine r_getf act (gx gp_212 (w := 0x20008c900ae04) rfl (by decide) rfl) (n := 174) (ci := 9) (j := 35) (N := 39) rfl rfl rfl rw_28.1 (by decide) (v := .long s1) f_36 ?_
          refine g_loadA act (gx gp_212 (w := 0xaf03) rfl (by decide) rfl) (a := 0) (n := 175) rfl rfl rfl ?_
          refine r_getf act (gx gp_212 (w := 0x200090900b204) rfl (by decide) rfl) (n := 178) (ci := 9) (j := 36) (N := 39) rfl rfl rfl rw_28.1 (by decide) (v := .long s2) f_35 ?_
          refine g_loadL act (gx gp_212 (w := 0x300b306) rfl (by decide) rfl) (a := 3) (n := 179) rfl rfl rfl ?_
          refine g_loadL act (gx gp_212 (w := 0x100b406) rfl (by decide) rfl) (a := 1) (n := 180) rfl rfl rfl ?_
          have hPB := (hr_42o.resolve_left (by omega)).2
          refine n_call tb_pres act hEnd (gx (P := G_call) gp_212 (w := 0xa0000000000008349500011a00b70f) rfl (by decide) rfl) (d' := D_282) rfl (as := [.ref 124, .long s1, .long s2, .long dv, .long nv]) (rest := []) (b_timesK (k1 := 13) (k2 := 50 - t9) rw_28.1 hks hPB (by omega)) (show (5 : Nat) = fb 0xa0000000000008349500011a00b70f % 16 by decide) (by show (9 : Nat) ≤ 13; decide) (fun _ => ⟨_, _, rfl, _, shp_at rw_28.1, Or.inr (show fb 0xa0000000000008349500011a00b70f >>> 68 = 10 by decide)⟩) (by omega) (by show 8 + (13 + 11) + 55 ≤ R.locals; omega) (by show (0 : Nat) ≤ 8; decide) (by show kc + 0 ≤ _; omega) (by show ks + 0 ≤ _; omega) (fun r9 hs_43 hpo hr9 => ?_) (fun x9 hs9 hx9 hpo => ?_)
          · obtain rfl : r9 = none := hr9.elim (fun q => q.2) (fun q => absurd rfl q.1)
            obtain ⟨-, t_44, w_45, e_46, e_47, hK_48, fr_49⟩ := hpo
            have hM_50 := ModF.w0 f_34 fr_49
            have rw_51 := rw_28.fr fr_49 W0_rw
            have f_52 := f_29.fr (fun j9 _ => fr_49.2.2 125 j9 (by unfold W0; omega))
            have f_53 := f_30.fr (fun j9 _ => fr_49.2.2 127 j9 (by unfold W0; omega))
            have f_54 := f_31.fr (fun j9 _ => fr_49.2.2 135 j9 (by unfold W0; omega))
            have f_55 := f_32.fr (fun j9 _ _ => ⟨fr_49.2.2 144 j9 (by unfold W0; omega), fr_49.2.2 145 j9 (by unfold W0; omega)⟩)
            have f_56 := f_33.fr (fun j9 _ _ => ⟨fr_49.2.2 142 j9 (by unfold W0; omega), fr_49.2.2 143 j9 (by unfold W0; omega)⟩)
            have f_58 := rd_fr fr_49 f_35 (by unfold W0; omega)
            have f_59 := rd_fr fr_49 f_36 (by unfold W0; omega)
            have f_60 := rd_fr fr_49 f_37 (by unfold W0; omega)
            have f_61 := rd_fr fr_49 f_38 (by unfold W0; omega)
            have fr_62 := fr_39.tr (fr_49.mono (fun k9 j9 h9 => by unfold W0 at h9; unfold WFu; omega))
            clear rw_28 f_29 f_30 f_31 f_32 f_33 f_34 f_35 f_36 f_37 f_38 fr_39
            show WpN (gp g0 wp) CLS p l e R s m args below meth c Q D_212.2.2.1 kc0 ks0 183 [some (.ref 124), some (.long nv), none, some (.long dv), none, some (.int xi)] (hs_43, kc, ks) []
            refine g_loadA act (gx gp_212 (w := 0xb803) rfl (by decide) rfl) (a := 0) (n := 184) rfl rfl rfl ?_
            refine g_loadA act (gx gp_212 (w := 0xb903) rfl (by decide) rfl) (a := 0) (n := 185) rfl rfl rfl ?_
            refine r_getf act (gx gp_212 (w := 0x20001c900bc04) rfl (by decide) rfl) (n := 188) (ci := 9) (j := 7) (N := 39) rfl rfl rfl rw_51.1 (by decide) (v := .long t_44) e_46 ?_
            refine r_putf act (gx gp_212 (w := 0x200094900bf13) rfl (by decide) rfl) (n := 191) (ci := 9) (j := 37) (N := 39) rfl rfl rfl rw_51.1 (by decide) (Or.inr (Or.inr (Or.inl ⟨rfl, _, rfl⟩))) ?_
            have rw_63 := RW.wr (k := 124) (j := 37) (v := .long t_44) rw_51 (Or.inr (by decide))
            have f_64 := f_52.ne (k := 124) (j := 37) (v := .long t_44) (by decide)
            have f_65 := f_53.ne (k := 124) (j := 37) (v := .long t_44) (by decide)
            have f_66 := f_54.ne (k := 124) (j := 37) (v := .long t_44) (by decide)
            have f_67 := f_55.ne (k := 124) (j := 37) (v := .long t_44) (by decide) (by decide)
            have f_68 := f_56.ne (k := 124) (j := 37) (v := .long t_44) (by decide) (by decide)
            have f_69 := (rd_ne hs_43 (k := 124) (j := 37) (.long t_44) (Or.inr (by decide))).trans f_58
            have f_70 := (rd_ne hs_43 (k := 124) (j := 37) (.long t_44) (Or.inr (by decide))).trans f_59
            have f_72 := (rd_ne hs_43 (k := 124) (j := 37) (.long t_44) (Or.inr (by decide))).trans f_61
            have f_73 := hM_50.wrL (x := t_44) (i := 37) rw_51.1 (by decide)
            have f_74 := (rd_ne hs_43 (k := 124) (j := 37) (.long t_44) (Or.inr (by decide))).trans e_46
            have f_75 := (rd_ne hs_43 (k := 124) (j := 37) (.long t_44) (Or.inr (by decide))).trans e_47
            have f_76 := rd_same (j := 37) (v := .long t_44) rw_51.1
            have fr_77 := fr_62.wr (k := 124) (j := 37) (.long t_44) (by unfold WFu; omega)
            clear rw_51 fr_62 f_52 f_53 f_54 f_55 f_56 f_58 f_59 f_60 f_61 hM_50 e_46 e_47
            generalize (wr hs_43 124 37 (.long t_44)) = hs_78 at *
            refine g_loadA act (gx gp_212 (w := 0xc003) rfl (by decide) rfl) (a := 0) (n := 192) rfl rfl rfl ?_
            refine g_loadA act (gx gp_212 (w := 0xc103) rfl (by decide) rfl) (a := 0) (n := 193) rfl rfl rfl ?_
            refine r_getf act (gx gp_212 (w := 0x200020900c404) rfl (by decide) rfl) (n := 196) (ci := 9) (j := 8) (N := 39) rfl rfl rfl rw_63.1 (by decide) (v := .long w_45) f_75 ?_
            refine r_putf act (gx gp_212 (w := 0x200098900c713) rfl (by decide) rfl) (n := 199) (ci := 9) (j := 38) (N := 39) rfl rfl rfl rw_63.1 (by decide) (Or.inr (Or.inr (Or.inl ⟨rfl, _, rfl⟩))) ?_
            have rw_79 := RW.wr (k := 124) (j := 38) (v := .long w_45) rw_63 (Or.inr (by decide))
            have f_80 := f_64.ne (k := 124) (j := 38) (v := .long w_45) (by decide)
            have f_81 := f_65.ne (k := 124) (j := 38) (v := .long w_45) (by decide)
            have f_82 := f_66.ne (k := 124) (j := 38) (v := .long w_45) (by decide)
            have f_83 := f_67.ne (k := 124) (j := 38) (v := .long w_45) (by decide) (by decide)
            have f_84 := f_68.ne (k := 124) (j := 38) (v := .long w_45) (by decide) (by decide)
            have f_85 := (rd_ne hs_78 (k := 124) (j := 38) (.long w_45) (Or.inr (by decide))).trans f_69
            have f_86 := (rd_ne hs_78 (k := 124) (j := 38) (.long w_45) (Or.inr (by decide))).trans f_70
            have f_88 := f_73.wrL (x := w_45) (i := 38) rw_63.1 (by decide)
            have f_89 := (rd_ne hs_78 (k := 124) (j := 38) (.long w_45) (Or.inr (by decide))).trans f_74
            have f_90 := (rd_ne hs_78 (k := 124) (j := 38) (.long w_45) (Or.inr (by decide))).trans f_75
            have f_91 := (rd_ne hs_78 (k := 124) (j := 38) (.long w_45) (Or.inr (by decide))).trans f_76
            have f_92 := rd_same (j := 38) (v := .long w_45) rw_63.1
            have fr_93 := fr_77.wr (k := 124) (j := 38) (.long w_45) (by unfold WFu; omega)
            clear rw_63 fr_77 f_64 f_65 f_66 f_67 f_68 f_69 f_70 f_72 f_73 f_74 f_75 f_76
            generalize (wr hs_78 124 38 (.long w_45)) = hs_94 at *
            exact g_retV hEnd (gx gp_212 (w := 0x18) rfl (by decide) rfl) ⟨rfl, ⟨_, _, f_91, f_92, hK_48.mono (by omega)⟩, f_88, fr_93⟩ hk1 hk2
          · exact absurd hpo.1 (by omega)
      · exact absurd hpo.1 (by omega)
    · simp only [cmpGe, show (0 : Int64).toInt = 0 from by decide] at h9
      refine g_constL act (gx gp_212 (w := 0x40000000000000002000000008501) rfl (by decide) rfl) (n := 133) (x := 0) (by decide) rfl ?_
      refine g_goto act (gx gp_212 (w := 0x8c07) rfl (by decide) rfl) (n := 140) rfl ?_
      refine r_putf act (gx gp_212 (w := 0x20008c9008f13) rfl (by decide) rfl) (n := 143) (ci := 9) (j := 35) (N := 39) rfl rfl rfl rwj.1 (by decide) (Or.inr (Or.inr (Or.inl ⟨rfl, _, rfl⟩))) ?_
      have rw_95 := RW.wr (k := 124) (j := 35) (v := .long (0 : Int64)) rwj (Or.inr (by decide))
      have f_96 := fTo.ne (k := 124) (j := 35) (v := .long (0 : Int64)) (by decide)
      have f_97 := fW.ne (k := 124) (j := 35) (v := .long (0 : Int64)) (by decide)
      have f_98 := fD.ne (k := 124) (j := 35) (v := .long (0 : Int64)) (by decide)
      have f_99 := hP.ne (k := 124) (j := 35) (v := .long (0 : Int64)) (by decide) (by decide)
      have f_100 := hO.ne (k := 124) (j := 35) (v := .long (0 : Int64)) (by decide) (by decide)
      have f_101 := hM.wrL (x := (0 : Int64)) (i := 35) rwj.1 (by decide)
      have f_103 := (rd_ne hj (k := 124) (j := 35) (.long (0 : Int64)) (Or.inr (by decide))).trans e36
      have f_104 := rd_same (j := 35) (v := .long (0 : Int64)) rwj.1
      have fr_105 := hfr.wr (k := 124) (j := 35) (.long (0 : Int64)) (by unfold WFu; omega)
      clear rwj hfr fTo fW fD hP hO hM e35 e36
      generalize (wr hj 124 35 (.long (0 : Int64))) = hs_106 at *
      refine g_loadA act (gx gp_212 (w := 0x9003) rfl (by decide) rfl) (a := 0) (n := 144) rfl rfl rfl ?_
      refine g_constL act (gx gp_212 (w := 0x4000000000000000a000000009101) rfl (by decide) rfl) (n := 145) (x := 1) (by decide) rfl ?_
      refine r_putf act (gx gp_212 (w := 0x2000949009413) rfl (by decide) rfl) (n := 148) (ci := 9) (j := 37) (N := 39) rfl rfl rfl rw_95.1 (by decide) (Or.inr (Or.inr (Or.inl ⟨rfl, _, rfl⟩))) ?_
      have rw_107 := RW.wr (k := 124) (j := 37) (v := .long (1 : Int64)) rw_95 (Or.inr (by decide))
      have f_108 := f_96.ne (k := 124) (j := 37) (v := .long (1 : Int64)) (by decide)
      have f_109 := f_97.ne (k := 124) (j := 37) (v := .long (1 : Int64)) (by decide)
      have f_110 := f_98.ne (k := 124) (j := 37) (v := .long (1 : Int64)) (by decide)
      have f_111 := f_99.ne (k := 124) (j := 37) (v := .long (1 : Int64)) (by decide) (by decide)
      have f_112 := f_100.ne (k := 124) (j := 37) (v := .long (1 : Int64)) (by decide) (by decide)
      have f_113 := f_101.wrL (x := (1 : Int64)) (i := 37) rw_95.1 (by decide)
      have f_114 := (rd_ne hs_106 (k := 124) (j := 37) (.long (1 : Int64)) (Or.inr (by decide))).trans f_103
      have f_115 := (rd_ne hs_106 (k := 124) (j := 37) (.long (1 : Int64)) (Or.inr (by decide))).trans f_104
      have f_116 := rd_same (j := 37) (v := .long (1 : Int64)) rw_95.1
      have fr_117 := fr_105.wr (k := 124) (j := 37) (.long (1 : Int64)) (by unfold WFu; omega)
      clear rw_95 fr_105 f_96 f_97 f_98 f_99 f_100 f_101 f_103 f_104
      generalize (wr hs_106 124 37 (.long (1 : Int64))) = hs_118 at *
      refine g_loadA act (gx gp_212 (w := 0x9503) rfl (by decide) rfl) (a := 0) (n := 149) rfl rfl rfl ?_
      refine g_constL act (gx gp_212 (w := 0x4000000000000000a000000009601) rfl (by decide) rfl) (n := 150) (x := 1) (by decide) rfl ?_
      refine r_putf act (gx gp_212 (w := 0x2000989009913) rfl (by decide) rfl) (n := 153) (ci := 9) (j := 38) (N := 39) rfl rfl rfl rw_107.1 (by decide) (Or.inr (Or.inr (Or.inl ⟨rfl, _, rfl⟩))) ?_
      have rw_119 := RW.wr (k := 124) (j := 38) (v := .long (1 : Int64)) rw_107 (Or.inr (by decide))
      have f_120 := f_108.ne (k := 124) (j := 38) (v := .long (1 : Int64)) (by decide)
      have f_121 := f_109.ne (k := 124) (j := 38) (v := .long (1 : Int64)) (by decide)
      have f_122 := f_110.ne (k := 124) (j := 38) (v := .long (1 : Int64)) (by decide)
      have f_123 := f_111.ne (k := 124) (j := 38) (v := .long (1 : Int64)) (by decide) (by decide)
      have f_124 := f_112.ne (k := 124) (j := 38) (v := .long (1 : Int64)) (by decide) (by decide)
      have f_125 := f_113.wrL (x := (1 : Int64)) (i := 38) rw_107.1 (by decide)
      have f_126 := (rd_ne hs_118 (k := 124) (j := 38) (.long (1 : Int64)) (Or.inr (by decide))).trans f_114
      have f_127 := (rd_ne hs_118 (k := 124) (j := 38) (.long (1 : Int64)) (Or.inr (by decide))).trans f_115
      have f_128 := (rd_ne hs_118 (k := 124) (j := 38) (.long (1 : Int64)) (Or.inr (by decide))).trans f_116
      have f_129 := rd_same (j := 38) (v := .long (1 : Int64)) rw_107.1
      have fr_130 := fr_117.wr (k := 124) (j := 38) (.long (1 : Int64)) (by unfold WFu; omega)
      clear rw_107 fr_117 f_108 f_109 f_110 f_111 f_112 f_113 f_114 f_115 f_116
      generalize (wr hs_118 124 38 (.long (1 : Int64))) = hs_131 at *
      refine g_loadA act (gx gp_212 (w := 0x9a03) rfl (by decide) rfl) (a := 0) (n := 154) rfl rfl rfl ?_
      refine r_getf act (gx gp_212 (w := 0x20008c9009d04) rfl (by decide) rfl) (n := 157) (ci := 9) (j := 35) (N := 39) rfl rfl rfl rw_119.1 (by decide) (v := .long (0 : Int64)) f_127 ?_
      refine g_loadA act (gx gp_212 (w := 0x9e03) rfl (by decide) rfl) (a := 0) (n := 158) rfl rfl rfl ?_
      refine r_getf act (gx gp_212 (w := 0x200090900a104) rfl (by decide) rfl) (n := 161) (ci := 9) (j := 36) (N := 39) rfl rfl rfl rw_119.1 (by decide) (v := .long s2) f_126 ?_
      refine g_loadL act (gx gp_212 (w := 0x100a206) rfl (by decide) rfl) (a := 1) (n := 162) rfl rfl rfl ?_
      refine g_loadL act (gx gp_212 (w := 0x300a306) rfl (by decide) rfl) (a := 3) (n := 163) rfl rfl rfl ?_
      refine n_call tb_pres act hEnd (gx (P := G_call) gp_212 (w := 0x428840000e100a60f) rfl (by decide) rfl) (d' := D_225) rfl (as := [.long (0 : Int64), .long s2, .long nv, .long dv]) (rest := []) (b_lessF (t9 := t9) hnd (by decide) (K2.min hks (by decide))) (show (4 : Nat) = fb 0x428840000e100a60f % 16 by decide) (by show (8 : Nat) ≤ 10; decide) (fun q => absurd q (by decide)) (by omega) (by show 8 + (10 + 11) + 29 ≤ R.locals; omega) (by show (0 : Nat) ≤ 8; decide) (by show kc + 0 ≤ _; omega) (by show ks + 0 ≤ _; omega) (fun r9 h3 hpo hr9 => ?_) (fun x9 hs9 hx9 hpo => ?_)
      · obtain ⟨-, rfl, hr_133⟩ := hpo
        obtain ⟨rv_132, rfl, hr_133o⟩ := z01_p hr_133
        show WpN (gp g0 wp) CLS p l e R s m args below meth c Q D_212.2.2.1 kc0 ks0 166 [some (.ref 124), some (.long nv), none, some (.long dv), none, some (.int xi)] (hs_131, kc, ks) [.int rv_132]
        refine g_ifEq act (gx gp_212 (w := 0xc700a90e) rfl (by decide) rfl) (tgt := 199) (n := 169) rfl rfl (fun h39 => ?_) (fun h39 => ?_)
        · simp only [i_eq, i0] at h39
          exact g_retV hEnd (gx gp_212 (w := 0x18) rfl (by decide) rfl) ⟨rfl, ⟨_, _, f_128, f_129, k2_one.mono (by omega)⟩, f_125, fr_130⟩ hk1 hk2
        · simp only [i_eq, i0] at h39
          refine g_loadA act (gx gp_212 (w := 0xaa03) rfl (by decide) rfl) (a := 0) (n := 170) rfl rfl rfl ?_
          refine g_loadA act (gx gp_212 (w := 0xab03) rfl (by decide) rfl) (a := 0) (n := 171) rfl rfl rfl ?_
          refine r_getf act (gx gp_212 (w := 0x20008c900ae04) rfl (by decide) rfl) (n := 174) (ci := 9) (j := 35) (N := 39) rfl rfl rfl rw_119.1 (by decide) (v := .long (0 : Int64)) f_127 ?_
          refine g_loadA act (gx gp_212 (w := 0xaf03) rfl (by decide) rfl) (a := 0) (n := 175) rfl rfl rfl ?_
          refine r_getf act (gx gp_212 (w := 0x200090900b204) rfl (by decide) rfl) (n := 178) (ci := 9) (j := 36) (N := 39) rfl rfl rfl rw_119.1 (by decide) (v := .long s2) f_126 ?_
          refine g_loadL act (gx gp_212 (w := 0x300b306) rfl (by decide) rfl) (a := 3) (n := 179) rfl rfl rfl ?_
          refine g_loadL act (gx gp_212 (w := 0x100b406) rfl (by decide) rfl) (a := 1) (n := 180) rfl rfl rfl ?_
          have hPB := (hr_133o.resolve_left (by omega)).2
          refine n_call tb_pres act hEnd (gx (P := G_call) gp_212 (w := 0xa0000000000008349500011a00b70f) rfl (by decide) rfl) (d' := D_282) rfl (as := [.ref 124, .long (0 : Int64), .long s2, .long dv, .long nv]) (rest := []) (b_timesK (k1 := 13) (k2 := 50 - t9) rw_119.1 hks hPB (by omega)) (show (5 : Nat) = fb 0xa0000000000008349500011a00b70f % 16 by decide) (by show (9 : Nat) ≤ 13; decide) (fun _ => ⟨_, _, rfl, _, shp_at rw_119.1, Or.inr (show fb 0xa0000000000008349500011a00b70f >>> 68 = 10 by decide)⟩) (by omega) (by show 8 + (13 + 11) + 55 ≤ R.locals; omega) (by show (0 : Nat) ≤ 8; decide) (by show kc + 0 ≤ _; omega) (by show ks + 0 ≤ _; omega) (fun r9 hs_134 hpo hr9 => ?_) (fun x9 hs9 hx9 hpo => ?_)
          · obtain rfl : r9 = none := hr9.elim (fun q => q.2) (fun q => absurd rfl q.1)
            obtain ⟨-, t_135, w_136, e_137, e_138, hK_139, fr_140⟩ := hpo
            have hM_141 := ModF.w0 f_125 fr_140
            have rw_142 := rw_119.fr fr_140 W0_rw
            have f_143 := f_120.fr (fun j9 _ => fr_140.2.2 125 j9 (by unfold W0; omega))
            have f_144 := f_121.fr (fun j9 _ => fr_140.2.2 127 j9 (by unfold W0; omega))
            have f_145 := f_122.fr (fun j9 _ => fr_140.2.2 135 j9 (by unfold W0; omega))
            have f_146 := f_123.fr (fun j9 _ _ => ⟨fr_140.2.2 144 j9 (by unfold W0; omega), fr_140.2.2 145 j9 (by unfold W0; omega)⟩)
            have f_147 := f_124.fr (fun j9 _ _ => ⟨fr_140.2.2 142 j9 (by unfold W0; omega), fr_140.2.2 143 j9 (by unfold W0; omega)⟩)
            have f_149 := rd_fr fr_140 f_126 (by unfold W0; omega)
            have f_150 := rd_fr fr_140 f_127 (by unfold W0; omega)
            have f_151 := rd_fr fr_140 f_128 (by unfold W0; omega)
            have f_152 := rd_fr fr_140 f_129 (by unfold W0; omega)
            have fr_153 := fr_130.tr (fr_140.mono (fun k9 j9 h9 => by unfold W0 at h9; unfold WFu; omega))
            clear rw_119 f_120 f_121 f_122 f_123 f_124 f_125 f_126 f_127 f_128 f_129 fr_130
            show WpN (gp g0 wp) CLS p l e R s m args below meth c Q D_212.2.2.1 kc0 ks0 183 [some (.ref 124), some (.long nv), none, some (.long dv), none, some (.int xi)] (hs_134, kc, ks) []
            refine g_loadA act (gx gp_212 (w := 0xb803) rfl (by decide) rfl) (a := 0) (n := 184) rfl rfl rfl ?_
            refine g_loadA act (gx gp_212 (w := 0xb903) rfl (by decide) rfl) (a := 0) (n := 185) rfl rfl rfl ?_
            refine r_getf act (gx gp_212 (w := 0x20001c900bc04) rfl (by decide) rfl) (n := 188) (ci := 9) (j := 7) (N := 39) rfl rfl rfl rw_142.1 (by decide) (v := .long t_135) e_137 ?_
            refine r_putf act (gx gp_212 (w := 0x200094900bf13) rfl (by decide) rfl) (n := 191) (ci := 9) (j := 37) (N := 39) rfl rfl rfl rw_142.1 (by decide) (Or.inr (Or.inr (Or.inl ⟨rfl, _, rfl⟩))) ?_
            have rw_154 := RW.wr (k := 124) (j := 37) (v := .long t_135) rw_142 (Or.inr (by decide))
            have f_155 := f_143.ne (k := 124) (j := 37) (v := .long t_135) (by decide)
            have f_156 := f_144.ne (k := 124) (j := 37) (v := .long t_135) (by decide)
            have f_157 := f_145.ne (k := 124) (j := 37) (v := .long t_135) (by decide)
            have f_158 := f_146.ne (k := 124) (j := 37) (v := .long t_135) (by decide) (by decide)
            have f_159 := f_147.ne (k := 124) (j := 37) (v := .long t_135) (by decide) (by decide)
            have f_160 := (rd_ne hs_134 (k := 124) (j := 37) (.long t_135) (Or.inr (by decide))).trans f_149
            have f_161 := (rd_ne hs_134 (k := 124) (j := 37) (.long t_135) (Or.inr (by decide))).trans f_150
            have f_163 := (rd_ne hs_134 (k := 124) (j := 37) (.long t_135) (Or.inr (by decide))).trans f_152
            have f_164 := hM_141.wrL (x := t_135) (i := 37) rw_142.1 (by decide)
            have f_165 := (rd_ne hs_134 (k := 124) (j := 37) (.long t_135) (Or.inr (by decide))).trans e_137
            have f_166 := (rd_ne hs_134 (k := 124) (j := 37) (.long t_135) (Or.inr (by decide))).trans e_138
            have f_167 := rd_same (j := 37) (v := .long t_135) rw_142.1
            have fr_168 := fr_153.wr (k := 124) (j := 37) (.long t_135) (by unfold WFu; omega)
            clear rw_142 fr_153 f_143 f_144 f_145 f_146 f_147 f_149 f_150 f_151 f_152 hM_141 e_137 e_138
            generalize (wr hs_134 124 37 (.long t_135)) = hs_169 at *
            refine g_loadA act (gx gp_212 (w := 0xc003) rfl (by decide) rfl) (a := 0) (n := 192) rfl rfl rfl ?_
            refine g_loadA act (gx gp_212 (w := 0xc103) rfl (by decide) rfl) (a := 0) (n := 193) rfl rfl rfl ?_
            refine r_getf act (gx gp_212 (w := 0x200020900c404) rfl (by decide) rfl) (n := 196) (ci := 9) (j := 8) (N := 39) rfl rfl rfl rw_154.1 (by decide) (v := .long w_136) f_166 ?_
            refine r_putf act (gx gp_212 (w := 0x200098900c713) rfl (by decide) rfl) (n := 199) (ci := 9) (j := 38) (N := 39) rfl rfl rfl rw_154.1 (by decide) (Or.inr (Or.inr (Or.inl ⟨rfl, _, rfl⟩))) ?_
            have rw_170 := RW.wr (k := 124) (j := 38) (v := .long w_136) rw_154 (Or.inr (by decide))
            have f_171 := f_155.ne (k := 124) (j := 38) (v := .long w_136) (by decide)
            have f_172 := f_156.ne (k := 124) (j := 38) (v := .long w_136) (by decide)
            have f_173 := f_157.ne (k := 124) (j := 38) (v := .long w_136) (by decide)
            have f_174 := f_158.ne (k := 124) (j := 38) (v := .long w_136) (by decide) (by decide)
            have f_175 := f_159.ne (k := 124) (j := 38) (v := .long w_136) (by decide) (by decide)
            have f_176 := (rd_ne hs_169 (k := 124) (j := 38) (.long w_136) (Or.inr (by decide))).trans f_160
            have f_177 := (rd_ne hs_169 (k := 124) (j := 38) (.long w_136) (Or.inr (by decide))).trans f_161
            have f_179 := f_164.wrL (x := w_136) (i := 38) rw_154.1 (by decide)
            have f_180 := (rd_ne hs_169 (k := 124) (j := 38) (.long w_136) (Or.inr (by decide))).trans f_165
            have f_181 := (rd_ne hs_169 (k := 124) (j := 38) (.long w_136) (Or.inr (by decide))).trans f_166
            have f_182 := (rd_ne hs_169 (k := 124) (j := 38) (.long w_136) (Or.inr (by decide))).trans f_167
            have f_183 := rd_same (j := 38) (v := .long w_136) rw_154.1
            have fr_184 := fr_168.wr (k := 124) (j := 38) (.long w_136) (by unfold WFu; omega)
            clear rw_154 fr_168 f_155 f_156 f_157 f_158 f_159 f_160 f_161 f_163 f_164 f_165 f_166 f_167
            generalize (wr hs_169 124 38 (.long w_136)) = hs_185 at *
            exact g_retV hEnd (gx gp_212 (w := 0x18) rfl (by decide) rfl) ⟨rfl, ⟨_, _, f_182, f_183, hK_139.mono (by omega)⟩, f_179, fr_184⟩ hk1 hk2
          · exact absurd hpo.1 (by omega)
      · exact absurd hpo.1 (by omega)
  · simp only [i_le] at h4
    refine g_loadA act (gx gp_212 (w := 0x5303) rfl (by decide) rfl) (a := 0) (n := 83) rfl rfl rfl ?_
    refine g_loadI act (gx gp_212 (w := 0x5005502) rfl (by decide) rfl) (a := 5) (n := 85) rfl rfl rfl ?_
    have hr9 := n8 j9
    refine n_call tb_pres act hEnd (gx (P := G_call) gp_212 (w := 0xa0000000000008082200011800580f) rfl (by decide) rfl) (d' := D_280) rfl (as := [.ref 124, .int xi]) (rest := []) (b_targets hNW (r9 := j9) hxi (by omega) ⟨rwj, fTo, fW⟩ (fun j9 h1 h2 => hP j9 (by omega) (by omega)) (fun j9 h1 h2 => hP j9 (by omega) (by omega)) hM) (show (2 : Nat) = fb 0xa0000000000008082200011800580f % 16 by decide) (by show (2 : Nat) ≤ 2; decide) (fun _ => ⟨_, _, rfl, _, shp_at rwj.1, Or.inr (show fb 0xa0000000000008082200011800580f >>> 68 = 10 by decide)⟩) (by omega) (by show 8 + (2 + 11) + 107 ≤ R.locals; omega) (by show (0 : Nat) ≤ 8; decide) (by show kc + 0 ≤ _; omega) (by show ks + 0 ≤ _; omega) (fun r9 hs_186 hpo hr9 => ?_) (fun x9 hs9 hx9 hpo => ?_)
    · obtain rfl : r9 = none := hr9.elim (fun q => q.2) (fun q => absurd rfl q.1)
      obtain ⟨-, t_187, w_188, e_189, e_190, hK_191, fr_192⟩ := hpo
      have hM_193 := ModF.w0 hM fr_192
      have rw_194 := rwj.fr fr_192 W0_rw
      have f_195 := fTo.fr (fun j9 _ => fr_192.2.2 125 j9 (by unfold W0; omega))
      have f_196 := fW.fr (fun j9 _ => fr_192.2.2 127 j9 (by unfold W0; omega))
      have f_197 := fD.fr (fun j9 _ => fr_192.2.2 135 j9 (by unfold W0; omega))
      have f_198 := hP.fr (fun j9 _ _ => ⟨fr_192.2.2 144 j9 (by unfold W0; omega), fr_192.2.2 145 j9 (by unfold W0; omega)⟩)
      have f_199 := hO.fr (fun j9 _ _ => ⟨fr_192.2.2 142 j9 (by unfold W0; omega), fr_192.2.2 143 j9 (by unfold W0; omega)⟩)
      have f_201 := rd_fr fr_192 e35 (by unfold W0; omega)
      have f_202 := rd_fr fr_192 e36 (by unfold W0; omega)
      have fr_203 := hfr.tr (fr_192.mono (fun k9 j9 h9 => by unfold W0 at h9; unfold WFu; omega))
      clear rwj fTo fW fD hP hO hM e35 e36 hfr
      show WpN (gp g0 wp) CLS p l e R s m args below meth c Q D_212.2.2.1 kc0 ks0 88 [some (.ref 124), some (.long nv), none, some (.long dv), none, some (.int xi)] (hs_186, kc, ks) []
      refine g_loadA act (gx gp_212 (w := 0x5903) rfl (by decide) rfl) (a := 0) (n := 89) rfl rfl rfl ?_
      refine g_loadA act (gx gp_212 (w := 0x5a03) rfl (by decide) rfl) (a := 0) (n := 90) rfl rfl rfl ?_
      refine r_getf act (gx gp_212 (w := 0x20001c9005d04) rfl (by decide) rfl) (n := 93) (ci := 9) (j := 7) (N := 39) rfl rfl rfl rw_194.1 (by decide) (v := .long t_187) e_189 ?_
      refine g_constL act (gx gp_212 (w := 0x40000000000000002000000005e01) rfl (by decide) rfl) (n := 94) (x := 0) (by decide) rfl ?_
      refine g_lcmp act (gx gp_212 (w := 0x5f0c) rfl (by decide) rfl) (n := 95) rfl ?_
      refine g_ifGe act (gx gp_212 (w := 0x6a006214) rfl (by decide) rfl) (tgt := 106) (n := 98) rfl rfl (fun h55 => ?_) (fun h55 => ?_)
      · simp only [cmpGe, show (0 : Int64).toInt = 0 from by decide] at h55
        refine g_constL act (gx gp_212 (w := 0x40000000000000002000000006b01) rfl (by decide) rfl) (n := 107) (x := 0) (by decide) rfl ?_
        refine g_loadA act (gx gp_212 (w := 0x6c03) rfl (by decide) rfl) (a := 0) (n := 108) rfl rfl rfl ?_
        refine r_getf act (gx gp_212 (w := 0x2000209006f04) rfl (by decide) rfl) (n := 111) (ci := 9) (j := 8) (N := 39) rfl rfl rfl rw_194.1 (by decide) (v := .long w_188) e_190 ?_
        refine g_constL act (gx gp_212 (w := 0x4000000000000000a000000007001) rfl (by decide) rfl) (n := 112) (x := 1) (by decide) rfl ?_
        refine g_constL act (gx gp_212 (w := 0x4000000000000000a000000007101) rfl (by decide) rfl) (n := 113) (x := 1) (by decide) rfl ?_
        refine n_call tb_pres act hEnd (gx (P := G_call) gp_212 (w := 0xa0000000000008249500011200740f) rfl (by decide) rfl) (d' := D_274) rfl (as := [.ref 124, .long (0 : Int64), .long w_188, .long (1 : Int64), .long (1 : Int64)]) (rest := []) (b_sums (k1 := 7) (k2 := 1) (k := 13) rw_194 hM_193 f_201 f_202 hK_191 k2_one (hks.mono (by omega)) (by omega) (by omega) (by omega)) (show (5 : Nat) = fb 0xa0000000000008249500011200740f % 16 by decide) (by show (9 : Nat) ≤ 9; decide) (fun _ => ⟨_, _, rfl, _, shp_at rw_194.1, Or.inr (show fb 0xa0000000000008249500011200740f >>> 68 = 10 by decide)⟩) (by omega) (by show 8 + (9 + 11) + 87 ≤ R.locals; omega) (by show (0 : Nat) ≤ 8; decide) (by show kc + 0 ≤ _; omega) (by show ks + 0 ≤ _; omega) (fun r9 hs_204 hpo hr9 => ?_) (fun x9 hs9 hx9 hpo => ?_)
        · obtain rfl : r9 = none := hr9.elim (fun q => q.2) (fun q => absurd rfl q.1)
          obtain ⟨-, sx_209, sw_210, e_207, e_208, hk_211, hM_206, fr_205⟩ := hpo
          have rw_212 := rw_194.fr fr_205 WSm_rw
          have f_213 := f_195.fr (fun j9 _ => fr_205.2.2 125 j9 (by unfold WSm; omega))
          have f_214 := f_196.fr (fun j9 _ => fr_205.2.2 127 j9 (by unfold WSm; omega))
          have f_215 := f_197.fr (fun j9 _ => fr_205.2.2 135 j9 (by unfold WSm; omega))
          have f_216 := f_198.fr (fun j9 _ _ => ⟨fr_205.2.2 144 j9 (by unfold WSm; omega), fr_205.2.2 145 j9 (by unfold WSm; omega)⟩)
          have f_217 := f_199.fr (fun j9 _ _ => ⟨fr_205.2.2 142 j9 (by unfold WSm; omega), fr_205.2.2 143 j9 (by unfold WSm; omega)⟩)
          have fr_219 := fr_203.tr (fr_205.mono (fun k9 j9 h9 => by unfold WSm at h9; unfold WFu; omega))
          clear rw_194 f_195 f_196 f_197 f_198 f_199 f_201 f_202 hM_193 e_189 e_190 fr_203
          show WpN (gp g0 wp) CLS p l e R s m args below meth c Q D_212.2.2.1 kc0 ks0 116 [some (.ref 124), some (.long nv), none, some (.long dv), none, some (.int xi)] (hs_204, kc, ks) []
          refine g_iinc act (gx gp_212 (w := 0x80000001000005007709) rfl (by decide) rfl) (a := 5) (i := (1 : Int32)) (n := 119) rfl (by decide) rfl rfl (L2 := [some (.ref 124), some (.long nv), none, some (.long dv), none, some (.int (xi + (1 : Int32)))]) rfl ?_
          have v_220 := iv_addN hxi (show (1 : Int32).toInt = ((1 : Nat) : Int) from by decide) (show (j9 + 1) < 2147483648 by omega)
          refine g_goto act (gx gp_212 (w := 0x4707) rfl (by decide) rfl) (n := 71) rfl ?_
          exact ih (j9 + 1) (by omega) (by omega) _ _ _ _ v_220 hk_211 rw_212 f_213 f_214 f_215 f_216 f_217 hM_206 e_207 e_208 fr_219
        · exact absurd hpo.1 (by omega)
      · simp only [cmpGe, show (0 : Int64).toInt = 0 from by decide] at h55
        refine g_loadA act (gx gp_212 (w := 0x6303) rfl (by decide) rfl) (a := 0) (n := 99) rfl rfl rfl ?_
        refine r_getf act (gx gp_212 (w := 0x20001c9006604) rfl (by decide) rfl) (n := 102) (ci := 9) (j := 7) (N := 39) rfl rfl rfl rw_194.1 (by decide) (v := .long t_187) e_189 ?_
        refine g_lneg act (gx gp_212 (w := 0x6725) rfl (by decide) rfl) (n := 103) rfl ?_
        refine g_goto act (gx gp_212 (w := 0x6b07) rfl (by decide) rfl) (n := 107) rfl ?_
        refine g_loadA act (gx gp_212 (w := 0x6c03) rfl (by decide) rfl) (a := 0) (n := 108) rfl rfl rfl ?_
        refine r_getf act (gx gp_212 (w := 0x2000209006f04) rfl (by decide) rfl) (n := 111) (ci := 9) (j := 8) (N := 39) rfl rfl rfl rw_194.1 (by decide) (v := .long w_188) e_190 ?_
        refine g_constL act (gx gp_212 (w := 0x4000000000000000a000000007001) rfl (by decide) rfl) (n := 112) (x := 1) (by decide) rfl ?_
        refine g_constL act (gx gp_212 (w := 0x4000000000000000a000000007101) rfl (by decide) rfl) (n := 113) (x := 1) (by decide) rfl ?_
        refine n_call tb_pres act hEnd (gx (P := G_call) gp_212 (w := 0xa0000000000008249500011200740f) rfl (by decide) rfl) (d' := D_274) rfl (as := [.ref 124, .long (-t_187), .long w_188, .long (1 : Int64), .long (1 : Int64)]) (rest := []) (b_sums (k1 := 7) (k2 := 1) (k := 13) rw_194 hM_193 f_201 f_202 hK_191 k2_one (hks.mono (by omega)) (by omega) (by omega) (by omega)) (show (5 : Nat) = fb 0xa0000000000008249500011200740f % 16 by decide) (by show (9 : Nat) ≤ 9; decide) (fun _ => ⟨_, _, rfl, _, shp_at rw_194.1, Or.inr (show fb 0xa0000000000008249500011200740f >>> 68 = 10 by decide)⟩) (by omega) (by show 8 + (9 + 11) + 87 ≤ R.locals; omega) (by show (0 : Nat) ≤ 8; decide) (by show kc + 0 ≤ _; omega) (by show ks + 0 ≤ _; omega) (fun r9 hs_221 hpo hr9 => ?_) (fun x9 hs9 hx9 hpo => ?_)
        · obtain rfl : r9 = none := hr9.elim (fun q => q.2) (fun q => absurd rfl q.1)
          obtain ⟨-, sx_226, sw_227, e_224, e_225, hk_228, hM_223, fr_222⟩ := hpo
          have rw_229 := rw_194.fr fr_222 WSm_rw
          have f_230 := f_195.fr (fun j9 _ => fr_222.2.2 125 j9 (by unfold WSm; omega))
          have f_231 := f_196.fr (fun j9 _ => fr_222.2.2 127 j9 (by unfold WSm; omega))
          have f_232 := f_197.fr (fun j9 _ => fr_222.2.2 135 j9 (by unfold WSm; omega))
          have f_233 := f_198.fr (fun j9 _ _ => ⟨fr_222.2.2 144 j9 (by unfold WSm; omega), fr_222.2.2 145 j9 (by unfold WSm; omega)⟩)
          have f_234 := f_199.fr (fun j9 _ _ => ⟨fr_222.2.2 142 j9 (by unfold WSm; omega), fr_222.2.2 143 j9 (by unfold WSm; omega)⟩)
          have fr_236 := fr_203.tr (fr_222.mono (fun k9 j9 h9 => by unfold WSm at h9; unfold WFu; omega))
          clear rw_194 f_195 f_196 f_197 f_198 f_199 f_201 f_202 hM_193 e_189 e_190 fr_203
          show WpN (gp g0 wp) CLS p l e R s m args below meth c Q D_212.2.2.1 kc0 ks0 116 [some (.ref 124), some (.long nv), none, some (.long dv), none, some (.int xi)] (hs_221, kc, ks) []
          refine g_iinc act (gx gp_212 (w := 0x80000001000005007709) rfl (by decide) rfl) (a := 5) (i := (1 : Int32)) (n := 119) rfl (by decide) rfl rfl (L2 := [some (.ref 124), some (.long nv), none, some (.long dv), none, some (.int (xi + (1 : Int32)))]) rfl ?_
          have v_237 := iv_addN hxi (show (1 : Int32).toInt = ((1 : Nat) : Int) from by decide) (show (j9 + 1) < 2147483648 by omega)
          refine g_goto act (gx gp_212 (w := 0x4707) rfl (by decide) rfl) (n := 71) rfl ?_
          exact ih (j9 + 1) (by omega) (by omega) _ _ _ _ v_237 hk_228 rw_229 f_230 f_231 f_232 f_233 f_234 hM_223 e_224 e_225 fr_236
        · exact absurd hpo.1 (by omega)
    · exact absurd hpo.1 (by omega)

theorem fu_0 {g0 : GG} {bl : Nat} {xs : Nat → Int32} {l : Launch} {wp : va_W} {p : Program} {e : Env} {R : Room} {s : State} {m : MethodId} {args : Array Value} {below : List Frame} {meth : Method} {c : Code} {Q : State → Prop} {kc0 ks0 kc ks f lam KC KS : Nat} {hs : List CE} {tl wl : Nat → Int} {nl n ng nr : Nat} (hNW : NW tl wl nl n ng nr) {dm : Nat → Int} (hdm : ∀ j, 0 ≤ dm j ∧ dm j ≤ 220) {t9 : Nat} (ht6 : t9 ≤ 6) (hf : 6 ≤ R.frames) (hl : 158 ≤ R.locals) (hc : kc ≤ R.cells + kc0) (hsl : ks ≤ R.slots + ks0) (act : Act SSX TBL (gp g0 wp) CLS bl xs D_212 p l s m args meth c) (hEnd : EndN SSX TBL (gp g0 wp) CLS D_212 p l e R s m args below meth c Q kc0 ks0 f lam KC KS (PFu hs t9)) (hk1 : kc ≤ KC) (hk2 : ks ≤ KS) {s1 s2 : Int64} {hj : List CE} (hnd : NDF t9 s1 s2) : RW hj → IArr hj 125 46 tl → IArr hj 127 39 wl → IArr hj 135 4 dm → KR hj 144 145 0 (n + 1) 7 → KR hj 142 143 0 5 7 → ModF hj → rd hj 124 35 = .long s1 → rd hj 124 36 = .long s2 → FrS WFu hs hj → WpN (gp g0 wp) CLS p l e R s m args below meth c Q D_212.2.2.1 kc0 ks0 54 [some (.ref 124), none, none, none, none, none] (hj, kc, ks) [] := by
  have hN9 := hNW
  obtain ⟨n0, n1, n2, n3, n4, n5, n6, n7, n8, hG0, nL, nC, nP, nD⟩ := hN9
  have hGn := hG0.1
  have hGn3 := hG0.2.1
  have hGl := hG0.2.2.1
  intro rwj fTo fW fD hP hO hM e35 e36 hfr
  refine g_loadA act (gx gp_212 (w := 0x3703) rfl (by decide) rfl) (a := 0) (n := 55) rfl rfl rfl ?_
  refine r_getf act (gx gp_212 (w := 0x20008c9003a04) rfl (by decide) rfl) (n := 58) (ci := 9) (j := 35) (N := 39) rfl rfl rfl rwj.1 (by decide) (v := .long s1) e35 ?_
  refine g_storeL act (gx gp_212 (w := 0x1003b0b) rfl (by decide) rfl) (a := 1) (n := 59) rfl rfl (L2 := [some (.ref 124), some (.long s1), none, none, none, none]) rfl ?_
  refine g_loadA act (gx gp_212 (w := 0x3c03) rfl (by decide) rfl) (a := 0) (n := 60) rfl rfl rfl ?_
  refine r_getf act (gx gp_212 (w := 0x2000909003f04) rfl (by decide) rfl) (n := 63) (ci := 9) (j := 36) (N := 39) rfl rfl rfl rwj.1 (by decide) (v := .long s2) e36 ?_
  refine g_storeL act (gx gp_212 (w := 0x300400b) rfl (by decide) rfl) (a := 3) (n := 64) rfl rfl (L2 := [some (.ref 124), some (.long s1), none, some (.long s2), none, none]) rfl ?_
  refine g_loadA act (gx gp_212 (w := 0x4103) rfl (by decide) rfl) (a := 0) (n := 65) rfl rfl rfl ?_
  refine n_call tb_pres act hEnd (gx (P := G_call) gp_212 (w := 0xa00000000000080c1100011400440f) rfl (by decide) rfl) (d' := D_276) rfl (as := [.ref 124]) (rest := []) (b_surpluses hNW (fun j9 => by have q9 := hdm j9; omega) rwj fTo fW fD hP hO hM) (show (1 : Nat) = fb 0xa00000000000080c1100011400440f % 16 by decide) (by show (1 : Nat) ≤ 3; decide) (fun _ => ⟨_, _, rfl, _, shp_at rwj.1, Or.inr (show fb 0xa00000000000080c1100011400440f >>> 68 = 10 by decide)⟩) (by omega) (by show 8 + (3 + 11) + 136 ≤ R.locals; omega) (by show (0 : Nat) ≤ 8; decide) (by show kc + 0 ≤ _; omega) (by show ks + 0 ≤ _; omega) (fun r9 hs_1 hpo hr9 => ?_) (fun x9 hs9 hx9 hpo => ?_)
  · obtain rfl : r9 = none := hr9.elim (fun q => q.2) (fun q => absurd rfl q.1)
    obtain ⟨-, sx_6, sw_7, e_4, e_5, hk_8, hM_3, fr_2⟩ := hpo
    have rw_9 := rwj.fr fr_2 WSm_rw
    have f_10 := fTo.fr (fun j9 _ => fr_2.2.2 125 j9 (by unfold WSm; omega))
    have f_11 := fW.fr (fun j9 _ => fr_2.2.2 127 j9 (by unfold WSm; omega))
    have f_12 := fD.fr (fun j9 _ => fr_2.2.2 135 j9 (by unfold WSm; omega))
    have f_13 := hP.fr (fun j9 _ _ => ⟨fr_2.2.2 144 j9 (by unfold WSm; omega), fr_2.2.2 145 j9 (by unfold WSm; omega)⟩)
    have f_14 := hO.fr (fun j9 _ _ => ⟨fr_2.2.2 142 j9 (by unfold WSm; omega), fr_2.2.2 143 j9 (by unfold WSm; omega)⟩)
    have fr_16 := hfr.tr (fr_2.mono (fun k9 j9 h9 => by unfold WSm at h9; unfold WFu; omega))
    clear rwj fTo fW fD hP hO hM e35 e36 hfr
    show WpN (gp g0 wp) CLS p l e R s m args below meth c Q D_212.2.2.1 kc0 ks0 68 [some (.ref 124), some (.long s1), none, some (.long s2), none, none] (hs_1, kc, ks) []
    refine g_constI act (gx gp_212 (w := 0x40000000400000001000000004501) rfl (by decide) rfl) (n := 69) (x := (0 : Int32)) (by decide) rfl ?_
    refine g_storeI act (gx gp_212 (w := 0x5004710) rfl (by decide) rfl) (a := 5) (n := 71) rfl rfl (L2 := [some (.ref 124), some (.long s1), none, some (.long s2), none, some (.int (0 : Int32))]) rfl ?_
    exact fu_2 hNW hdm ht6 hnd hf hl hc hsl act hEnd hk1 hk2 0 (by omega) _ _ _ _ rfl hk_8 rw_9 f_10 f_11 f_12 f_13 f_14 hM_3 e_4 e_5 fr_16
  · exact absurd hpo.1 (by omega)

theorem fr_zero1 : FR (0 : Int64) (1 : Int64) 0 := ⟨by decide, by decide⟩

theorem b_funds {g0 : GG} {bl : Nat} {xs : Nat → Int32} {l : Launch} {hs : List CE} {tl wl : Nat → Int} {nl n ng nr : Nat} (hNW : NW tl wl nl n ng nr) {L D0 : Nat} {Cf : Nat → Rat} {C0 : Rat} {dm : Nat → Int} (hdm : ∀ j, 0 ≤ dm j ∧ dm j ≤ 220) (hCF : CF n Cf C0 L D0) {t9 : Nat} (ht6 : t9 ≤ 6) (ht : 2 ^ t9 ∣ L) (rw0 : RW hs) (fTo : IArr hs 125 46 tl) (fW : IArr hs 127 39 wl) (fD : IArr hs 135 4 dm) (hP : KR hs 144 145 0 (n + 1) 7) (hO : KR hs 142 143 0 5 7) (hQ : QRng hs 144 145 0 (n + 1) (fun k9 => Cf k9 + -C0)) (hM : ModF hs) : BodyN SSX TBL g0 CLS bl xs l D_212 6 158 0 0 [.ref 124] hs (PFu hs t9) := by
  intro wp p e R s m args below meth c Q kc0 ks0 kc ks act hf hl hc hsl hEnd
  have hN9 := hNW
  obtain ⟨n0, n1, n2, n3, n4, n5, n6, n7, n8, hG0, nL, nC, nP, nD⟩ := hN9
  have hGn := hG0.1
  have hGn3 := hG0.2.1
  have hGl := hG0.2.2.1
  show WpN (gp g0 wp) CLS p l e R s m args below meth c Q D_212.2.2.1 kc0 ks0 0 [some (.ref 124), none, none, none, none, none] (hs, kc, ks) []
  refine g_loadA act (gx gp_212 (w := 0x103) rfl (by decide) rfl) (a := 0) (n := 1) rfl rfl rfl ?_
  refine n_call tb_pres act hEnd (gx (P := G_call) gp_212 (w := 0xa000000000000804110000b700040f) rfl (by decide) rfl) (d' := D_183) rfl (as := [.ref 124]) (rest := []) (b_begins rw0 hM) (show (1 : Nat) = fb 0xa000000000000804110000b700040f % 16 by decide) (by show (1 : Nat) ≤ 1; decide) (fun _ => ⟨_, _, rfl, _, shp_at rw0.1, Or.inr (show fb 0xa000000000000804110000b700040f >>> 68 = 10 by decide)⟩) (by omega) (by show 8 + (1 + 11) + 0 ≤ R.locals; omega) (by show (0 : Nat) ≤ 8; decide) (by show kc + 0 ≤ _; omega) (by show ks + 0 ≤ _; omega) (fun r9 hs_1 hpo hr9 => ?_) (fun x9 hs9 hx9 hpo => ?_)
  · obtain rfl : r9 = none := hr9.elim (fun q => q.2) (fun q => absurd rfl q.1)
    obtain ⟨-, e_4, e_5, hM_3, fr_2⟩ := hpo
    have rw_6 := rw0.fr fr_2 WSm_rw
    have f_7 := fTo.fr (fun j9 _ => fr_2.2.2 125 j9 (by unfold WSm; omega))
    have f_8 := fW.fr (fun j9 _ => fr_2.2.2 127 j9 (by unfold WSm; omega))
    have f_9 := fD.fr (fun j9 _ => fr_2.2.2 135 j9 (by unfold WSm; omega))
    have f_10 := hP.fr (fun j9 _ _ => ⟨fr_2.2.2 144 j9 (by unfold WSm; omega), fr_2.2.2 145 j9 (by unfold WSm; omega)⟩)
    have f_11 := hO.fr (fun j9 _ _ => ⟨fr_2.2.2 142 j9 (by unfold WSm; omega), fr_2.2.2 143 j9 (by unfold WSm; omega)⟩)
    have f_13 := hQ.fr (fun j9 _ _ => ⟨fr_2.2.2 144 j9 (by unfold WSm; omega), fr_2.2.2 145 j9 (by unfold WSm; omega)⟩)
    have fr_14 := (FrS.rf WSm hs).tr fr_2
    show WpN (gp g0 wp) CLS p l e R s m args below meth c Q D_212.2.2.1 kc0 ks0 4 [some (.ref 124), none, none, none, none, none] (hs_1, kc, ks) []
    refine g_constI act (gx gp_212 (w := 0x40000000400000001000000000501) rfl (by decide) rfl) (n := 5) (x := (0 : Int32)) (by decide) rfl ?_
    refine g_storeI act (gx gp_212 (w := 0x1000610) rfl (by decide) rfl) (a := 1) (n := 6) rfl rfl (L2 := [some (.ref 124), some (.int (0 : Int32)), none, none, none, none]) rfl ?_
    exact n_forget (d := D_212) (L2 := [some (.ref 124), some (.int (0 : Int32)), none, none, none, none]) (fun i v hi => by
      match i, hi with
      | 0, hi => exact hi
      | 1, hi => exact hi
      | 2, hi => cases hi
      | 3, hi => cases hi
      | 4, hi => cases hi
      | 5, hi => cases hi
      | i + 6, hi => cases hi) (fu_1 hNW hdm hCF hf hl hc hsl act hEnd (fun s1 s2 q1 N1 hj a1 a2 a3 a4 b1 b2 b3 b4 b5 b6 b7 b8 b9 c1 c2 => fu_0 hNW hdm ht6 hf hl hc hsl act hEnd (by omega) (by omega) (ndf_of a1 hCF.1 a2 a3 a4 ht ht6) b1 b2 b3 b4 b5 b6 b8 b9 c1 (c2.mono (fun k9 j9 h9 => by unfold WSm at h9; unfold WFu; omega))) 0 (by omega) _ _ 0 0 _ _ rfl fr_zero1 (by rw [Rat.mul_zero]; rfl) (by decide) (by decide) rw_6 f_7 f_8 f_9 f_10 f_11 f_13 hM_3 e_4 e_5 fr_14)
  · exact absurd hpo.1 (by omega)

theorem b_fundingRatio {g0 : GG} {bl : Nat} {xs : Nat → Int32} {l : Launch} {hs : List CE} {tl wl : Nat → Int} {nl n ng nr : Nat} (hNW : NW tl wl nl n ng nr) {a b : Int32} (hB : BM hs tl wl) (hM : ModF hs) : BodyN SSX TBL g0 CLS bl xs l D_211 11 275 0 0 [.ref 124, .int a, .int b] hs (POL hs) := by
  intro wp p e R s m args below meth c Q kc0 ks0 kc ks act hf hl hc hsl hEnd
  have hN9 := hNW
  obtain ⟨n0, n1, n2, n3, n4, n5, n6, n7, n8, hG0, nL, nC, nP, nD⟩ := hN9
  have hGn := hG0.1
  have hGn3 := hG0.2.1
  have hGl := hG0.2.2.1
  obtain ⟨rw0, hTo, hW⟩ := hB
  show WpN (gp g0 wp) CLS p l e R s m args below meth c Q D_211.2.2.1 kc0 ks0 0 [some (.ref 124), some (.int a), some (.int b)] (hs, kc, ks) []
  refine g_loadA act (gx gp_211 (w := 0x103) rfl (by decide) rfl) (a := 0) (n := 1) rfl rfl rfl ?_
  refine g_constI act (gx gp_211 (w := 0x40000000c00000009000000000201) rfl (by decide) rfl) (n := 2) (x := (1 : Int32)) (by decide) rfl ?_
  refine g_loadI act (gx gp_211 (w := 0x1000302) rfl (by decide) rfl) (a := 1) (n := 3) rfl rfl rfl ?_
  refine g_loadI act (gx gp_211 (w := 0x2000402) rfl (by decide) rfl) (a := 2) (n := 4) rfl rfl rfl ?_
  refine g_loadA act (gx gp_211 (w := 0x503) rfl (by decide) rfl) (a := 0) (n := 5) rfl rfl rfl ?_
  refine n_call tb_pres act hEnd (gx (P := G_call) gp_211 (w := 0xa000000000000c04110000b200080f) rfl (by decide) rfl) (d' := D_178) rfl (as := [.ref 124]) (rest := [.int b, .int a, .int (1 : Int32), .ref 124]) (b_allNodes rw0 hTo) (show (1 : Nat) = fb 0xa000000000000c04110000b200080f % 16 by decide) (by show (1 : Nat) ≤ 1; decide) (fun _ => ⟨_, _, rfl, _, shp_at rw0.1, Or.inr (show fb 0xa000000000000c04110000b200080f >>> 68 = 10 by decide)⟩) (by omega) (by show 8 + (1 + 11) + 0 ≤ R.locals; omega) (by show (4 : Nat) ≤ 8; decide) (by show kc + 0 ≤ _; omega) (by show ks + 0 ≤ _; omega) (fun r9 h3 hpo hr9 => ?_) (fun x9 hs9 hx9 hpo => ?_)
  · obtain ⟨-, rfl, z_3, rfl, hx_2⟩ := hpo
    show WpN (gp g0 wp) CLS p l e R s m args below meth c Q D_211.2.2.1 kc0 ks0 8 [some (.ref 124), some (.int a), some (.int b)] (hs, kc, ks) [.int (((1 : Int32) <<< (z_3 &&& 31)) - 1), .int b, .int a, .int (1 : Int32), .ref 124]
    refine n_call tb_pres act hEnd (gx (P := G_call) gp_211 (w := 0xa000000000000c14550000e4000b0f) rfl (by decide) rfl) (d' := D_228) rfl (as := [.ref 124, .int (1 : Int32), .int a, .int b, .int (((1 : Int32) <<< (z_3 &&& 31)) - 1)]) (rest := []) (b_isPriced hNW ⟨rw0, hTo, hW⟩ hM (ti := ((1 : Nat) : Int)) (show (1 : Int32).toInt = ((1 : Nat) : Int) from by decide) (by omega) (x := (Int32.toInt a)) (rfl : Int32.toInt a = _) (y := (Int32.toInt b)) (rfl : Int32.toInt b = _)) (show (5 : Nat) = fb 0xa000000000000c14550000e4000b0f % 16 by decide) (by show (5 : Nat) ≤ 5; decide) (fun _ => ⟨_, _, rfl, _, shp_at rw0.1, Or.inr (show fb 0xa000000000000c14550000e4000b0f >>> 68 = 10 by decide)⟩) (by omega) (by show 8 + (5 + 11) + 251 ≤ R.locals; omega) (by show (0 : Nat) ≤ 8; decide) (by show kc + 0 ≤ _; omega) (by show ks + 0 ≤ _; omega) (fun r9 hs_4 hpo hr9 => ?_) (fun x9 hs9 hx9 hpo => ?_)
    · obtain ⟨-, hM_6, fr_5, rg, rfl, hg_7⟩ := hpo
      have rw_8 := rw0.fr fr_5 WM_rw
      have f_9 := hTo.fr (fun j9 _ => fr_5.2.2 125 j9 (by unfold WM; omega))
      have f_10 := hW.fr (fun j9 _ => fr_5.2.2 127 j9 (by unfold WM; omega))
      have fr_11 := (FrS.rf WM hs).tr fr_5
      show WpN (gp g0 wp) CLS p l e R s m args below meth c Q D_211.2.2.1 kc0 ks0 11 [some (.ref 124), some (.int a), some (.int b)] (hs_4, kc, ks) [.int rg]
      rcases hg_7 with rfl | ⟨rfl, g1_12, g2_12, g3_12, g4_12, g5_12, hFD_12, hPI_12⟩
      · refine g_ifNe act (gx gp_211 (w := 0x10000e1d) rfl (by decide) rfl) (tgt := 16) (n := 14) rfl rfl (fun q => absurd q (by decide)) (fun _ => ?_)
        refine g_constL act (gx gp_211 (w := 0x40000000000000002000000000f01) rfl (by decide) rfl) (n := 15) (x := 0) (by decide) rfl ?_
        exact g_retL hEnd (gx gp_211 (w := 0x19) rfl (by decide) rfl) ⟨rfl, ⟨_, rfl⟩, hM_6, fr_11⟩ (by show kc ≤ kc + 0; omega) (by show ks ≤ ks + 0; omega)
      · obtain ⟨⟨frw_13, fTo_13, fW_13⟩, ⟨hG_13, ⟨oi_13, f24_13, hoi_13⟩, ⟨dm_13, fD_13, hdm_13⟩, ⟨lm_13, fL_13, hlm_13⟩, ⟨em_13, fE_13, hem_13⟩, ⟨cp_13, fC_13, hcp_13⟩⟩, fFo_13, ⟨fK0_13, fK1_13⟩⟩ := hFD_12
        obtain ⟨⟨ct_13, cl_13, f29_13, f30_13, hck_13⟩, fKO_13⟩ := found_k hG_13 fFo_13
        have fO7_13 := found_k7 hG_13 fFo_13
        have fPA_13 := pri_all hG_13 hPI_12 (bit_all (show _ = (n : Int) + 1 by have q9 := hx_2; omega) (by omega))
        obtain ⟨Cf, C0, L, D0, hCF, hQ_12⟩ := pri_cf hG_13 hPI_12 (bit_all (show _ = (n : Int) + 1 by have q9 := hx_2; omega) (by omega))
        obtain ⟨t9, ht6, hta, htb⟩ := two_part L hCF.1 hCF.2.2.1
        refine g_ifNe act (gx gp_211 (w := 0x10000e1d) rfl (by decide) rfl) (tgt := 16) (n := 14) rfl rfl (fun _ => ?_) (fun q => absurd (by decide) q)
        refine g_loadA act (gx gp_211 (w := 0x1103) rfl (by decide) rfl) (a := 0) (n := 17) rfl rfl rfl ?_
        refine n_call tb_pres act hEnd (gx (P := G_call) gp_211 (w := 0xa000000000000818110000d400140f) rfl (by decide) rfl) (d' := D_212) rfl (as := [.ref 124]) (rest := []) (b_funds hNW (fun j9 => by have q9 := hdm_13 j9; omega) hCF ht6 hta frw_13 fTo_13 fW_13 fD_13 fPA_13 fO7_13 hQ_12 hM_6) (show (1 : Nat) = fb 0xa000000000000818110000d400140f % 16 by decide) (by show (1 : Nat) ≤ 6; decide) (fun _ => ⟨_, _, rfl, _, shp_at frw_13.1, Or.inr (show fb 0xa000000000000818110000d400140f >>> 68 = 10 by decide)⟩) (by omega) (by show 8 + (6 + 11) + 158 ≤ R.locals; omega) (by show (0 : Nat) ≤ 8; decide) (by show kc + 0 ≤ _; omega) (by show ks + 0 ≤ _; omega) (fun r9 hs_14 hpo hr9 => ?_) (fun x9 hs9 hx9 hpo => ?_)
        · obtain rfl : r9 = none := hr9.elim (fun q => q.2) (fun q => absurd rfl q.1)
          obtain ⟨-, ⟨rx_19, rw9_20, e_17, e_18, hk_21⟩, hM_16, fr_15⟩ := hpo
          have rw_22 := frw_13.fr fr_15 WFu_rw
          have f_24 := fTo_13.fr (fun j9 _ => fr_15.2.2 125 j9 (by unfold WFu; omega))
          have f_25 := fW_13.fr (fun j9 _ => fr_15.2.2 127 j9 (by unfold WFu; omega))
          have f_26 := fD_13.fr (fun j9 _ => fr_15.2.2 135 j9 (by unfold WFu; omega))
          have f_27 := fL_13.fr (fun j9 _ => fr_15.2.2 136 j9 (by unfold WFu; omega))
          have f_28 := fE_13.fr (fun j9 _ => fr_15.2.2 137 j9 (by unfold WFu; omega))
          have f_29 := fC_13.fr (fun j9 _ => fr_15.2.2 138 j9 (by unfold WFu; omega))
          have f_30 := rd_fr fr_15 f24_13 (by unfold WFu; omega)
          have f_31 := rd_fr fr_15 f29_13 (by unfold WFu; omega)
          have f_32 := rd_fr fr_15 f30_13 (by unfold WFu; omega)
          have f_33 := fK0_13.fr (fun j9 _ _ => ⟨fr_15.2.2 131 j9 (by unfold WFu; omega), fr_15.2.2 132 j9 (by unfold WFu; omega)⟩)
          have f_34 := fun q9 => (fK1_13 q9).fr (fun j9 _ _ => ⟨fr_15.2.2 131 j9 (by unfold WFu; omega), fr_15.2.2 132 j9 (by unfold WFu; omega)⟩)
          have f_35 := fFo_13.fr fr_15 (fun j9 => by unfold WFu; omega) (by unfold WFu; omega) (by unfold WFu; omega)
          have f_36 := fO7_13.fr (fun j9 _ _ => ⟨fr_15.2.2 142 j9 (by unfold WFu; omega), fr_15.2.2 143 j9 (by unfold WFu; omega)⟩)
          have f_37 := fPA_13.fr (fun j9 _ _ => ⟨fr_15.2.2 144 j9 (by unfold WFu; omega), fr_15.2.2 145 j9 (by unfold WFu; omega)⟩)
          have f_38 := hQ_12.fr (fun j9 _ _ => ⟨fr_15.2.2 144 j9 (by unfold WFu; omega), fr_15.2.2 145 j9 (by unfold WFu; omega)⟩)
          have fr_39 := fr_11.tr (fr_15.mono (fun k9 j9 h9 => by unfold WFu at h9; unfold WM; omega))
          clear frw_13 hM_6 fTo_13 fW_13 fD_13 fL_13 fE_13 fC_13 f24_13 f29_13 f30_13 fK0_13 fK1_13 fFo_13 fO7_13 fPA_13 hQ_12 fr_11
          show WpN (gp g0 wp) CLS p l e R s m args below meth c Q D_211.2.2.1 kc0 ks0 20 [some (.ref 124), some (.int a), some (.int b)] (hs_14, kc, ks) []
          refine g_loadI act (gx gp_211 (w := 0x2001502) rfl (by decide) rfl) (a := 2) (n := 21) rfl rfl rfl ?_
          refine g_ifNe act (gx gp_211 (w := 0x1f00181d) rfl (by decide) rfl) (tgt := 31) (n := 24) rfl rfl (fun h11 => ?_) (fun h11 => ?_)
          · simp only [i_eq, i0] at h11
            refine g_loadA act (gx gp_211 (w := 0x2003) rfl (by decide) rfl) (a := 0) (n := 32) rfl rfl rfl ?_
            refine r_getf act (gx gp_211 (w := 0x2000989002304) rfl (by decide) rfl) (n := 35) (ci := 9) (j := 38) (N := 39) rfl rfl rfl rw_22.1 (by decide) (v := .long rw9_20) e_18 ?_
            exact g_retL hEnd (gx gp_211 (w := 0x19) rfl (by decide) rfl) ⟨rfl, ⟨_, rfl⟩, hM_16, fr_39⟩ (by show kc ≤ kc + 0; omega) (by show ks ≤ ks + 0; omega)
          · simp only [i_eq, i0] at h11
            refine g_loadA act (gx gp_211 (w := 0x1903) rfl (by decide) rfl) (a := 0) (n := 25) rfl rfl rfl ?_
            refine r_getf act (gx gp_211 (w := 0x2000949001c04) rfl (by decide) rfl) (n := 28) (ci := 9) (j := 37) (N := 39) rfl rfl rfl rw_22.1 (by decide) (v := .long rx_19) e_17 ?_
            refine g_goto act (gx gp_211 (w := 0x2307) rfl (by decide) rfl) (n := 35) rfl ?_
            exact g_retL hEnd (gx gp_211 (w := 0x19) rfl (by decide) rfl) ⟨rfl, ⟨_, rfl⟩, hM_16, fr_39⟩ (by show kc ≤ kc + 0; omega) (by show ks ≤ ks + 0; omega)
        · exact absurd hpo.1 (by omega)
    · exact absurd hpo.1 (by omega)
  · exact absurd hpo.1 (by omega)

theorem paid_1 {g0 : GG} {bl : Nat} {xs : Nat → Int32} {l : Launch} {wp : va_W} {p : Program} {e : Env} {R : Room} {s : State} {m : MethodId} {args : Array Value} {below : List Frame} {meth : Method} {c : Code} {Q : State → Prop} {kc0 ks0 kc ks f lam KC KS : Nat} {hs : List CE} {tl wl : Nat → Int} {nl n ng nr : Nat} (hNW : NW tl wl nl n ng nr) {L D0 : Nat} {Cf : Nat → Rat} {C0 : Rat} (hCF : CF n Cf C0 L D0) {t9 : Nat} (ht6 : t9 ≤ 6) (htb : ¬ 2 ^ (t9 + 1) ∣ L) {r1 r2 : Int64} (hkr : K2 (62 - t9) r2) {a b c9 : Int32} (hf : 11 ≤ R.frames) (hl : 275 ≤ R.locals) (hc : kc ≤ R.cells + kc0) (hsl : ks ≤ R.slots + ks0) (act : Act SSX TBL (gp g0 wp) CLS bl xs D_249 p l s m args meth c) (hEnd : EndN SSX TBL (gp g0 wp) CLS D_249 p l e R s m args below meth c Q kc0 ks0 f lam KC KS (POL hs)) (hk1 : kc ≤ KC) (hk2 : ks ≤ KS) : ∀ j9 : Nat, j9 ≤ nr → ∀ (xi : Int32) (s1 s2 : Int64) (hj : List CE), xi.toInt = (j9 : Int) → K2 62 s2 → RW hj → IArr hj 125 46 tl → IArr hj 127 39 wl → QRng hj 144 145 0 (n + 1) (fun k9 => Cf k9 + -C0) → ModF hj → rd hj 124 35 = .long s1 → rd hj 124 36 = .long s2 → rd hj 124 37 = .long r1 → rd hj 124 38 = .long r2 → FrS WM hs hj → WpN (gp g0 wp) CLS p l e R s m args below meth c Q D_249.2.2.1 kc0 ks0 32 [some (.ref 124), some (.int a), some (.int b), some (.int c9), some (.int xi), none] (hj, kc, ks) [] := by
  have hN9 := hNW
  obtain ⟨n0, n1, n2, n3, n4, n5, n6, n7, n8, hG0, nL, nC, nP, nD⟩ := hN9
  have hGn := hG0.1
  have hGn3 := hG0.2.1
  have hGl := hG0.2.2.1
  refine dn (fun j9 hj9 ih => ?_)
  intro xi s1 s2 hj hxi hks rwj fTo fW hQ hM e35 e36 e37 e38 hfr
  refine g_loadI act (gx gp_249 (w := 0x4002202) rfl (by decide) rfl) (a := 4) (n := 34) rfl rfl rfl ?_
  refine g_loadA act (gx gp_249 (w := 0x2303) rfl (by decide) rfl) (a := 0) (n := 35) rfl rfl rfl ?_
  refine r_getf act (gx gp_249 (w := 0x3000049002604) rfl (by decide) rfl) (n := 38) (ci := 9) (j := 1) (N := 39) rfl rfl rfl rwj.1 (by decide) (rwj.2 (1, 125, 32, 46) (by decide)).1 ?_
  refine g_constI act (gx gp_249 (w := 0x40000002400000021000000002701) rfl (by decide) rfl) (n := 39) (x := (4 : Int32)) (by decide) rfl ?_
  obtain ⟨x_1, e_2, hx_3⟩ := fTo 4 (by omega)
  refine r_iald act (gx gp_249 (w := 0x281a) rfl (by decide) rfl) (n := 40) (j := 4) rfl (rwj.2 (1, 125, 32, 46) (by decide)).2 (show (4 : Int32).toInt = ((4 : Nat) : Int) from by decide) (show 4 < 46 by omega) (v := .int x_1) e_2 ?_
  refine g_icmpGe act (gx gp_249 (w := 0x78002b08) rfl (by decide) rfl) (tgt := 120) (n := 43) rfl rfl (fun h4 => ?_) (fun h4 => ?_)
  · simp only [i_le] at h4
    refine g_loadA act (gx gp_249 (w := 0x7903) rfl (by decide) rfl) (a := 0) (n := 121) rfl rfl rfl ?_
    refine g_loadI act (gx gp_249 (w := 0x3007a02) rfl (by decide) rfl) (a := 3) (n := 122) rfl rfl rfl ?_
    refine n_call tb_pres act hEnd (gx (P := G_call) gp_249 (w := 0xa000000000000c0822000111007d0f) rfl (by decide) rfl) (d' := D_273) rfl (as := [.ref 124, .int c9]) (rest := []) (b_sum rwj.1 e35 e36) (show (2 : Nat) = fb 0xa000000000000c0822000111007d0f % 16 by decide) (by show (2 : Nat) ≤ 2; decide) (fun _ => ⟨_, _, rfl, _, shp_at rwj.1, Or.inr (show fb 0xa000000000000c0822000111007d0f >>> 68 = 10 by decide)⟩) (by omega) (by show 8 + (2 + 11) + 0 ≤ R.locals; omega) (by show (0 : Nat) ≤ 8; decide) (by show kc + 0 ≤ _; omega) (by show ks + 0 ≤ _; omega) (fun r9 h3 hpo hr9 => ?_) (fun x9 hs9 hx9 hpo => ?_)
    · obtain ⟨-, rfl, pv_4, rfl⟩ := hpo
      show WpN (gp g0 wp) CLS p l e R s m args below meth c Q D_249.2.2.1 kc0 ks0 125 [some (.ref 124), some (.int a), some (.int b), some (.int c9), some (.int xi), none] (hj, kc, ks) [.long pv_4]
      exact g_retL hEnd (gx gp_249 (w := 0x19) rfl (by decide) rfl) ⟨rfl, ⟨_, rfl⟩, hM, hfr⟩ hk1 hk2
    · exact absurd hpo.1 (by omega)
  · simp only [i_le] at h4
    refine g_loadA act (gx gp_249 (w := 0x2c03) rfl (by decide) rfl) (a := 0) (n := 44) rfl rfl rfl ?_
    refine g_loadI act (gx gp_249 (w := 0x4002e02) rfl (by decide) rfl) (a := 4) (n := 46) rfl rfl rfl ?_
    refine n_call tb_pres act hEnd (gx (P := G_call) gp_249 (w := 0xa0000000000008082200011800310f) rfl (by decide) rfl) (d' := D_280) rfl (as := [.ref 124, .int xi]) (rest := []) (b_targetsX hNW (r9 := j9) hxi (by omega) ⟨rwj, fTo, fW⟩ hCF hQ) (show (2 : Nat) = fb 0xa0000000000008082200011800310f % 16 by decide) (by show (2 : Nat) ≤ 2; decide) (fun _ => ⟨_, _, rfl, _, shp_at rwj.1, Or.inr (show fb 0xa0000000000008082200011800310f >>> 68 = 10 by decide)⟩) (by omega) (by show 8 + (2 + 11) + 107 ≤ R.locals; omega) (by show (0 : Nat) ≤ 8; decide) (by show kc + 0 ≤ _; omega) (by show ks + 0 ≤ _; omega) (fun r9 hs_5 hpo hr9 => ?_) (fun x9 hs9 hx9 hpo => ?_)
    · obtain rfl : r9 = none := hr9.elim (fun q => q.2) (fun q => absurd rfl q.1)
      obtain ⟨-, t_6, w_7, e_8, e_9, hF_10, fr_11⟩ := hpo
      obtain ⟨N9, e9, b9⟩ := hCF.tx (r := j9) (n8 j9 (by omega))
      have hk_23 := den_k (s := t9) hF_10 hCF.1 e9 htb
      have hM_22 := ModF.w0 hM fr_11
      have rw_12 := rwj.fr fr_11 W0_rw
      have f_13 := fTo.fr (fun j9 _ => fr_11.2.2 125 j9 (by unfold W0; omega))
      have f_14 := fW.fr (fun j9 _ => fr_11.2.2 127 j9 (by unfold W0; omega))
      have f_15 := hQ.fr (fun j9 _ _ => ⟨fr_11.2.2 144 j9 (by unfold W0; omega), fr_11.2.2 145 j9 (by unfold W0; omega)⟩)
      have f_17 := rd_fr fr_11 e35 (by unfold W0; omega)
      have f_18 := rd_fr fr_11 e36 (by unfold W0; omega)
      have f_19 := rd_fr fr_11 e37 (by unfold W0; omega)
      have f_20 := rd_fr fr_11 e38 (by unfold W0; omega)
      have fr_21 := hfr.tr (fr_11.mono (fun k9 j9 h9 => by unfold W0 at h9; unfold WM; omega))
      clear rwj fTo fW hQ hM e35 e36 e37 e38 hfr
      show WpN (gp g0 wp) CLS p l e R s m args below meth c Q D_249.2.2.1 kc0 ks0 49 [some (.ref 124), some (.int a), some (.int b), some (.int c9), some (.int xi), none] (hs_5, kc, ks) []
      refine g_loadA act (gx gp_249 (w := 0x3203) rfl (by decide) rfl) (a := 0) (n := 50) rfl rfl rfl ?_
      refine r_getf act (gx gp_249 (w := 0x20001c9003504) rfl (by decide) rfl) (n := 53) (ci := 9) (j := 7) (N := 39) rfl rfl rfl rw_12.1 (by decide) (v := .long t_6) e_8 ?_
      refine g_constL act (gx gp_249 (w := 0x40000000000000002000000003601) rfl (by decide) rfl) (n := 54) (x := 0) (by decide) rfl ?_
      refine g_lcmp act (gx gp_249 (w := 0x370c) rfl (by decide) rfl) (n := 55) rfl ?_
      refine g_ifLe act (gx gp_249 (w := 0x3e003a3d) rfl (by decide) rfl) (tgt := 62) (n := 58) rfl rfl (fun h12 => ?_) (fun h12 => ?_)
      · simp only [cmpLe, show (0 : Int64).toInt = 0 from by decide] at h12
        refine g_constI act (gx gp_249 (w := 0x40000000400000001000000003f01) rfl (by decide) rfl) (n := 63) (x := (0 : Int32)) (by decide) rfl ?_
        refine g_storeI act (gx gp_249 (w := 0x5004110) rfl (by decide) rfl) (a := 5) (n := 65) rfl rfl (L2 := [some (.ref 124), some (.int a), some (.int b), some (.int c9), some (.int xi), some (.int (0 : Int32))]) rfl ?_
        refine g_loadA act (gx gp_249 (w := 0x4203) rfl (by decide) rfl) (a := 0) (n := 66) rfl rfl rfl ?_
        refine g_loadI act (gx gp_249 (w := 0x4004402) rfl (by decide) rfl) (a := 4) (n := 68) rfl rfl rfl ?_
        refine g_constI act (gx gp_249 (w := 0x40000000400000001000000004501) rfl (by decide) rfl) (n := 69) (x := (0 : Int32)) (by decide) rfl ?_
        refine n_call tb_pres act hEnd (gx (P := G_call) gp_249 (w := 0xa000000000000c0c3300010900480f) rfl (by decide) rfl) (d' := D_265) rfl (as := [.ref 124, .int xi, .int (0 : Int32)]) (rest := []) (b_right rw_12 f_13 hxi (show (0 : Int32).toInt = ((0 : Nat) : Int) from by decide) (by omega) (by omega)) (show (3 : Nat) = fb 0xa000000000000c0c3300010900480f % 16 by decide) (by show (3 : Nat) ≤ 3; decide) (fun _ => ⟨_, _, rfl, _, shp_at rw_12.1, Or.inr (show fb 0xa000000000000c0c3300010900480f >>> 68 = 10 by decide)⟩) (by omega) (by show 8 + (3 + 11) + 0 ≤ R.locals; omega) (by show (0 : Nat) ≤ 8; decide) (by show kc + 0 ≤ _; omega) (by show ks + 0 ≤ _; omega) (fun r9 h3 hpo hr9 => ?_) (fun x9 hs9 hx9 hpo => ?_)
        · obtain ⟨-, rfl, x_24, rfl, hx_25⟩ := hpo
          show WpN (gp g0 wp) CLS p l e R s m args below meth c Q D_249.2.2.1 kc0 ks0 72 [some (.ref 124), some (.int a), some (.int b), some (.int c9), some (.int xi), some (.int (0 : Int32))] (hs_5, kc, ks) [.int x_24]
          refine g_loadI act (gx gp_249 (w := 0x2004902) rfl (by decide) rfl) (a := 2) (n := 73) rfl rfl rfl ?_
          refine g_icmpNe act (gx gp_249 (w := 0x72004c21) rfl (by decide) rfl) (tgt := 114) (n := 76) rfl rfl (fun h19 => ?_) (fun h19 => ?_)
          · simp only [i_eq] at h19
            refine g_iinc act (gx gp_249 (w := 0x80000001000004007509) rfl (by decide) rfl) (a := 4) (i := (1 : Int32)) (n := 117) rfl (by decide) rfl rfl (L2 := [some (.ref 124), some (.int a), some (.int b), some (.int c9), some (.int (xi + (1 : Int32))), some (.int (0 : Int32))]) rfl ?_
            have v_26 := iv_addN hxi (show (1 : Int32).toInt = ((1 : Nat) : Int) from by decide) (show (j9 + 1) < 2147483648 by omega)
            refine g_goto act (gx gp_249 (w := 0x2007) rfl (by decide) rfl) (n := 32) rfl ?_
            exact n_forget (d := D_249) (L2 := [some (.ref 124), some (.int a), some (.int b), some (.int c9), some (.int (xi + (1 : Int32))), none]) (fun i v hi => by
              match i, hi with
              | 0, hi => exact hi
              | 1, hi => exact hi
              | 2, hi => exact hi
              | 3, hi => exact hi
              | 4, hi => exact hi
              | 5, hi => cases hi
              | i + 6, hi => cases hi) (ih (j9 + 1) (by omega) (by omega) _ _ _ _ v_26 hks rw_12 f_13 f_14 f_15 hM_22 f_17 f_18 f_19 f_20 fr_21)
          · simp only [i_eq] at h19
            refine g_loadA act (gx gp_249 (w := 0x4d03) rfl (by decide) rfl) (a := 0) (n := 77) rfl rfl rfl ?_
            refine g_loadA act (gx gp_249 (w := 0x4e03) rfl (by decide) rfl) (a := 0) (n := 78) rfl rfl rfl ?_
            refine r_getf act (gx gp_249 (w := 0x20001c9005104) rfl (by decide) rfl) (n := 81) (ci := 9) (j := 7) (N := 39) rfl rfl rfl rw_12.1 (by decide) (v := .long t_6) e_8 ?_
            refine g_loadA act (gx gp_249 (w := 0x5203) rfl (by decide) rfl) (a := 0) (n := 82) rfl rfl rfl ?_
            refine r_getf act (gx gp_249 (w := 0x2000209005504) rfl (by decide) rfl) (n := 85) (ci := 9) (j := 8) (N := 39) rfl rfl rfl rw_12.1 (by decide) (v := .long w_7) e_9 ?_
            refine g_loadI act (gx gp_249 (w := 0x5005702) rfl (by decide) rfl) (a := 5) (n := 87) rfl rfl rfl ?_
            refine g_ifEq act (gx gp_249 (w := 0x61005a0e) rfl (by decide) rfl) (tgt := 97) (n := 90) rfl rfl (fun _ => ?_) (fun q => absurd (by decide) q)
            refine g_constL act (gx gp_249 (w := 0x4000000000000000a000000006201) rfl (by decide) rfl) (n := 98) (x := 1) (by decide) rfl ?_
            refine g_loadI act (gx gp_249 (w := 0x5006402) rfl (by decide) rfl) (a := 5) (n := 100) rfl rfl rfl ?_
            refine g_ifEq act (gx gp_249 (w := 0x6e00670e) rfl (by decide) rfl) (tgt := 110) (n := 103) rfl rfl (fun _ => ?_) (fun q => absurd (by decide) q)
            refine g_constL act (gx gp_249 (w := 0x4000000000000000a000000006f01) rfl (by decide) rfl) (n := 111) (x := 1) (by decide) rfl ?_
            refine n_call tb_pres act hEnd (gx (P := G_call) gp_249 (w := 0xa0000000000008249500011200720f) rfl (by decide) rfl) (d' := D_274) rfl (as := [.ref 124, .long t_6, .long w_7, .long (1 : Int64), .long (1 : Int64)]) (rest := []) (b_sums (k1 := (t9 + 1)) (k2 := 1) (k := 62) rw_12 hM_22 f_17 f_18 hk_23 k2_one (hks.mono (by omega)) (by omega) (by omega) (by omega)) (show (5 : Nat) = fb 0xa0000000000008249500011200720f % 16 by decide) (by show (9 : Nat) ≤ 9; decide) (fun _ => ⟨_, _, rfl, _, shp_at rw_12.1, Or.inr (show fb 0xa0000000000008249500011200720f >>> 68 = 10 by decide)⟩) (by omega) (by show 8 + (9 + 11) + 87 ≤ R.locals; omega) (by show (0 : Nat) ≤ 8; decide) (by show kc + 0 ≤ _; omega) (by show ks + 0 ≤ _; omega) (fun r9 hs_27 hpo hr9 => ?_) (fun x9 hs9 hx9 hpo => ?_)
            · obtain rfl : r9 = none := hr9.elim (fun q => q.2) (fun q => absurd rfl q.1)
              obtain ⟨-, sx_32, sw_33, e_30, e_31, hk_34, hM_29, fr_28⟩ := hpo
              have rw_35 := rw_12.fr fr_28 WSm_rw
              have f_36 := f_13.fr (fun j9 _ => fr_28.2.2 125 j9 (by unfold WSm; omega))
              have f_37 := f_14.fr (fun j9 _ => fr_28.2.2 127 j9 (by unfold WSm; omega))
              have f_38 := f_15.fr (fun j9 _ _ => ⟨fr_28.2.2 144 j9 (by unfold WSm; omega), fr_28.2.2 145 j9 (by unfold WSm; omega)⟩)
              have f_39 := rd_fr fr_28 f_19 (by unfold WSm; omega)
              have f_40 := rd_fr fr_28 f_20 (by unfold WSm; omega)
              have fr_42 := fr_21.tr (fr_28.mono (fun k9 j9 h9 => by unfold WSm at h9; unfold WM; omega))
              clear rw_12 f_13 f_14 f_15 f_17 f_18 f_19 f_20 e_8 e_9 hM_22 fr_21
              show WpN (gp g0 wp) CLS p l e R s m args below meth c Q D_249.2.2.1 kc0 ks0 114 [some (.ref 124), some (.int a), some (.int b), some (.int c9), some (.int xi), some (.int (0 : Int32))] (hs_27, kc, ks) []
              refine g_iinc act (gx gp_249 (w := 0x80000001000004007509) rfl (by decide) rfl) (a := 4) (i := (1 : Int32)) (n := 117) rfl (by decide) rfl rfl (L2 := [some (.ref 124), some (.int a), some (.int b), some (.int c9), some (.int (xi + (1 : Int32))), some (.int (0 : Int32))]) rfl ?_
              have v_43 := iv_addN hxi (show (1 : Int32).toInt = ((1 : Nat) : Int) from by decide) (show (j9 + 1) < 2147483648 by omega)
              refine g_goto act (gx gp_249 (w := 0x2007) rfl (by decide) rfl) (n := 32) rfl ?_
              exact n_forget (d := D_249) (L2 := [some (.ref 124), some (.int a), some (.int b), some (.int c9), some (.int (xi + (1 : Int32))), none]) (fun i v hi => by
                match i, hi with
                | 0, hi => exact hi
                | 1, hi => exact hi
                | 2, hi => exact hi
                | 3, hi => exact hi
                | 4, hi => exact hi
                | 5, hi => cases hi
                | i + 6, hi => cases hi) (ih (j9 + 1) (by omega) (by omega) _ _ _ _ v_43 hk_34 rw_35 f_36 f_37 f_38 hM_29 e_30 e_31 f_39 f_40 fr_42)
            · exact absurd hpo.1 (by omega)
        · exact absurd hpo.1 (by omega)
      · simp only [cmpLe, show (0 : Int64).toInt = 0 from by decide] at h12
        refine g_constI act (gx gp_249 (w := 0x40000000c00000009000000003b01) rfl (by decide) rfl) (n := 59) (x := (1 : Int32)) (by decide) rfl ?_
        refine g_goto act (gx gp_249 (w := 0x3f07) rfl (by decide) rfl) (n := 63) rfl ?_
        refine g_storeI act (gx gp_249 (w := 0x5004110) rfl (by decide) rfl) (a := 5) (n := 65) rfl rfl (L2 := [some (.ref 124), some (.int a), some (.int b), some (.int c9), some (.int xi), some (.int (1 : Int32))]) rfl ?_
        refine g_loadA act (gx gp_249 (w := 0x4203) rfl (by decide) rfl) (a := 0) (n := 66) rfl rfl rfl ?_
        refine g_loadI act (gx gp_249 (w := 0x4004402) rfl (by decide) rfl) (a := 4) (n := 68) rfl rfl rfl ?_
        refine g_constI act (gx gp_249 (w := 0x40000000400000001000000004501) rfl (by decide) rfl) (n := 69) (x := (0 : Int32)) (by decide) rfl ?_
        refine n_call tb_pres act hEnd (gx (P := G_call) gp_249 (w := 0xa000000000000c0c3300010900480f) rfl (by decide) rfl) (d' := D_265) rfl (as := [.ref 124, .int xi, .int (0 : Int32)]) (rest := []) (b_right rw_12 f_13 hxi (show (0 : Int32).toInt = ((0 : Nat) : Int) from by decide) (by omega) (by omega)) (show (3 : Nat) = fb 0xa000000000000c0c3300010900480f % 16 by decide) (by show (3 : Nat) ≤ 3; decide) (fun _ => ⟨_, _, rfl, _, shp_at rw_12.1, Or.inr (show fb 0xa000000000000c0c3300010900480f >>> 68 = 10 by decide)⟩) (by omega) (by show 8 + (3 + 11) + 0 ≤ R.locals; omega) (by show (0 : Nat) ≤ 8; decide) (by show kc + 0 ≤ _; omega) (by show ks + 0 ≤ _; omega) (fun r9 h3 hpo hr9 => ?_) (fun x9 hs9 hx9 hpo => ?_)
        · obtain ⟨-, rfl, x_44, rfl, hx_45⟩ := hpo
          show WpN (gp g0 wp) CLS p l e R s m args below meth c Q D_249.2.2.1 kc0 ks0 72 [some (.ref 124), some (.int a), some (.int b), some (.int c9), some (.int xi), some (.int (1 : Int32))] (hs_5, kc, ks) [.int x_44]
          refine g_loadI act (gx gp_249 (w := 0x2004902) rfl (by decide) rfl) (a := 2) (n := 73) rfl rfl rfl ?_
          refine g_icmpNe act (gx gp_249 (w := 0x72004c21) rfl (by decide) rfl) (tgt := 114) (n := 76) rfl rfl (fun h38 => ?_) (fun h38 => ?_)
          · simp only [i_eq] at h38
            refine g_iinc act (gx gp_249 (w := 0x80000001000004007509) rfl (by decide) rfl) (a := 4) (i := (1 : Int32)) (n := 117) rfl (by decide) rfl rfl (L2 := [some (.ref 124), some (.int a), some (.int b), some (.int c9), some (.int (xi + (1 : Int32))), some (.int (1 : Int32))]) rfl ?_
            have v_46 := iv_addN hxi (show (1 : Int32).toInt = ((1 : Nat) : Int) from by decide) (show (j9 + 1) < 2147483648 by omega)
            refine g_goto act (gx gp_249 (w := 0x2007) rfl (by decide) rfl) (n := 32) rfl ?_
            exact n_forget (d := D_249) (L2 := [some (.ref 124), some (.int a), some (.int b), some (.int c9), some (.int (xi + (1 : Int32))), none]) (fun i v hi => by
              match i, hi with
              | 0, hi => exact hi
              | 1, hi => exact hi
              | 2, hi => exact hi
              | 3, hi => exact hi
              | 4, hi => exact hi
              | 5, hi => cases hi
              | i + 6, hi => cases hi) (ih (j9 + 1) (by omega) (by omega) _ _ _ _ v_46 hks rw_12 f_13 f_14 f_15 hM_22 f_17 f_18 f_19 f_20 fr_21)
          · simp only [i_eq] at h38
            refine g_loadA act (gx gp_249 (w := 0x4d03) rfl (by decide) rfl) (a := 0) (n := 77) rfl rfl rfl ?_
            refine g_loadA act (gx gp_249 (w := 0x4e03) rfl (by decide) rfl) (a := 0) (n := 78) rfl rfl rfl ?_
            refine r_getf act (gx gp_249 (w := 0x20001c9005104) rfl (by decide) rfl) (n := 81) (ci := 9) (j := 7) (N := 39) rfl rfl rfl rw_12.1 (by decide) (v := .long t_6) e_8 ?_
            refine g_loadA act (gx gp_249 (w := 0x5203) rfl (by decide) rfl) (a := 0) (n := 82) rfl rfl rfl ?_
            refine r_getf act (gx gp_249 (w := 0x2000209005504) rfl (by decide) rfl) (n := 85) (ci := 9) (j := 8) (N := 39) rfl rfl rfl rw_12.1 (by decide) (v := .long w_7) e_9 ?_
            refine g_loadI act (gx gp_249 (w := 0x5005702) rfl (by decide) rfl) (a := 5) (n := 87) rfl rfl rfl ?_
            refine g_ifEq act (gx gp_249 (w := 0x61005a0e) rfl (by decide) rfl) (tgt := 97) (n := 90) rfl rfl (fun q => absurd q (by decide)) (fun _ => ?_)
            refine g_loadA act (gx gp_249 (w := 0x5b03) rfl (by decide) rfl) (a := 0) (n := 91) rfl rfl rfl ?_
            refine r_getf act (gx gp_249 (w := 0x2000949005e04) rfl (by decide) rfl) (n := 94) (ci := 9) (j := 37) (N := 39) rfl rfl rfl rw_12.1 (by decide) (v := .long r1) f_19 ?_
            refine g_goto act (gx gp_249 (w := 0x6207) rfl (by decide) rfl) (n := 98) rfl ?_
            refine g_loadI act (gx gp_249 (w := 0x5006402) rfl (by decide) rfl) (a := 5) (n := 100) rfl rfl rfl ?_
            refine g_ifEq act (gx gp_249 (w := 0x6e00670e) rfl (by decide) rfl) (tgt := 110) (n := 103) rfl rfl (fun q => absurd q (by decide)) (fun _ => ?_)
            refine g_loadA act (gx gp_249 (w := 0x6803) rfl (by decide) rfl) (a := 0) (n := 104) rfl rfl rfl ?_
            refine r_getf act (gx gp_249 (w := 0x2000989006b04) rfl (by decide) rfl) (n := 107) (ci := 9) (j := 38) (N := 39) rfl rfl rfl rw_12.1 (by decide) (v := .long r2) f_20 ?_
            refine g_goto act (gx gp_249 (w := 0x6f07) rfl (by decide) rfl) (n := 111) rfl ?_
            refine n_call tb_pres act hEnd (gx (P := G_call) gp_249 (w := 0xa0000000000008249500011200720f) rfl (by decide) rfl) (d' := D_274) rfl (as := [.ref 124, .long t_6, .long w_7, .long r1, .long r2]) (rest := []) (b_sums (k1 := (t9 + 1)) (k2 := (62 - t9)) (k := 62) rw_12 hM_22 f_17 f_18 hk_23 hkr (hks.mono (by omega)) (by omega) (by omega) (by omega)) (show (5 : Nat) = fb 0xa0000000000008249500011200720f % 16 by decide) (by show (9 : Nat) ≤ 9; decide) (fun _ => ⟨_, _, rfl, _, shp_at rw_12.1, Or.inr (show fb 0xa0000000000008249500011200720f >>> 68 = 10 by decide)⟩) (by omega) (by show 8 + (9 + 11) + 87 ≤ R.locals; omega) (by show (0 : Nat) ≤ 8; decide) (by show kc + 0 ≤ _; omega) (by show ks + 0 ≤ _; omega) (fun r9 hs_47 hpo hr9 => ?_) (fun x9 hs9 hx9 hpo => ?_)
            · obtain rfl : r9 = none := hr9.elim (fun q => q.2) (fun q => absurd rfl q.1)
              obtain ⟨-, sx_52, sw_53, e_50, e_51, hk_54, hM_49, fr_48⟩ := hpo
              have rw_55 := rw_12.fr fr_48 WSm_rw
              have f_56 := f_13.fr (fun j9 _ => fr_48.2.2 125 j9 (by unfold WSm; omega))
              have f_57 := f_14.fr (fun j9 _ => fr_48.2.2 127 j9 (by unfold WSm; omega))
              have f_58 := f_15.fr (fun j9 _ _ => ⟨fr_48.2.2 144 j9 (by unfold WSm; omega), fr_48.2.2 145 j9 (by unfold WSm; omega)⟩)
              have f_59 := rd_fr fr_48 f_19 (by unfold WSm; omega)
              have f_60 := rd_fr fr_48 f_20 (by unfold WSm; omega)
              have fr_62 := fr_21.tr (fr_48.mono (fun k9 j9 h9 => by unfold WSm at h9; unfold WM; omega))
              clear rw_12 f_13 f_14 f_15 f_17 f_18 f_19 f_20 e_8 e_9 hM_22 fr_21
              show WpN (gp g0 wp) CLS p l e R s m args below meth c Q D_249.2.2.1 kc0 ks0 114 [some (.ref 124), some (.int a), some (.int b), some (.int c9), some (.int xi), some (.int (1 : Int32))] (hs_47, kc, ks) []
              refine g_iinc act (gx gp_249 (w := 0x80000001000004007509) rfl (by decide) rfl) (a := 4) (i := (1 : Int32)) (n := 117) rfl (by decide) rfl rfl (L2 := [some (.ref 124), some (.int a), some (.int b), some (.int c9), some (.int (xi + (1 : Int32))), some (.int (1 : Int32))]) rfl ?_
              have v_63 := iv_addN hxi (show (1 : Int32).toInt = ((1 : Nat) : Int) from by decide) (show (j9 + 1) < 2147483648 by omega)
              refine g_goto act (gx gp_249 (w := 0x2007) rfl (by decide) rfl) (n := 32) rfl ?_
              exact n_forget (d := D_249) (L2 := [some (.ref 124), some (.int a), some (.int b), some (.int c9), some (.int (xi + (1 : Int32))), none]) (fun i v hi => by
                match i, hi with
                | 0, hi => exact hi
                | 1, hi => exact hi
                | 2, hi => exact hi
                | 3, hi => exact hi
                | 4, hi => exact hi
                | 5, hi => cases hi
                | i + 6, hi => cases hi) (ih (j9 + 1) (by omega) (by omega) _ _ _ _ v_63 hk_54 rw_55 f_56 f_57 f_58 hM_49 e_50 e_51 f_59 f_60 fr_62)
            · exact absurd hpo.1 (by omega)
        · exact absurd hpo.1 (by omega)
    · exact absurd hpo.1 (by omega)

theorem b_paid {g0 : GG} {bl : Nat} {xs : Nat → Int32} {l : Launch} {hs : List CE} {tl wl : Nat → Int} {nl n ng nr : Nat} (hNW : NW tl wl nl n ng nr) {a b c9 : Int32} (hB : BM hs tl wl) (hM : ModF hs) : BodyN SSX TBL g0 CLS bl xs l D_249 11 275 0 0 [.ref 124, .int a, .int b, .int c9] hs (POL hs) := by
  intro wp p e R s m args below meth c Q kc0 ks0 kc ks act hf hl hc hsl hEnd
  have hN9 := hNW
  obtain ⟨n0, n1, n2, n3, n4, n5, n6, n7, n8, hG0, nL, nC, nP, nD⟩ := hN9
  have hGn := hG0.1
  have hGn3 := hG0.2.1
  have hGl := hG0.2.2.1
  obtain ⟨rw0, hTo, hW⟩ := hB
  show WpN (gp g0 wp) CLS p l e R s m args below meth c Q D_249.2.2.1 kc0 ks0 0 [some (.ref 124), some (.int a), some (.int b), some (.int c9), none, none] (hs, kc, ks) []
  refine g_loadA act (gx gp_249 (w := 0x103) rfl (by decide) rfl) (a := 0) (n := 1) rfl rfl rfl ?_
  refine g_loadI act (gx gp_249 (w := 0x2000202) rfl (by decide) rfl) (a := 2) (n := 2) rfl rfl rfl ?_
  refine g_constI act (gx gp_249 (w := 0x40000000400000001000000000301) rfl (by decide) rfl) (n := 3) (x := (0 : Int32)) (by decide) rfl ?_
  refine g_constI act (gx gp_249 (w := 0x40000001c00000019000000000401) rfl (by decide) rfl) (n := 4) (x := (3 : Int32)) (by decide) rfl ?_
  refine n_call tb_pres act hEnd (gx (P := G_call) gp_249 (w := 0x40c330000d900070f) rfl (by decide) rfl) (d' := D_217) rfl (as := [.int b, .int (0 : Int32), .int (3 : Int32)]) (rest := [.ref 124]) (b_in (rfl : Int32.toInt b = _) (show (0 : Int32).toInt = ((0 : Nat) : Int) from by decide) (show (3 : Int32).toInt = ((3 : Nat) : Int) from by decide)) (show (3 : Nat) = fb 0x40c330000d900070f % 16 by decide) (by show (3 : Nat) ≤ 3; decide) (fun q => absurd q (by decide)) (by omega) (by show 8 + (3 + 11) + 0 ≤ R.locals; omega) (by show (1 : Nat) ≤ 8; decide) (by show kc + 0 ≤ _; omega) (by show ks + 0 ≤ _; omega) (fun r9 h3 hpo hr9 => ?_) (fun x9 hs9 hx9 hpo => ?_)
  · obtain ⟨-, rfl, hin_2⟩ := hpo
    obtain ⟨rv_1, rfl, hin_2o⟩ := in1_t hin_2
    show WpN (gp g0 wp) CLS p l e R s m args below meth c Q D_249.2.2.1 kc0 ks0 7 [some (.ref 124), some (.int a), some (.int b), some (.int c9), none, none] (hs, kc, ks) [.int rv_1, .ref 124]
    refine g_loadI act (gx gp_249 (w := 0x1000802) rfl (by decide) rfl) (a := 1) (n := 8) rfl rfl rfl ?_
    refine g_loadI act (gx gp_249 (w := 0x3000902) rfl (by decide) rfl) (a := 3) (n := 9) rfl rfl rfl ?_
    refine g_loadA act (gx gp_249 (w := 0xa03) rfl (by decide) rfl) (a := 0) (n := 10) rfl rfl rfl ?_
    refine n_call tb_pres act hEnd (gx (P := G_call) gp_249 (w := 0xa000000000000c04110000b2000d0f) rfl (by decide) rfl) (d' := D_178) rfl (as := [.ref 124]) (rest := [.int c9, .int a, .int rv_1, .ref 124]) (b_allNodes rw0 hTo) (show (1 : Nat) = fb 0xa000000000000c04110000b2000d0f % 16 by decide) (by show (1 : Nat) ≤ 1; decide) (fun _ => ⟨_, _, rfl, _, shp_at rw0.1, Or.inr (show fb 0xa000000000000c04110000b2000d0f >>> 68 = 10 by decide)⟩) (by omega) (by show 8 + (1 + 11) + 0 ≤ R.locals; omega) (by show (4 : Nat) ≤ 8; decide) (by show kc + 0 ≤ _; omega) (by show ks + 0 ≤ _; omega) (fun r9 h3 hpo hr9 => ?_) (fun x9 hs9 hx9 hpo => ?_)
    · obtain ⟨-, rfl, z_5, rfl, hx_4⟩ := hpo
      show WpN (gp g0 wp) CLS p l e R s m args below meth c Q D_249.2.2.1 kc0 ks0 13 [some (.ref 124), some (.int a), some (.int b), some (.int c9), none, none] (hs, kc, ks) [.int (((1 : Int32) <<< (z_5 &&& 31)) - 1), .int c9, .int a, .int rv_1, .ref 124]
      refine n_call tb_pres act hEnd (gx (P := G_call) gp_249 (w := 0xa000000000000c14550000e400100f) rfl (by decide) rfl) (d' := D_228) rfl (as := [.ref 124, .int rv_1, .int a, .int c9, .int (((1 : Int32) <<< (z_5 &&& 31)) - 1)]) (rest := []) (b_isPriced hNW ⟨rw0, hTo, hW⟩ hM (ti := (Int32.toInt rv_1)) (rfl : Int32.toInt rv_1 = _) (by omega) (x := (Int32.toInt a)) (rfl : Int32.toInt a = _) (y := (Int32.toInt c9)) (rfl : Int32.toInt c9 = _)) (show (5 : Nat) = fb 0xa000000000000c14550000e400100f % 16 by decide) (by show (5 : Nat) ≤ 5; decide) (fun _ => ⟨_, _, rfl, _, shp_at rw0.1, Or.inr (show fb 0xa000000000000c14550000e400100f >>> 68 = 10 by decide)⟩) (by omega) (by show 8 + (5 + 11) + 251 ≤ R.locals; omega) (by show (0 : Nat) ≤ 8; decide) (by show kc + 0 ≤ _; omega) (by show ks + 0 ≤ _; omega) (fun r9 hs_6 hpo hr9 => ?_) (fun x9 hs9 hx9 hpo => ?_)
      · obtain ⟨-, hM_8, fr_7, rg, rfl, hg_9⟩ := hpo
        have rw_10 := rw0.fr fr_7 WM_rw
        have f_11 := hTo.fr (fun j9 _ => fr_7.2.2 125 j9 (by unfold WM; omega))
        have f_12 := hW.fr (fun j9 _ => fr_7.2.2 127 j9 (by unfold WM; omega))
        have fr_13 := (FrS.rf WM hs).tr fr_7
        show WpN (gp g0 wp) CLS p l e R s m args below meth c Q D_249.2.2.1 kc0 ks0 16 [some (.ref 124), some (.int a), some (.int b), some (.int c9), none, none] (hs_6, kc, ks) [.int rg]
        rcases hg_9 with rfl | ⟨rfl, g1_14, g2_14, g3_14, g4_14, g5_14, hFD_14, hPI_14⟩
        · refine g_ifNe act (gx gp_249 (w := 0x1500131d) rfl (by decide) rfl) (tgt := 21) (n := 19) rfl rfl (fun q => absurd q (by decide)) (fun _ => ?_)
          refine g_constL act (gx gp_249 (w := 0x40000000000000002000000001401) rfl (by decide) rfl) (n := 20) (x := 0) (by decide) rfl ?_
          exact g_retL hEnd (gx gp_249 (w := 0x19) rfl (by decide) rfl) ⟨rfl, ⟨_, rfl⟩, hM_8, fr_13⟩ (by show kc ≤ kc + 0; omega) (by show ks ≤ ks + 0; omega)
        · obtain ⟨⟨frw_15, fTo_15, fW_15⟩, ⟨hG_15, ⟨oi_15, f24_15, hoi_15⟩, ⟨dm_15, fD_15, hdm_15⟩, ⟨lm_15, fL_15, hlm_15⟩, ⟨em_15, fE_15, hem_15⟩, ⟨cp_15, fC_15, hcp_15⟩⟩, fFo_15, ⟨fK0_15, fK1_15⟩⟩ := hFD_14
          obtain ⟨⟨ct_15, cl_15, f29_15, f30_15, hck_15⟩, fKO_15⟩ := found_k hG_15 fFo_15
          have fO7_15 := found_k7 hG_15 fFo_15
          have fPA_15 := pri_all hG_15 hPI_14 (bit_all (show _ = (n : Int) + 1 by have q9 := hx_4; omega) (by omega))
          obtain ⟨Cf, C0, L, D0, hCF, hQ_14⟩ := pri_cf hG_15 hPI_14 (bit_all (show _ = (n : Int) + 1 by have q9 := hx_4; omega) (by omega))
          obtain ⟨t9, ht6, hta, htb⟩ := two_part L hCF.1 hCF.2.2.1
          refine g_ifNe act (gx gp_249 (w := 0x1500131d) rfl (by decide) rfl) (tgt := 21) (n := 19) rfl rfl (fun _ => ?_) (fun q => absurd (by decide) q)
          refine g_loadA act (gx gp_249 (w := 0x1603) rfl (by decide) rfl) (a := 0) (n := 22) rfl rfl rfl ?_
          refine n_call tb_pres act hEnd (gx (P := G_call) gp_249 (w := 0xa000000000000818110000d400190f) rfl (by decide) rfl) (d' := D_212) rfl (as := [.ref 124]) (rest := []) (b_funds hNW (fun j9 => by have q9 := hdm_15 j9; omega) hCF ht6 hta frw_15 fTo_15 fW_15 fD_15 fPA_15 fO7_15 hQ_14 hM_8) (show (1 : Nat) = fb 0xa000000000000818110000d400190f % 16 by decide) (by show (1 : Nat) ≤ 6; decide) (fun _ => ⟨_, _, rfl, _, shp_at frw_15.1, Or.inr (show fb 0xa000000000000818110000d400190f >>> 68 = 10 by decide)⟩) (by omega) (by show 8 + (6 + 11) + 158 ≤ R.locals; omega) (by show (0 : Nat) ≤ 8; decide) (by show kc + 0 ≤ _; omega) (by show ks + 0 ≤ _; omega) (fun r9 hs_16 hpo hr9 => ?_) (fun x9 hs9 hx9 hpo => ?_)
          · obtain rfl : r9 = none := hr9.elim (fun q => q.2) (fun q => absurd rfl q.1)
            obtain ⟨-, ⟨rx_21, rw9_22, e_19, e_20, hk_23⟩, hM_18, fr_17⟩ := hpo
            have rw_24 := frw_15.fr fr_17 WFu_rw
            have f_26 := fTo_15.fr (fun j9 _ => fr_17.2.2 125 j9 (by unfold WFu; omega))
            have f_27 := fW_15.fr (fun j9 _ => fr_17.2.2 127 j9 (by unfold WFu; omega))
            have f_28 := fD_15.fr (fun j9 _ => fr_17.2.2 135 j9 (by unfold WFu; omega))
            have f_29 := fL_15.fr (fun j9 _ => fr_17.2.2 136 j9 (by unfold WFu; omega))
            have f_30 := fE_15.fr (fun j9 _ => fr_17.2.2 137 j9 (by unfold WFu; omega))
            have f_31 := fC_15.fr (fun j9 _ => fr_17.2.2 138 j9 (by unfold WFu; omega))
            have f_32 := rd_fr fr_17 f24_15 (by unfold WFu; omega)
            have f_33 := rd_fr fr_17 f29_15 (by unfold WFu; omega)
            have f_34 := rd_fr fr_17 f30_15 (by unfold WFu; omega)
            have f_35 := fK0_15.fr (fun j9 _ _ => ⟨fr_17.2.2 131 j9 (by unfold WFu; omega), fr_17.2.2 132 j9 (by unfold WFu; omega)⟩)
            have f_36 := fun q9 => (fK1_15 q9).fr (fun j9 _ _ => ⟨fr_17.2.2 131 j9 (by unfold WFu; omega), fr_17.2.2 132 j9 (by unfold WFu; omega)⟩)
            have f_37 := fFo_15.fr fr_17 (fun j9 => by unfold WFu; omega) (by unfold WFu; omega) (by unfold WFu; omega)
            have f_38 := fO7_15.fr (fun j9 _ _ => ⟨fr_17.2.2 142 j9 (by unfold WFu; omega), fr_17.2.2 143 j9 (by unfold WFu; omega)⟩)
            have f_39 := fPA_15.fr (fun j9 _ _ => ⟨fr_17.2.2 144 j9 (by unfold WFu; omega), fr_17.2.2 145 j9 (by unfold WFu; omega)⟩)
            have f_40 := hQ_14.fr (fun j9 _ _ => ⟨fr_17.2.2 144 j9 (by unfold WFu; omega), fr_17.2.2 145 j9 (by unfold WFu; omega)⟩)
            have fr_41 := fr_13.tr (fr_17.mono (fun k9 j9 h9 => by unfold WFu at h9; unfold WM; omega))
            clear frw_15 hM_8 fTo_15 fW_15 fD_15 fL_15 fE_15 fC_15 f24_15 f29_15 f30_15 fK0_15 fK1_15 fFo_15 fO7_15 fPA_15 hQ_14 fr_13
            show WpN (gp g0 wp) CLS p l e R s m args below meth c Q D_249.2.2.1 kc0 ks0 25 [some (.ref 124), some (.int a), some (.int b), some (.int c9), none, none] (hs_16, kc, ks) []
            refine g_loadA act (gx gp_249 (w := 0x1a03) rfl (by decide) rfl) (a := 0) (n := 26) rfl rfl rfl ?_
            refine n_call tb_pres act hEnd (gx (P := G_call) gp_249 (w := 0xa000000000000804110000b7001d0f) rfl (by decide) rfl) (d' := D_183) rfl (as := [.ref 124]) (rest := []) (b_begins rw_24 hM_18) (show (1 : Nat) = fb 0xa000000000000804110000b7001d0f % 16 by decide) (by show (1 : Nat) ≤ 1; decide) (fun _ => ⟨_, _, rfl, _, shp_at rw_24.1, Or.inr (show fb 0xa000000000000804110000b7001d0f >>> 68 = 10 by decide)⟩) (by omega) (by show 8 + (1 + 11) + 0 ≤ R.locals; omega) (by show (0 : Nat) ≤ 8; decide) (by show kc + 0 ≤ _; omega) (by show ks + 0 ≤ _; omega) (fun r9 hs_42 hpo hr9 => ?_) (fun x9 hs9 hx9 hpo => ?_)
            · obtain rfl : r9 = none := hr9.elim (fun q => q.2) (fun q => absurd rfl q.1)
              obtain ⟨-, e_45, e_46, hM_44, fr_43⟩ := hpo
              have rw_47 := rw_24.fr fr_43 WSm_rw
              have f_48 := f_26.fr (fun j9 _ => fr_43.2.2 125 j9 (by unfold WSm; omega))
              have f_49 := f_27.fr (fun j9 _ => fr_43.2.2 127 j9 (by unfold WSm; omega))
              have f_50 := f_28.fr (fun j9 _ => fr_43.2.2 135 j9 (by unfold WSm; omega))
              have f_51 := f_29.fr (fun j9 _ => fr_43.2.2 136 j9 (by unfold WSm; omega))
              have f_52 := f_30.fr (fun j9 _ => fr_43.2.2 137 j9 (by unfold WSm; omega))
              have f_53 := f_31.fr (fun j9 _ => fr_43.2.2 138 j9 (by unfold WSm; omega))
              have f_54 := rd_fr fr_43 f_32 (by unfold WSm; omega)
              have f_55 := rd_fr fr_43 f_33 (by unfold WSm; omega)
              have f_56 := rd_fr fr_43 f_34 (by unfold WSm; omega)
              have f_57 := f_35.fr (fun j9 _ _ => ⟨fr_43.2.2 131 j9 (by unfold WSm; omega), fr_43.2.2 132 j9 (by unfold WSm; omega)⟩)
              have f_58 := fun q9 => (f_36 q9).fr (fun j9 _ _ => ⟨fr_43.2.2 131 j9 (by unfold WSm; omega), fr_43.2.2 132 j9 (by unfold WSm; omega)⟩)
              have f_59 := f_37.fr fr_43 (fun j9 => by unfold WSm; omega) (by unfold WSm; omega) (by unfold WSm; omega)
              have f_60 := f_38.fr (fun j9 _ _ => ⟨fr_43.2.2 142 j9 (by unfold WSm; omega), fr_43.2.2 143 j9 (by unfold WSm; omega)⟩)
              have f_61 := f_39.fr (fun j9 _ _ => ⟨fr_43.2.2 144 j9 (by unfold WSm; omega), fr_43.2.2 145 j9 (by unfold WSm; omega)⟩)
              have f_62 := f_40.fr (fun j9 _ _ => ⟨fr_43.2.2 144 j9 (by unfold WSm; omega), fr_43.2.2 145 j9 (by unfold WSm; omega)⟩)
              have f_64 := rd_fr fr_43 e_19 (by unfold WSm; omega)
              have f_65 := rd_fr fr_43 e_20 (by unfold WSm; omega)
              have fr_66 := fr_41.tr (fr_43.mono (fun k9 j9 h9 => by unfold WSm at h9; unfold WM; omega))
              clear rw_24 f_26 f_27 f_28 f_29 f_30 f_31 f_32 f_33 f_34 f_35 f_36 f_37 f_38 f_39 f_40 hM_18 e_19 e_20 fr_41
              show WpN (gp g0 wp) CLS p l e R s m args below meth c Q D_249.2.2.1 kc0 ks0 29 [some (.ref 124), some (.int a), some (.int b), some (.int c9), none, none] (hs_42, kc, ks) []
              refine g_constI act (gx gp_249 (w := 0x40000000400000001000000001e01) rfl (by decide) rfl) (n := 30) (x := (0 : Int32)) (by decide) rfl ?_
              refine g_storeI act (gx gp_249 (w := 0x4002010) rfl (by decide) rfl) (a := 4) (n := 32) rfl rfl (L2 := [some (.ref 124), some (.int a), some (.int b), some (.int c9), some (.int (0 : Int32)), none]) rfl ?_
              exact n_forget (d := D_249) (L2 := [some (.ref 124), some (.int a), some (.int b), some (.int c9), some (.int (0 : Int32)), none]) (fun i v hi => by
                match i, hi with
                | 0, hi => exact hi
                | 1, hi => exact hi
                | 2, hi => exact hi
                | 3, hi => exact hi
                | 4, hi => exact hi
                | 5, hi => cases hi
                | i + 6, hi => cases hi) (paid_1 hNW hCF ht6 htb hk_23 hf hl hc hsl act hEnd (by omega) (by omega) 0 (by omega) _ _ _ _ rfl (k2_one.mono (by decide)) rw_47 f_48 f_49 f_62 hM_44 e_45 e_46 f_64 f_65 fr_66)
            · exact absurd hpo.1 (by omega)
          · exact absurd hpo.1 (by omega)
      · exact absurd hpo.1 (by omega)
    · exact absurd hpo.1 (by omega)
  · exact absurd hpo.1 (by omega)

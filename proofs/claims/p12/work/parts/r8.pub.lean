/-! The reference takes back and loads. -/
def Wc125 (k _j : Nat) : Prop := k = 125
theorem Wc125_rw : ∀ q ∈ RWT, ¬ Wc125 124 q.1 := fun q _ => by
  unfold Wc125
  omega
def Wc126 (k _j : Nat) : Prop := k = 126
theorem Wc126_rw : ∀ q ∈ RWT, ¬ Wc126 124 q.1 := fun q _ => by
  unfold Wc126
  omega
def Wc127 (k _j : Nat) : Prop := k = 127
theorem Wc127_rw : ∀ q ∈ RWT, ¬ Wc127 124 q.1 := fun q _ => by
  unfold Wc127
  omega
def Wc128 (k _j : Nat) : Prop := k = 128
theorem Wc128_rw : ∀ q ∈ RWT, ¬ Wc128 124 q.1 := fun q _ => by
  unfold Wc128
  omega
theorem nwx_of {fv gv : Nat → Int} {nl n ng nr : Nat} {b : Int} (h : FVI fv gv b nl ng nr) (hb : b = 0) (h0 : fv 0 = (n : Int) + 1) (hC : CutOK fv nl (-1) n) (ho : OK9 b fv nl n (gv 38)) : NWx fv gv nl n ng nr := by
  obtain ⟨a0, a1, a2, a3, a4, a5, a6, a7, a8, a9, a10, a11, a12, a13, a14⟩ := h
  have e0 : fv 0 - 1 = (n : Int) := by omega
  refine ⟨⟨h0, a1, a2, a3, a4, a6, a7, fun g hg => ?_, fun r hr => ?_, ⟨by omega, by omega, a5, fun l hl => ?_, hC, ho hb⟩, a11, a12, a13, a14⟩, fun l hl => (a8 l hl).2.2.2.2.2⟩
  · have := a9 g hg; omega
  · have := a10 r hr; omega
  · have q := a8 l hl
    exact ⟨q.1, by omega, q.2.2.1, by omega, q.2.2.2.2.1 hb⟩
section PUB3
variable {g0 : GG} {bl : Nat} {xs : Nat → Int32} {l : Launch} {hs : List CE} {L : Int}

theorem br_undo (hRI : RSt hs L) : BodyN SSX TBL g0 CLS bl xs l D_286 0 0 0 0 [.ref 124] hs (POR hs L) := by
  intro wp p e R s m args below meth c Q kc0 ks0 kc ks act hf hl hc hsl hEnd
  have hf : 0 ≤ R.frames := hf
  have hl : 0 ≤ R.locals := hl
  have hk1 : kc ≤ kc + 0 := by omega
  have hk2 : ks ≤ ks + 0 := by omega
  have loopE : ∀ (hA : List CE) (f0 : Nat → Int) (pv : Nat → Int) (p9 : Int32) (np0 : Nat), RW hA → IArr hA 127 39 f0 → IArr hA 129 390 pv → rd hA 124 6 = .int p9 → p9.toInt = (np0 : Int) → np0 ≤ 9 → (∀ (h2 : List CE) (f2 : Nat → Int), FrS Wc127 hA h2 → IArr h2 127 39 f2 → (∀ q, q < 39 → f2 q = pv (39 * np0 + q)) → WpN (gp g0 wp) CLS p l e R s m args below meth c Q D_286.2.2.1 kc0 ks0 69 [some (.ref 124), none] (h2, kc, ks) []) → ∀ k0 : Int32, k0.toInt = ((0 : Nat) : Int) → WpN (gp g0 wp) CLS p l e R s m args below meth c Q D_286.2.2.1 kc0 ks0 37 [some (.ref 124), some (.int k0)] (hA, kc, ks) [] := by
    intro hA f0 pv p9 np0 rwA hFA hS0A e6A hp9e hb9e K k0 hk0
    have go : ∀ (hj : List CE) (fj : Nat → Int) (kj : Int32) (k9 : Nat), RW hj → IArr hj 127 39 fj → IArr hj 129 390 pv → rd hj 124 6 = .int p9 → kj.toInt = (k9 : Int) → k9 ≤ 39 → FrS Wc127 hA hj → (∀ q, q < k9 → fj q = pv (39 * np0 + q)) → WpN (gp g0 wp) CLS p l e R s m args below meth c Q D_286.2.2.1 kc0 ks0 37 [some (.ref 124), some (.int kj)] (hj, kc, ks) [] := by
      intro hj fj kj k9 rwj hFj hS0j e6j hkj hkN hfr hI
      generalize hm : 39 - k9 = m9
      induction m9 using Nat.strongRecOn generalizing hj fj kj k9 with
      | _ m9 ih =>
      subst hm
      refine g_loadI act (gx gp_286 (w := 0x1002602) rfl (by decide) rfl) (a := 1) (n := 38) rfl rfl rfl ?_
      refine g_constI act (gx gp_286 (w := 0x40000013c00000139000000002801) rfl (by decide) rfl) (n := 40) (x := (39 : Int32)) (by decide) rfl ?_
      refine g_icmpGe act (gx gp_286 (w := 0x45002b08) rfl (by decide) rfl) (tgt := 69) (n := 43) rfl rfl (fun h3 => ?_) (fun h3 => ?_)
      · simp only [i_le, show (39 : Int32).toInt = 39 from by decide] at h3
        exact n_forget (d := D_286) (L2 := [some (.ref 124), none]) (fun i v hi => by
          match i, hi with
          | 0, hi => exact hi
          | 1, hi => cases hi
          | i + 2, hi => cases hi) (K _ _ hfr hFj (fun q hq => hI q (by omega)))
      · simp only [i_le, show (39 : Int32).toInt = 39 from by decide] at h3
        refine g_loadA act (gx gp_286 (w := 0x2c03) rfl (by decide) rfl) (a := 0) (n := 44) rfl rfl rfl ?_
        refine r_getf act (gx gp_286 (w := 0x30000c9002f04) rfl (by decide) rfl) (n := 47) (ci := 9) (j := 3) (N := 39) rfl rfl rfl rwj.1 (by decide) (rwj.2 (3, 127, 32, 39) (by decide)).1 ?_
        refine g_loadI act (gx gp_286 (w := 0x1003002) rfl (by decide) rfl) (a := 1) (n := 48) rfl rfl rfl ?_
        refine g_loadA act (gx gp_286 (w := 0x3103) rfl (by decide) rfl) (a := 0) (n := 49) rfl rfl rfl ?_
        refine r_getf act (gx gp_286 (w := 0x3000149003404) rfl (by decide) rfl) (n := 52) (ci := 9) (j := 5) (N := 39) rfl rfl rfl rwj.1 (by decide) (rwj.2 (5, 129, 32, 390) (by decide)).1 ?_
        refine g_constI act (gx gp_286 (w := 0x40000013c00000139000000003601) rfl (by decide) rfl) (n := 54) (x := (39 : Int32)) (by decide) rfl ?_
        refine g_loadA act (gx gp_286 (w := 0x3703) rfl (by decide) rfl) (a := 0) (n := 55) rfl rfl rfl ?_
        refine r_getf act (gx gp_286 (w := 0x189003a04) rfl (by decide) rfl) (n := 58) (ci := 9) (j := 6) (N := 39) rfl rfl rfl rwj.1 (by decide) (v := .int p9) e6j ?_
        refine g_imul act (gx gp_286 (w := 0x3b11) rfl (by decide) rfl) (n := 59) rfl ?_
        have v_1 := iv_mulN (show (39 : Int32).toInt = ((39 : Nat) : Int) from by decide) hp9e (show (39 * np0) < 2147483648 by omega)
        refine g_loadI act (gx gp_286 (w := 0x1003c02) rfl (by decide) rfl) (a := 1) (n := 60) rfl rfl rfl ?_
        refine g_iadd act (gx gp_286 (w := 0x3d0a) rfl (by decide) rfl) (n := 61) rfl ?_
        have v_2 := iv_addN v_1 hkj (show ((39 * np0) + k9) < 2147483648 by omega)
        obtain ⟨x_3, e_4, hx_5⟩ := hS0j ((39 * np0) + k9) (by omega)
        refine r_iald act (gx gp_286 (w := 0x3e1a) rfl (by decide) rfl) (n := 62) (j := ((39 * np0) + k9)) rfl (rwj.2 (5, 129, 32, 390) (by decide)).2 v_2 (show ((39 * np0) + k9) < 390 by omega) (v := .int x_3) e_4 ?_
        refine r_iast act (gx gp_286 (w := 0x3f24) rfl (by decide) rfl) (n := 63) (j := k9) rfl (rwj.2 (3, 127, 32, 39) (by decide)).2 hkj (show k9 < 39 by omega) ?_
        have rw_6 := RW.wr (k := 127) (j := k9) (v := .int x_3) rwj (Or.inl (by decide))
        have f_7 := hFj.put (j := k9) (rwj.2 (3, 127, 32, 39) (by decide)).2 hx_5
        have f_8 := hS0j.ne (k := 127) (j := k9) (v := .int x_3) (by decide)
        have f_9 := (rd_ne hj (k := 127) (j := k9) (.int x_3) (Or.inl (by decide))).trans e6j
        have fr_10 := hfr.wr (k := 127) (j := k9) (.int x_3) (by unfold Wc127; omega)
        clear rwj hfr hFj hS0j e6j
        generalize (wr hj 127 k9 (.int x_3)) = hs_11 at *
        refine g_iinc act (gx gp_286 (w := 0x80000001000001004209) rfl (by decide) rfl) (a := 1) (i := (1 : Int32)) (n := 66) rfl (by decide) rfl rfl (L2 := [some (.ref 124), some (.int (kj + (1 : Int32)))]) rfl ?_
        have v_12 := iv_addN hkj (show (1 : Int32).toInt = ((1 : Nat) : Int) from by decide) (show (k9 + 1) < 2147483648 by omega)
        refine g_goto act (gx gp_286 (w := 0x2507) rfl (by decide) rfl) (n := 37) rfl ?_
        exact ih _ (by omega) _ (upI fj k9 (pv ((39 * np0) + k9))) _ (k9 + 1) rw_6 f_7 f_8 f_9 v_12 (by omega) fr_10 (fun q hq => by
          by_cases e9 : q = k9
          · subst e9; simp only [upI, ↓reduceIte]; all_goals rfl
          · have w9 := hI q (by omega); simp only [upI]; omega) rfl
    exact go hA f0 k0 0 rwA hFA hS0A e6A hk0 (Nat.zero_le _) (FrS.rf _ _) (fun q hq => absurd hq (Nat.not_lt_zero _))
  obtain ⟨tl, wl, pv, nl, n, ng, nr, np, ⟨rw0, hTo, hW⟩, hPa, ⟨p9, e6, hp9⟩, hp10, hNW, hPN, hM, ⟨⟨tx, hT⟩, ⟨L9, e10, hL9⟩, hL0, hL7, ⟨A9, e11⟩, ⟨c9, e12⟩, ⟨d9, e13⟩, ⟨f9, e15⟩, ⟨b9, e14, hb9⟩, ⟨fv, hF⟩, ⟨gv, hG⟩⟩⟩ := hRI
  obtain ⟨⟨x0, e0, hx0⟩, -⟩ := id hM
  have hN9 := hNW.1
  obtain ⟨n0, n1, n2, n3, n4, n5, n6, n7, n8, hG0, nL, nC, nP, nD⟩ := hN9
  have hGn := hG0.1
  have hGn3 := hG0.2.1
  have hGl := hG0.2.2.1
  have hfr0 := FrS.rf WR0 hs
  show WpN (gp g0 wp) CLS p l e R s m args below meth c Q D_286.2.2.1 kc0 ks0 0 [some (.ref 124), none] (hs, kc, ks) []
  refine g_loadA act (gx gp_286 (w := 0x103) rfl (by decide) rfl) (a := 0) (n := 1) rfl rfl rfl ?_
  refine g_loadA act (gx gp_286 (w := 0x203) rfl (by decide) rfl) (a := 0) (n := 2) rfl rfl rfl ?_
  refine r_getf act (gx gp_286 (w := 0x189000504) rfl (by decide) rfl) (n := 5) (ci := 9) (j := 6) (N := 39) rfl rfl rfl rw0.1 (by decide) (v := .int p9) e6 ?_
  refine g_ifNe act (gx gp_286 (w := 0xc00081d) rfl (by decide) rfl) (tgt := 12) (n := 8) rfl rfl (fun h3 => ?_) (fun h3 => ?_)
  · simp only [i_eq, i0] at h3
    refine g_constI act (gx gp_286 (w := 0x40000000400000001000000000d01) rfl (by decide) rfl) (n := 13) (x := (0 : Int32)) (by decide) rfl ?_
    refine r_putf act (gx gp_286 (w := 0x9001013) rfl (by decide) rfl) (n := 16) (ci := 9) (j := 0) (N := 39) rfl rfl rfl rw0.1 (by decide) (Or.inl ⟨rfl, _, rfl⟩) ?_
    have rw_1 := RW.wr (k := 124) (j := 0) (v := .int (0 : Int32)) rw0 (Or.inr (by decide))
    have f_2 := hTo.ne (k := 124) (j := 0) (v := .int (0 : Int32)) (by decide)
    have f_3 := hW.ne (k := 124) (j := 0) (v := .int (0 : Int32)) (by decide)
    have f_4 := hPa.ne (k := 124) (j := 0) (v := .int (0 : Int32)) (by decide)
    have f_5 := hT.ne (k := 124) (j := 0) (v := .int (0 : Int32)) (by decide)
    have f_6 := hF.ne (k := 124) (j := 0) (v := .int (0 : Int32)) (by decide)
    have f_7 := hG.ne (k := 124) (j := 0) (v := .int (0 : Int32)) (by decide)
    have f_9 := (rd_ne hs (k := 124) (j := 0) (.int (0 : Int32)) (Or.inr (by decide))).trans e6
    have f_10 := (rd_ne hs (k := 124) (j := 0) (.int (0 : Int32)) (Or.inr (by decide))).trans e10
    have f_11 := (rd_ne hs (k := 124) (j := 0) (.int (0 : Int32)) (Or.inr (by decide))).trans e11
    have f_12 := (rd_ne hs (k := 124) (j := 0) (.int (0 : Int32)) (Or.inr (by decide))).trans e12
    have f_13 := (rd_ne hs (k := 124) (j := 0) (.int (0 : Int32)) (Or.inr (by decide))).trans e13
    have f_14 := (rd_ne hs (k := 124) (j := 0) (.int (0 : Int32)) (Or.inr (by decide))).trans e15
    have f_15 := (rd_ne hs (k := 124) (j := 0) (.int (0 : Int32)) (Or.inr (by decide))).trans e14
    have f_16 := rd_same (j := 0) (v := .int (0 : Int32)) rw0.1
    have fr_17 := hfr0.wr (k := 124) (j := 0) (.int (0 : Int32)) (by unfold WR0; omega)
    clear hTo hW hPa hT hF hG e0 e6 e10 e11 e12 e13 e15 e14
    generalize (wr hs 124 0 (.int (0 : Int32))) = hs_18 at *
    refine g_loadA act (gx gp_286 (w := 0x1103) rfl (by decide) rfl) (a := 0) (n := 17) rfl rfl rfl ?_
    refine r_getf act (gx gp_286 (w := 0x9001404) rfl (by decide) rfl) (n := 20) (ci := 9) (j := 0) (N := 39) rfl rfl rfl rw_1.1 (by decide) (v := .int (0 : Int32)) f_16 ?_
    refine g_ifLe act (gx gp_286 (w := 0x1900173d) rfl (by decide) rfl) (tgt := 25) (n := 23) rfl rfl (fun _ => ?_) (fun q => absurd (by decide) q)
    refine g_loadA act (gx gp_286 (w := 0x1a03) rfl (by decide) rfl) (a := 0) (n := 26) rfl rfl rfl ?_
    refine g_dup act (gx gp_286 (w := 0x1b22) rfl (by decide) rfl) (n := 27) rfl rfl ?_
    refine r_getf act (gx gp_286 (w := 0x189001e04) rfl (by decide) rfl) (n := 30) (ci := 9) (j := 6) (N := 39) rfl rfl rfl rw_1.1 (by decide) (v := .int p9) f_9 ?_
    refine g_constI act (gx gp_286 (w := 0x40000000c00000009000000001f01) rfl (by decide) rfl) (n := 31) (x := (1 : Int32)) (by decide) rfl ?_
    refine g_isub act (gx gp_286 (w := 0x2026) rfl (by decide) rfl) (n := 32) rfl ?_
    have v_19 := iv_subN hp9 (show (1 : Int32).toInt = ((1 : Nat) : Int) from by decide) (show 1 ≤ np by omega)
    refine r_putf act (gx gp_286 (w := 0x189002313) rfl (by decide) rfl) (n := 35) (ci := 9) (j := 6) (N := 39) rfl rfl rfl rw_1.1 (by decide) (Or.inl ⟨rfl, _, rfl⟩) ?_
    have rw_20 := RW.wr (k := 124) (j := 6) (v := .int (p9 - (1 : Int32))) rw_1 (Or.inr (by decide))
    have f_21 := f_2.ne (k := 124) (j := 6) (v := .int (p9 - (1 : Int32))) (by decide)
    have f_22 := f_3.ne (k := 124) (j := 6) (v := .int (p9 - (1 : Int32))) (by decide)
    have f_23 := f_4.ne (k := 124) (j := 6) (v := .int (p9 - (1 : Int32))) (by decide)
    have f_24 := f_5.ne (k := 124) (j := 6) (v := .int (p9 - (1 : Int32))) (by decide)
    have f_25 := f_6.ne (k := 124) (j := 6) (v := .int (p9 - (1 : Int32))) (by decide)
    have f_26 := f_7.ne (k := 124) (j := 6) (v := .int (p9 - (1 : Int32))) (by decide)
    have f_28 := (rd_ne hs_18 (k := 124) (j := 6) (.int (p9 - (1 : Int32))) (Or.inr (by decide))).trans f_10
    have f_29 := (rd_ne hs_18 (k := 124) (j := 6) (.int (p9 - (1 : Int32))) (Or.inr (by decide))).trans f_11
    have f_30 := (rd_ne hs_18 (k := 124) (j := 6) (.int (p9 - (1 : Int32))) (Or.inr (by decide))).trans f_12
    have f_31 := (rd_ne hs_18 (k := 124) (j := 6) (.int (p9 - (1 : Int32))) (Or.inr (by decide))).trans f_13
    have f_32 := (rd_ne hs_18 (k := 124) (j := 6) (.int (p9 - (1 : Int32))) (Or.inr (by decide))).trans f_14
    have f_33 := (rd_ne hs_18 (k := 124) (j := 6) (.int (p9 - (1 : Int32))) (Or.inr (by decide))).trans f_15
    have f_34 := (rd_ne hs_18 (k := 124) (j := 6) (.int (p9 - (1 : Int32))) (Or.inr (by decide))).trans f_16
    have f_35 := rd_same (j := 6) (v := .int (p9 - (1 : Int32))) rw_1.1
    have fr_36 := fr_17.wr (k := 124) (j := 6) (.int (p9 - (1 : Int32))) (by unfold WR0; omega)
    clear rw_1 fr_17 f_2 f_3 f_4 f_5 f_6 f_7 f_9 f_10 f_11 f_12 f_13 f_14 f_15 f_16
    generalize (wr hs_18 124 6 (.int (p9 - (1 : Int32)))) = hs_37 at *
    refine g_constI act (gx gp_286 (w := 0x40000000400000001000000002401) rfl (by decide) rfl) (n := 36) (x := (0 : Int32)) (by decide) rfl ?_
    refine g_storeI act (gx gp_286 (w := 0x1002510) rfl (by decide) rfl) (a := 1) (n := 37) rfl rfl (L2 := [some (.ref 124), some (.int (0 : Int32))]) rfl ?_
    refine loopE _ _ _ _ _ rw_20 f_22 f_23 f_35 v_19 (by omega) (fun hs_c38 f2_c38 fr_c38 hFa_c38 hz_c38 => ?_) _ (show (0 : Int32).toInt = ((0 : Nat) : Int) from by decide)
    have rw_39 := rw_20.fr fr_c38 Wc127_rw
    have f_40 := f_21.fr (fun j9 _ => fr_c38.2.2 125 j9 (by unfold Wc127; omega))
    have f_41 := f_23.fr (fun j9 _ => fr_c38.2.2 129 j9 (by unfold Wc127; omega))
    have f_42 := f_24.fr (fun j9 _ => fr_c38.2.2 130 j9 (by unfold Wc127; omega))
    have f_43 := f_25.fr (fun j9 _ => fr_c38.2.2 126 j9 (by unfold Wc127; omega))
    have f_44 := f_26.fr (fun j9 _ => fr_c38.2.2 128 j9 (by unfold Wc127; omega))
    have f_45 := rd_fr fr_c38 f_28 (by unfold Wc127; omega)
    have f_46 := rd_fr fr_c38 f_29 (by unfold Wc127; omega)
    have f_47 := rd_fr fr_c38 f_30 (by unfold Wc127; omega)
    have f_48 := rd_fr fr_c38 f_31 (by unfold Wc127; omega)
    have f_49 := rd_fr fr_c38 f_32 (by unfold Wc127; omega)
    have f_50 := rd_fr fr_c38 f_33 (by unfold Wc127; omega)
    have f_51 := rd_fr fr_c38 f_34 (by unfold Wc127; omega)
    have f_52 := rd_fr fr_c38 f_35 (by unfold Wc127; omega)
    have fr_53 := fr_36.tr (fr_c38.mono (fun k9 j9 h9 => by unfold Wc127 at h9; unfold WR0; omega))
    have hF_c38 := hFa_c38
    clear rw_20 f_21 f_22 f_23 f_24 f_25 f_26 f_28 f_29 f_30 f_31 f_32 f_33 f_34 f_35 fr_36
    refine g_loadA act (gx gp_286 (w := 0x4603) rfl (by decide) rfl) (a := 0) (n := 70) rfl rfl rfl ?_
    refine r_getf act (gx gp_286 (w := 0x189004904) rfl (by decide) rfl) (n := 73) (ci := 9) (j := 6) (N := 39) rfl rfl rfl rw_39.1 (by decide) (v := .int (p9 - (1 : Int32))) f_52 ?_
    exact g_retI hEnd (gx gp_286 (w := 0x2f) rfl (by decide) rfl) ⟨rfl, ⟨_, rfl⟩, ⟨tl, f2_c38, pv, nl, n, ng, nr, (np - 1), ⟨rw_39, f_40, hF_c38⟩, f_41, ⟨_, f_52, v_19⟩, by omega, ((hPN (np - 1) (by omega)).cong (fun q hq => hz_c38 q hq)), (fun i hi => hPN i (by omega)), hM.frw fr_53 ⟨_, f_51, by have w9 := (show (0 : Int32).toInt = ((0 : Nat) : Int) from by decide); omega, by have w9 := (show (0 : Int32).toInt = ((0 : Nat) : Int) from by decide); omega⟩, ⟨⟨_, f_42⟩, ⟨_, f_45, (hL9).trans (by omega)⟩, by omega, by omega, ⟨_, f_46⟩, ⟨_, f_47⟩, ⟨_, f_48⟩, ⟨_, f_49⟩, ⟨_, f_50, by have w9 := (rfl : Int32.toInt b9 = _); omega, by have w9 := (rfl : Int32.toInt b9 = _); omega⟩, ⟨_, f_43⟩, ⟨_, f_44⟩⟩⟩, fr_53⟩ hk1 hk2
  · simp only [i_eq, i0] at h3
    refine g_constI act (gx gp_286 (w := 0x40000000c00000009000000000901) rfl (by decide) rfl) (n := 9) (x := (1 : Int32)) (by decide) rfl ?_
    refine g_goto act (gx gp_286 (w := 0xd07) rfl (by decide) rfl) (n := 13) rfl ?_
    refine r_putf act (gx gp_286 (w := 0x9001013) rfl (by decide) rfl) (n := 16) (ci := 9) (j := 0) (N := 39) rfl rfl rfl rw0.1 (by decide) (Or.inl ⟨rfl, _, rfl⟩) ?_
    have rw_54 := RW.wr (k := 124) (j := 0) (v := .int (1 : Int32)) rw0 (Or.inr (by decide))
    have f_55 := hTo.ne (k := 124) (j := 0) (v := .int (1 : Int32)) (by decide)
    have f_56 := hW.ne (k := 124) (j := 0) (v := .int (1 : Int32)) (by decide)
    have f_57 := hPa.ne (k := 124) (j := 0) (v := .int (1 : Int32)) (by decide)
    have f_58 := hT.ne (k := 124) (j := 0) (v := .int (1 : Int32)) (by decide)
    have f_59 := hF.ne (k := 124) (j := 0) (v := .int (1 : Int32)) (by decide)
    have f_60 := hG.ne (k := 124) (j := 0) (v := .int (1 : Int32)) (by decide)
    have f_62 := (rd_ne hs (k := 124) (j := 0) (.int (1 : Int32)) (Or.inr (by decide))).trans e6
    have f_63 := (rd_ne hs (k := 124) (j := 0) (.int (1 : Int32)) (Or.inr (by decide))).trans e10
    have f_64 := (rd_ne hs (k := 124) (j := 0) (.int (1 : Int32)) (Or.inr (by decide))).trans e11
    have f_65 := (rd_ne hs (k := 124) (j := 0) (.int (1 : Int32)) (Or.inr (by decide))).trans e12
    have f_66 := (rd_ne hs (k := 124) (j := 0) (.int (1 : Int32)) (Or.inr (by decide))).trans e13
    have f_67 := (rd_ne hs (k := 124) (j := 0) (.int (1 : Int32)) (Or.inr (by decide))).trans e15
    have f_68 := (rd_ne hs (k := 124) (j := 0) (.int (1 : Int32)) (Or.inr (by decide))).trans e14
    have f_69 := rd_same (j := 0) (v := .int (1 : Int32)) rw0.1
    have fr_70 := hfr0.wr (k := 124) (j := 0) (.int (1 : Int32)) (by unfold WR0; omega)
    clear hTo hW hPa hT hF hG e0 e6 e10 e11 e12 e13 e15 e14
    generalize (wr hs 124 0 (.int (1 : Int32))) = hs_71 at *
    refine g_loadA act (gx gp_286 (w := 0x1103) rfl (by decide) rfl) (a := 0) (n := 17) rfl rfl rfl ?_
    refine r_getf act (gx gp_286 (w := 0x9001404) rfl (by decide) rfl) (n := 20) (ci := 9) (j := 0) (N := 39) rfl rfl rfl rw_54.1 (by decide) (v := .int (1 : Int32)) f_69 ?_
    refine g_ifLe act (gx gp_286 (w := 0x1900173d) rfl (by decide) rfl) (tgt := 25) (n := 23) rfl rfl (fun q => absurd q (by decide)) (fun _ => ?_)
    refine g_constI act (gx gp_286 (w := 0x40000000400000001000000001801) rfl (by decide) rfl) (n := 24) (x := (0 : Int32)) (by decide) rfl ?_
    exact g_retI hEnd (gx gp_286 (w := 0x2f) rfl (by decide) rfl) ⟨rfl, ⟨_, rfl⟩, ⟨tl, wl, pv, nl, n, ng, nr, np, ⟨rw_54, f_55, f_56⟩, f_57, ⟨_, f_62, hp9⟩, by omega, hNW, hPN, hM.frw fr_70 ⟨_, f_69, by have w9 := (show (1 : Int32).toInt = ((1 : Nat) : Int) from by decide); omega, by have w9 := (show (1 : Int32).toInt = ((1 : Nat) : Int) from by decide); omega⟩, ⟨⟨_, f_58⟩, ⟨_, f_63, (hL9).trans (by omega)⟩, by omega, by omega, ⟨_, f_64⟩, ⟨_, f_65⟩, ⟨_, f_66⟩, ⟨_, f_67⟩, ⟨_, f_68, by have w9 := (rfl : Int32.toInt b9 = _); omega, by have w9 := (rfl : Int32.toInt b9 = _); omega⟩, ⟨_, f_59⟩, ⟨_, f_60⟩⟩⟩, fr_70⟩ hk1 hk2

theorem br_load (hRI : RSt hs L) : BodyN SSX TBL g0 CLS bl xs l D_239 6 132 0 0 [.ref 124] hs (POR hs 0) := by
  intro wp p e R s m args below meth c Q kc0 ks0 kc ks act hf hl hc hsl hEnd
  have hf : 6 ≤ R.frames := hf
  have hl : 132 ≤ R.locals := hl
  have hk1 : kc ≤ kc + 0 := by omega
  have hk2 : ks ≤ ks + 0 := by omega
  have loopA : ∀ (hA : List CE) (f0 : Nat → Int), RW hA → IArr hA 126 46 f0 → (∀ (h2 : List CE) (f2 : Nat → Int), FrS Wc126 hA h2 → IArr h2 126 46 f2 → (∀ q, q < 46 → f2 q = 0) → WpN (gp g0 wp) CLS p l e R s m args below meth c Q D_239.2.2.1 kc0 ks0 36 [some (.ref 124), none] (h2, kc, ks) []) → ∀ k0 : Int32, k0.toInt = ((0 : Nat) : Int) → WpN (gp g0 wp) CLS p l e R s m args below meth c Q D_239.2.2.1 kc0 ks0 17 [some (.ref 124), some (.int k0)] (hA, kc, ks) [] := by
    intro hA f0 rwA hFA  K k0 hk0
    have go : ∀ (hj : List CE) (fj : Nat → Int) (kj : Int32) (k9 : Nat), RW hj → IArr hj 126 46 fj → kj.toInt = (k9 : Int) → k9 ≤ 46 → FrS Wc126 hA hj → (∀ q, q < k9 → fj q = 0) → WpN (gp g0 wp) CLS p l e R s m args below meth c Q D_239.2.2.1 kc0 ks0 17 [some (.ref 124), some (.int kj)] (hj, kc, ks) [] := by
      intro hj fj kj k9 rwj hFj  hkj hkN hfr hI
      generalize hm : 46 - k9 = m9
      induction m9 using Nat.strongRecOn generalizing hj fj kj k9 with
      | _ m9 ih =>
      subst hm
      refine g_loadI act (gx gp_239 (w := 0x1001202) rfl (by decide) rfl) (a := 1) (n := 18) rfl rfl rfl ?_
      refine g_constI act (gx gp_239 (w := 0x40000017400000171000000001401) rfl (by decide) rfl) (n := 20) (x := (46 : Int32)) (by decide) rfl ?_
      refine g_icmpGe act (gx gp_239 (w := 0x24001708) rfl (by decide) rfl) (tgt := 36) (n := 23) rfl rfl (fun h3 => ?_) (fun h3 => ?_)
      · simp only [i_le, show (46 : Int32).toInt = 46 from by decide] at h3
        exact n_forget (d := D_239) (L2 := [some (.ref 124), none]) (fun i v hi => by
          match i, hi with
          | 0, hi => exact hi
          | 1, hi => cases hi
          | i + 2, hi => cases hi) (K _ _ hfr hFj (fun q hq => hI q (by omega)))
      · simp only [i_le, show (46 : Int32).toInt = 46 from by decide] at h3
        refine g_loadA act (gx gp_239 (w := 0x1803) rfl (by decide) rfl) (a := 0) (n := 24) rfl rfl rfl ?_
        refine r_getf act (gx gp_239 (w := 0x3000089001b04) rfl (by decide) rfl) (n := 27) (ci := 9) (j := 2) (N := 39) rfl rfl rfl rwj.1 (by decide) (rwj.2 (2, 126, 32, 46) (by decide)).1 ?_
        refine g_loadI act (gx gp_239 (w := 0x1001c02) rfl (by decide) rfl) (a := 1) (n := 28) rfl rfl rfl ?_
        refine g_constI act (gx gp_239 (w := 0x40000000400000001000000001d01) rfl (by decide) rfl) (n := 29) (x := (0 : Int32)) (by decide) rfl ?_
        refine r_iast act (gx gp_239 (w := 0x1e24) rfl (by decide) rfl) (n := 30) (j := k9) rfl (rwj.2 (2, 126, 32, 46) (by decide)).2 hkj (show k9 < 46 by omega) ?_
        have rw_1 := RW.wr (k := 126) (j := k9) (v := .int (0 : Int32)) rwj (Or.inl (by decide))
        have f_2 := hFj.put (j := k9) (rwj.2 (2, 126, 32, 46) (by decide)).2 (show (0 : Int32).toInt = ((0 : Nat) : Int) from by decide)
        have fr_3 := hfr.wr (k := 126) (j := k9) (.int (0 : Int32)) (by unfold Wc126; omega)
        clear rwj hfr hFj
        generalize (wr hj 126 k9 (.int (0 : Int32))) = hs_4 at *
        refine g_iinc act (gx gp_239 (w := 0x80000001000001002109) rfl (by decide) rfl) (a := 1) (i := (1 : Int32)) (n := 33) rfl (by decide) rfl rfl (L2 := [some (.ref 124), some (.int (kj + (1 : Int32)))]) rfl ?_
        have v_5 := iv_addN hkj (show (1 : Int32).toInt = ((1 : Nat) : Int) from by decide) (show (k9 + 1) < 2147483648 by omega)
        refine g_goto act (gx gp_239 (w := 0x1107) rfl (by decide) rfl) (n := 17) rfl ?_
        exact ih _ (by omega) _ (upI fj k9 ((0 : Nat) : Int)) _ (k9 + 1) rw_1 f_2  v_5 (by omega) fr_3 (fun q hq => by
          by_cases e9 : q = k9
          · subst e9; simp only [upI, ↓reduceIte]; all_goals rfl
          · have w9 := hI q (by omega); simp only [upI]; omega) rfl
    exact go hA f0 k0 0 rwA hFA  hk0 (Nat.zero_le _) (FrS.rf _ _) (fun q hq => absurd hq (Nat.not_lt_zero _))
  have loopB : ∀ (hA : List CE) (f0 : Nat → Int), RW hA → IArr hA 128 39 f0 → (∀ (h2 : List CE) (f2 : Nat → Int), FrS Wc128 hA h2 → IArr h2 128 39 f2 → (∀ q, q < 39 → f2 q = 0) → WpN (gp g0 wp) CLS p l e R s m args below meth c Q D_239.2.2.1 kc0 ks0 57 [some (.ref 124), none] (h2, kc, ks) []) → ∀ k0 : Int32, k0.toInt = ((0 : Nat) : Int) → WpN (gp g0 wp) CLS p l e R s m args below meth c Q D_239.2.2.1 kc0 ks0 38 [some (.ref 124), some (.int k0)] (hA, kc, ks) [] := by
    intro hA f0 rwA hFA  K k0 hk0
    have go : ∀ (hj : List CE) (fj : Nat → Int) (kj : Int32) (k9 : Nat), RW hj → IArr hj 128 39 fj → kj.toInt = (k9 : Int) → k9 ≤ 39 → FrS Wc128 hA hj → (∀ q, q < k9 → fj q = 0) → WpN (gp g0 wp) CLS p l e R s m args below meth c Q D_239.2.2.1 kc0 ks0 38 [some (.ref 124), some (.int kj)] (hj, kc, ks) [] := by
      intro hj fj kj k9 rwj hFj  hkj hkN hfr hI
      generalize hm : 39 - k9 = m9
      induction m9 using Nat.strongRecOn generalizing hj fj kj k9 with
      | _ m9 ih =>
      subst hm
      refine g_loadI act (gx gp_239 (w := 0x1002702) rfl (by decide) rfl) (a := 1) (n := 39) rfl rfl rfl ?_
      refine g_constI act (gx gp_239 (w := 0x40000013c00000139000000002901) rfl (by decide) rfl) (n := 41) (x := (39 : Int32)) (by decide) rfl ?_
      refine g_icmpGe act (gx gp_239 (w := 0x39002c08) rfl (by decide) rfl) (tgt := 57) (n := 44) rfl rfl (fun h3 => ?_) (fun h3 => ?_)
      · simp only [i_le, show (39 : Int32).toInt = 39 from by decide] at h3
        exact n_forget (d := D_239) (L2 := [some (.ref 124), none]) (fun i v hi => by
          match i, hi with
          | 0, hi => exact hi
          | 1, hi => cases hi
          | i + 2, hi => cases hi) (K _ _ hfr hFj (fun q hq => hI q (by omega)))
      · simp only [i_le, show (39 : Int32).toInt = 39 from by decide] at h3
        refine g_loadA act (gx gp_239 (w := 0x2d03) rfl (by decide) rfl) (a := 0) (n := 45) rfl rfl rfl ?_
        refine r_getf act (gx gp_239 (w := 0x3000109003004) rfl (by decide) rfl) (n := 48) (ci := 9) (j := 4) (N := 39) rfl rfl rfl rwj.1 (by decide) (rwj.2 (4, 128, 32, 39) (by decide)).1 ?_
        refine g_loadI act (gx gp_239 (w := 0x1003102) rfl (by decide) rfl) (a := 1) (n := 49) rfl rfl rfl ?_
        refine g_constI act (gx gp_239 (w := 0x40000000400000001000000003201) rfl (by decide) rfl) (n := 50) (x := (0 : Int32)) (by decide) rfl ?_
        refine r_iast act (gx gp_239 (w := 0x3324) rfl (by decide) rfl) (n := 51) (j := k9) rfl (rwj.2 (4, 128, 32, 39) (by decide)).2 hkj (show k9 < 39 by omega) ?_
        have rw_6 := RW.wr (k := 128) (j := k9) (v := .int (0 : Int32)) rwj (Or.inl (by decide))
        have f_7 := hFj.put (j := k9) (rwj.2 (4, 128, 32, 39) (by decide)).2 (show (0 : Int32).toInt = ((0 : Nat) : Int) from by decide)
        have fr_8 := hfr.wr (k := 128) (j := k9) (.int (0 : Int32)) (by unfold Wc128; omega)
        clear rwj hfr hFj
        generalize (wr hj 128 k9 (.int (0 : Int32))) = hs_9 at *
        refine g_iinc act (gx gp_239 (w := 0x80000001000001003609) rfl (by decide) rfl) (a := 1) (i := (1 : Int32)) (n := 54) rfl (by decide) rfl rfl (L2 := [some (.ref 124), some (.int (kj + (1 : Int32)))]) rfl ?_
        have v_10 := iv_addN hkj (show (1 : Int32).toInt = ((1 : Nat) : Int) from by decide) (show (k9 + 1) < 2147483648 by omega)
        refine g_goto act (gx gp_239 (w := 0x2607) rfl (by decide) rfl) (n := 38) rfl ?_
        exact ih _ (by omega) _ (upI fj k9 ((0 : Nat) : Int)) _ (k9 + 1) rw_6 f_7  v_10 (by omega) fr_8 (fun q hq => by
          by_cases e9 : q = k9
          · subst e9; simp only [upI, ↓reduceIte]; all_goals rfl
          · have w9 := hI q (by omega); simp only [upI]; omega) rfl
    exact go hA f0 k0 0 rwA hFA  hk0 (Nat.zero_le _) (FrS.rf _ _) (fun q hq => absurd hq (Nat.not_lt_zero _))
  have loopC : ∀ (hA : List CE) (f0 : Nat → Int) (fg : Nat → Int), RW hA → IArr hA 125 46 f0 → IArr hA 126 46 fg → (∀ (h2 : List CE) (f2 : Nat → Int), FrS Wc125 hA h2 → IArr h2 125 46 f2 → (∀ q, q < 46 → f2 q = fg q) → WpN (gp g0 wp) CLS p l e R s m args below meth c Q D_239.2.2.1 kc0 ks0 115 [some (.ref 124), none] (h2, kc, ks) []) → ∀ k0 : Int32, k0.toInt = ((0 : Nat) : Int) → WpN (gp g0 wp) CLS p l e R s m args below meth c Q D_239.2.2.1 kc0 ks0 91 [some (.ref 124), some (.int k0)] (hA, kc, ks) [] := by
    intro hA f0 fg rwA hFA hS0A K k0 hk0
    have go : ∀ (hj : List CE) (fj : Nat → Int) (kj : Int32) (k9 : Nat), RW hj → IArr hj 125 46 fj → IArr hj 126 46 fg → kj.toInt = (k9 : Int) → k9 ≤ 46 → FrS Wc125 hA hj → (∀ q, q < k9 → fj q = fg q) → WpN (gp g0 wp) CLS p l e R s m args below meth c Q D_239.2.2.1 kc0 ks0 91 [some (.ref 124), some (.int kj)] (hj, kc, ks) [] := by
      intro hj fj kj k9 rwj hFj hS0j hkj hkN hfr hI
      generalize hm : 46 - k9 = m9
      induction m9 using Nat.strongRecOn generalizing hj fj kj k9 with
      | _ m9 ih =>
      subst hm
      refine g_loadI act (gx gp_239 (w := 0x1005c02) rfl (by decide) rfl) (a := 1) (n := 92) rfl rfl rfl ?_
      refine g_constI act (gx gp_239 (w := 0x40000017400000171000000005e01) rfl (by decide) rfl) (n := 94) (x := (46 : Int32)) (by decide) rfl ?_
      refine g_icmpGe act (gx gp_239 (w := 0x73006108) rfl (by decide) rfl) (tgt := 115) (n := 97) rfl rfl (fun h3 => ?_) (fun h3 => ?_)
      · simp only [i_le, show (46 : Int32).toInt = 46 from by decide] at h3
        exact n_forget (d := D_239) (L2 := [some (.ref 124), none]) (fun i v hi => by
          match i, hi with
          | 0, hi => exact hi
          | 1, hi => cases hi
          | i + 2, hi => cases hi) (K _ _ hfr hFj (fun q hq => hI q (by omega)))
      · simp only [i_le, show (46 : Int32).toInt = 46 from by decide] at h3
        refine g_loadA act (gx gp_239 (w := 0x6203) rfl (by decide) rfl) (a := 0) (n := 98) rfl rfl rfl ?_
        refine r_getf act (gx gp_239 (w := 0x3000049006504) rfl (by decide) rfl) (n := 101) (ci := 9) (j := 1) (N := 39) rfl rfl rfl rwj.1 (by decide) (rwj.2 (1, 125, 32, 46) (by decide)).1 ?_
        refine g_loadI act (gx gp_239 (w := 0x1006602) rfl (by decide) rfl) (a := 1) (n := 102) rfl rfl rfl ?_
        refine g_loadA act (gx gp_239 (w := 0x6703) rfl (by decide) rfl) (a := 0) (n := 103) rfl rfl rfl ?_
        refine r_getf act (gx gp_239 (w := 0x3000089006a04) rfl (by decide) rfl) (n := 106) (ci := 9) (j := 2) (N := 39) rfl rfl rfl rwj.1 (by decide) (rwj.2 (2, 126, 32, 46) (by decide)).1 ?_
        refine g_loadI act (gx gp_239 (w := 0x1006b02) rfl (by decide) rfl) (a := 1) (n := 107) rfl rfl rfl ?_
        obtain ⟨x_11, e_12, hx_13⟩ := hS0j k9 (by omega)
        refine r_iald act (gx gp_239 (w := 0x6c1a) rfl (by decide) rfl) (n := 108) (j := k9) rfl (rwj.2 (2, 126, 32, 46) (by decide)).2 hkj (show k9 < 46 by omega) (v := .int x_11) e_12 ?_
        refine r_iast act (gx gp_239 (w := 0x6d24) rfl (by decide) rfl) (n := 109) (j := k9) rfl (rwj.2 (1, 125, 32, 46) (by decide)).2 hkj (show k9 < 46 by omega) ?_
        have rw_14 := RW.wr (k := 125) (j := k9) (v := .int x_11) rwj (Or.inl (by decide))
        have f_15 := hFj.put (j := k9) (rwj.2 (1, 125, 32, 46) (by decide)).2 hx_13
        have f_16 := hS0j.ne (k := 125) (j := k9) (v := .int x_11) (by decide)
        have fr_17 := hfr.wr (k := 125) (j := k9) (.int x_11) (by unfold Wc125; omega)
        clear rwj hfr hFj hS0j
        generalize (wr hj 125 k9 (.int x_11)) = hs_18 at *
        refine g_iinc act (gx gp_239 (w := 0x80000001000001007009) rfl (by decide) rfl) (a := 1) (i := (1 : Int32)) (n := 112) rfl (by decide) rfl rfl (L2 := [some (.ref 124), some (.int (kj + (1 : Int32)))]) rfl ?_
        have v_19 := iv_addN hkj (show (1 : Int32).toInt = ((1 : Nat) : Int) from by decide) (show (k9 + 1) < 2147483648 by omega)
        refine g_goto act (gx gp_239 (w := 0x5b07) rfl (by decide) rfl) (n := 91) rfl ?_
        exact ih _ (by omega) _ (upI fj k9 (fg k9)) _ (k9 + 1) rw_14 f_15 f_16 v_19 (by omega) fr_17 (fun q hq => by
          by_cases e9 : q = k9
          · subst e9; simp only [upI, ↓reduceIte]; all_goals rfl
          · have w9 := hI q (by omega); simp only [upI]; omega) rfl
    exact go hA f0 k0 0 rwA hFA hS0A hk0 (Nat.zero_le _) (FrS.rf _ _) (fun q hq => absurd hq (Nat.not_lt_zero _))
  have loopD : ∀ (hA : List CE) (f0 : Nat → Int) (gg : Nat → Int), RW hA → IArr hA 127 39 f0 → IArr hA 128 39 gg → (∀ (h2 : List CE) (f2 : Nat → Int), FrS Wc127 hA h2 → IArr h2 127 39 f2 → (∀ q, q < 39 → f2 q = gg q) → WpN (gp g0 wp) CLS p l e R s m args below meth c Q D_239.2.2.1 kc0 ks0 141 [some (.ref 124), none] (h2, kc, ks) []) → ∀ k0 : Int32, k0.toInt = ((0 : Nat) : Int) → WpN (gp g0 wp) CLS p l e R s m args below meth c Q D_239.2.2.1 kc0 ks0 117 [some (.ref 124), some (.int k0)] (hA, kc, ks) [] := by
    intro hA f0 gg rwA hFA hS0A K k0 hk0
    have go : ∀ (hj : List CE) (fj : Nat → Int) (kj : Int32) (k9 : Nat), RW hj → IArr hj 127 39 fj → IArr hj 128 39 gg → kj.toInt = (k9 : Int) → k9 ≤ 39 → FrS Wc127 hA hj → (∀ q, q < k9 → fj q = gg q) → WpN (gp g0 wp) CLS p l e R s m args below meth c Q D_239.2.2.1 kc0 ks0 117 [some (.ref 124), some (.int kj)] (hj, kc, ks) [] := by
      intro hj fj kj k9 rwj hFj hS0j hkj hkN hfr hI
      generalize hm : 39 - k9 = m9
      induction m9 using Nat.strongRecOn generalizing hj fj kj k9 with
      | _ m9 ih =>
      subst hm
      refine g_loadI act (gx gp_239 (w := 0x1007602) rfl (by decide) rfl) (a := 1) (n := 118) rfl rfl rfl ?_
      refine g_constI act (gx gp_239 (w := 0x40000013c00000139000000007801) rfl (by decide) rfl) (n := 120) (x := (39 : Int32)) (by decide) rfl ?_
      refine g_icmpGe act (gx gp_239 (w := 0x8d007b08) rfl (by decide) rfl) (tgt := 141) (n := 123) rfl rfl (fun h3 => ?_) (fun h3 => ?_)
      · simp only [i_le, show (39 : Int32).toInt = 39 from by decide] at h3
        exact n_forget (d := D_239) (L2 := [some (.ref 124), none]) (fun i v hi => by
          match i, hi with
          | 0, hi => exact hi
          | 1, hi => cases hi
          | i + 2, hi => cases hi) (K _ _ hfr hFj (fun q hq => hI q (by omega)))
      · simp only [i_le, show (39 : Int32).toInt = 39 from by decide] at h3
        refine g_loadA act (gx gp_239 (w := 0x7c03) rfl (by decide) rfl) (a := 0) (n := 124) rfl rfl rfl ?_
        refine r_getf act (gx gp_239 (w := 0x30000c9007f04) rfl (by decide) rfl) (n := 127) (ci := 9) (j := 3) (N := 39) rfl rfl rfl rwj.1 (by decide) (rwj.2 (3, 127, 32, 39) (by decide)).1 ?_
        refine g_loadI act (gx gp_239 (w := 0x1008002) rfl (by decide) rfl) (a := 1) (n := 128) rfl rfl rfl ?_
        refine g_loadA act (gx gp_239 (w := 0x8103) rfl (by decide) rfl) (a := 0) (n := 129) rfl rfl rfl ?_
        refine r_getf act (gx gp_239 (w := 0x3000109008404) rfl (by decide) rfl) (n := 132) (ci := 9) (j := 4) (N := 39) rfl rfl rfl rwj.1 (by decide) (rwj.2 (4, 128, 32, 39) (by decide)).1 ?_
        refine g_loadI act (gx gp_239 (w := 0x1008502) rfl (by decide) rfl) (a := 1) (n := 133) rfl rfl rfl ?_
        obtain ⟨x_20, e_21, hx_22⟩ := hS0j k9 (by omega)
        refine r_iald act (gx gp_239 (w := 0x861a) rfl (by decide) rfl) (n := 134) (j := k9) rfl (rwj.2 (4, 128, 32, 39) (by decide)).2 hkj (show k9 < 39 by omega) (v := .int x_20) e_21 ?_
        refine r_iast act (gx gp_239 (w := 0x8724) rfl (by decide) rfl) (n := 135) (j := k9) rfl (rwj.2 (3, 127, 32, 39) (by decide)).2 hkj (show k9 < 39 by omega) ?_
        have rw_23 := RW.wr (k := 127) (j := k9) (v := .int x_20) rwj (Or.inl (by decide))
        have f_24 := hFj.put (j := k9) (rwj.2 (3, 127, 32, 39) (by decide)).2 hx_22
        have f_25 := hS0j.ne (k := 127) (j := k9) (v := .int x_20) (by decide)
        have fr_26 := hfr.wr (k := 127) (j := k9) (.int x_20) (by unfold Wc127; omega)
        clear rwj hfr hFj hS0j
        generalize (wr hj 127 k9 (.int x_20)) = hs_27 at *
        refine g_iinc act (gx gp_239 (w := 0x80000001000001008a09) rfl (by decide) rfl) (a := 1) (i := (1 : Int32)) (n := 138) rfl (by decide) rfl rfl (L2 := [some (.ref 124), some (.int (kj + (1 : Int32)))]) rfl ?_
        have v_28 := iv_addN hkj (show (1 : Int32).toInt = ((1 : Nat) : Int) from by decide) (show (k9 + 1) < 2147483648 by omega)
        refine g_goto act (gx gp_239 (w := 0x7507) rfl (by decide) rfl) (n := 117) rfl ?_
        exact ih _ (by omega) _ (upI fj k9 (gg k9)) _ (k9 + 1) rw_23 f_24 f_25 v_28 (by omega) fr_26 (fun q hq => by
          by_cases e9 : q = k9
          · subst e9; simp only [upI, ↓reduceIte]; all_goals rfl
          · have w9 := hI q (by omega); simp only [upI]; omega) rfl
    exact go hA f0 k0 0 rwA hFA hS0A hk0 (Nat.zero_le _) (FrS.rf _ _) (fun q hq => absurd hq (Nat.not_lt_zero _))
  obtain ⟨tl, wl, pv, nl, n, ng, nr, np, ⟨rw0, hTo, hW⟩, hPa, ⟨p9, e6, hp9⟩, hp10, hNW, hPN, hM, ⟨⟨tx, hT⟩, ⟨L9, e10, hL9⟩, hL0, hL7, ⟨A9, e11⟩, ⟨c9, e12⟩, ⟨d9, e13⟩, ⟨f9, e15⟩, ⟨b9, e14, hb9⟩, ⟨fv, hF⟩, ⟨gv, hG⟩⟩⟩ := hRI
  obtain ⟨⟨x0, e0, hx0⟩, -⟩ := id hM
  have hN9 := hNW.1
  obtain ⟨n0, n1, n2, n3, n4, n5, n6, n7, n8, hG0, nL, nC, nP, nD⟩ := hN9
  have hGn := hG0.1
  have hGn3 := hG0.2.1
  have hGl := hG0.2.2.1
  have hfr0 := FrS.rf WR0 hs
  show WpN (gp g0 wp) CLS p l e R s m args below meth c Q D_239.2.2.1 kc0 ks0 0 [some (.ref 124), none] (hs, kc, ks) []
  refine g_loadA act (gx gp_239 (w := 0x103) rfl (by decide) rfl) (a := 0) (n := 1) rfl rfl rfl ?_
  refine g_constI act (gx gp_239 (w := 0x40000000400000001000000000201) rfl (by decide) rfl) (n := 2) (x := (0 : Int32)) (by decide) rfl ?_
  refine r_putf act (gx gp_239 (w := 0x9000513) rfl (by decide) rfl) (n := 5) (ci := 9) (j := 0) (N := 39) rfl rfl rfl rw0.1 (by decide) (Or.inl ⟨rfl, _, rfl⟩) ?_
  have rw_1 := RW.wr (k := 124) (j := 0) (v := .int (0 : Int32)) rw0 (Or.inr (by decide))
  have f_2 := hTo.ne (k := 124) (j := 0) (v := .int (0 : Int32)) (by decide)
  have f_3 := hW.ne (k := 124) (j := 0) (v := .int (0 : Int32)) (by decide)
  have f_4 := hPa.ne (k := 124) (j := 0) (v := .int (0 : Int32)) (by decide)
  have f_5 := hT.ne (k := 124) (j := 0) (v := .int (0 : Int32)) (by decide)
  have f_6 := hF.ne (k := 124) (j := 0) (v := .int (0 : Int32)) (by decide)
  have f_7 := hG.ne (k := 124) (j := 0) (v := .int (0 : Int32)) (by decide)
  have f_9 := (rd_ne hs (k := 124) (j := 0) (.int (0 : Int32)) (Or.inr (by decide))).trans e6
  have f_10 := (rd_ne hs (k := 124) (j := 0) (.int (0 : Int32)) (Or.inr (by decide))).trans e10
  have f_11 := (rd_ne hs (k := 124) (j := 0) (.int (0 : Int32)) (Or.inr (by decide))).trans e11
  have f_12 := (rd_ne hs (k := 124) (j := 0) (.int (0 : Int32)) (Or.inr (by decide))).trans e12
  have f_13 := (rd_ne hs (k := 124) (j := 0) (.int (0 : Int32)) (Or.inr (by decide))).trans e13
  have f_14 := (rd_ne hs (k := 124) (j := 0) (.int (0 : Int32)) (Or.inr (by decide))).trans e15
  have f_15 := (rd_ne hs (k := 124) (j := 0) (.int (0 : Int32)) (Or.inr (by decide))).trans e14
  have f_16 := rd_same (j := 0) (v := .int (0 : Int32)) rw0.1
  have fr_17 := hfr0.wr (k := 124) (j := 0) (.int (0 : Int32)) (by unfold WR0; omega)
  clear hTo hW hPa hT hF hG e0 e6 e10 e11 e12 e13 e15 e14
  generalize (wr hs 124 0 (.int (0 : Int32))) = hs_18 at *
  refine g_loadA act (gx gp_239 (w := 0x603) rfl (by decide) rfl) (a := 0) (n := 6) rfl rfl rfl ?_
  refine g_constI act (gx gp_239 (w := 0x40000000400000001000000000701) rfl (by decide) rfl) (n := 7) (x := (0 : Int32)) (by decide) rfl ?_
  refine r_putf act (gx gp_239 (w := 0x309000a13) rfl (by decide) rfl) (n := 10) (ci := 9) (j := 12) (N := 39) rfl rfl rfl rw_1.1 (by decide) (Or.inl ⟨rfl, _, rfl⟩) ?_
  have rw_19 := RW.wr (k := 124) (j := 12) (v := .int (0 : Int32)) rw_1 (Or.inr (by decide))
  have f_20 := f_2.ne (k := 124) (j := 12) (v := .int (0 : Int32)) (by decide)
  have f_21 := f_3.ne (k := 124) (j := 12) (v := .int (0 : Int32)) (by decide)
  have f_22 := f_4.ne (k := 124) (j := 12) (v := .int (0 : Int32)) (by decide)
  have f_23 := f_5.ne (k := 124) (j := 12) (v := .int (0 : Int32)) (by decide)
  have f_24 := f_6.ne (k := 124) (j := 12) (v := .int (0 : Int32)) (by decide)
  have f_25 := f_7.ne (k := 124) (j := 12) (v := .int (0 : Int32)) (by decide)
  have f_26 := (rd_ne hs_18 (k := 124) (j := 12) (.int (0 : Int32)) (Or.inr (by decide))).trans f_9
  have f_27 := (rd_ne hs_18 (k := 124) (j := 12) (.int (0 : Int32)) (Or.inr (by decide))).trans f_10
  have f_28 := (rd_ne hs_18 (k := 124) (j := 12) (.int (0 : Int32)) (Or.inr (by decide))).trans f_11
  have f_30 := (rd_ne hs_18 (k := 124) (j := 12) (.int (0 : Int32)) (Or.inr (by decide))).trans f_13
  have f_31 := (rd_ne hs_18 (k := 124) (j := 12) (.int (0 : Int32)) (Or.inr (by decide))).trans f_14
  have f_32 := (rd_ne hs_18 (k := 124) (j := 12) (.int (0 : Int32)) (Or.inr (by decide))).trans f_15
  have f_33 := (rd_ne hs_18 (k := 124) (j := 12) (.int (0 : Int32)) (Or.inr (by decide))).trans f_16
  have f_34 := rd_same (j := 12) (v := .int (0 : Int32)) rw_1.1
  have fr_35 := fr_17.wr (k := 124) (j := 12) (.int (0 : Int32)) (by unfold WR0; omega)
  clear rw_1 fr_17 f_2 f_3 f_4 f_5 f_6 f_7 f_9 f_10 f_11 f_12 f_13 f_14 f_15 f_16
  generalize (wr hs_18 124 12 (.int (0 : Int32))) = hs_36 at *
  refine g_loadA act (gx gp_239 (w := 0xb03) rfl (by decide) rfl) (a := 0) (n := 11) rfl rfl rfl ?_
  refine g_constI act (gx gp_239 (w := 0x3fffffffbfffffff9000000000c01) rfl (by decide) rfl) (n := 12) (x := (-1 : Int32)) (by decide) rfl ?_
  refine r_putf act (gx gp_239 (w := 0x349000f13) rfl (by decide) rfl) (n := 15) (ci := 9) (j := 13) (N := 39) rfl rfl rfl rw_19.1 (by decide) (Or.inl ⟨rfl, _, rfl⟩) ?_
  have rw_37 := RW.wr (k := 124) (j := 13) (v := .int (-1 : Int32)) rw_19 (Or.inr (by decide))
  have f_38 := f_20.ne (k := 124) (j := 13) (v := .int (-1 : Int32)) (by decide)
  have f_39 := f_21.ne (k := 124) (j := 13) (v := .int (-1 : Int32)) (by decide)
  have f_40 := f_22.ne (k := 124) (j := 13) (v := .int (-1 : Int32)) (by decide)
  have f_41 := f_23.ne (k := 124) (j := 13) (v := .int (-1 : Int32)) (by decide)
  have f_42 := f_24.ne (k := 124) (j := 13) (v := .int (-1 : Int32)) (by decide)
  have f_43 := f_25.ne (k := 124) (j := 13) (v := .int (-1 : Int32)) (by decide)
  have f_44 := (rd_ne hs_36 (k := 124) (j := 13) (.int (-1 : Int32)) (Or.inr (by decide))).trans f_26
  have f_45 := (rd_ne hs_36 (k := 124) (j := 13) (.int (-1 : Int32)) (Or.inr (by decide))).trans f_27
  have f_46 := (rd_ne hs_36 (k := 124) (j := 13) (.int (-1 : Int32)) (Or.inr (by decide))).trans f_28
  have f_48 := (rd_ne hs_36 (k := 124) (j := 13) (.int (-1 : Int32)) (Or.inr (by decide))).trans f_31
  have f_49 := (rd_ne hs_36 (k := 124) (j := 13) (.int (-1 : Int32)) (Or.inr (by decide))).trans f_32
  have f_50 := (rd_ne hs_36 (k := 124) (j := 13) (.int (-1 : Int32)) (Or.inr (by decide))).trans f_33
  have f_51 := (rd_ne hs_36 (k := 124) (j := 13) (.int (-1 : Int32)) (Or.inr (by decide))).trans f_34
  have f_52 := rd_same (j := 13) (v := .int (-1 : Int32)) rw_19.1
  have fr_53 := fr_35.wr (k := 124) (j := 13) (.int (-1 : Int32)) (by unfold WR0; omega)
  clear rw_19 fr_35 f_20 f_21 f_22 f_23 f_24 f_25 f_26 f_27 f_28 f_30 f_31 f_32 f_33 f_34
  generalize (wr hs_36 124 13 (.int (-1 : Int32))) = hs_54 at *
  refine g_constI act (gx gp_239 (w := 0x40000000400000001000000001001) rfl (by decide) rfl) (n := 16) (x := (0 : Int32)) (by decide) rfl ?_
  refine g_storeI act (gx gp_239 (w := 0x1001110) rfl (by decide) rfl) (a := 1) (n := 17) rfl rfl (L2 := [some (.ref 124), some (.int (0 : Int32))]) rfl ?_
  refine loopA _ _ rw_37 f_42  (fun hs_c55 f2_c55 fr_c55 hFa_c55 hz_c55 => ?_) _ (show (0 : Int32).toInt = ((0 : Nat) : Int) from by decide)
  have rw_56 := rw_37.fr fr_c55 Wc126_rw
  have f_57 := f_38.fr (fun j9 _ => fr_c55.2.2 125 j9 (by unfold Wc126; omega))
  have f_58 := f_39.fr (fun j9 _ => fr_c55.2.2 127 j9 (by unfold Wc126; omega))
  have f_59 := f_40.fr (fun j9 _ => fr_c55.2.2 129 j9 (by unfold Wc126; omega))
  have f_60 := f_41.fr (fun j9 _ => fr_c55.2.2 130 j9 (by unfold Wc126; omega))
  have f_61 := f_43.fr (fun j9 _ => fr_c55.2.2 128 j9 (by unfold Wc126; omega))
  have f_62 := rd_fr fr_c55 f_44 (by unfold Wc126; omega)
  have f_63 := rd_fr fr_c55 f_45 (by unfold Wc126; omega)
  have f_64 := rd_fr fr_c55 f_46 (by unfold Wc126; omega)
  have f_65 := rd_fr fr_c55 f_48 (by unfold Wc126; omega)
  have f_66 := rd_fr fr_c55 f_49 (by unfold Wc126; omega)
  have f_67 := rd_fr fr_c55 f_50 (by unfold Wc126; omega)
  have f_68 := rd_fr fr_c55 f_51 (by unfold Wc126; omega)
  have f_69 := rd_fr fr_c55 f_52 (by unfold Wc126; omega)
  have fr_70 := fr_53.tr (fr_c55.mono (fun k9 j9 h9 => by unfold Wc126 at h9; unfold WR0; omega))
  have hF_c55 := hFa_c55
  clear rw_37 f_38 f_39 f_40 f_41 f_42 f_43 f_44 f_45 f_46 f_48 f_49 f_50 f_51 f_52 fr_53
  refine g_constI act (gx gp_239 (w := 0x40000000400000001000000002501) rfl (by decide) rfl) (n := 37) (x := (0 : Int32)) (by decide) rfl ?_
  refine g_storeI act (gx gp_239 (w := 0x1002610) rfl (by decide) rfl) (a := 1) (n := 38) rfl rfl (L2 := [some (.ref 124), some (.int (0 : Int32))]) rfl ?_
  refine loopB _ _ rw_56 f_61  (fun hs_c71 f2_c71 fr_c71 hFa_c71 hz_c71 => ?_) _ (show (0 : Int32).toInt = ((0 : Nat) : Int) from by decide)
  have rw_72 := rw_56.fr fr_c71 Wc128_rw
  have f_73 := f_57.fr (fun j9 _ => fr_c71.2.2 125 j9 (by unfold Wc128; omega))
  have f_74 := f_58.fr (fun j9 _ => fr_c71.2.2 127 j9 (by unfold Wc128; omega))
  have f_75 := f_59.fr (fun j9 _ => fr_c71.2.2 129 j9 (by unfold Wc128; omega))
  have f_76 := f_60.fr (fun j9 _ => fr_c71.2.2 130 j9 (by unfold Wc128; omega))
  have f_77 := rd_fr fr_c71 f_62 (by unfold Wc128; omega)
  have f_78 := rd_fr fr_c71 f_63 (by unfold Wc128; omega)
  have f_79 := rd_fr fr_c71 f_64 (by unfold Wc128; omega)
  have f_80 := rd_fr fr_c71 f_65 (by unfold Wc128; omega)
  have f_81 := rd_fr fr_c71 f_66 (by unfold Wc128; omega)
  have f_82 := rd_fr fr_c71 f_67 (by unfold Wc128; omega)
  have f_83 := rd_fr fr_c71 f_68 (by unfold Wc128; omega)
  have f_84 := rd_fr fr_c71 f_69 (by unfold Wc128; omega)
  have f_85 := hF_c55.fr (fun j9 _ => fr_c71.2.2 126 j9 (by unfold Wc128; omega))
  have fr_86 := fr_70.tr (fr_c71.mono (fun k9 j9 h9 => by unfold Wc128 at h9; unfold WR0; omega))
  have hF_c71 := hFa_c71
  clear rw_56 f_57 f_58 f_59 f_60 f_61 f_62 f_63 f_64 f_65 f_66 f_67 f_68 f_69 hF_c55 fr_70
  refine g_loadA act (gx gp_239 (w := 0x3a03) rfl (by decide) rfl) (a := 0) (n := 58) rfl rfl rfl ?_
  refine g_constI act (gx gp_239 (w := 0x40000000400000001000000003b01) rfl (by decide) rfl) (n := 59) (x := (0 : Int32)) (by decide) rfl ?_
  refine r_putf act (gx gp_239 (w := 0x2c9003e13) rfl (by decide) rfl) (n := 62) (ci := 9) (j := 11) (N := 39) rfl rfl rfl rw_72.1 (by decide) (Or.inl ⟨rfl, _, rfl⟩) ?_
  have rw_87 := RW.wr (k := 124) (j := 11) (v := .int (0 : Int32)) rw_72 (Or.inr (by decide))
  have f_88 := f_73.ne (k := 124) (j := 11) (v := .int (0 : Int32)) (by decide)
  have f_89 := f_74.ne (k := 124) (j := 11) (v := .int (0 : Int32)) (by decide)
  have f_90 := f_75.ne (k := 124) (j := 11) (v := .int (0 : Int32)) (by decide)
  have f_91 := f_76.ne (k := 124) (j := 11) (v := .int (0 : Int32)) (by decide)
  have f_92 := (rd_ne hs_c71 (k := 124) (j := 11) (.int (0 : Int32)) (Or.inr (by decide))).trans f_77
  have f_93 := (rd_ne hs_c71 (k := 124) (j := 11) (.int (0 : Int32)) (Or.inr (by decide))).trans f_78
  have f_95 := (rd_ne hs_c71 (k := 124) (j := 11) (.int (0 : Int32)) (Or.inr (by decide))).trans f_80
  have f_96 := (rd_ne hs_c71 (k := 124) (j := 11) (.int (0 : Int32)) (Or.inr (by decide))).trans f_81
  have f_97 := (rd_ne hs_c71 (k := 124) (j := 11) (.int (0 : Int32)) (Or.inr (by decide))).trans f_82
  have f_98 := (rd_ne hs_c71 (k := 124) (j := 11) (.int (0 : Int32)) (Or.inr (by decide))).trans f_83
  have f_99 := (rd_ne hs_c71 (k := 124) (j := 11) (.int (0 : Int32)) (Or.inr (by decide))).trans f_84
  have f_100 := f_85.ne (k := 124) (j := 11) (v := .int (0 : Int32)) (by decide)
  have f_101 := hF_c71.ne (k := 124) (j := 11) (v := .int (0 : Int32)) (by decide)
  have f_102 := rd_same (j := 11) (v := .int (0 : Int32)) rw_72.1
  have fr_103 := fr_86.wr (k := 124) (j := 11) (.int (0 : Int32)) (by unfold WR0; omega)
  clear rw_72 fr_86 f_73 f_74 f_75 f_76 f_77 f_78 f_79 f_80 f_81 f_82 f_83 f_84 f_85 hF_c71
  generalize (wr hs_c71 124 11 (.int (0 : Int32))) = hs_104 at *
  refine g_loadA act (gx gp_239 (w := 0x3f03) rfl (by decide) rfl) (a := 0) (n := 63) rfl rfl rfl ?_
  refine g_constI act (gx gp_239 (w := 0x40000000400000001000000004001) rfl (by decide) rfl) (n := 64) (x := (0 : Int32)) (by decide) rfl ?_
  refine r_putf act (gx gp_239 (w := 0x1000389004313) rfl (by decide) rfl) (n := 67) (ci := 9) (j := 14) (N := 39) rfl rfl rfl rw_87.1 (by decide) (Or.inr (Or.inl ⟨rfl, Or.inl rfl⟩)) ?_
  have rw_105 := RW.wr (k := 124) (j := 14) (v := .int (0 : Int32)) rw_87 (Or.inr (by decide))
  have f_106 := f_88.ne (k := 124) (j := 14) (v := .int (0 : Int32)) (by decide)
  have f_107 := f_89.ne (k := 124) (j := 14) (v := .int (0 : Int32)) (by decide)
  have f_108 := f_90.ne (k := 124) (j := 14) (v := .int (0 : Int32)) (by decide)
  have f_109 := f_91.ne (k := 124) (j := 14) (v := .int (0 : Int32)) (by decide)
  have f_110 := (rd_ne hs_104 (k := 124) (j := 14) (.int (0 : Int32)) (Or.inr (by decide))).trans f_92
  have f_111 := (rd_ne hs_104 (k := 124) (j := 14) (.int (0 : Int32)) (Or.inr (by decide))).trans f_93
  have f_112 := (rd_ne hs_104 (k := 124) (j := 14) (.int (0 : Int32)) (Or.inr (by decide))).trans f_95
  have f_114 := (rd_ne hs_104 (k := 124) (j := 14) (.int (0 : Int32)) (Or.inr (by decide))).trans f_97
  have f_115 := (rd_ne hs_104 (k := 124) (j := 14) (.int (0 : Int32)) (Or.inr (by decide))).trans f_98
  have f_116 := (rd_ne hs_104 (k := 124) (j := 14) (.int (0 : Int32)) (Or.inr (by decide))).trans f_99
  have f_117 := f_100.ne (k := 124) (j := 14) (v := .int (0 : Int32)) (by decide)
  have f_118 := f_101.ne (k := 124) (j := 14) (v := .int (0 : Int32)) (by decide)
  have f_119 := (rd_ne hs_104 (k := 124) (j := 14) (.int (0 : Int32)) (Or.inr (by decide))).trans f_102
  have f_120 := rd_same (j := 14) (v := .int (0 : Int32)) rw_87.1
  have fr_121 := fr_103.wr (k := 124) (j := 14) (.int (0 : Int32)) (by unfold WR0; omega)
  clear rw_87 fr_103 f_88 f_89 f_90 f_91 f_92 f_93 f_95 f_96 f_97 f_98 f_99 f_100 f_101 f_102
  generalize (wr hs_104 124 14 (.int (0 : Int32))) = hs_122 at *
  refine g_loadA act (gx gp_239 (w := 0x4403) rfl (by decide) rfl) (a := 0) (n := 68) rfl rfl rfl ?_
  refine n_call tb_pres act hEnd (gx (P := G_call) gp_239 (w := 0xa0000000000008041100010300470f) rfl (by decide) rfl) (d' := D_259) rfl (as := [.ref 124]) (rest := []) (br_readGrid (show PSt hs_122 tx L ((0 : Nat) : Int) ((0 : Nat) : Int) from ⟨rw_105, f_109, ⟨_, f_111, hL9⟩, ⟨_, f_119, (show (0 : Int32).toInt = ((0 : Nat) : Int) from by decide)⟩, ⟨_, f_120, (show (0 : Int32).toInt = ((0 : Nat) : Int) from by decide)⟩, ⟨_, f_115⟩, ⟨_, f_116⟩, ⟨_, f_112⟩, by omega, by omega, by omega, by omega, by omega, by omega⟩) f_117 f_118 (fun j hj => hz_c55 j hj) (fun j hj => hz_c71 j hj)) (show (1 : Nat) = fb 0xa0000000000008041100010300470f % 16 by decide) (by show (1 : Nat) ≤ 1; decide) (fun _ => ⟨_, _, rfl, _, shp_at rw_105.1, Or.inr (show fb 0xa0000000000008041100010300470f >>> 68 = 10 by decide)⟩) (by omega) (by show 8 + (1 + 11) + 112 ≤ R.locals; omega) (by show (0 : Nat) ≤ 8; decide) (by show kc + 0 ≤ _; omega) (by show ks + 0 ≤ _; omega) (fun r9 hs_g hpo hr9 => ?_) (fun x9 hs9 hx9 hpo => ?_)
  · obtain rfl : r9 = none := hr9.elim (fun q => q.2) (fun q => absurd rfl q.1)
    obtain ⟨-, -, A_g, b_g, fv_g, gv_g, nl_g, ng_g, nr_g, n_g, hP_g, fr_g, hF_g, hG_g, hI_g, hz_g, hC_g, ho_g⟩ := hpo
    have rw_123 := rw_105.fr fr_g WRd_rw
    have f_124 := f_106.fr (fun j9 _ => fr_g.2.2 125 j9 (by unfold WRd; omega))
    have f_125 := f_107.fr (fun j9 _ => fr_g.2.2 127 j9 (by unfold WRd; omega))
    have f_126 := f_108.fr (fun j9 _ => fr_g.2.2 129 j9 (by unfold WRd; omega))
    have f_127 := f_109.fr (fun j9 _ => fr_g.2.2 130 j9 (by unfold WRd; omega))
    have f_128 := rd_fr fr_g f_110 (by unfold WRd; omega)
    have f_129 := rd_fr fr_g f_111 (by unfold WRd; omega)
    have f_130 := rd_fr fr_g f_114 (by unfold WRd; omega)
    have fr_131 := fr_121.tr (fr_g.mono (fun k9 j9 h9 => by unfold WRd at h9; unfold WR0; omega))
    obtain ⟨-, -, -, ⟨A9_g, e11_g, hA_g⟩, ⟨b9_g, e14_g, hb_g⟩, ⟨c9_g, e12_g⟩, ⟨d9_g, e13_g⟩, ⟨f9_g, e15_g⟩, -, -, q3_g, q4_g, q5_g, q6_g⟩ := hP_g
    clear rw_105 f_106 f_107 f_108 f_109 f_110 f_111 f_112 f_114 f_115 f_116 f_117 f_118 f_119 f_120 fr_121
    show WpN (gp g0 wp) CLS p l e R s m args below meth c Q D_239.2.2.1 kc0 ks0 71 [some (.ref 124), none] (hs_g, kc, ks) []
    refine g_loadA act (gx gp_239 (w := 0x4803) rfl (by decide) rfl) (a := 0) (n := 72) rfl rfl rfl ?_
    refine g_constI act (gx gp_239 (w := 0x40000000400000001000000004901) rfl (by decide) rfl) (n := 73) (x := (0 : Int32)) (by decide) rfl ?_
    refine r_putf act (gx gp_239 (w := 0x289004c13) rfl (by decide) rfl) (n := 76) (ci := 9) (j := 10) (N := 39) rfl rfl rfl rw_123.1 (by decide) (Or.inl ⟨rfl, _, rfl⟩) ?_
    have rw_132 := RW.wr (k := 124) (j := 10) (v := .int (0 : Int32)) rw_123 (Or.inr (by decide))
    have f_133 := f_124.ne (k := 124) (j := 10) (v := .int (0 : Int32)) (by decide)
    have f_134 := f_125.ne (k := 124) (j := 10) (v := .int (0 : Int32)) (by decide)
    have f_135 := f_126.ne (k := 124) (j := 10) (v := .int (0 : Int32)) (by decide)
    have f_136 := f_127.ne (k := 124) (j := 10) (v := .int (0 : Int32)) (by decide)
    have f_137 := (rd_ne hs_g (k := 124) (j := 10) (.int (0 : Int32)) (Or.inr (by decide))).trans f_128
    have f_139 := (rd_ne hs_g (k := 124) (j := 10) (.int (0 : Int32)) (Or.inr (by decide))).trans f_130
    have f_140 := hF_g.ne (k := 124) (j := 10) (v := .int (0 : Int32)) (by decide)
    have f_141 := hG_g.ne (k := 124) (j := 10) (v := .int (0 : Int32)) (by decide)
    have f_142 := (rd_ne hs_g (k := 124) (j := 10) (.int (0 : Int32)) (Or.inr (by decide))).trans e11_g
    have f_143 := (rd_ne hs_g (k := 124) (j := 10) (.int (0 : Int32)) (Or.inr (by decide))).trans e14_g
    have f_144 := (rd_ne hs_g (k := 124) (j := 10) (.int (0 : Int32)) (Or.inr (by decide))).trans e12_g
    have f_145 := (rd_ne hs_g (k := 124) (j := 10) (.int (0 : Int32)) (Or.inr (by decide))).trans e13_g
    have f_146 := (rd_ne hs_g (k := 124) (j := 10) (.int (0 : Int32)) (Or.inr (by decide))).trans e15_g
    have f_147 := rd_same (j := 10) (v := .int (0 : Int32)) rw_123.1
    have fr_148 := fr_131.wr (k := 124) (j := 10) (.int (0 : Int32)) (by unfold WR0; omega)
    clear rw_123 fr_131 f_124 f_125 f_126 f_127 f_128 f_129 f_130 hF_g hG_g e11_g e14_g e12_g e13_g e15_g
    generalize (wr hs_g 124 10 (.int (0 : Int32))) = hs_149 at *
    refine g_loadA act (gx gp_239 (w := 0x4d03) rfl (by decide) rfl) (a := 0) (n := 77) rfl rfl rfl ?_
    refine r_getf act (gx gp_239 (w := 0x1000389005004) rfl (by decide) rfl) (n := 80) (ci := 9) (j := 14) (N := 39) rfl rfl rfl rw_132.1 (by decide) (v := .int b9_g) f_143 ?_
    refine g_ifEq act (gx gp_239 (w := 0x5900530e) rfl (by decide) rfl) (tgt := 89) (n := 83) rfl rfl (fun h19 => ?_) (fun h19 => ?_)
    · simp only [i_eq, i0] at h19
      refine g_constI act (gx gp_239 (w := 0x40000000400000001000000005a01) rfl (by decide) rfl) (n := 90) (x := (0 : Int32)) (by decide) rfl ?_
      refine g_storeI act (gx gp_239 (w := 0x1005b10) rfl (by decide) rfl) (a := 1) (n := 91) rfl rfl (L2 := [some (.ref 124), some (.int (0 : Int32))]) rfl ?_
      refine loopC _ _ _ rw_132 f_133 f_140 (fun hs_c150 f2_c150 fr_c150 hFa_c150 hz_c150 => ?_) _ (show (0 : Int32).toInt = ((0 : Nat) : Int) from by decide)
      have rw_151 := rw_132.fr fr_c150 Wc125_rw
      have f_152 := f_134.fr (fun j9 _ => fr_c150.2.2 127 j9 (by unfold Wc125; omega))
      have f_153 := f_135.fr (fun j9 _ => fr_c150.2.2 129 j9 (by unfold Wc125; omega))
      have f_154 := f_136.fr (fun j9 _ => fr_c150.2.2 130 j9 (by unfold Wc125; omega))
      have f_155 := rd_fr fr_c150 f_137 (by unfold Wc125; omega)
      have f_156 := rd_fr fr_c150 f_139 (by unfold Wc125; omega)
      have f_157 := f_140.fr (fun j9 _ => fr_c150.2.2 126 j9 (by unfold Wc125; omega))
      have f_158 := f_141.fr (fun j9 _ => fr_c150.2.2 128 j9 (by unfold Wc125; omega))
      have f_159 := rd_fr fr_c150 f_142 (by unfold Wc125; omega)
      have f_160 := rd_fr fr_c150 f_143 (by unfold Wc125; omega)
      have f_161 := rd_fr fr_c150 f_144 (by unfold Wc125; omega)
      have f_162 := rd_fr fr_c150 f_145 (by unfold Wc125; omega)
      have f_163 := rd_fr fr_c150 f_146 (by unfold Wc125; omega)
      have f_164 := rd_fr fr_c150 f_147 (by unfold Wc125; omega)
      have fr_165 := fr_148.tr (fr_c150.mono (fun k9 j9 h9 => by unfold Wc125 at h9; unfold WR0; omega))
      have hF_c150 := hFa_c150.cong (g := fv_g) (fun q hq => hz_c150 q hq)
      clear rw_132 f_133 f_134 f_135 f_136 f_137 f_139 f_140 f_141 f_142 f_143 f_144 f_145 f_146 f_147 fr_148
      refine g_constI act (gx gp_239 (w := 0x40000000400000001000000007401) rfl (by decide) rfl) (n := 116) (x := (0 : Int32)) (by decide) rfl ?_
      refine g_storeI act (gx gp_239 (w := 0x1007510) rfl (by decide) rfl) (a := 1) (n := 117) rfl rfl (L2 := [some (.ref 124), some (.int (0 : Int32))]) rfl ?_
      refine loopD _ _ _ rw_151 f_152 f_158 (fun hs_c166 f2_c166 fr_c166 hFa_c166 hz_c166 => ?_) _ (show (0 : Int32).toInt = ((0 : Nat) : Int) from by decide)
      have rw_167 := rw_151.fr fr_c166 Wc127_rw
      have f_168 := f_153.fr (fun j9 _ => fr_c166.2.2 129 j9 (by unfold Wc127; omega))
      have f_169 := f_154.fr (fun j9 _ => fr_c166.2.2 130 j9 (by unfold Wc127; omega))
      have f_170 := rd_fr fr_c166 f_155 (by unfold Wc127; omega)
      have f_171 := rd_fr fr_c166 f_156 (by unfold Wc127; omega)
      have f_172 := f_157.fr (fun j9 _ => fr_c166.2.2 126 j9 (by unfold Wc127; omega))
      have f_173 := f_158.fr (fun j9 _ => fr_c166.2.2 128 j9 (by unfold Wc127; omega))
      have f_174 := rd_fr fr_c166 f_159 (by unfold Wc127; omega)
      have f_175 := rd_fr fr_c166 f_160 (by unfold Wc127; omega)
      have f_176 := rd_fr fr_c166 f_161 (by unfold Wc127; omega)
      have f_177 := rd_fr fr_c166 f_162 (by unfold Wc127; omega)
      have f_178 := rd_fr fr_c166 f_163 (by unfold Wc127; omega)
      have f_179 := rd_fr fr_c166 f_164 (by unfold Wc127; omega)
      have f_180 := hF_c150.fr (fun j9 _ => fr_c166.2.2 125 j9 (by unfold Wc127; omega))
      have fr_181 := fr_165.tr (fr_c166.mono (fun k9 j9 h9 => by unfold Wc127 at h9; unfold WR0; omega))
      have hF_c166 := hFa_c166.cong (g := gv_g) (fun q hq => hz_c166 q hq)
      clear rw_151 f_152 f_153 f_154 f_155 f_156 f_157 f_158 f_159 f_160 f_161 f_162 f_163 f_164 hF_c150 fr_165
      refine g_loadA act (gx gp_239 (w := 0x8e03) rfl (by decide) rfl) (a := 0) (n := 142) rfl rfl rfl ?_
      refine g_constI act (gx gp_239 (w := 0x40000000400000001000000008f01) rfl (by decide) rfl) (n := 143) (x := (0 : Int32)) (by decide) rfl ?_
      refine r_putf act (gx gp_239 (w := 0x189009213) rfl (by decide) rfl) (n := 146) (ci := 9) (j := 6) (N := 39) rfl rfl rfl rw_167.1 (by decide) (Or.inl ⟨rfl, _, rfl⟩) ?_
      have rw_182 := RW.wr (k := 124) (j := 6) (v := .int (0 : Int32)) rw_167 (Or.inr (by decide))
      have f_183 := f_168.ne (k := 124) (j := 6) (v := .int (0 : Int32)) (by decide)
      have f_184 := f_169.ne (k := 124) (j := 6) (v := .int (0 : Int32)) (by decide)
      have f_186 := (rd_ne hs_c166 (k := 124) (j := 6) (.int (0 : Int32)) (Or.inr (by decide))).trans f_171
      have f_187 := f_172.ne (k := 124) (j := 6) (v := .int (0 : Int32)) (by decide)
      have f_188 := f_173.ne (k := 124) (j := 6) (v := .int (0 : Int32)) (by decide)
      have f_189 := (rd_ne hs_c166 (k := 124) (j := 6) (.int (0 : Int32)) (Or.inr (by decide))).trans f_174
      have f_190 := (rd_ne hs_c166 (k := 124) (j := 6) (.int (0 : Int32)) (Or.inr (by decide))).trans f_175
      have f_191 := (rd_ne hs_c166 (k := 124) (j := 6) (.int (0 : Int32)) (Or.inr (by decide))).trans f_176
      have f_192 := (rd_ne hs_c166 (k := 124) (j := 6) (.int (0 : Int32)) (Or.inr (by decide))).trans f_177
      have f_193 := (rd_ne hs_c166 (k := 124) (j := 6) (.int (0 : Int32)) (Or.inr (by decide))).trans f_178
      have f_194 := (rd_ne hs_c166 (k := 124) (j := 6) (.int (0 : Int32)) (Or.inr (by decide))).trans f_179
      have f_195 := f_180.ne (k := 124) (j := 6) (v := .int (0 : Int32)) (by decide)
      have f_196 := hF_c166.ne (k := 124) (j := 6) (v := .int (0 : Int32)) (by decide)
      have f_197 := rd_same (j := 6) (v := .int (0 : Int32)) rw_167.1
      have fr_198 := fr_181.wr (k := 124) (j := 6) (.int (0 : Int32)) (by unfold WR0; omega)
      clear rw_167 fr_181 f_168 f_169 f_170 f_171 f_172 f_173 f_174 f_175 f_176 f_177 f_178 f_179 f_180 hF_c166
      generalize (wr hs_c166 124 6 (.int (0 : Int32))) = hs_199 at *
      refine g_loadA act (gx gp_239 (w := 0x9303) rfl (by decide) rfl) (a := 0) (n := 147) rfl rfl rfl ?_
      refine r_getf act (gx gp_239 (w := 0x3000049009604) rfl (by decide) rfl) (n := 150) (ci := 9) (j := 1) (N := 39) rfl rfl rfl rw_182.1 (by decide) (rw_182.2 (1, 125, 32, 46) (by decide)).1 ?_
      refine g_constI act (gx gp_239 (w := 0x40000001400000011000000009701) rfl (by decide) rfl) (n := 151) (x := (2 : Int32)) (by decide) rfl ?_
      obtain ⟨x_200, e_201, hx_202⟩ := f_195 2 (by omega)
      refine r_iald act (gx gp_239 (w := 0x981a) rfl (by decide) rfl) (n := 152) (j := 2) rfl (rw_182.2 (1, 125, 32, 46) (by decide)).2 (show (2 : Int32).toInt = ((2 : Nat) : Int) from by decide) (show 2 < 46 by omega) (v := .int x_200) e_201 ?_
      exact g_retI hEnd (gx gp_239 (w := 0x2f) rfl (by decide) rfl) ⟨rfl, ⟨_, rfl⟩, ⟨fv_g, gv_g, pv, nl_g, n_g, ng_g, nr_g, 0, ⟨rw_182, f_195, f_196⟩, f_183, ⟨_, f_197, (show (0 : Int32).toInt = ((0 : Nat) : Int) from by decide)⟩, by omega, (nwx_of hI_g (by omega) hz_g (hC_g (by omega)) ho_g), (fun i hi => absurd hi (Nat.not_lt_zero _)), hM.frw fr_198 ⟨_, f_186, by have w9 := (show (0 : Int32).toInt = ((0 : Nat) : Int) from by decide); omega, by have w9 := (show (0 : Int32).toInt = ((0 : Nat) : Int) from by decide); omega⟩, ⟨⟨_, f_184⟩, ⟨_, f_194, ((show (0 : Int32).toInt = ((0 : Nat) : Int) from by decide)).trans (by omega)⟩, by omega, by omega, ⟨_, f_189⟩, ⟨_, f_191⟩, ⟨_, f_192⟩, ⟨_, f_193⟩, ⟨_, f_190, by have w9 := hb_g; omega, by have w9 := hb_g; omega⟩, ⟨_, f_187⟩, ⟨_, f_188⟩⟩⟩, fr_198⟩ hk1 hk2
    · simp only [i_eq, i0] at h19
      refine g_loadA act (gx gp_239 (w := 0x5403) rfl (by decide) rfl) (a := 0) (n := 84) rfl rfl rfl ?_
      refine g_constI act (gx gp_239 (w := 0x40000000c00000009000000005501) rfl (by decide) rfl) (n := 85) (x := (1 : Int32)) (by decide) rfl ?_
      refine n_call tb_pres act hEnd (gx (P := G_call) gp_239 (w := 0xa000000000000c08220000cd00580f) rfl (by decide) rfl) (d' := D_205) rfl (as := [.ref 124, .int (1 : Int32)]) (rest := []) (b_fails rw_132.1) (show (2 : Nat) = fb 0xa000000000000c08220000cd00580f % 16 by decide) (by show (2 : Nat) ≤ 2; decide) (fun _ => ⟨_, _, rfl, _, shp_at rw_132.1, Or.inr (show fb 0xa000000000000c08220000cd00580f >>> 68 = 10 by decide)⟩) (by omega) (by show 8 + (2 + 11) + 0 ≤ R.locals; omega) (by show (0 : Nat) ≤ 8; decide) (by show kc + 0 ≤ _; omega) (by show ks + 0 ≤ _; omega) (fun r9 h3 hpo hr9 => ?_) (fun x9 hs9 hx9 hpo => ?_)
      · obtain ⟨-, rfl, -, rfl⟩ := hpo
        have rw_204 := RW.wr (k := 124) (j := 0) (v := .int (1 : Int32)) rw_132 (Or.inr (by decide))
        have f_205 := f_133.ne (k := 124) (j := 0) (v := .int (1 : Int32)) (by decide)
        have f_206 := f_134.ne (k := 124) (j := 0) (v := .int (1 : Int32)) (by decide)
        have f_207 := f_135.ne (k := 124) (j := 0) (v := .int (1 : Int32)) (by decide)
        have f_208 := f_136.ne (k := 124) (j := 0) (v := .int (1 : Int32)) (by decide)
        have f_209 := (rd_ne hs_149 (k := 124) (j := 0) (.int (1 : Int32)) (Or.inr (by decide))).trans f_137
        have f_211 := f_140.ne (k := 124) (j := 0) (v := .int (1 : Int32)) (by decide)
        have f_212 := f_141.ne (k := 124) (j := 0) (v := .int (1 : Int32)) (by decide)
        have f_213 := (rd_ne hs_149 (k := 124) (j := 0) (.int (1 : Int32)) (Or.inr (by decide))).trans f_142
        have f_214 := (rd_ne hs_149 (k := 124) (j := 0) (.int (1 : Int32)) (Or.inr (by decide))).trans f_143
        have f_215 := (rd_ne hs_149 (k := 124) (j := 0) (.int (1 : Int32)) (Or.inr (by decide))).trans f_144
        have f_216 := (rd_ne hs_149 (k := 124) (j := 0) (.int (1 : Int32)) (Or.inr (by decide))).trans f_145
        have f_217 := (rd_ne hs_149 (k := 124) (j := 0) (.int (1 : Int32)) (Or.inr (by decide))).trans f_146
        have f_218 := (rd_ne hs_149 (k := 124) (j := 0) (.int (1 : Int32)) (Or.inr (by decide))).trans f_147
        have f_219 := rd_same (j := 0) (v := .int (1 : Int32)) rw_132.1
        have fr_220 := fr_148.wr (k := 124) (j := 0) (.int (1 : Int32)) (by unfold WR0; omega)
        clear rw_132 fr_148 f_133 f_134 f_135 f_136 f_137 f_139 f_140 f_141 f_142 f_143 f_144 f_145 f_146 f_147
        generalize (wr hs_149 124 0 (.int (1 : Int32))) = hs_221 at *
        show WpN (gp g0 wp) CLS p l e R s m args below meth c Q D_239.2.2.1 kc0 ks0 88 [some (.ref 124), none] (hs_221, kc, ks) [.int (0 : Int32)]
        exact g_retI hEnd (gx gp_239 (w := 0x2f) rfl (by decide) rfl) ⟨rfl, ⟨_, rfl⟩, ⟨tl, wl, pv, nl, n, ng, nr, np, ⟨rw_204, f_205, f_206⟩, f_207, ⟨_, f_209, hp9⟩, by omega, hNW, hPN, hM.frw fr_220 ⟨_, f_219, by have w9 := (show (1 : Int32).toInt = ((1 : Nat) : Int) from by decide); omega, by have w9 := (show (1 : Int32).toInt = ((1 : Nat) : Int) from by decide); omega⟩, ⟨⟨_, f_208⟩, ⟨_, f_218, ((show (0 : Int32).toInt = ((0 : Nat) : Int) from by decide)).trans (by omega)⟩, by omega, by omega, ⟨_, f_213⟩, ⟨_, f_215⟩, ⟨_, f_216⟩, ⟨_, f_217⟩, ⟨_, f_214, by have w9 := hb_g; omega, by have w9 := hb_g; omega⟩, ⟨_, f_211⟩, ⟨_, f_212⟩⟩⟩, fr_220⟩ hk1 hk2
      · exact absurd hpo.1 (by omega)
  · exact absurd hpo.1 (by omega)

end PUB3

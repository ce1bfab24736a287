/-! The reference's load, exactly. -/
/-- what load leaves if the text is bad, if it is good -/
def MLD (hs h2 : List CE) (tx : Nat → Int) (L : Int) (r : Option Value) : Prop :=
  ((sText tx L).1 = 0 ∧ (∃ (s2 : Int) (fv2 gv2 : Nat → Int) (nl ng nr : Nat), sText tx L = (0, s2, (fv2, gv2), nl, ng, nr) ∧ (∃ x : Int32, r = some (.int x) ∧ x.toInt = fv2 2) ∧ IArr h2 125 46 fv2 ∧ IArr h2 127 39 gv2 ∧ ∃ n : Nat, NWx fv2 gv2 nl n ng nr) ∧ rd h2 124 0 = .int 0 ∧ rd h2 124 6 = .int 0 ∧ (∃ x : Int32, rd h2 124 12 = .int x ∧ x.toInt = 0) ∧ ∃ x : Int32, rd h2 124 13 = .int x ∧ x.toInt = -1) ∨
  ((sText tx L).1 ≠ 0 ∧ r = some (.int 0) ∧ rd h2 124 0 = .int 1 ∧ (∃ x : Int32, rd h2 124 12 = .int x ∧ x.toInt = (sText tx L).1) ∧ (∃ x : Int32, rd h2 124 13 = .int x ∧ x.toInt = (sText tx L).2.1) ∧ (∀ j, rd h2 125 j = rd hs 125 j) ∧ (∀ j, rd h2 127 j = rd hs 127 j) ∧ rd h2 124 6 = rd hs 124 6)
section RAPL
variable {g0 : GG} {bl : Nat} {xs : Nat → Int32} {l : Launch} {hs : List CE} {tx : Nat → Int} {L : Int}

def WLx (k j : Nat) : Prop := k = 126 ∨ k = 128 ∨ (k = 124 ∧ (j = 0 ∨ (10 ≤ j ∧ j ≤ 15)))

theorem bx_load {tl wl fv gv pv : Nat → Int} {x0 p9 L9 A9 c9 d9 f9 b9 : Int32} {na : Int} (hT0 : ∀ j, 0 ≤ tx j) (rw0 : RW hs) (hTo : IArr hs 125 46 tl) (hW : IArr hs 127 39 wl) (hT : IArr hs 130 700 tx) (hF : IArr hs 126 46 fv) (hG : IArr hs 128 39 gv) (hPa : IArr hs 129 390 pv) (e0 : rd hs 124 0 = .int x0) (e6 : rd hs 124 6 = .int p9) (e10 : rd hs 124 10 = .int L9) (hL9 : L9.toInt = L) (hL0 : 0 ≤ L) (hL7 : L ≤ 700) (e11 : rd hs 124 11 = .int A9) (e12 : rd hs 124 12 = .int c9) (e13 : rd hs 124 13 = .int d9) (e15 : rd hs 124 15 = .int f9) (hf9 : f9.toInt = na) (e14 : rd hs 124 14 = .int b9) : BodyN SSX TBL g0 CLS bl xs l D_239 6 132 0 0 [.ref 124] hs (fun kd r h2 => kd = 0 ∧ MLD hs h2 tx L r ∧ IArr h2 130 700 tx ∧ (∃ x : Int32, rd h2 124 10 = .int x ∧ x.toInt = 0) ∧ RW h2 ∧ FrS WR0 hs h2 ∧ IArr h2 129 390 pv ∧ (∃ x : Int32, rd h2 124 11 = .int x) ∧ (∃ x : Int32, rd h2 124 14 = .int x) ∧ (∃ x : Int32, rd h2 124 15 = .int x) ∧ (∃ f : Nat → Int, IArr h2 126 46 f) ∧ ∃ f : Nat → Int, IArr h2 128 39 f) := by
  intro wp p e R s m args below meth c Q kc0 ks0 kc ks act hf hl hc hsl hEnd
  have hf : 6 ≤ R.frames := hf
  have hl : 132 ≤ R.locals := hl
  have hk1 : kc ≤ kc + 0 := by omega
  have hk2 : ks ≤ ks + 0 := by omega
  have loopA : ∀ (hA : List CE) (f0 : Nat → Int), RW hA → IArr hA 126 46 f0 → (∀ (h2 : List CE) (f2 : Nat → Int), FrS Wc126 hA h2 → IArr h2 126 46 f2 → (∀ q, q < 46 → f2 q = 0) → WpN (gp g0 wp) CLS p l e R s m args below meth c Q D_239.2.2.1 kc0 ks0 36 [some (.ref 124), none] (h2, kc, ks) []) → ∀ k0 : Int32, k0.toInt = ((0 : Nat) : Int) → WpN (gp g0 wp) CLS p l e R s m args below meth c Q D_239.2.2.1 kc0 ks0 17 [some (.ref 124), some (.int k0)] (hA, kc, ks) [] := by
    intro hA f0 rwA hFA  K k0 hk0
    have go : ∀ (hj : List CE) (fj : Nat → Int) (kj : Int32) (k9 : Nat), RW hj → IArr hj 126 46 fj → kj.toInt = (k9 : Int) → k9 ≤ 46 → FrS Wc126 hA hj → (∀ q, q < k9 → fj q = 0) → WpN (gp g0 wp) CLS p l e R s m args below meth c Q D_239.2.2.1 kc0 ks0 17 [some (.ref 124), some (.int kj)] (hj, kc, ks) [] := by
      intro hj fj kj k9 rwj hFj  hkj hkN hfr hI
      generalize hm : 46 - k9 = m9
      induction m9 using Nat.strongRecOn generalizing hj fj kj k9 with
      | _ m9 ih =>
      subst hm
      refine g_loadI act (gx gp_239 (w := 0x1001202) rfl (by decide) rfl) (a := 1) (n := 18) rfl rfl rfl ?_
      refine g_constI act (gx gp_239 (w := 0x40000017400000171000000001401) rfl (by decide) rfl) (n := 20) (x := (46 : Int32)) (by decide) rfl ?_
      refine g_icmpGe act (gx gp_239 (w := 0x24001708) rfl (by decide) rfl) (tgt := 36) (n := 23) rfl rfl (fun h3 => ?_) (fun h3 => ?_)
      · simp only [i_le, show (46 : Int32).toInt = 46 from by decide] at h3
        exact n_forget (d := D_239) (L2 := [some (.ref 124), none]) (fun i v hi => by
          match i, hi with
          | 0, hi => exact hi
          | 1, hi => cases hi
          | i + 2, hi => cases hi) (K _ _ hfr hFj (fun q hq => hI q (by omega)))
      · simp only [i_le, show (46 : Int32).toInt = 46 from by decide] at h3
        refine g_loadA act (gx gp_239 (w := 0x1803) rfl (by decide) rfl) (a := 0) (n := 24) rfl rfl rfl ?_
        refine r_getf act (gx gp_239 (w := 0x3000089001b04) rfl (by decide) rfl) (n := 27) (ci := 9) (j := 2) (N := 39) rfl rfl rfl rwj.1 (by decide) (rwj.2 (2, 126, 32, 46) (by decide)).1 ?_
        refine g_loadI act (gx gp_239 (w := 0x1001c02) rfl (by decide) rfl) (a := 1) (n := 28) rfl rfl rfl ?_
        refine g_constI act (gx gp_239 (w := 0x40000000400000001000000001d01) rfl (by decide) rfl) (n := 29) (x := (0 : Int32)) (by decide) rfl ?_
        refine r_iast act (gx gp_239 (w := 0x1e24) rfl (by decide) rfl) (n := 30) (j := k9) rfl (rwj.2 (2, 126, 32, 46) (by decide)).2 hkj (show k9 < 46 by omega) ?_
        have rw_1 := RW.wr (k := 126) (j := k9) (v := .int (0 : Int32)) rwj (Or.inl (by decide))
        have f_2 := hFj.put (j := k9) (rwj.2 (2, 126, 32, 46) (by decide)).2 (show (0 : Int32).toInt = ((0 : Nat) : Int) from by decide)
        have fr_3 := hfr.wr (k := 126) (j := k9) (.int (0 : Int32)) (by unfold Wc126; omega)
        clear rwj hfr hFj
        generalize (wr hj 126 k9 (.int (0 : Int32))) = hs_4 at *
        refine g_iinc act (gx gp_239 (w := 0x80000001000001002109) rfl (by decide) rfl) (a := 1) (i := (1 : Int32)) (n := 33) rfl (by decide) rfl rfl (L2 := [some (.ref 124), some (.int (kj + (1 : Int32)))]) rfl ?_
        have v_5 := iv_addN hkj (show (1 : Int32).toInt = ((1 : Nat) : Int) from by decide) (show (k9 + 1) < 2147483648 by omega)
        refine g_goto act (gx gp_239 (w := 0x1107) rfl (by decide) rfl) (n := 17) rfl ?_
        exact ih _ (by omega) _ (upI fj k9 ((0 : Nat) : Int)) _ (k9 + 1) rw_1 f_2  v_5 (by omega) fr_3 (fun q hq => by
          by_cases e9 : q = k9
          · subst e9; simp only [upI, ↓reduceIte]; all_goals rfl
          · have w9 := hI q (by omega); simp only [upI]; omega) rfl
    exact go hA f0 k0 0 rwA hFA  hk0 (Nat.zero_le _) (FrS.rf _ _) (fun q hq => absurd hq (Nat.not_lt_zero _))
  have loopB : ∀ (hA : List CE) (f0 : Nat → Int), RW hA → IArr hA 128 39 f0 → (∀ (h2 : List CE) (f2 : Nat → Int), FrS Wc128 hA h2 → IArr h2 128 39 f2 → (∀ q, q < 39 → f2 q = 0) → WpN (gp g0 wp) CLS p l e R s m args below meth c Q D_239.2.2.1 kc0 ks0 57 [some (.ref 124), none] (h2, kc, ks) []) → ∀ k0 : Int32, k0.toInt = ((0 : Nat) : Int) → WpN (gp g0 wp) CLS p l e R s m args below meth c Q D_239.2.2.1 kc0 ks0 38 [some (.ref 124), some (.int k0)] (hA, kc, ks) [] := by
    intro hA f0 rwA hFA  K k0 hk0
    have go : ∀ (hj : List CE) (fj : Nat → Int) (kj : Int32) (k9 : Nat), RW hj → IArr hj 128 39 fj → kj.toInt = (k9 : Int) → k9 ≤ 39 → FrS Wc128 hA hj → (∀ q, q < k9 → fj q = 0) → WpN (gp g0 wp) CLS p l e R s m args below meth c Q D_239.2.2.1 kc0 ks0 38 [some (.ref 124), some (.int kj)] (hj, kc, ks) [] := by
      intro hj fj kj k9 rwj hFj  hkj hkN hfr hI
      generalize hm : 39 - k9 = m9
      induction m9 using Nat.strongRecOn generalizing hj fj kj k9 with
      | _ m9 ih =>
      subst hm
      refine g_loadI act (gx gp_239 (w := 0x1002702) rfl (by decide) rfl) (a := 1) (n := 39) rfl rfl rfl ?_
      refine g_constI act (gx gp_239 (w := 0x40000013c00000139000000002901) rfl (by decide) rfl) (n := 41) (x := (39 : Int32)) (by decide) rfl ?_
      refine g_icmpGe act (gx gp_239 (w := 0x39002c08) rfl (by decide) rfl) (tgt := 57) (n := 44) rfl rfl (fun h3 => ?_) (fun h3 => ?_)
      · simp only [i_le, show (39 : Int32).toInt = 39 from by decide] at h3
        exact n_forget (d := D_239) (L2 := [some (.ref 124), none]) (fun i v hi => by
          match i, hi with
          | 0, hi => exact hi
          | 1, hi => cases hi
          | i + 2, hi => cases hi) (K _ _ hfr hFj (fun q hq => hI q (by omega)))
      · simp only [i_le, show (39 : Int32).toInt = 39 from by decide] at h3
        refine g_loadA act (gx gp_239 (w := 0x2d03) rfl (by decide) rfl) (a := 0) (n := 45) rfl rfl rfl ?_
        refine r_getf act (gx gp_239 (w := 0x3000109003004) rfl (by decide) rfl) (n := 48) (ci := 9) (j := 4) (N := 39) rfl rfl rfl rwj.1 (by decide) (rwj.2 (4, 128, 32, 39) (by decide)).1 ?_
        refine g_loadI act (gx gp_239 (w := 0x1003102) rfl (by decide) rfl) (a := 1) (n := 49) rfl rfl rfl ?_
        refine g_constI act (gx gp_239 (w := 0x40000000400000001000000003201) rfl (by decide) rfl) (n := 50) (x := (0 : Int32)) (by decide) rfl ?_
        refine r_iast act (gx gp_239 (w := 0x3324) rfl (by decide) rfl) (n := 51) (j := k9) rfl (rwj.2 (4, 128, 32, 39) (by decide)).2 hkj (show k9 < 39 by omega) ?_
        have rw_6 := RW.wr (k := 128) (j := k9) (v := .int (0 : Int32)) rwj (Or.inl (by decide))
        have f_7 := hFj.put (j := k9) (rwj.2 (4, 128, 32, 39) (by decide)).2 (show (0 : Int32).toInt = ((0 : Nat) : Int) from by decide)
        have fr_8 := hfr.wr (k := 128) (j := k9) (.int (0 : Int32)) (by unfold Wc128; omega)
        clear rwj hfr hFj
        generalize (wr hj 128 k9 (.int (0 : Int32))) = hs_9 at *
        refine g_iinc act (gx gp_239 (w := 0x80000001000001003609) rfl (by decide) rfl) (a := 1) (i := (1 : Int32)) (n := 54) rfl (by decide) rfl rfl (L2 := [some (.ref 124), some (.int (kj + (1 : Int32)))]) rfl ?_
        have v_10 := iv_addN hkj (show (1 : Int32).toInt = ((1 : Nat) : Int) from by decide) (show (k9 + 1) < 2147483648 by omega)
        refine g_goto act (gx gp_239 (w := 0x2607) rfl (by decide) rfl) (n := 38) rfl ?_
        exact ih _ (by omega) _ (upI fj k9 ((0 : Nat) : Int)) _ (k9 + 1) rw_6 f_7  v_10 (by omega) fr_8 (fun q hq => by
          by_cases e9 : q = k9
          · subst e9; simp only [upI, ↓reduceIte]; all_goals rfl
          · have w9 := hI q (by omega); simp only [upI]; omega) rfl
    exact go hA f0 k0 0 rwA hFA  hk0 (Nat.zero_le _) (FrS.rf _ _) (fun q hq => absurd hq (Nat.not_lt_zero _))
  have loopC : ∀ (hA : List CE) (f0 : Nat → Int) (fg : Nat → Int), RW hA → IArr hA 125 46 f0 → IArr hA 126 46 fg → (∀ (h2 : List CE) (f2 : Nat → Int), FrS Wc125 hA h2 → IArr h2 125 46 f2 → (∀ q, q < 46 → f2 q = fg q) → WpN (gp g0 wp) CLS p l e R s m args below meth c Q D_239.2.2.1 kc0 ks0 115 [some (.ref 124), none] (h2, kc, ks) []) → ∀ k0 : Int32, k0.toInt = ((0 : Nat) : Int) → WpN (gp g0 wp) CLS p l e R s m args below meth c Q D_239.2.2.1 kc0 ks0 91 [some (.ref 124), some (.int k0)] (hA, kc, ks) [] := by
    intro hA f0 fg rwA hFA hS0A K k0 hk0
    have go : ∀ (hj : List CE) (fj : Nat → Int) (kj : Int32) (k9 : Nat), RW hj → IArr hj 125 46 fj → IArr hj 126 46 fg → kj.toInt = (k9 : Int) → k9 ≤ 46 → FrS Wc125 hA hj → (∀ q, q < k9 → fj q = fg q) → WpN (gp g0 wp) CLS p l e R s m args below meth c Q D_239.2.2.1 kc0 ks0 91 [some (.ref 124), some (.int kj)] (hj, kc, ks) [] := by
      intro hj fj kj k9 rwj hFj hS0j hkj hkN hfr hI
      generalize hm : 46 - k9 = m9
      induction m9 using Nat.strongRecOn generalizing hj fj kj k9 with
      | _ m9 ih =>
      subst hm
      refine g_loadI act (gx gp_239 (w := 0x1005c02) rfl (by decide) rfl) (a := 1) (n := 92) rfl rfl rfl ?_
      refine g_constI act (gx gp_239 (w := 0x40000017400000171000000005e01) rfl (by decide) rfl) (n := 94) (x := (46 : Int32)) (by decide) rfl ?_
      refine g_icmpGe act (gx gp_239 (w := 0x73006108) rfl (by decide) rfl) (tgt := 115) (n := 97) rfl rfl (fun h3 => ?_) (fun h3 => ?_)
      · simp only [i_le, show (46 : Int32).toInt = 46 from by decide] at h3
        exact n_forget (d := D_239) (L2 := [some (.ref 124), none]) (fun i v hi => by
          match i, hi with
          | 0, hi => exact hi
          | 1, hi => cases hi
          | i + 2, hi => cases hi) (K _ _ hfr hFj (fun q hq => hI q (by omega)))
      · simp only [i_le, show (46 : Int32).toInt = 46 from by decide] at h3
        refine g_loadA act (gx gp_239 (w := 0x6203) rfl (by decide) rfl) (a := 0) (n := 98) rfl rfl rfl ?_
        refine r_getf act (gx gp_239 (w := 0x3000049006504) rfl (by decide) rfl) (n := 101) (ci := 9) (j := 1) (N := 39) rfl rfl rfl rwj.1 (by decide) (rwj.2 (1, 125, 32, 46) (by decide)).1 ?_
        refine g_loadI act (gx gp_239 (w := 0x1006602) rfl (by decide) rfl) (a := 1) (n := 102) rfl rfl rfl ?_
        refine g_loadA act (gx gp_239 (w := 0x6703) rfl (by decide) rfl) (a := 0) (n := 103) rfl rfl rfl ?_
        refine r_getf act (gx gp_239 (w := 0x3000089006a04) rfl (by decide) rfl) (n := 106) (ci := 9) (j := 2) (N := 39) rfl rfl rfl rwj.1 (by decide) (rwj.2 (2, 126, 32, 46) (by decide)).1 ?_
        refine g_loadI act (gx gp_239 (w := 0x1006b02) rfl (by decide) rfl) (a := 1) (n := 107) rfl rfl rfl ?_
        obtain ⟨x_11, e_12, hx_13⟩ := hS0j k9 (by omega)
        refine r_iald act (gx gp_239 (w := 0x6c1a) rfl (by decide) rfl) (n := 108) (j := k9) rfl (rwj.2 (2, 126, 32, 46) (by decide)).2 hkj (show k9 < 46 by omega) (v := .int x_11) e_12 ?_
        refine r_iast act (gx gp_239 (w := 0x6d24) rfl (by decide) rfl) (n := 109) (j := k9) rfl (rwj.2 (1, 125, 32, 46) (by decide)).2 hkj (show k9 < 46 by omega) ?_
        have rw_14 := RW.wr (k := 125) (j := k9) (v := .int x_11) rwj (Or.inl (by decide))
        have f_15 := hFj.put (j := k9) (rwj.2 (1, 125, 32, 46) (by decide)).2 hx_13
        have f_16 := hS0j.ne (k := 125) (j := k9) (v := .int x_11) (by decide)
        have fr_17 := hfr.wr (k := 125) (j := k9) (.int x_11) (by unfold Wc125; omega)
        clear rwj hfr hFj hS0j
        generalize (wr hj 125 k9 (.int x_11)) = hs_18 at *
        refine g_iinc act (gx gp_239 (w := 0x80000001000001007009) rfl (by decide) rfl) (a := 1) (i := (1 : Int32)) (n := 112) rfl (by decide) rfl rfl (L2 := [some (.ref 124), some (.int (kj + (1 : Int32)))]) rfl ?_
        have v_19 := iv_addN hkj (show (1 : Int32).toInt = ((1 : Nat) : Int) from by decide) (show (k9 + 1) < 2147483648 by omega)
        refine g_goto act (gx gp_239 (w := 0x5b07) rfl (by decide) rfl) (n := 91) rfl ?_
        exact ih _ (by omega) _ (upI fj k9 (fg k9)) _ (k9 + 1) rw_14 f_15 f_16 v_19 (by omega) fr_17 (fun q hq => by
          by_cases e9 : q = k9
          · subst e9; simp only [upI, ↓reduceIte]; all_goals rfl
          · have w9 := hI q (by omega); simp only [upI]; omega) rfl
    exact go hA f0 k0 0 rwA hFA hS0A hk0 (Nat.zero_le _) (FrS.rf _ _) (fun q hq => absurd hq (Nat.not_lt_zero _))
  have loopD : ∀ (hA : List CE) (f0 : Nat → Int) (gg : Nat → Int), RW hA → IArr hA 127 39 f0 → IArr hA 128 39 gg → (∀ (h2 : List CE) (f2 : Nat → Int), FrS Wc127 hA h2 → IArr h2 127 39 f2 → (∀ q, q < 39 → f2 q = gg q) → WpN (gp g0 wp) CLS p l e R s m args below meth c Q D_239.2.2.1 kc0 ks0 141 [some (.ref 124), none] (h2, kc, ks) []) → ∀ k0 : Int32, k0.toInt = ((0 : Nat) : Int) → WpN (gp g0 wp) CLS p l e R s m args below meth c Q D_239.2.2.1 kc0 ks0 117 [some (.ref 124), some (.int k0)] (hA, kc, ks) [] := by
    intro hA f0 gg rwA hFA hS0A K k0 hk0
    have go : ∀ (hj : List CE) (fj : Nat → Int) (kj : Int32) (k9 : Nat), RW hj → IArr hj 127 39 fj → IArr hj 128 39 gg → kj.toInt = (k9 : Int) → k9 ≤ 39 → FrS Wc127 hA hj → (∀ q, q < k9 → fj q = gg q) → WpN (gp g0 wp) CLS p l e R s m args below meth c Q D_239.2.2.1 kc0 ks0 117 [some (.ref 124), some (.int kj)] (hj, kc, ks) [] := by
      intro hj fj kj k9 rwj hFj hS0j hkj hkN hfr hI
      generalize hm : 39 - k9 = m9
      induction m9 using Nat.strongRecOn generalizing hj fj kj k9 with
      | _ m9 ih =>
      subst hm
      refine g_loadI act (gx gp_239 (w := 0x1007602) rfl (by decide) rfl) (a := 1) (n := 118) rfl rfl rfl ?_
      refine g_constI act (gx gp_239 (w := 0x40000013c00000139000000007801) rfl (by decide) rfl) (n := 120) (x := (39 : Int32)) (by decide) rfl ?_
      refine g_icmpGe act (gx gp_239 (w := 0x8d007b08) rfl (by decide) rfl) (tgt := 141) (n := 123) rfl rfl (fun h3 => ?_) (fun h3 => ?_)
      · simp only [i_le, show (39 : Int32).toInt = 39 from by decide] at h3
        exact n_forget (d := D_239) (L2 := [some (.ref 124), none]) (fun i v hi => by
          match i, hi with
          | 0, hi => exact hi
          | 1, hi => cases hi
          | i + 2, hi => cases hi) (K _ _ hfr hFj (fun q hq => hI q (by omega)))
      · simp only [i_le, show (39 : Int32).toInt = 39 from by decide] at h3
        refine g_loadA act (gx gp_239 (w := 0x7c03) rfl (by decide) rfl) (a := 0) (n := 124) rfl rfl rfl ?_
        refine r_getf act (gx gp_239 (w := 0x30000c9007f04) rfl (by decide) rfl) (n := 127) (ci := 9) (j := 3) (N := 39) rfl rfl rfl rwj.1 (by decide) (rwj.2 (3, 127, 32, 39) (by decide)).1 ?_
        refine g_loadI act (gx gp_239 (w := 0x1008002) rfl (by decide) rfl) (a := 1) (n := 128) rfl rfl rfl ?_
        refine g_loadA act (gx gp_239 (w := 0x8103) rfl (by decide) rfl) (a := 0) (n := 129) rfl rfl rfl ?_
        refine r_getf act (gx gp_239 (w := 0x3000109008404) rfl (by decide) rfl) (n := 132) (ci := 9) (j := 4) (N := 39) rfl rfl rfl rwj.1 (by decide) (rwj.2 (4, 128, 32, 39) (by decide)).1 ?_
        refine g_loadI act (gx gp_239 (w := 0x1008502) rfl (by decide) rfl) (a := 1) (n := 133) rfl rfl rfl ?_
        obtain ⟨x_20, e_21, hx_22⟩ := hS0j k9 (by omega)
        refine r_iald act (gx gp_239 (w := 0x861a) rfl (by decide) rfl) (n := 134) (j := k9) rfl (rwj.2 (4, 128, 32, 39) (by decide)).2 hkj (show k9 < 39 by omega) (v := .int x_20) e_21 ?_
        refine r_iast act (gx gp_239 (w := 0x8724) rfl (by decide) rfl) (n := 135) (j := k9) rfl (rwj.2 (3, 127, 32, 39) (by decide)).2 hkj (show k9 < 39 by omega) ?_
        have rw_23 := RW.wr (k := 127) (j := k9) (v := .int x_20) rwj (Or.inl (by decide))
        have f_24 := hFj.put (j := k9) (rwj.2 (3, 127, 32, 39) (by decide)).2 hx_22
        have f_25 := hS0j.ne (k := 127) (j := k9) (v := .int x_20) (by decide)
        have fr_26 := hfr.wr (k := 127) (j := k9) (.int x_20) (by unfold Wc127; omega)
        clear rwj hfr hFj hS0j
        generalize (wr hj 127 k9 (.int x_20)) = hs_27 at *
        refine g_iinc act (gx gp_239 (w := 0x80000001000001008a09) rfl (by decide) rfl) (a := 1) (i := (1 : Int32)) (n := 138) rfl (by decide) rfl rfl (L2 := [some (.ref 124), some (.int (kj + (1 : Int32)))]) rfl ?_
        have v_28 := iv_addN hkj (show (1 : Int32).toInt = ((1 : Nat) : Int) from by decide) (show (k9 + 1) < 2147483648 by omega)
        refine g_goto act (gx gp_239 (w := 0x7507) rfl (by decide) rfl) (n := 117) rfl ?_
        exact ih _ (by omega) _ (upI fj k9 (gg k9)) _ (k9 + 1) rw_23 f_24 f_25 v_28 (by omega) fr_26 (fun q hq => by
          by_cases e9 : q = k9
          · subst e9; simp only [upI, ↓reduceIte]; all_goals rfl
          · have w9 := hI q (by omega); simp only [upI]; omega) rfl
    exact go hA f0 k0 0 rwA hFA hS0A hk0 (Nat.zero_le _) (FrS.rf _ _) (fun q hq => absurd hq (Nat.not_lt_zero _))
  have hfr0 := FrS.rf WR0 hs
  have hfr1 := FrS.rf WLx hs
  show WpN (gp g0 wp) CLS p l e R s m args below meth c Q D_239.2.2.1 kc0 ks0 0 [some (.ref 124), none] (hs, kc, ks) []
  refine g_loadA act (gx gp_239 (w := 0x103) rfl (by decide) rfl) (a := 0) (n := 1) rfl rfl rfl ?_
  refine g_constI act (gx gp_239 (w := 0x40000000400000001000000000201) rfl (by decide) rfl) (n := 2) (x := (0 : Int32)) (by decide) rfl ?_
  refine r_putf act (gx gp_239 (w := 0x9000513) rfl (by decide) rfl) (n := 5) (ci := 9) (j := 0) (N := 39) rfl rfl rfl rw0.1 (by decide) (Or.inl ⟨rfl, _, rfl⟩) ?_
  have rw_1 := RW.wr (k := 124) (j := 0) (v := .int (0 : Int32)) rw0 (Or.inr (by decide))
  have f_2 := hTo.ne (k := 124) (j := 0) (v := .int (0 : Int32)) (by decide)
  have f_3 := hW.ne (k := 124) (j := 0) (v := .int (0 : Int32)) (by decide)
  have f_4 := hT.ne (k := 124) (j := 0) (v := .int (0 : Int32)) (by decide)
  have f_5 := hF.ne (k := 124) (j := 0) (v := .int (0 : Int32)) (by decide)
  have f_6 := hG.ne (k := 124) (j := 0) (v := .int (0 : Int32)) (by decide)
  have f_7 := hPa.ne (k := 124) (j := 0) (v := .int (0 : Int32)) (by decide)
  have f_9 := (rd_ne hs (k := 124) (j := 0) (.int (0 : Int32)) (Or.inr (by decide))).trans e6
  have f_10 := (rd_ne hs (k := 124) (j := 0) (.int (0 : Int32)) (Or.inr (by decide))).trans e10
  have f_11 := (rd_ne hs (k := 124) (j := 0) (.int (0 : Int32)) (Or.inr (by decide))).trans e11
  have f_12 := (rd_ne hs (k := 124) (j := 0) (.int (0 : Int32)) (Or.inr (by decide))).trans e12
  have f_13 := (rd_ne hs (k := 124) (j := 0) (.int (0 : Int32)) (Or.inr (by decide))).trans e13
  have f_14 := (rd_ne hs (k := 124) (j := 0) (.int (0 : Int32)) (Or.inr (by decide))).trans e15
  have f_15 := (rd_ne hs (k := 124) (j := 0) (.int (0 : Int32)) (Or.inr (by decide))).trans e14
  have f_16 := rd_same (j := 0) (v := .int (0 : Int32)) rw0.1
  have fr_17 := hfr0.wr (k := 124) (j := 0) (.int (0 : Int32)) (by unfold WR0; omega)
  have fr_18 := hfr1.wr (k := 124) (j := 0) (.int (0 : Int32)) (by unfold WLx; omega)
  clear hfr1 hTo hW hT hF hG hPa e0 e6 e10 e11 e12 e13 e15 e14
  generalize (wr hs 124 0 (.int (0 : Int32))) = hs_19 at *
  refine g_loadA act (gx gp_239 (w := 0x603) rfl (by decide) rfl) (a := 0) (n := 6) rfl rfl rfl ?_
  refine g_constI act (gx gp_239 (w := 0x40000000400000001000000000701) rfl (by decide) rfl) (n := 7) (x := (0 : Int32)) (by decide) rfl ?_
  refine r_putf act (gx gp_239 (w := 0x309000a13) rfl (by decide) rfl) (n := 10) (ci := 9) (j := 12) (N := 39) rfl rfl rfl rw_1.1 (by decide) (Or.inl ⟨rfl, _, rfl⟩) ?_
  have rw_20 := RW.wr (k := 124) (j := 12) (v := .int (0 : Int32)) rw_1 (Or.inr (by decide))
  have f_21 := f_2.ne (k := 124) (j := 12) (v := .int (0 : Int32)) (by decide)
  have f_22 := f_3.ne (k := 124) (j := 12) (v := .int (0 : Int32)) (by decide)
  have f_23 := f_4.ne (k := 124) (j := 12) (v := .int (0 : Int32)) (by decide)
  have f_24 := f_5.ne (k := 124) (j := 12) (v := .int (0 : Int32)) (by decide)
  have f_25 := f_6.ne (k := 124) (j := 12) (v := .int (0 : Int32)) (by decide)
  have f_26 := f_7.ne (k := 124) (j := 12) (v := .int (0 : Int32)) (by decide)
  have f_27 := (rd_ne hs_19 (k := 124) (j := 12) (.int (0 : Int32)) (Or.inr (by decide))).trans f_9
  have f_28 := (rd_ne hs_19 (k := 124) (j := 12) (.int (0 : Int32)) (Or.inr (by decide))).trans f_10
  have f_29 := (rd_ne hs_19 (k := 124) (j := 12) (.int (0 : Int32)) (Or.inr (by decide))).trans f_11
  have f_31 := (rd_ne hs_19 (k := 124) (j := 12) (.int (0 : Int32)) (Or.inr (by decide))).trans f_13
  have f_32 := (rd_ne hs_19 (k := 124) (j := 12) (.int (0 : Int32)) (Or.inr (by decide))).trans f_14
  have f_33 := (rd_ne hs_19 (k := 124) (j := 12) (.int (0 : Int32)) (Or.inr (by decide))).trans f_15
  have f_34 := (rd_ne hs_19 (k := 124) (j := 12) (.int (0 : Int32)) (Or.inr (by decide))).trans f_16
  have f_35 := rd_same (j := 12) (v := .int (0 : Int32)) rw_1.1
  have fr_36 := fr_17.wr (k := 124) (j := 12) (.int (0 : Int32)) (by unfold WR0; omega)
  have fr_37 := fr_18.wr (k := 124) (j := 12) (.int (0 : Int32)) (by unfold WLx; omega)
  clear rw_1 fr_17 fr_18 f_2 f_3 f_4 f_5 f_6 f_7 f_9 f_10 f_11 f_12 f_13 f_14 f_15 f_16
  generalize (wr hs_19 124 12 (.int (0 : Int32))) = hs_38 at *
  refine g_loadA act (gx gp_239 (w := 0xb03) rfl (by decide) rfl) (a := 0) (n := 11) rfl rfl rfl ?_
  refine g_constI act (gx gp_239 (w := 0x3fffffffbfffffff9000000000c01) rfl (by decide) rfl) (n := 12) (x := (-1 : Int32)) (by decide) rfl ?_
  refine r_putf act (gx gp_239 (w := 0x349000f13) rfl (by decide) rfl) (n := 15) (ci := 9) (j := 13) (N := 39) rfl rfl rfl rw_20.1 (by decide) (Or.inl ⟨rfl, _, rfl⟩) ?_
  have rw_39 := RW.wr (k := 124) (j := 13) (v := .int (-1 : Int32)) rw_20 (Or.inr (by decide))
  have f_40 := f_21.ne (k := 124) (j := 13) (v := .int (-1 : Int32)) (by decide)
  have f_41 := f_22.ne (k := 124) (j := 13) (v := .int (-1 : Int32)) (by decide)
  have f_42 := f_23.ne (k := 124) (j := 13) (v := .int (-1 : Int32)) (by decide)
  have f_43 := f_24.ne (k := 124) (j := 13) (v := .int (-1 : Int32)) (by decide)
  have f_44 := f_25.ne (k := 124) (j := 13) (v := .int (-1 : Int32)) (by decide)
  have f_45 := f_26.ne (k := 124) (j := 13) (v := .int (-1 : Int32)) (by decide)
  have f_46 := (rd_ne hs_38 (k := 124) (j := 13) (.int (-1 : Int32)) (Or.inr (by decide))).trans f_27
  have f_47 := (rd_ne hs_38 (k := 124) (j := 13) (.int (-1 : Int32)) (Or.inr (by decide))).trans f_28
  have f_48 := (rd_ne hs_38 (k := 124) (j := 13) (.int (-1 : Int32)) (Or.inr (by decide))).trans f_29
  have f_50 := (rd_ne hs_38 (k := 124) (j := 13) (.int (-1 : Int32)) (Or.inr (by decide))).trans f_32
  have f_51 := (rd_ne hs_38 (k := 124) (j := 13) (.int (-1 : Int32)) (Or.inr (by decide))).trans f_33
  have f_52 := (rd_ne hs_38 (k := 124) (j := 13) (.int (-1 : Int32)) (Or.inr (by decide))).trans f_34
  have f_53 := (rd_ne hs_38 (k := 124) (j := 13) (.int (-1 : Int32)) (Or.inr (by decide))).trans f_35
  have f_54 := rd_same (j := 13) (v := .int (-1 : Int32)) rw_20.1
  have fr_55 := fr_36.wr (k := 124) (j := 13) (.int (-1 : Int32)) (by unfold WR0; omega)
  have fr_56 := fr_37.wr (k := 124) (j := 13) (.int (-1 : Int32)) (by unfold WLx; omega)
  clear rw_20 fr_36 fr_37 f_21 f_22 f_23 f_24 f_25 f_26 f_27 f_28 f_29 f_31 f_32 f_33 f_34 f_35
  generalize (wr hs_38 124 13 (.int (-1 : Int32))) = hs_57 at *
  refine g_constI act (gx gp_239 (w := 0x40000000400000001000000001001) rfl (by decide) rfl) (n := 16) (x := (0 : Int32)) (by decide) rfl ?_
  refine g_storeI act (gx gp_239 (w := 0x1001110) rfl (by decide) rfl) (a := 1) (n := 17) rfl rfl (L2 := [some (.ref 124), some (.int (0 : Int32))]) rfl ?_
  refine loopA _ _ rw_39 f_43  (fun hs_c58 f2_c58 fr_c58 hFa_c58 hz_c58 => ?_) _ (show (0 : Int32).toInt = ((0 : Nat) : Int) from by decide)
  have rw_59 := rw_39.fr fr_c58 Wc126_rw
  have f_60 := f_40.fr (fun j9 _ => fr_c58.2.2 125 j9 (by unfold Wc126; omega))
  have f_61 := f_41.fr (fun j9 _ => fr_c58.2.2 127 j9 (by unfold Wc126; omega))
  have f_62 := f_42.fr (fun j9 _ => fr_c58.2.2 130 j9 (by unfold Wc126; omega))
  have f_63 := f_44.fr (fun j9 _ => fr_c58.2.2 128 j9 (by unfold Wc126; omega))
  have f_64 := f_45.fr (fun j9 _ => fr_c58.2.2 129 j9 (by unfold Wc126; omega))
  have f_65 := rd_fr fr_c58 f_46 (by unfold Wc126; omega)
  have f_66 := rd_fr fr_c58 f_47 (by unfold Wc126; omega)
  have f_67 := rd_fr fr_c58 f_48 (by unfold Wc126; omega)
  have f_68 := rd_fr fr_c58 f_50 (by unfold Wc126; omega)
  have f_69 := rd_fr fr_c58 f_51 (by unfold Wc126; omega)
  have f_70 := rd_fr fr_c58 f_52 (by unfold Wc126; omega)
  have f_71 := rd_fr fr_c58 f_53 (by unfold Wc126; omega)
  have f_72 := rd_fr fr_c58 f_54 (by unfold Wc126; omega)
  have fr_73 := fr_55.tr (fr_c58.mono (fun k9 j9 h9 => by unfold Wc126 at h9; unfold WR0; omega))
  have fr_74 := fr_56.tr (fr_c58.mono (fun k9 j9 h9 => by unfold Wc126 at h9; unfold WLx; omega))
  have hF_c58 := hFa_c58.cong (g := (fun _ => 0)) (fun q hq => hz_c58 q hq)
  clear rw_39 f_40 f_41 f_42 f_43 f_44 f_45 f_46 f_47 f_48 f_50 f_51 f_52 f_53 f_54 fr_55 fr_56
  refine g_constI act (gx gp_239 (w := 0x40000000400000001000000002501) rfl (by decide) rfl) (n := 37) (x := (0 : Int32)) (by decide) rfl ?_
  refine g_storeI act (gx gp_239 (w := 0x1002610) rfl (by decide) rfl) (a := 1) (n := 38) rfl rfl (L2 := [some (.ref 124), some (.int (0 : Int32))]) rfl ?_
  refine loopB _ _ rw_59 f_63  (fun hs_c75 f2_c75 fr_c75 hFa_c75 hz_c75 => ?_) _ (show (0 : Int32).toInt = ((0 : Nat) : Int) from by decide)
  have rw_76 := rw_59.fr fr_c75 Wc128_rw
  have f_77 := f_60.fr (fun j9 _ => fr_c75.2.2 125 j9 (by unfold Wc128; omega))
  have f_78 := f_61.fr (fun j9 _ => fr_c75.2.2 127 j9 (by unfold Wc128; omega))
  have f_79 := f_62.fr (fun j9 _ => fr_c75.2.2 130 j9 (by unfold Wc128; omega))
  have f_80 := f_64.fr (fun j9 _ => fr_c75.2.2 129 j9 (by unfold Wc128; omega))
  have f_81 := rd_fr fr_c75 f_65 (by unfold Wc128; omega)
  have f_82 := rd_fr fr_c75 f_66 (by unfold Wc128; omega)
  have f_83 := rd_fr fr_c75 f_67 (by unfold Wc128; omega)
  have f_84 := rd_fr fr_c75 f_68 (by unfold Wc128; omega)
  have f_85 := rd_fr fr_c75 f_69 (by unfold Wc128; omega)
  have f_86 := rd_fr fr_c75 f_70 (by unfold Wc128; omega)
  have f_87 := rd_fr fr_c75 f_71 (by unfold Wc128; omega)
  have f_88 := rd_fr fr_c75 f_72 (by unfold Wc128; omega)
  have f_89 := hF_c58.fr (fun j9 _ => fr_c75.2.2 126 j9 (by unfold Wc128; omega))
  have fr_90 := fr_73.tr (fr_c75.mono (fun k9 j9 h9 => by unfold Wc128 at h9; unfold WR0; omega))
  have fr_91 := fr_74.tr (fr_c75.mono (fun k9 j9 h9 => by unfold Wc128 at h9; unfold WLx; omega))
  have hF_c75 := hFa_c75.cong (g := (fun _ => 0)) (fun q hq => hz_c75 q hq)
  clear rw_59 f_60 f_61 f_62 f_63 f_64 f_65 f_66 f_67 f_68 f_69 f_70 f_71 f_72 hF_c58 fr_73 fr_74
  refine g_loadA act (gx gp_239 (w := 0x3a03) rfl (by decide) rfl) (a := 0) (n := 58) rfl rfl rfl ?_
  refine g_constI act (gx gp_239 (w := 0x40000000400000001000000003b01) rfl (by decide) rfl) (n := 59) (x := (0 : Int32)) (by decide) rfl ?_
  refine r_putf act (gx gp_239 (w := 0x2c9003e13) rfl (by decide) rfl) (n := 62) (ci := 9) (j := 11) (N := 39) rfl rfl rfl rw_76.1 (by decide) (Or.inl ⟨rfl, _, rfl⟩) ?_
  have rw_92 := RW.wr (k := 124) (j := 11) (v := .int (0 : Int32)) rw_76 (Or.inr (by decide))
  have f_93 := f_77.ne (k := 124) (j := 11) (v := .int (0 : Int32)) (by decide)
  have f_94 := f_78.ne (k := 124) (j := 11) (v := .int (0 : Int32)) (by decide)
  have f_95 := f_79.ne (k := 124) (j := 11) (v := .int (0 : Int32)) (by decide)
  have f_96 := f_80.ne (k := 124) (j := 11) (v := .int (0 : Int32)) (by decide)
  have f_97 := (rd_ne hs_c75 (k := 124) (j := 11) (.int (0 : Int32)) (Or.inr (by decide))).trans f_81
  have f_98 := (rd_ne hs_c75 (k := 124) (j := 11) (.int (0 : Int32)) (Or.inr (by decide))).trans f_82
  have f_100 := (rd_ne hs_c75 (k := 124) (j := 11) (.int (0 : Int32)) (Or.inr (by decide))).trans f_84
  have f_101 := (rd_ne hs_c75 (k := 124) (j := 11) (.int (0 : Int32)) (Or.inr (by decide))).trans f_85
  have f_102 := (rd_ne hs_c75 (k := 124) (j := 11) (.int (0 : Int32)) (Or.inr (by decide))).trans f_86
  have f_103 := (rd_ne hs_c75 (k := 124) (j := 11) (.int (0 : Int32)) (Or.inr (by decide))).trans f_87
  have f_104 := (rd_ne hs_c75 (k := 124) (j := 11) (.int (0 : Int32)) (Or.inr (by decide))).trans f_88
  have f_105 := f_89.ne (k := 124) (j := 11) (v := .int (0 : Int32)) (by decide)
  have f_106 := hF_c75.ne (k := 124) (j := 11) (v := .int (0 : Int32)) (by decide)
  have f_107 := rd_same (j := 11) (v := .int (0 : Int32)) rw_76.1
  have fr_108 := fr_90.wr (k := 124) (j := 11) (.int (0 : Int32)) (by unfold WR0; omega)
  have fr_109 := fr_91.wr (k := 124) (j := 11) (.int (0 : Int32)) (by unfold WLx; omega)
  clear rw_76 fr_90 fr_91 f_77 f_78 f_79 f_80 f_81 f_82 f_83 f_84 f_85 f_86 f_87 f_88 f_89 hF_c75
  generalize (wr hs_c75 124 11 (.int (0 : Int32))) = hs_110 at *
  refine g_loadA act (gx gp_239 (w := 0x3f03) rfl (by decide) rfl) (a := 0) (n := 63) rfl rfl rfl ?_
  refine g_constI act (gx gp_239 (w := 0x40000000400000001000000004001) rfl (by decide) rfl) (n := 64) (x := (0 : Int32)) (by decide) rfl ?_
  refine r_putf act (gx gp_239 (w := 0x1000389004313) rfl (by decide) rfl) (n := 67) (ci := 9) (j := 14) (N := 39) rfl rfl rfl rw_92.1 (by decide) (Or.inr (Or.inl ⟨rfl, Or.inl rfl⟩)) ?_
  have rw_111 := RW.wr (k := 124) (j := 14) (v := .int (0 : Int32)) rw_92 (Or.inr (by decide))
  have f_112 := f_93.ne (k := 124) (j := 14) (v := .int (0 : Int32)) (by decide)
  have f_113 := f_94.ne (k := 124) (j := 14) (v := .int (0 : Int32)) (by decide)
  have f_114 := f_95.ne (k := 124) (j := 14) (v := .int (0 : Int32)) (by decide)
  have f_115 := f_96.ne (k := 124) (j := 14) (v := .int (0 : Int32)) (by decide)
  have f_116 := (rd_ne hs_110 (k := 124) (j := 14) (.int (0 : Int32)) (Or.inr (by decide))).trans f_97
  have f_117 := (rd_ne hs_110 (k := 124) (j := 14) (.int (0 : Int32)) (Or.inr (by decide))).trans f_98
  have f_118 := (rd_ne hs_110 (k := 124) (j := 14) (.int (0 : Int32)) (Or.inr (by decide))).trans f_100
  have f_120 := (rd_ne hs_110 (k := 124) (j := 14) (.int (0 : Int32)) (Or.inr (by decide))).trans f_102
  have f_121 := (rd_ne hs_110 (k := 124) (j := 14) (.int (0 : Int32)) (Or.inr (by decide))).trans f_103
  have f_122 := (rd_ne hs_110 (k := 124) (j := 14) (.int (0 : Int32)) (Or.inr (by decide))).trans f_104
  have f_123 := f_105.ne (k := 124) (j := 14) (v := .int (0 : Int32)) (by decide)
  have f_124 := f_106.ne (k := 124) (j := 14) (v := .int (0 : Int32)) (by decide)
  have f_125 := (rd_ne hs_110 (k := 124) (j := 14) (.int (0 : Int32)) (Or.inr (by decide))).trans f_107
  have f_126 := rd_same (j := 14) (v := .int (0 : Int32)) rw_92.1
  have fr_127 := fr_108.wr (k := 124) (j := 14) (.int (0 : Int32)) (by unfold WR0; omega)
  have fr_128 := fr_109.wr (k := 124) (j := 14) (.int (0 : Int32)) (by unfold WLx; omega)
  clear rw_92 fr_108 fr_109 f_93 f_94 f_95 f_96 f_97 f_98 f_100 f_101 f_102 f_103 f_104 f_105 f_106 f_107
  generalize (wr hs_110 124 14 (.int (0 : Int32))) = hs_129 at *
  refine g_loadA act (gx gp_239 (w := 0x4403) rfl (by decide) rfl) (a := 0) (n := 68) rfl rfl rfl ?_
  refine n_call tb_pres act hEnd (gx (P := G_call) gp_239 (w := 0xa0000000000008041100010300470f) rfl (by decide) rfl) (d' := D_259) rfl (as := [.ref 124]) (rest := []) (bx_readGrid hT0 (show PSX hs_129 tx L 0 0 0 (-1) na from ⟨rw_111, f_114, ⟨_, f_117, hL9⟩, ⟨_, f_125, (show (0 : Int32).toInt = ((0 : Nat) : Int) from by decide)⟩, ⟨_, f_126, (show (0 : Int32).toInt = ((0 : Nat) : Int) from by decide)⟩, ⟨_, f_121, (show (0 : Int32).toInt = ((0 : Nat) : Int) from by decide)⟩, ⟨_, f_122, (show (-1 : Int32).toInt = (-1 : Int) from by decide)⟩, ⟨_, f_118, hf9⟩, by omega, by omega, by omega, by omega, by omega, by omega⟩) f_123 f_124) (show (1 : Nat) = fb 0xa0000000000008041100010300470f % 16 by decide) (by show (1 : Nat) ≤ 1; decide) (fun _ => ⟨_, _, rfl, _, shp_at rw_111.1, Or.inr (show fb 0xa0000000000008041100010300470f >>> 68 = 10 by decide)⟩) (by omega) (by show 8 + (1 + 11) + 112 ≤ R.locals; omega) (by show (0 : Nat) ≤ 8; decide) (by show kc + 0 ≤ _; omega) (by show ks + 0 ≤ _; omega) (fun r9 hs_g hpo hr9 => ?_) (fun x9 hs9 hx9 hpo => ?_)
  · obtain rfl : r9 = none := hr9.elim (fun q => q.2) (fun q => absurd rfl q.1)
    obtain ⟨-, -, A_g, b_g, c_g, d_g, f_g, fv_g, gv_g, nl_g, ng_g, nr_g, n_g, hP_g, fr_g, hF_g, hG_g, hI_g, hz_g, hC_g, ho_g, hLV_g⟩ := hpo
    have rw_130 := rw_111.fr fr_g WRd_rw
    have f_131 := f_112.fr (fun j9 _ => fr_g.2.2 125 j9 (by unfold WRd; omega))
    have f_132 := f_113.fr (fun j9 _ => fr_g.2.2 127 j9 (by unfold WRd; omega))
    have f_133 := f_114.fr (fun j9 _ => fr_g.2.2 130 j9 (by unfold WRd; omega))
    have f_134 := f_115.fr (fun j9 _ => fr_g.2.2 129 j9 (by unfold WRd; omega))
    have f_135 := rd_fr fr_g f_116 (by unfold WRd; omega)
    have f_136 := rd_fr fr_g f_117 (by unfold WRd; omega)
    have f_137 := rd_fr fr_g f_120 (by unfold WRd; omega)
    have fr_138 := fr_127.tr (fr_g.mono (fun k9 j9 h9 => by unfold WRd at h9; unfold WR0; omega))
    have fr_139 := fr_128.tr (fr_g.mono (fun k9 j9 h9 => by unfold WRd at h9; unfold WLx; omega))
    obtain ⟨-, -, -, ⟨A9_g, e11_g, hA_g⟩, ⟨b9_g, e14_g, hb_g⟩, ⟨c9_g, e12_g, hc_g⟩, ⟨d9_g, e13_g, hd_g⟩, ⟨f9_g, e15_g, hn_g⟩, -, -, q3_g, q4_g, q5_g, q6_g⟩ := hP_g
    clear rw_111 f_112 f_113 f_114 f_115 f_116 f_117 f_118 f_120 f_121 f_122 f_123 f_124 f_125 f_126 fr_127 fr_128
    show WpN (gp g0 wp) CLS p l e R s m args below meth c Q D_239.2.2.1 kc0 ks0 71 [some (.ref 124), none] (hs_g, kc, ks) []
    refine g_loadA act (gx gp_239 (w := 0x4803) rfl (by decide) rfl) (a := 0) (n := 72) rfl rfl rfl ?_
    refine g_constI act (gx gp_239 (w := 0x40000000400000001000000004901) rfl (by decide) rfl) (n := 73) (x := (0 : Int32)) (by decide) rfl ?_
    refine r_putf act (gx gp_239 (w := 0x289004c13) rfl (by decide) rfl) (n := 76) (ci := 9) (j := 10) (N := 39) rfl rfl rfl rw_130.1 (by decide) (Or.inl ⟨rfl, _, rfl⟩) ?_
    have rw_140 := RW.wr (k := 124) (j := 10) (v := .int (0 : Int32)) rw_130 (Or.inr (by decide))
    have f_141 := f_131.ne (k := 124) (j := 10) (v := .int (0 : Int32)) (by decide)
    have f_142 := f_132.ne (k := 124) (j := 10) (v := .int (0 : Int32)) (by decide)
    have f_143 := f_133.ne (k := 124) (j := 10) (v := .int (0 : Int32)) (by decide)
    have f_144 := f_134.ne (k := 124) (j := 10) (v := .int (0 : Int32)) (by decide)
    have f_145 := (rd_ne hs_g (k := 124) (j := 10) (.int (0 : Int32)) (Or.inr (by decide))).trans f_135
    have f_147 := (rd_ne hs_g (k := 124) (j := 10) (.int (0 : Int32)) (Or.inr (by decide))).trans f_137
    have f_148 := hF_g.ne (k := 124) (j := 10) (v := .int (0 : Int32)) (by decide)
    have f_149 := hG_g.ne (k := 124) (j := 10) (v := .int (0 : Int32)) (by decide)
    have f_150 := (rd_ne hs_g (k := 124) (j := 10) (.int (0 : Int32)) (Or.inr (by decide))).trans e11_g
    have f_151 := (rd_ne hs_g (k := 124) (j := 10) (.int (0 : Int32)) (Or.inr (by decide))).trans e14_g
    have f_152 := (rd_ne hs_g (k := 124) (j := 10) (.int (0 : Int32)) (Or.inr (by decide))).trans e12_g
    have f_153 := (rd_ne hs_g (k := 124) (j := 10) (.int (0 : Int32)) (Or.inr (by decide))).trans e13_g
    have f_154 := (rd_ne hs_g (k := 124) (j := 10) (.int (0 : Int32)) (Or.inr (by decide))).trans e15_g
    have f_155 := rd_same (j := 10) (v := .int (0 : Int32)) rw_130.1
    have fr_156 := fr_138.wr (k := 124) (j := 10) (.int (0 : Int32)) (by unfold WR0; omega)
    have fr_157 := fr_139.wr (k := 124) (j := 10) (.int (0 : Int32)) (by unfold WLx; omega)
    clear rw_130 fr_138 fr_139 f_131 f_132 f_133 f_134 f_135 f_136 f_137 hF_g hG_g e11_g e14_g e12_g e13_g e15_g
    generalize (wr hs_g 124 10 (.int (0 : Int32))) = hs_158 at *
    refine g_loadA act (gx gp_239 (w := 0x4d03) rfl (by decide) rfl) (a := 0) (n := 77) rfl rfl rfl ?_
    refine r_getf act (gx gp_239 (w := 0x1000389005004) rfl (by decide) rfl) (n := 80) (ci := 9) (j := 14) (N := 39) rfl rfl rfl rw_140.1 (by decide) (v := .int b9_g) f_151 ?_
    refine g_ifEq act (gx gp_239 (w := 0x5900530e) rfl (by decide) rfl) (tgt := 89) (n := 83) rfl rfl (fun h19 => ?_) (fun h19 => ?_)
    · simp only [i_eq, i0] at h19
      refine g_constI act (gx gp_239 (w := 0x40000000400000001000000005a01) rfl (by decide) rfl) (n := 90) (x := (0 : Int32)) (by decide) rfl ?_
      refine g_storeI act (gx gp_239 (w := 0x1005b10) rfl (by decide) rfl) (a := 1) (n := 91) rfl rfl (L2 := [some (.ref 124), some (.int (0 : Int32))]) rfl ?_
      refine loopC _ _ _ rw_140 f_141 f_148 (fun hs_c159 f2_c159 fr_c159 hFa_c159 hz_c159 => ?_) _ (show (0 : Int32).toInt = ((0 : Nat) : Int) from by decide)
      have rw_160 := rw_140.fr fr_c159 Wc125_rw
      have f_161 := f_142.fr (fun j9 _ => fr_c159.2.2 127 j9 (by unfold Wc125; omega))
      have f_162 := f_143.fr (fun j9 _ => fr_c159.2.2 130 j9 (by unfold Wc125; omega))
      have f_163 := f_144.fr (fun j9 _ => fr_c159.2.2 129 j9 (by unfold Wc125; omega))
      have f_164 := rd_fr fr_c159 f_145 (by unfold Wc125; omega)
      have f_165 := rd_fr fr_c159 f_147 (by unfold Wc125; omega)
      have f_166 := f_148.fr (fun j9 _ => fr_c159.2.2 126 j9 (by unfold Wc125; omega))
      have f_167 := f_149.fr (fun j9 _ => fr_c159.2.2 128 j9 (by unfold Wc125; omega))
      have f_168 := rd_fr fr_c159 f_150 (by unfold Wc125; omega)
      have f_169 := rd_fr fr_c159 f_151 (by unfold Wc125; omega)
      have f_170 := rd_fr fr_c159 f_152 (by unfold Wc125; omega)
      have f_171 := rd_fr fr_c159 f_153 (by unfold Wc125; omega)
      have f_172 := rd_fr fr_c159 f_154 (by unfold Wc125; omega)
      have f_173 := rd_fr fr_c159 f_155 (by unfold Wc125; omega)
      have fr_174 := fr_156.tr (fr_c159.mono (fun k9 j9 h9 => by unfold Wc125 at h9; unfold WR0; omega))
      have hF_c159 := hFa_c159.cong (g := fv_g) (fun q hq => hz_c159 q hq)
      clear rw_140 f_141 f_142 f_143 f_144 f_145 f_147 f_148 f_149 f_150 f_151 f_152 f_153 f_154 f_155 fr_156
      refine g_constI act (gx gp_239 (w := 0x40000000400000001000000007401) rfl (by decide) rfl) (n := 116) (x := (0 : Int32)) (by decide) rfl ?_
      refine g_storeI act (gx gp_239 (w := 0x1007510) rfl (by decide) rfl) (a := 1) (n := 117) rfl rfl (L2 := [some (.ref 124), some (.int (0 : Int32))]) rfl ?_
      refine loopD _ _ _ rw_160 f_161 f_167 (fun hs_c175 f2_c175 fr_c175 hFa_c175 hz_c175 => ?_) _ (show (0 : Int32).toInt = ((0 : Nat) : Int) from by decide)
      have rw_176 := rw_160.fr fr_c175 Wc127_rw
      have f_177 := f_162.fr (fun j9 _ => fr_c175.2.2 130 j9 (by unfold Wc127; omega))
      have f_178 := f_163.fr (fun j9 _ => fr_c175.2.2 129 j9 (by unfold Wc127; omega))
      have f_179 := rd_fr fr_c175 f_164 (by unfold Wc127; omega)
      have f_180 := rd_fr fr_c175 f_165 (by unfold Wc127; omega)
      have f_181 := f_166.fr (fun j9 _ => fr_c175.2.2 126 j9 (by unfold Wc127; omega))
      have f_182 := f_167.fr (fun j9 _ => fr_c175.2.2 128 j9 (by unfold Wc127; omega))
      have f_183 := rd_fr fr_c175 f_168 (by unfold Wc127; omega)
      have f_184 := rd_fr fr_c175 f_169 (by unfold Wc127; omega)
      have f_185 := rd_fr fr_c175 f_170 (by unfold Wc127; omega)
      have f_186 := rd_fr fr_c175 f_171 (by unfold Wc127; omega)
      have f_187 := rd_fr fr_c175 f_172 (by unfold Wc127; omega)
      have f_188 := rd_fr fr_c175 f_173 (by unfold Wc127; omega)
      have f_189 := hF_c159.fr (fun j9 _ => fr_c175.2.2 125 j9 (by unfold Wc127; omega))
      have fr_190 := fr_174.tr (fr_c175.mono (fun k9 j9 h9 => by unfold Wc127 at h9; unfold WR0; omega))
      have hF_c175 := hFa_c175.cong (g := gv_g) (fun q hq => hz_c175 q hq)
      clear rw_160 f_161 f_162 f_163 f_164 f_165 f_166 f_167 f_168 f_169 f_170 f_171 f_172 f_173 hF_c159 fr_174
      refine g_loadA act (gx gp_239 (w := 0x8e03) rfl (by decide) rfl) (a := 0) (n := 142) rfl rfl rfl ?_
      refine g_constI act (gx gp_239 (w := 0x40000000400000001000000008f01) rfl (by decide) rfl) (n := 143) (x := (0 : Int32)) (by decide) rfl ?_
      refine r_putf act (gx gp_239 (w := 0x189009213) rfl (by decide) rfl) (n := 146) (ci := 9) (j := 6) (N := 39) rfl rfl rfl rw_176.1 (by decide) (Or.inl ⟨rfl, _, rfl⟩) ?_
      have rw_191 := RW.wr (k := 124) (j := 6) (v := .int (0 : Int32)) rw_176 (Or.inr (by decide))
      have f_192 := f_177.ne (k := 124) (j := 6) (v := .int (0 : Int32)) (by decide)
      have f_193 := f_178.ne (k := 124) (j := 6) (v := .int (0 : Int32)) (by decide)
      have f_195 := (rd_ne hs_c175 (k := 124) (j := 6) (.int (0 : Int32)) (Or.inr (by decide))).trans f_180
      have f_196 := f_181.ne (k := 124) (j := 6) (v := .int (0 : Int32)) (by decide)
      have f_197 := f_182.ne (k := 124) (j := 6) (v := .int (0 : Int32)) (by decide)
      have f_198 := (rd_ne hs_c175 (k := 124) (j := 6) (.int (0 : Int32)) (Or.inr (by decide))).trans f_183
      have f_199 := (rd_ne hs_c175 (k := 124) (j := 6) (.int (0 : Int32)) (Or.inr (by decide))).trans f_184
      have f_200 := (rd_ne hs_c175 (k := 124) (j := 6) (.int (0 : Int32)) (Or.inr (by decide))).trans f_185
      have f_201 := (rd_ne hs_c175 (k := 124) (j := 6) (.int (0 : Int32)) (Or.inr (by decide))).trans f_186
      have f_202 := (rd_ne hs_c175 (k := 124) (j := 6) (.int (0 : Int32)) (Or.inr (by decide))).trans f_187
      have f_203 := (rd_ne hs_c175 (k := 124) (j := 6) (.int (0 : Int32)) (Or.inr (by decide))).trans f_188
      have f_204 := f_189.ne (k := 124) (j := 6) (v := .int (0 : Int32)) (by decide)
      have f_205 := hF_c175.ne (k := 124) (j := 6) (v := .int (0 : Int32)) (by decide)
      have f_206 := rd_same (j := 6) (v := .int (0 : Int32)) rw_176.1
      have fr_207 := fr_190.wr (k := 124) (j := 6) (.int (0 : Int32)) (by unfold WR0; omega)
      clear rw_176 fr_190 f_177 f_178 f_179 f_180 f_181 f_182 f_183 f_184 f_185 f_186 f_187 f_188 f_189 hF_c175
      generalize (wr hs_c175 124 6 (.int (0 : Int32))) = hs_208 at *
      refine g_loadA act (gx gp_239 (w := 0x9303) rfl (by decide) rfl) (a := 0) (n := 147) rfl rfl rfl ?_
      refine r_getf act (gx gp_239 (w := 0x3000049009604) rfl (by decide) rfl) (n := 150) (ci := 9) (j := 1) (N := 39) rfl rfl rfl rw_191.1 (by decide) (rw_191.2 (1, 125, 32, 46) (by decide)).1 ?_
      refine g_constI act (gx gp_239 (w := 0x40000001400000011000000009701) rfl (by decide) rfl) (n := 151) (x := (2 : Int32)) (by decide) rfl ?_
      obtain ⟨x_209, e_210, hx_211⟩ := f_204 2 (by omega)
      refine r_iald act (gx gp_239 (w := 0x981a) rfl (by decide) rfl) (n := 152) (j := 2) rfl (rw_191.2 (1, 125, 32, 46) (by decide)).2 (show (2 : Int32).toInt = ((2 : Nat) : Int) from by decide) (show 2 < 46 by omega) (v := .int x_209) e_210 ?_
      have hlv := hLV_g.2 rfl
      have hg := hlv.resolve_right (fun z => by have := z.1; omega)
      have hS : sText tx L = (0, skp tx L A_g, (fv_g, gv_g), nl_g, ng_g, nr_g) := hg.2.2.2.symm
      exact g_retI hEnd (gx gp_239 (w := 0x2f) rfl (by decide) rfl) ⟨rfl, Or.inl ⟨by rw [hS], ⟨_, _, _, _, _, _, hS, ⟨_, rfl, hx_211⟩, f_204, f_205, _, nwx_of hI_g (by omega) hz_g (hC_g (by omega)) ho_g⟩, f_195, f_206, ⟨_, f_200, by have := hg.2.1; omega⟩, ⟨_, f_201, by have := hg.2.2.1; omega⟩⟩, f_192, ⟨_, f_203, (show (0 : Int32).toInt = ((0 : Nat) : Int) from by decide)⟩, rw_191, fr_207, f_193, ⟨_, f_198⟩, ⟨_, f_199⟩, ⟨_, f_202⟩, ⟨_, f_196⟩, ⟨_, f_197⟩⟩ hk1 hk2
    · simp only [i_eq, i0] at h19
      refine g_loadA act (gx gp_239 (w := 0x5403) rfl (by decide) rfl) (a := 0) (n := 84) rfl rfl rfl ?_
      refine g_constI act (gx gp_239 (w := 0x40000000c00000009000000005501) rfl (by decide) rfl) (n := 85) (x := (1 : Int32)) (by decide) rfl ?_
      refine n_call tb_pres act hEnd (gx (P := G_call) gp_239 (w := 0xa000000000000c08220000cd00580f) rfl (by decide) rfl) (d' := D_205) rfl (as := [.ref 124, .int (1 : Int32)]) (rest := []) (b_fails rw_140.1) (show (2 : Nat) = fb 0xa000000000000c08220000cd00580f % 16 by decide) (by show (2 : Nat) ≤ 2; decide) (fun _ => ⟨_, _, rfl, _, shp_at rw_140.1, Or.inr (show fb 0xa000000000000c08220000cd00580f >>> 68 = 10 by decide)⟩) (by omega) (by show 8 + (2 + 11) + 0 ≤ R.locals; omega) (by show (0 : Nat) ≤ 8; decide) (by show kc + 0 ≤ _; omega) (by show ks + 0 ≤ _; omega) (fun r9 h3 hpo hr9 => ?_) (fun x9 hs9 hx9 hpo => ?_)
      · obtain ⟨-, rfl, -, rfl⟩ := hpo
        have rw_213 := RW.wr (k := 124) (j := 0) (v := .int (1 : Int32)) rw_140 (Or.inr (by decide))
        have f_214 := f_141.ne (k := 124) (j := 0) (v := .int (1 : Int32)) (by decide)
        have f_215 := f_142.ne (k := 124) (j := 0) (v := .int (1 : Int32)) (by decide)
        have f_216 := f_143.ne (k := 124) (j := 0) (v := .int (1 : Int32)) (by decide)
        have f_217 := f_144.ne (k := 124) (j := 0) (v := .int (1 : Int32)) (by decide)
        have f_218 := (rd_ne hs_158 (k := 124) (j := 0) (.int (1 : Int32)) (Or.inr (by decide))).trans f_145
        have f_220 := f_148.ne (k := 124) (j := 0) (v := .int (1 : Int32)) (by decide)
        have f_221 := f_149.ne (k := 124) (j := 0) (v := .int (1 : Int32)) (by decide)
        have f_222 := (rd_ne hs_158 (k := 124) (j := 0) (.int (1 : Int32)) (Or.inr (by decide))).trans f_150
        have f_223 := (rd_ne hs_158 (k := 124) (j := 0) (.int (1 : Int32)) (Or.inr (by decide))).trans f_151
        have f_224 := (rd_ne hs_158 (k := 124) (j := 0) (.int (1 : Int32)) (Or.inr (by decide))).trans f_152
        have f_225 := (rd_ne hs_158 (k := 124) (j := 0) (.int (1 : Int32)) (Or.inr (by decide))).trans f_153
        have f_226 := (rd_ne hs_158 (k := 124) (j := 0) (.int (1 : Int32)) (Or.inr (by decide))).trans f_154
        have f_227 := (rd_ne hs_158 (k := 124) (j := 0) (.int (1 : Int32)) (Or.inr (by decide))).trans f_155
        have f_228 := rd_same (j := 0) (v := .int (1 : Int32)) rw_140.1
        have fr_229 := fr_156.wr (k := 124) (j := 0) (.int (1 : Int32)) (by unfold WR0; omega)
        have fr_230 := fr_157.wr (k := 124) (j := 0) (.int (1 : Int32)) (by unfold WLx; omega)
        clear rw_140 fr_156 fr_157 f_141 f_142 f_143 f_144 f_145 f_147 f_148 f_149 f_150 f_151 f_152 f_153 f_154 f_155
        generalize (wr hs_158 124 0 (.int (1 : Int32))) = hs_231 at *
        show WpN (gp g0 wp) CLS p l e R s m args below meth c Q D_239.2.2.1 kc0 ks0 88 [some (.ref 124), none] (hs_231, kc, ks) [.int (0 : Int32)]
        have hlv := hLV_g.2 rfl
        have hg := hlv.resolve_left (fun z => by have := z.1; omega)
        have hk5 : ∀ j, rd hs_231 125 j = rd hs 125 j := fun j => fr_230.2.2 125 j (by unfold WLx; omega)
        have hk7 : ∀ j, rd hs_231 127 j = rd hs 127 j := fun j => fr_230.2.2 127 j (by unfold WLx; omega)
        have hk6 : rd hs_231 124 6 = rd hs 124 6 := fr_230.2.2 124 6 (by unfold WLx; omega)
        exact g_retI hEnd (gx gp_239 (w := 0x2f) rfl (by decide) rfl) ⟨rfl, Or.inr ⟨hg.2.1, rfl, f_228, ⟨_, f_224, by have := hg.2.2.1; omega⟩, ⟨_, f_225, by have := hg.2.2.2; omega⟩, fun j => hk5 j, fun j => hk7 j, hk6⟩, f_216, ⟨_, f_227, (show (0 : Int32).toInt = ((0 : Nat) : Int) from by decide)⟩, rw_213, fr_229, f_217, ⟨_, f_222⟩, ⟨_, f_223⟩, ⟨_, f_226⟩, ⟨_, f_220⟩, ⟨_, f_221⟩⟩ hk1 hk2
      · exact absurd hpo.1 (by omega)
  · exact absurd hpo.1 (by omega)

end RAPL

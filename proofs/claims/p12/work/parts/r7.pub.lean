/-! The reference changes its numbers and takes changes back. -/
def WKp (k j : Nat) : Prop := k = 129 ∨ (k = 124 ∧ j = 6)
theorem WKp_rw : ∀ q ∈ RWT, ¬ WKp 124 q.1 := fun q hq => by
  have := rwt_j q hq
  unfold WKp
  omega
def WCh (k j : Nat) : Prop := k = 127 ∨ k = 129 ∨ (k = 124 ∧ j = 6)
theorem WCh_rw : ∀ q ∈ RWT, ¬ WCh 124 q.1 := fun q hq => by
  have := rwt_j q hq
  unfold WCh
  omega
theorem NWx.cong {tl f g : Nat → Int} {nl n ng nr : Nat} (h : NWx tl f nl n ng nr) (e : ∀ q, q < 39 → g q = f q) : NWx tl g nl n ng nr := by
  obtain ⟨⟨n0, n1, n2, n3, n4, n5, n6, n7, n8, nG, nL, nC, nP, nD⟩, h1⟩ := h
  have h6 := nG.2.2.1
  exact ⟨⟨n0, n1, n2, n3, n4, n5, n6, n7, n8, by rw [e 38 (by decide)]; exact nG, fun l hl => by rw [e l (by omega)]; exact nL l hl, fun l hl => by rw [e _ (by omega)]; exact nC l hl, fun l hl => by rw [e _ (by omega)]; exact nP l hl, fun l hl => by rw [e _ (by omega)]; exact nD l hl⟩, fun l hl => by rw [e l (by omega)]; exact h1 l hl⟩
theorem NWx.upd {tl wl : Nat → Int} {nl n ng nr i : Nat} {X : Int} (h : NWx tl wl nl n ng nr) (hi : (i < 6 ∧ 1 ≤ X ∧ X ≤ 200) ∨ (6 ≤ i ∧ i < 12 ∧ 0 ≤ X ∧ X ≤ 400) ∨ (12 ≤ i ∧ i < 17 ∧ 0 ≤ X ∧ X ≤ 99) ∨ (17 ≤ i ∧ i < 22 ∧ 0 ≤ X ∧ X ≤ 200) ∨ (22 ≤ i ∧ i < 38 ∧ 0 ≤ X ∧ X ≤ 200)) : NWx tl (upI wl i X) nl n ng nr := by
  obtain ⟨⟨n0, n1, n2, n3, n4, n5, n6, n7, n8, nG, nL, nC, nP, nD⟩, h1⟩ := h
  have h6 := nG.2.2.1
  refine ⟨⟨n0, n1, n2, n3, n4, n5, n6, n7, n8, ?_, fun l hl => ?_, fun l hl => ?_, fun l hl => ?_, fun l hl => ?_⟩, fun l hl => ?_⟩
  · rw [show upI wl i X 38 = wl 38 from by unfold upI; rw [if_neg (by omega)]]; exact nG
  · have q := nL l hl
    simp only [upI]
    omega
  · have q := nC l hl
    simp only [upI]
    omega
  · have q := nP l hl
    simp only [upI]
    omega
  · have q := nD l hl
    simp only [upI]
    omega
  · have q := h1 l hl
    simp only [upI]
    omega
theorem NWx.out {tl wl : Nat → Int} {nl n ng nr : Nat} {X : Int} (h : NWx tl wl nl n ng nr) (hX : X = -1 ∨ (0 ≤ X ∧ X < (nl : Int) ∧ CutOK tl nl X n)) : NWx tl (upI wl 38 X) nl n ng nr := by
  obtain ⟨⟨n0, n1, n2, n3, n4, n5, n6, n7, n8, nG, nL, nC, nP, nD⟩, h1⟩ := h
  have h6 := nG.2.2.1
  have e : ∀ j, j < 38 → upI wl 38 X j = wl j := fun j hj => by unfold upI; rw [if_neg (by omega)]
  refine ⟨⟨n0, n1, n2, n3, n4, n5, n6, n7, n8, ?_, fun l hl => by rw [e l (by omega)]; exact nL l hl, fun l hl => by rw [e _ (by omega)]; exact nC l hl, fun l hl => by rw [e _ (by omega)]; exact nP l hl, fun l hl => by rw [e _ (by omega)]; exact nD l hl⟩, fun l hl => by rw [e l (by omega)]; exact h1 l hl⟩
  rw [show upI wl 38 X 38 = X from by unfold upI; rw [if_pos rfl]]
  obtain ⟨g1, g2, g3, g4, g5, -⟩ := nG
  exact ⟨g1, g2, g3, g4, g5, hX⟩
/-- the rows of the past: each is an old one or what holds now -/
def Rows (pv2 pv wl : Nat → Int) (np2 np : Nat) : Prop := ∀ i, i < np2 → (∃ i', i' < np ∧ ∀ q, q < 39 → pv2 (39 * i + q) = pv (39 * i' + q)) ∨ ∀ q, q < 39 → pv2 (39 * i + q) = wl q
theorem Rows.nw {tl pv2 pv wl : Nat → Int} {nl n ng nr np2 np : Nat} (h : Rows pv2 pv wl np2 np) (hw : NWx tl wl nl n ng nr) (hp : ∀ i, i < np → NWx tl (fun j => pv (39 * i + j)) nl n ng nr) : ∀ i, i < np2 → NWx tl (fun j => pv2 (39 * i + j)) nl n ng nr := fun i hi => by
  rcases h i hi with ⟨i', h1, h2⟩ | h2
  · exact (hp i' h1).cong h2
  · exact hw.cong h2
theorem Rows.fin {pj pv0 pv wl : Nat → Int} {np0 np : Nat} (h0 : ∀ i, i < np0 → ∃ i', i' < np ∧ ∀ q, q < 39 → pv0 (39 * i + q) = pv (39 * i' + q)) (h1 : ∀ q, q < 39 * np0 → pj q = pv0 q) (h2 : ∀ q, q < 39 → pj (39 * np0 + q) = wl q) : Rows pj pv wl (np0 + 1) np := fun i hi => by
  by_cases q : i < np0
  · obtain ⟨i', a, b⟩ := h0 i q
    exact Or.inl ⟨i', a, fun x hx => by rw [h1 _ (by omega)]; exact b x hx⟩
  · obtain rfl : i = np0 := by omega
    exact Or.inr h2
section PUB2
variable {g0 : GG} {bl : Nat} {xs : Nat → Int32} {l : Launch} {hs : List CE} {L : Int}

theorem br_keeps {wl pv : Nat → Int} {np : Nat} {p9 : Int32} (rw0 : RW hs) (hW : IArr hs 127 39 wl) (hP : IArr hs 129 390 pv) (e6 : rd hs 124 6 = .int p9) (hp9 : p9.toInt = (np : Int)) (hp10 : np ≤ 10)  : BodyN SSX TBL g0 CLS bl xs l D_230 0 0 0 0 [.ref 124] hs (fun kd r h2 => kd = 0 ∧ r = none ∧ ∃ (pv2 : Nat → Int) (np2 : Nat) (x : Int32), IArr h2 129 390 pv2 ∧ rd h2 124 6 = .int x ∧ x.toInt = (np2 : Int) ∧ np2 ≤ 10 ∧ Rows pv2 pv wl np2 np ∧ FrS WKp hs h2) := by
  intro wp p e R s m args below meth c Q kc0 ks0 kc ks act hf hl hc hsl hEnd
  have hf : 0 ≤ R.frames := hf
  have hl : 0 ≤ R.locals := hl
  have hk1 : kc ≤ kc + 0 := by omega
  have hk2 : ks ≤ ks + 0 := by omega
  have hfr0 := FrS.rf WKp hs
  have loop2 : ∀ (pv0 : Nat → Int) (np0 : Nat), np0 ≤ 9 → (∀ i, i < np0 → ∃ i', i' < np ∧ ∀ q, q < 39 → pv0 (39 * i + q) = pv (39 * i' + q)) → ∀ (hj : List CE) (pj : Nat → Int) (p6j kj : Int32) (k9 : Nat), RW hj → IArr hj 127 39 wl → IArr hj 129 390 pj → rd hj 124 6 = .int p6j → p6j.toInt = (np0 : Int) → kj.toInt = (k9 : Int) → k9 ≤ 39 → FrS WKp hs hj → (∀ q, q < 39 * np0 ∨ 39 * np0 + k9 ≤ q → q < 390 → pj q = pv0 q) → (∀ q, q < k9 → pj (39 * np0 + q) = wl q) → WpN (gp g0 wp) CLS p l e R s m args below meth c Q D_230.2.2.1 kc0 ks0 55 [some (.ref 124), some (.int kj)] (hj, kc, ks) [] := by
    intro pv0 np0 hn9 hrow hj pj p6j kj k9 rwj hWj hPj e6j hp6 hkj hk39 hfr hI1 hI2
    generalize hm : 39 - k9 = m9
    induction m9 using Nat.strongRecOn generalizing hj pj p6j kj k9 with
    | _ m9 ih =>
    subst hm
    refine g_loadI act (gx gp_230 (w := 0x1003802) rfl (by decide) rfl) (a := 1) (n := 56) rfl rfl rfl ?_
    refine g_constI act (gx gp_230 (w := 0x40000013c00000139000000003a01) rfl (by decide) rfl) (n := 58) (x := (39 : Int32)) (by decide) rfl ?_
    refine g_icmpGe act (gx gp_230 (w := 0x57003d08) rfl (by decide) rfl) (tgt := 87) (n := 61) rfl rfl (fun h3 => ?_) (fun h3 => ?_)
    · simp only [i_le, show (39 : Int32).toInt = 39 from by decide] at h3
      refine g_loadA act (gx gp_230 (w := 0x5803) rfl (by decide) rfl) (a := 0) (n := 88) rfl rfl rfl ?_
      refine g_dup act (gx gp_230 (w := 0x5922) rfl (by decide) rfl) (n := 89) rfl rfl ?_
      refine r_getf act (gx gp_230 (w := 0x189005c04) rfl (by decide) rfl) (n := 92) (ci := 9) (j := 6) (N := 39) rfl rfl rfl rwj.1 (by decide) (v := .int p6j) e6j ?_
      refine g_constI act (gx gp_230 (w := 0x40000000c00000009000000005d01) rfl (by decide) rfl) (n := 93) (x := (1 : Int32)) (by decide) rfl ?_
      refine g_iadd act (gx gp_230 (w := 0x5e0a) rfl (by decide) rfl) (n := 94) rfl ?_
      have v_1 := iv_addN hp6 (show (1 : Int32).toInt = ((1 : Nat) : Int) from by decide) (show (np0 + 1) < 2147483648 by omega)
      refine r_putf act (gx gp_230 (w := 0x189006113) rfl (by decide) rfl) (n := 97) (ci := 9) (j := 6) (N := 39) rfl rfl rfl rwj.1 (by decide) (Or.inl ⟨rfl, _, rfl⟩) ?_
      have rw_2 := RW.wr (k := 124) (j := 6) (v := .int (p6j + (1 : Int32))) rwj (Or.inr (by decide))
      have f_3 := hWj.ne (k := 124) (j := 6) (v := .int (p6j + (1 : Int32))) (by decide)
      have f_4 := hPj.ne (k := 124) (j := 6) (v := .int (p6j + (1 : Int32))) (by decide)
      have f_6 := rd_same (j := 6) (v := .int (p6j + (1 : Int32))) rwj.1
      have fr_7 := hfr.wr (k := 124) (j := 6) (.int (p6j + (1 : Int32))) (by unfold WKp; omega)
      clear rwj hfr hWj hPj e6j
      generalize (wr hj 124 6 (.int (p6j + (1 : Int32)))) = hs_8 at *
      exact g_retV hEnd (gx gp_230 (w := 0x18) rfl (by decide) rfl) ⟨rfl, rfl, _, np0 + 1, _, f_4, f_6, v_1, by omega, Rows.fin hrow (fun q hq => hI1 q (Or.inl hq) (by omega)) (fun q hq => hI2 q (by omega)), fr_7⟩ hk1 hk2
    · simp only [i_le, show (39 : Int32).toInt = 39 from by decide] at h3
      refine g_loadA act (gx gp_230 (w := 0x3e03) rfl (by decide) rfl) (a := 0) (n := 62) rfl rfl rfl ?_
      refine r_getf act (gx gp_230 (w := 0x3000149004104) rfl (by decide) rfl) (n := 65) (ci := 9) (j := 5) (N := 39) rfl rfl rfl rwj.1 (by decide) (rwj.2 (5, 129, 32, 390) (by decide)).1 ?_
      refine g_constI act (gx gp_230 (w := 0x40000013c00000139000000004301) rfl (by decide) rfl) (n := 67) (x := (39 : Int32)) (by decide) rfl ?_
      refine g_loadA act (gx gp_230 (w := 0x4403) rfl (by decide) rfl) (a := 0) (n := 68) rfl rfl rfl ?_
      refine r_getf act (gx gp_230 (w := 0x189004704) rfl (by decide) rfl) (n := 71) (ci := 9) (j := 6) (N := 39) rfl rfl rfl rwj.1 (by decide) (v := .int p6j) e6j ?_
      refine g_imul act (gx gp_230 (w := 0x4811) rfl (by decide) rfl) (n := 72) rfl ?_
      have v_9 := iv_mulN (show (39 : Int32).toInt = ((39 : Nat) : Int) from by decide) hp6 (show (39 * np0) < 2147483648 by omega)
      refine g_loadI act (gx gp_230 (w := 0x1004902) rfl (by decide) rfl) (a := 1) (n := 73) rfl rfl rfl ?_
      refine g_iadd act (gx gp_230 (w := 0x4a0a) rfl (by decide) rfl) (n := 74) rfl ?_
      have v_10 := iv_addN v_9 hkj (show ((39 * np0) + k9) < 2147483648 by omega)
      refine g_loadA act (gx gp_230 (w := 0x4b03) rfl (by decide) rfl) (a := 0) (n := 75) rfl rfl rfl ?_
      refine r_getf act (gx gp_230 (w := 0x30000c9004e04) rfl (by decide) rfl) (n := 78) (ci := 9) (j := 3) (N := 39) rfl rfl rfl rwj.1 (by decide) (rwj.2 (3, 127, 32, 39) (by decide)).1 ?_
      refine g_loadI act (gx gp_230 (w := 0x1004f02) rfl (by decide) rfl) (a := 1) (n := 79) rfl rfl rfl ?_
      obtain ⟨x_11, e_12, hx_13⟩ := hWj k9 (by omega)
      refine r_iald act (gx gp_230 (w := 0x501a) rfl (by decide) rfl) (n := 80) (j := k9) rfl (rwj.2 (3, 127, 32, 39) (by decide)).2 hkj (show k9 < 39 by omega) (v := .int x_11) e_12 ?_
      refine r_iast act (gx gp_230 (w := 0x5124) rfl (by decide) rfl) (n := 81) (j := ((39 * np0) + k9)) rfl (rwj.2 (5, 129, 32, 390) (by decide)).2 v_10 (show ((39 * np0) + k9) < 390 by omega) ?_
      have rw_14 := RW.wr (k := 129) (j := ((39 * np0) + k9)) (v := .int x_11) rwj (Or.inl (by decide))
      have f_15 := hWj.ne (k := 129) (j := ((39 * np0) + k9)) (v := .int x_11) (by decide)
      have f_16 := hPj.put (j := ((39 * np0) + k9)) (rwj.2 (5, 129, 32, 390) (by decide)).2 hx_13
      have f_17 := (rd_ne hj (k := 129) (j := ((39 * np0) + k9)) (.int x_11) (Or.inl (by decide))).trans e6j
      have fr_18 := hfr.wr (k := 129) (j := ((39 * np0) + k9)) (.int x_11) (by unfold WKp; omega)
      clear rwj hfr hWj hPj e6j
      generalize (wr hj 129 ((39 * np0) + k9) (.int x_11)) = hs_19 at *
      refine g_iinc act (gx gp_230 (w := 0x80000001000001005409) rfl (by decide) rfl) (a := 1) (i := (1 : Int32)) (n := 84) rfl (by decide) rfl rfl (L2 := [some (.ref 124), some (.int (kj + (1 : Int32)))]) rfl ?_
      have v_20 := iv_addN hkj (show (1 : Int32).toInt = ((1 : Nat) : Int) from by decide) (show (k9 + 1) < 2147483648 by omega)
      refine g_goto act (gx gp_230 (w := 0x3707) rfl (by decide) rfl) (n := 55) rfl ?_
      exact ih _ (by omega) _ (upI pj ((39 * np0) + k9) (wl k9)) _ _ (k9 + 1) rw_14 f_15 f_16 f_17 hp6 v_20 (by omega) fr_18 (fun q h1 h2 => by have w9 := hI1 q (by omega) h2; simp only [upI]; omega) (fun q hq => by
        by_cases e9 : q = k9
        · subst e9; simp only [upI, ↓reduceIte]
        · have w9 := hI2 q (by omega); simp only [upI]; omega) rfl
  have loop1 : np = 10 → ∀ (hj : List CE) (pj : Nat → Int) (p6j kj : Int32) (k9 : Nat), RW hj → IArr hj 127 39 wl → IArr hj 129 390 pj → rd hj 124 6 = .int p6j → p6j.toInt = ((9 : Nat) : Int) → kj.toInt = (k9 : Int) → k9 ≤ 351 → FrS WKp hs hj → (∀ q, q < k9 → pj q = pv (q + 39)) → (∀ q, k9 ≤ q → q < 390 → pj q = pv q) → WpN (gp g0 wp) CLS p l e R s m args below meth c Q D_230.2.2.1 kc0 ks0 21 [some (.ref 124), some (.int kj)] (hj, kc, ks) [] := by
    intro hn10 hj pj p6j kj k9 rwj hWj hPj e6j hp6 hkj hk39 hfr hI1 hI2
    generalize hm : 351 - k9 = m9
    induction m9 using Nat.strongRecOn generalizing hj pj p6j kj k9 with
    | _ m9 ih =>
    subst hm
    refine g_loadI act (gx gp_230 (w := 0x1001602) rfl (by decide) rfl) (a := 1) (n := 22) rfl rfl rfl ?_
    refine g_loadA act (gx gp_230 (w := 0x1703) rfl (by decide) rfl) (a := 0) (n := 23) rfl rfl rfl ?_
    refine r_getf act (gx gp_230 (w := 0x189001a04) rfl (by decide) rfl) (n := 26) (ci := 9) (j := 6) (N := 39) rfl rfl rfl rwj.1 (by decide) (v := .int p6j) e6j ?_
    refine g_constI act (gx gp_230 (w := 0x40000013c00000139000000001c01) rfl (by decide) rfl) (n := 28) (x := (39 : Int32)) (by decide) rfl ?_
    refine g_imul act (gx gp_230 (w := 0x1d11) rfl (by decide) rfl) (n := 29) rfl ?_
    have v_21 := iv_mulN hp6 (show (39 : Int32).toInt = ((39 : Nat) : Int) from by decide) (show (9 * 39) < 2147483648 by omega)
    refine g_icmpGe act (gx gp_230 (w := 0x35002008) rfl (by decide) rfl) (tgt := 53) (n := 32) rfl rfl (fun h4 => ?_) (fun h4 => ?_)
    · simp only [i_le, show (39 : Int32).toInt = 39 from by decide] at h4
      refine g_constI act (gx gp_230 (w := 0x40000000400000001000000003601) rfl (by decide) rfl) (n := 54) (x := (0 : Int32)) (by decide) rfl ?_
      refine g_storeI act (gx gp_230 (w := 0x1003710) rfl (by decide) rfl) (a := 1) (n := 55) rfl rfl (L2 := [some (.ref 124), some (.int (0 : Int32))]) rfl ?_
      exact loop2 pj 9 (by decide) (fun i hi => ⟨i + 1, by omega, fun q hq => by rw [hI1 _ (by omega)]; congr 1; omega⟩) _ _ _ _ 0 rwj hWj hPj e6j hp6 (show (0 : Int32).toInt = ((0 : Nat) : Int) from by decide) (by decide) hfr (fun _ _ _ => rfl) (fun q hq => absurd hq (Nat.not_lt_zero _))
    · simp only [i_le, show (39 : Int32).toInt = 39 from by decide] at h4
      refine g_loadA act (gx gp_230 (w := 0x2103) rfl (by decide) rfl) (a := 0) (n := 33) rfl rfl rfl ?_
      refine r_getf act (gx gp_230 (w := 0x3000149002404) rfl (by decide) rfl) (n := 36) (ci := 9) (j := 5) (N := 39) rfl rfl rfl rwj.1 (by decide) (rwj.2 (5, 129, 32, 390) (by decide)).1 ?_
      refine g_loadI act (gx gp_230 (w := 0x1002502) rfl (by decide) rfl) (a := 1) (n := 37) rfl rfl rfl ?_
      refine g_loadA act (gx gp_230 (w := 0x2603) rfl (by decide) rfl) (a := 0) (n := 38) rfl rfl rfl ?_
      refine r_getf act (gx gp_230 (w := 0x3000149002904) rfl (by decide) rfl) (n := 41) (ci := 9) (j := 5) (N := 39) rfl rfl rfl rwj.1 (by decide) (rwj.2 (5, 129, 32, 390) (by decide)).1 ?_
      refine g_loadI act (gx gp_230 (w := 0x1002a02) rfl (by decide) rfl) (a := 1) (n := 42) rfl rfl rfl ?_
      refine g_constI act (gx gp_230 (w := 0x40000013c00000139000000002c01) rfl (by decide) rfl) (n := 44) (x := (39 : Int32)) (by decide) rfl ?_
      refine g_iadd act (gx gp_230 (w := 0x2d0a) rfl (by decide) rfl) (n := 45) rfl ?_
      have v_22 := iv_addN hkj (show (39 : Int32).toInt = ((39 : Nat) : Int) from by decide) (show (k9 + 39) < 2147483648 by omega)
      obtain ⟨x_23, e_24, hx_25⟩ := hPj (k9 + 39) (by omega)
      refine r_iald act (gx gp_230 (w := 0x2e1a) rfl (by decide) rfl) (n := 46) (j := (k9 + 39)) rfl (rwj.2 (5, 129, 32, 390) (by decide)).2 v_22 (show (k9 + 39) < 390 by omega) (v := .int x_23) e_24 ?_
      refine r_iast act (gx gp_230 (w := 0x2f24) rfl (by decide) rfl) (n := 47) (j := k9) rfl (rwj.2 (5, 129, 32, 390) (by decide)).2 hkj (show k9 < 390 by omega) ?_
      have rw_26 := RW.wr (k := 129) (j := k9) (v := .int x_23) rwj (Or.inl (by decide))
      have f_27 := hWj.ne (k := 129) (j := k9) (v := .int x_23) (by decide)
      have f_28 := hPj.put (j := k9) (rwj.2 (5, 129, 32, 390) (by decide)).2 hx_25
      have f_29 := (rd_ne hj (k := 129) (j := k9) (.int x_23) (Or.inl (by decide))).trans e6j
      have fr_30 := hfr.wr (k := 129) (j := k9) (.int x_23) (by unfold WKp; omega)
      clear rwj hfr hWj hPj e6j
      generalize (wr hj 129 k9 (.int x_23)) = hs_31 at *
      refine g_iinc act (gx gp_230 (w := 0x80000001000001003209) rfl (by decide) rfl) (a := 1) (i := (1 : Int32)) (n := 50) rfl (by decide) rfl rfl (L2 := [some (.ref 124), some (.int (kj + (1 : Int32)))]) rfl ?_
      have v_32 := iv_addN hkj (show (1 : Int32).toInt = ((1 : Nat) : Int) from by decide) (show (k9 + 1) < 2147483648 by omega)
      refine g_goto act (gx gp_230 (w := 0x1507) rfl (by decide) rfl) (n := 21) rfl ?_
      exact ih _ (by omega) _ (upI pj k9 (pj (k9 + 39))) _ _ (k9 + 1) rw_26 f_27 f_28 f_29 hp6 v_32 (by omega) fr_30 (fun q hq => by
        by_cases e9 : q = k9
        · subst e9; have w9 := hI2 (q + 39) (by omega) (by omega); simp only [upI, ↓reduceIte]; omega
        · have w9 := hI1 q (by omega); simp only [upI]; omega) (fun q h1 h2 => by have w9 := hI2 q (by omega) h2; simp only [upI]; omega) rfl
  show WpN (gp g0 wp) CLS p l e R s m args below meth c Q D_230.2.2.1 kc0 ks0 0 [some (.ref 124), none] (hs, kc, ks) []
  refine g_loadA act (gx gp_230 (w := 0x103) rfl (by decide) rfl) (a := 0) (n := 1) rfl rfl rfl ?_
  refine r_getf act (gx gp_230 (w := 0x189000404) rfl (by decide) rfl) (n := 4) (ci := 9) (j := 6) (N := 39) rfl rfl rfl rw0.1 (by decide) (v := .int p9) e6 ?_
  refine g_constI act (gx gp_230 (w := 0x40000005400000051000000000601) rfl (by decide) rfl) (n := 6) (x := (10 : Int32)) (by decide) rfl ?_
  refine g_icmpNe act (gx gp_230 (w := 0x35000921) rfl (by decide) rfl) (tgt := 53) (n := 9) rfl rfl (fun h3 => ?_) (fun h3 => ?_)
  · simp only [i_eq, show (10 : Int32).toInt = 10 from by decide] at h3
    refine g_constI act (gx gp_230 (w := 0x40000000400000001000000003601) rfl (by decide) rfl) (n := 54) (x := (0 : Int32)) (by decide) rfl ?_
    refine g_storeI act (gx gp_230 (w := 0x1003710) rfl (by decide) rfl) (a := 1) (n := 55) rfl rfl (L2 := [some (.ref 124), some (.int (0 : Int32))]) rfl ?_
    exact loop2 pv np (by omega) (fun i hi => ⟨i, hi, fun _ _ => rfl⟩) _ _ _ _ 0 rw0 hW hP e6 hp9 (show (0 : Int32).toInt = ((0 : Nat) : Int) from by decide) (by decide) hfr0 (fun _ _ _ => rfl) (fun q hq => absurd hq (Nat.not_lt_zero _))
  · simp only [i_eq, show (10 : Int32).toInt = 10 from by decide] at h3
    refine g_loadA act (gx gp_230 (w := 0xa03) rfl (by decide) rfl) (a := 0) (n := 10) rfl rfl rfl ?_
    refine g_dup act (gx gp_230 (w := 0xb22) rfl (by decide) rfl) (n := 11) rfl rfl ?_
    refine r_getf act (gx gp_230 (w := 0x189000e04) rfl (by decide) rfl) (n := 14) (ci := 9) (j := 6) (N := 39) rfl rfl rfl rw0.1 (by decide) (v := .int p9) e6 ?_
    refine g_constI act (gx gp_230 (w := 0x40000000c00000009000000000f01) rfl (by decide) rfl) (n := 15) (x := (1 : Int32)) (by decide) rfl ?_
    refine g_isub act (gx gp_230 (w := 0x1026) rfl (by decide) rfl) (n := 16) rfl ?_
    have v_33 := iv_subN hp9 (show (1 : Int32).toInt = ((1 : Nat) : Int) from by decide) (show 1 ≤ np by omega)
    refine r_putf act (gx gp_230 (w := 0x189001313) rfl (by decide) rfl) (n := 19) (ci := 9) (j := 6) (N := 39) rfl rfl rfl rw0.1 (by decide) (Or.inl ⟨rfl, _, rfl⟩) ?_
    have rw_34 := RW.wr (k := 124) (j := 6) (v := .int (p9 - (1 : Int32))) rw0 (Or.inr (by decide))
    have f_35 := hW.ne (k := 124) (j := 6) (v := .int (p9 - (1 : Int32))) (by decide)
    have f_36 := hP.ne (k := 124) (j := 6) (v := .int (p9 - (1 : Int32))) (by decide)
    have f_38 := rd_same (j := 6) (v := .int (p9 - (1 : Int32))) rw0.1
    have fr_39 := hfr0.wr (k := 124) (j := 6) (.int (p9 - (1 : Int32))) (by unfold WKp; omega)
    clear hW hP e6
    generalize (wr hs 124 6 (.int (p9 - (1 : Int32)))) = hs_40 at *
    refine g_constI act (gx gp_230 (w := 0x40000000400000001000000001401) rfl (by decide) rfl) (n := 20) (x := (0 : Int32)) (by decide) rfl ?_
    refine g_storeI act (gx gp_230 (w := 0x1001510) rfl (by decide) rfl) (a := 1) (n := 21) rfl rfl (L2 := [some (.ref 124), some (.int (0 : Int32))]) rfl ?_
    exact loop1 (by omega) _ _ _ _ 0 rw_34 f_35 f_36 f_38 ((v_33).trans (by omega)) (show (0 : Int32).toInt = ((0 : Nat) : Int) from by decide) (by decide) fr_39 (fun q hq => absurd hq (Nat.not_lt_zero _)) (fun _ _ _ => rfl)

theorem br_ch0 {wl pv : Nat → Int} {np : Nat} {p9 : Int32} (rw0 : RW hs) (hW : IArr hs 127 39 wl) (hP : IArr hs 129 390 pv) (e6 : rd hs 124 6 = .int p9) (hp9 : p9.toInt = (np : Int)) (hp10 : np ≤ 10) {ii xi : Int32} {i9 : Nat} {X : Int} (e0 : rd hs 124 0 = .int (0 : Int32)) (hiv : ii.toInt = (i9 : Int)) (hi39 : i9 < 39) (hX : xi.toInt = X) : BodyN SSX TBL g0 CLS bl xs l D_187 1 21 0 0 [.ref 124, .int ii, .int xi] hs (fun kd r h2 => kd = 0 ∧ (∃ x : Int32, r = some (.int x)) ∧ ∃ (pv2 : Nat → Int) (np2 : Nat) (x : Int32), IArr h2 129 390 pv2 ∧ rd h2 124 6 = .int x ∧ x.toInt = (np2 : Int) ∧ np2 ≤ 10 ∧ Rows pv2 pv wl np2 np ∧ IArr h2 127 39 (upI wl i9 X) ∧ FrS WCh hs h2) := by
  intro wp p e R s m args below meth c Q kc0 ks0 kc ks act hf hl hc hsl hEnd
  have hf : 1 ≤ R.frames := hf
  have hl : 21 ≤ R.locals := hl
  have hk1 : kc ≤ kc + 0 := by omega
  have hk2 : ks ≤ ks + 0 := by omega
  have hfr0 := FrS.rf WCh hs
  show WpN (gp g0 wp) CLS p l e R s m args below meth c Q D_187.2.2.1 kc0 ks0 0 [some (.ref 124), some (.int ii), some (.int xi), none] (hs, kc, ks) []
  refine g_loadA act (gx gp_187 (w := 0x103) rfl (by decide) rfl) (a := 0) (n := 1) rfl rfl rfl ?_
  refine r_getf act (gx gp_187 (w := 0x9000404) rfl (by decide) rfl) (n := 4) (ci := 9) (j := 0) (N := 39) rfl rfl rfl rw0.1 (by decide) (v := .int (0 : Int32)) e0 ?_
  refine g_ifLe act (gx gp_187 (w := 0x900073d) rfl (by decide) rfl) (tgt := 9) (n := 7) rfl rfl (fun _ => ?_) (fun q => absurd (by decide) q)
  refine g_loadA act (gx gp_187 (w := 0xa03) rfl (by decide) rfl) (a := 0) (n := 10) rfl rfl rfl ?_
  refine n_call tb_pres act hEnd (gx (P := G_call) gp_187 (w := 0xa000000000000808110000e6000d0f) rfl (by decide) rfl) (d' := D_230) rfl (as := [.ref 124]) (rest := []) (br_keeps rw0 hW hP e6 hp9 (by omega)) (show (1 : Nat) = fb 0xa000000000000808110000e6000d0f % 16 by decide) (by show (1 : Nat) ≤ 2; decide) (fun _ => ⟨_, _, rfl, _, shp_at rw0.1, Or.inr (show fb 0xa000000000000808110000e6000d0f >>> 68 = 10 by decide)⟩) (by omega) (by show 8 + (2 + 11) + 0 ≤ R.locals; omega) (by show (0 : Nat) ≤ 8; decide) (by show kc + 0 ≤ _; omega) (by show ks + 0 ≤ _; omega) (fun r9 hs_c1 hpo hr9 => ?_) (fun x9 hs9 hx9 hpo => ?_)
  · obtain rfl : r9 = none := hr9.elim (fun q => q.2) (fun q => absurd rfl q.1)
    obtain ⟨-, -, pv_c1, np_c1, p9_c1, hPa_c1, e6_c1, hp_c1, hq_c1, hr_c1, fr_c1⟩ := hpo
    have rw_2 := rw0.fr fr_c1 WKp_rw
    have f_3 := hW.fr (fun j9 _ => fr_c1.2.2 127 j9 (by unfold WKp; omega))
    have f_4 := rd_fr fr_c1 e0 (by unfold WKp; omega)
    have fr_5 := hfr0.tr (fr_c1.mono (fun k9 j9 h9 => by unfold WKp at h9; unfold WCh; omega))
    clear hW hP e6 e0
    show WpN (gp g0 wp) CLS p l e R s m args below meth c Q D_187.2.2.1 kc0 ks0 13 [some (.ref 124), some (.int ii), some (.int xi), none] (hs_c1, kc, ks) []
    refine g_loadA act (gx gp_187 (w := 0xe03) rfl (by decide) rfl) (a := 0) (n := 14) rfl rfl rfl ?_
    refine r_getf act (gx gp_187 (w := 0x30000c9001104) rfl (by decide) rfl) (n := 17) (ci := 9) (j := 3) (N := 39) rfl rfl rfl rw_2.1 (by decide) (rw_2.2 (3, 127, 32, 39) (by decide)).1 ?_
    refine g_loadI act (gx gp_187 (w := 0x1001202) rfl (by decide) rfl) (a := 1) (n := 18) rfl rfl rfl ?_
    obtain ⟨x_6, e_7, hx_8⟩ := f_3 i9 (by omega)
    refine r_iald act (gx gp_187 (w := 0x131a) rfl (by decide) rfl) (n := 19) (j := i9) rfl (rw_2.2 (3, 127, 32, 39) (by decide)).2 hiv (show i9 < 39 by omega) (v := .int x_6) e_7 ?_
    refine g_storeI act (gx gp_187 (w := 0x3001410) rfl (by decide) rfl) (a := 3) (n := 20) rfl rfl (L2 := [some (.ref 124), some (.int ii), some (.int xi), some (.int x_6)]) rfl ?_
    refine g_loadA act (gx gp_187 (w := 0x1503) rfl (by decide) rfl) (a := 0) (n := 21) rfl rfl rfl ?_
    refine r_getf act (gx gp_187 (w := 0x30000c9001804) rfl (by decide) rfl) (n := 24) (ci := 9) (j := 3) (N := 39) rfl rfl rfl rw_2.1 (by decide) (rw_2.2 (3, 127, 32, 39) (by decide)).1 ?_
    refine g_loadI act (gx gp_187 (w := 0x1001902) rfl (by decide) rfl) (a := 1) (n := 25) rfl rfl rfl ?_
    refine g_loadI act (gx gp_187 (w := 0x2001a02) rfl (by decide) rfl) (a := 2) (n := 26) rfl rfl rfl ?_
    refine r_iast act (gx gp_187 (w := 0x1b24) rfl (by decide) rfl) (n := 27) (j := i9) rfl (rw_2.2 (3, 127, 32, 39) (by decide)).2 hiv (show i9 < 39 by omega) ?_
    have rw_9 := RW.wr (k := 127) (j := i9) (v := .int xi) rw_2 (Or.inl (by decide))
    have f_10 := f_3.put (j := i9) (rw_2.2 (3, 127, 32, 39) (by decide)).2 hX
    have f_11 := (rd_ne hs_c1 (k := 127) (j := i9) (.int xi) (Or.inl (by decide))).trans f_4
    have f_12 := hPa_c1.ne (k := 127) (j := i9) (v := .int xi) (by decide)
    have f_13 := (rd_ne hs_c1 (k := 127) (j := i9) (.int xi) (Or.inl (by decide))).trans e6_c1
    have fr_14 := fr_5.wr (k := 127) (j := i9) (.int xi) (by unfold WCh; omega)
    clear rw_2 fr_5 f_3 f_4 hPa_c1 e6_c1
    generalize (wr hs_c1 127 i9 (.int xi)) = hs_15 at *
    refine g_loadI act (gx gp_187 (w := 0x3001c02) rfl (by decide) rfl) (a := 3) (n := 28) rfl rfl rfl ?_
    exact g_retI hEnd (gx gp_187 (w := 0x2f) rfl (by decide) rfl) ⟨rfl, ⟨_, rfl⟩, _, _, _, f_12, f_13, hp_c1, by omega, hr_c1, f_10, fr_14⟩ hk1 hk2
  · exact absurd hpo.1 (by omega)

theorem br_ch1 {z0 ii xi : Int32} (rw0 : RW hs) (e0 : rd hs 124 0 = .int z0) (hz0 : 0 < z0.toInt) : BodyN SSX TBL g0 CLS bl xs l D_187 1 21 0 0 [.ref 124, .int ii, .int xi] hs (fun kd r h2 => kd = 0 ∧ r = some (.int 0) ∧ hs = h2) := by
  intro wp p e R s m args below meth c Q kc0 ks0 kc ks act hf hl hc hsl hEnd
  have hf : 1 ≤ R.frames := hf
  have hl : 21 ≤ R.locals := hl
  have hk1 : kc ≤ kc + 0 := by omega
  have hk2 : ks ≤ ks + 0 := by omega
  show WpN (gp g0 wp) CLS p l e R s m args below meth c Q D_187.2.2.1 kc0 ks0 0 [some (.ref 124), some (.int ii), some (.int xi), none] (hs, kc, ks) []
  refine g_loadA act (gx gp_187 (w := 0x103) rfl (by decide) rfl) (a := 0) (n := 1) rfl rfl rfl ?_
  refine r_getf act (gx gp_187 (w := 0x9000404) rfl (by decide) rfl) (n := 4) (ci := 9) (j := 0) (N := 39) rfl rfl rfl rw0.1 (by decide) (v := .int z0) e0 ?_
  refine g_ifLe act (gx gp_187 (w := 0x900073d) rfl (by decide) rfl) (tgt := 9) (n := 7) rfl rfl (fun h2 => ?_) (fun h2 => ?_)
  · simp only [i_le, i0] at h2
    exfalso; omega
  · simp only [i_le, i0] at h2
    refine g_constI act (gx gp_187 (w := 0x40000000400000001000000000801) rfl (by decide) rfl) (n := 8) (x := (0 : Int32)) (by decide) rfl ?_
    exact g_retI hEnd (gx gp_187 (w := 0x2f) rfl (by decide) rfl) ⟨rfl, rfl, rfl⟩ hk1 hk2

theorem br_setLimit {i1 i2 : Int32} (hRI : RSt hs L) : BodyN SSX TBL g0 CLS bl xs l D_271 2 44 0 0 [.ref 124, .int i1, .int i2] hs (POR hs L) := by
  intro wp p e R s m args below meth c Q kc0 ks0 kc ks act hf hl hc hsl hEnd
  have hf : 2 ≤ R.frames := hf
  have hl : 44 ≤ R.locals := hl
  have hk1 : kc ≤ kc + 0 := by omega
  have hk2 : ks ≤ ks + 0 := by omega
  obtain ⟨tl, wl, pv, nl, n, ng, nr, np, ⟨rw0, hTo, hW⟩, hPa, ⟨p9, e6, hp9⟩, hp10, hNW, hPN, hM, ⟨⟨tx, hT⟩, ⟨L9, e10, hL9⟩, hL0, hL7, ⟨A9, e11⟩, ⟨c9, e12⟩, ⟨d9, e13⟩, ⟨f9, e15⟩, ⟨b9, e14, hb9⟩, ⟨fv, hF⟩, ⟨gv, hG⟩⟩⟩ := hRI
  obtain ⟨⟨x0, e0, hx0⟩, -⟩ := id hM
  have hN9 := hNW.1
  obtain ⟨n0, n1, n2, n3, n4, n5, n6, n7, n8, hG0, nL, nC, nP, nD⟩ := hN9
  have hGn := hG0.1
  have hGn3 := hG0.2.1
  have hGl := hG0.2.2.1
  have hfr0 := FrS.rf WR0 hs
  show WpN (gp g0 wp) CLS p l e R s m args below meth c Q D_271.2.2.1 kc0 ks0 0 [some (.ref 124), some (.int i1), some (.int i2), none] (hs, kc, ks) []
  refine g_loadA act (gx gp_271 (w := 0x103) rfl (by decide) rfl) (a := 0) (n := 1) rfl rfl rfl ?_
  refine g_loadA act (gx gp_271 (w := 0x203) rfl (by decide) rfl) (a := 0) (n := 2) rfl rfl rfl ?_
  refine g_loadI act (gx gp_271 (w := 0x1000302) rfl (by decide) rfl) (a := 1) (n := 3) rfl rfl rfl ?_
  refine n_call tb_pres act hEnd (gx (P := G_call) gp_271 (w := 0xa000000000000c08220000e200060f) rfl (by decide) rfl) (d' := D_226) rfl (as := [.ref 124, .int i1]) (rest := [.ref 124]) (b_isLine rw0 hTo (rfl : Int32.toInt i1 = _) (by omega) (by omega)) (show (2 : Nat) = fb 0xa000000000000c08220000e200060f % 16 by decide) (by show (2 : Nat) ≤ 2; decide) (fun _ => ⟨_, _, rfl, _, shp_at rw0.1, Or.inr (show fb 0xa000000000000c08220000e200060f >>> 68 = 10 by decide)⟩) (by omega) (by show 8 + (2 + 11) + 22 ≤ R.locals; omega) (by show (1 : Nat) ≤ 8; decide) (by show kc + 0 ≤ _; omega) (by show ks + 0 ≤ _; omega) (fun r9 h3 hpo hr9 => ?_) (fun x9 hs9 hx9 hpo => ?_)
  · obtain ⟨-, rfl, hin9⟩ := hpo
    obtain ⟨rv_1, rfl, hr_2⟩ := in1_x hin9
    show WpN (gp g0 wp) CLS p l e R s m args below meth c Q D_271.2.2.1 kc0 ks0 6 [some (.ref 124), some (.int i1), some (.int i2), none] (hs, kc, ks) [.int rv_1, .ref 124]
    refine g_ifNe act (gx gp_271 (w := 0xd00091d) rfl (by decide) rfl) (tgt := 13) (n := 9) rfl rfl (fun h4 => ?_) (fun h4 => ?_)
    · simp only [i_eq, i0] at h4
      refine g_loadI act (gx gp_271 (w := 0x2000e02) rfl (by decide) rfl) (a := 2) (n := 14) rfl rfl rfl ?_
      refine g_constI act (gx gp_271 (w := 0x40000000c00000009000000000f01) rfl (by decide) rfl) (n := 15) (x := (1 : Int32)) (by decide) rfl ?_
      refine g_constI act (gx gp_271 (w := 0x40000064400000641000000001201) rfl (by decide) rfl) (n := 18) (x := (200 : Int32)) (by decide) rfl ?_
      refine n_call tb_pres act hEnd (gx (P := G_call) gp_271 (w := 0x40c330000d900150f) rfl (by decide) rfl) (d' := D_217) rfl (as := [.int i2, .int (1 : Int32), .int (200 : Int32)]) (rest := [.ref 124]) (b_in (rfl : Int32.toInt i2 = _) (show (1 : Int32).toInt = ((1 : Nat) : Int) from by decide) (show (200 : Int32).toInt = ((200 : Nat) : Int) from by decide)) (show (3 : Nat) = fb 0x40c330000d900150f % 16 by decide) (by show (3 : Nat) ≤ 3; decide) (fun q => absurd q (by decide)) (by omega) (by show 8 + (3 + 11) + 0 ≤ R.locals; omega) (by show (1 : Nat) ≤ 8; decide) (by show kc + 0 ≤ _; omega) (by show ks + 0 ≤ _; omega) (fun r9 h3 hpo hr9 => ?_) (fun x9 hs9 hx9 hpo => ?_)
      · obtain ⟨-, rfl, hin9⟩ := hpo
        obtain ⟨rv_3, rfl, hr_4⟩ := in1_x hin9
        show WpN (gp g0 wp) CLS p l e R s m args below meth c Q D_271.2.2.1 kc0 ks0 21 [some (.ref 124), some (.int i1), some (.int i2), none] (hs, kc, ks) [.int rv_3, .ref 124]
        refine g_ifEq act (gx gp_271 (w := 0x1c00180e) rfl (by decide) rfl) (tgt := 28) (n := 24) rfl rfl (fun h8 => ?_) (fun h8 => ?_)
        · simp only [i_eq, i0] at h8
          refine g_constI act (gx gp_271 (w := 0x40000001400000011000000001d01) rfl (by decide) rfl) (n := 29) (x := (2 : Int32)) (by decide) rfl ?_
          refine r_putf act (gx gp_271 (w := 0x9002013) rfl (by decide) rfl) (n := 32) (ci := 9) (j := 0) (N := 39) rfl rfl rfl rw0.1 (by decide) (Or.inl ⟨rfl, _, rfl⟩) ?_
          have rw_5 := RW.wr (k := 124) (j := 0) (v := .int (2 : Int32)) rw0 (Or.inr (by decide))
          have f_6 := hTo.ne (k := 124) (j := 0) (v := .int (2 : Int32)) (by decide)
          have f_7 := hW.ne (k := 124) (j := 0) (v := .int (2 : Int32)) (by decide)
          have f_8 := hPa.ne (k := 124) (j := 0) (v := .int (2 : Int32)) (by decide)
          have f_9 := hT.ne (k := 124) (j := 0) (v := .int (2 : Int32)) (by decide)
          have f_10 := hF.ne (k := 124) (j := 0) (v := .int (2 : Int32)) (by decide)
          have f_11 := hG.ne (k := 124) (j := 0) (v := .int (2 : Int32)) (by decide)
          have f_13 := (rd_ne hs (k := 124) (j := 0) (.int (2 : Int32)) (Or.inr (by decide))).trans e6
          have f_14 := (rd_ne hs (k := 124) (j := 0) (.int (2 : Int32)) (Or.inr (by decide))).trans e10
          have f_15 := (rd_ne hs (k := 124) (j := 0) (.int (2 : Int32)) (Or.inr (by decide))).trans e11
          have f_16 := (rd_ne hs (k := 124) (j := 0) (.int (2 : Int32)) (Or.inr (by decide))).trans e12
          have f_17 := (rd_ne hs (k := 124) (j := 0) (.int (2 : Int32)) (Or.inr (by decide))).trans e13
          have f_18 := (rd_ne hs (k := 124) (j := 0) (.int (2 : Int32)) (Or.inr (by decide))).trans e15
          have f_19 := (rd_ne hs (k := 124) (j := 0) (.int (2 : Int32)) (Or.inr (by decide))).trans e14
          have f_20 := rd_same (j := 0) (v := .int (2 : Int32)) rw0.1
          have fr_21 := hfr0.wr (k := 124) (j := 0) (.int (2 : Int32)) (by unfold WR0; omega)
          clear hTo hW hPa hT hF hG e0 e6 e10 e11 e12 e13 e15 e14
          generalize (wr hs 124 0 (.int (2 : Int32))) = hs_22 at *
          refine g_loadA act (gx gp_271 (w := 0x2103) rfl (by decide) rfl) (a := 0) (n := 33) rfl rfl rfl ?_
          refine g_constI act (gx gp_271 (w := 0x40000000400000001000000002201) rfl (by decide) rfl) (n := 34) (x := (0 : Int32)) (by decide) rfl ?_
          refine g_loadI act (gx gp_271 (w := 0x1002302) rfl (by decide) rfl) (a := 1) (n := 35) rfl rfl rfl ?_
          refine g_iadd act (gx gp_271 (w := 0x240a) rfl (by decide) rfl) (n := 36) rfl ?_
          refine g_loadI act (gx gp_271 (w := 0x2002502) rfl (by decide) rfl) (a := 2) (n := 37) rfl rfl rfl ?_
          refine n_call tb_pres act hEnd (gx (P := G_call) gp_271 (w := 0xa000000000000c10330000bb00280f) rfl (by decide) rfl) (d' := D_187) rfl (as := [.ref 124, .int ((0 : Int32) + i1), .int i2]) (rest := []) (br_ch1 rw_5 f_20 (by decide)) (show (3 : Nat) = fb 0xa000000000000c10330000bb00280f % 16 by decide) (by show (3 : Nat) ≤ 4; decide) (fun _ => ⟨_, _, rfl, _, shp_at rw_5.1, Or.inr (show fb 0xa000000000000c10330000bb00280f >>> 68 = 10 by decide)⟩) (by omega) (by show 8 + (4 + 11) + 21 ≤ R.locals; omega) (by show (0 : Nat) ≤ 8; decide) (by show kc + 0 ≤ _; omega) (by show ks + 0 ≤ _; omega) (fun r9 h3 hpo hr9 => ?_) (fun x9 hs9 hx9 hpo => ?_)
          · obtain ⟨-, rfl, rfl⟩ := hpo
            show WpN (gp g0 wp) CLS p l e R s m args below meth c Q D_271.2.2.1 kc0 ks0 40 [some (.ref 124), some (.int i1), some (.int i2), none] (hs_22, kc, ks) [.int (0 : Int32)]
            refine g_storeI act (gx gp_271 (w := 0x3002910) rfl (by decide) rfl) (a := 3) (n := 41) rfl rfl (L2 := [some (.ref 124), some (.int i1), some (.int i2), some (.int (0 : Int32))]) rfl ?_
            refine g_loadA act (gx gp_271 (w := 0x2a03) rfl (by decide) rfl) (a := 0) (n := 42) rfl rfl rfl ?_
            refine r_getf act (gx gp_271 (w := 0x9002d04) rfl (by decide) rfl) (n := 45) (ci := 9) (j := 0) (N := 39) rfl rfl rfl rw_5.1 (by decide) (v := .int (2 : Int32)) f_20 ?_
            refine g_ifNe act (gx gp_271 (w := 0x4700301d) rfl (by decide) rfl) (tgt := 71) (n := 48) rfl rfl (fun _ => ?_) (fun q => absurd (by decide) q)
            refine g_loadI act (gx gp_271 (w := 0x3004802) rfl (by decide) rfl) (a := 3) (n := 72) rfl rfl rfl ?_
            exact g_retI hEnd (gx gp_271 (w := 0x2f) rfl (by decide) rfl) ⟨rfl, ⟨_, rfl⟩, ⟨tl, wl, pv, nl, n, ng, nr, np, ⟨rw_5, f_6, f_7⟩, f_8, ⟨_, f_13, hp9⟩, by omega, hNW, hPN, hM.frw fr_21 ⟨_, f_20, by have w9 := (show (2 : Int32).toInt = ((2 : Nat) : Int) from by decide); omega, by have w9 := (show (2 : Int32).toInt = ((2 : Nat) : Int) from by decide); omega⟩, ⟨⟨_, f_9⟩, ⟨_, f_14, (hL9).trans (by omega)⟩, by omega, by omega, ⟨_, f_15⟩, ⟨_, f_16⟩, ⟨_, f_17⟩, ⟨_, f_18⟩, ⟨_, f_19, by have w9 := (rfl : Int32.toInt b9 = _); omega, by have w9 := (rfl : Int32.toInt b9 = _); omega⟩, ⟨_, f_10⟩, ⟨_, f_11⟩⟩⟩, fr_21⟩ hk1 hk2
          · exact absurd hpo.1 (by omega)
        · simp only [i_eq, i0] at h8
          refine g_constI act (gx gp_271 (w := 0x40000000400000001000000001901) rfl (by decide) rfl) (n := 25) (x := (0 : Int32)) (by decide) rfl ?_
          refine g_goto act (gx gp_271 (w := 0x1d07) rfl (by decide) rfl) (n := 29) rfl ?_
          refine r_putf act (gx gp_271 (w := 0x9002013) rfl (by decide) rfl) (n := 32) (ci := 9) (j := 0) (N := 39) rfl rfl rfl rw0.1 (by decide) (Or.inl ⟨rfl, _, rfl⟩) ?_
          have rw_23 := RW.wr (k := 124) (j := 0) (v := .int (0 : Int32)) rw0 (Or.inr (by decide))
          have f_24 := hTo.ne (k := 124) (j := 0) (v := .int (0 : Int32)) (by decide)
          have f_25 := hW.ne (k := 124) (j := 0) (v := .int (0 : Int32)) (by decide)
          have f_26 := hPa.ne (k := 124) (j := 0) (v := .int (0 : Int32)) (by decide)
          have f_27 := hT.ne (k := 124) (j := 0) (v := .int (0 : Int32)) (by decide)
          have f_28 := hF.ne (k := 124) (j := 0) (v := .int (0 : Int32)) (by decide)
          have f_29 := hG.ne (k := 124) (j := 0) (v := .int (0 : Int32)) (by decide)
          have f_31 := (rd_ne hs (k := 124) (j := 0) (.int (0 : Int32)) (Or.inr (by decide))).trans e6
          have f_32 := (rd_ne hs (k := 124) (j := 0) (.int (0 : Int32)) (Or.inr (by decide))).trans e10
          have f_33 := (rd_ne hs (k := 124) (j := 0) (.int (0 : Int32)) (Or.inr (by decide))).trans e11
          have f_34 := (rd_ne hs (k := 124) (j := 0) (.int (0 : Int32)) (Or.inr (by decide))).trans e12
          have f_35 := (rd_ne hs (k := 124) (j := 0) (.int (0 : Int32)) (Or.inr (by decide))).trans e13
          have f_36 := (rd_ne hs (k := 124) (j := 0) (.int (0 : Int32)) (Or.inr (by decide))).trans e15
          have f_37 := (rd_ne hs (k := 124) (j := 0) (.int (0 : Int32)) (Or.inr (by decide))).trans e14
          have f_38 := rd_same (j := 0) (v := .int (0 : Int32)) rw0.1
          have fr_39 := hfr0.wr (k := 124) (j := 0) (.int (0 : Int32)) (by unfold WR0; omega)
          clear hTo hW hPa hT hF hG e0 e6 e10 e11 e12 e13 e15 e14
          generalize (wr hs 124 0 (.int (0 : Int32))) = hs_40 at *
          refine g_loadA act (gx gp_271 (w := 0x2103) rfl (by decide) rfl) (a := 0) (n := 33) rfl rfl rfl ?_
          refine g_constI act (gx gp_271 (w := 0x40000000400000001000000002201) rfl (by decide) rfl) (n := 34) (x := (0 : Int32)) (by decide) rfl ?_
          refine g_loadI act (gx gp_271 (w := 0x1002302) rfl (by decide) rfl) (a := 1) (n := 35) rfl rfl rfl ?_
          refine g_iadd act (gx gp_271 (w := 0x240a) rfl (by decide) rfl) (n := 36) rfl ?_
          have v_41 := iv_add (show (0 : Int32).toInt = ((0 : Nat) : Int) from by decide) (rfl : Int32.toInt i1 = _) (show -2147483648 ≤ (((0 : Nat) : Int) + (Int32.toInt i1)) by omega) (show (((0 : Nat) : Int) + (Int32.toInt i1)) < 2147483648 by omega)
          refine g_loadI act (gx gp_271 (w := 0x2002502) rfl (by decide) rfl) (a := 2) (n := 37) rfl rfl rfl ?_
          obtain ⟨j_42, hj_43⟩ := Int.eq_ofNat_of_zero_le (show (0 : Int) ≤ (((0 : Nat) : Int) + (Int32.toInt i1)) by omega)
          refine n_call tb_pres act hEnd (gx (P := G_call) gp_271 (w := 0xa000000000000c10330000bb00280f) rfl (by decide) rfl) (d' := D_187) rfl (as := [.ref 124, .int ((0 : Int32) + i1), .int i2]) (rest := []) (br_ch0 rw_23 f_25 f_26 f_31 hp9 (by omega) f_38 (v_41.trans hj_43) (by omega) (rfl : Int32.toInt i2 = _)) (show (3 : Nat) = fb 0xa000000000000c10330000bb00280f % 16 by decide) (by show (3 : Nat) ≤ 4; decide) (fun _ => ⟨_, _, rfl, _, shp_at rw_23.1, Or.inr (show fb 0xa000000000000c10330000bb00280f >>> 68 = 10 by decide)⟩) (by omega) (by show 8 + (4 + 11) + 21 ≤ R.locals; omega) (by show (0 : Nat) ≤ 8; decide) (by show kc + 0 ≤ _; omega) (by show ks + 0 ≤ _; omega) (fun r9 hs_c44 hpo hr9 => ?_) (fun x9 hs9 hx9 hpo => ?_)
          · obtain ⟨-, ⟨rv_c44, rfl⟩, pv_c44, np_c44, p9_c44, hPa_c44, e6_c44, hp_c44, hq_c44, hr_c44, hW_c44, fr_c44⟩ := hpo
            have rw_45 := rw_23.fr fr_c44 WCh_rw
            have f_46 := f_24.fr (fun j9 _ => fr_c44.2.2 125 j9 (by unfold WCh; omega))
            have f_47 := f_27.fr (fun j9 _ => fr_c44.2.2 130 j9 (by unfold WCh; omega))
            have f_48 := f_28.fr (fun j9 _ => fr_c44.2.2 126 j9 (by unfold WCh; omega))
            have f_49 := f_29.fr (fun j9 _ => fr_c44.2.2 128 j9 (by unfold WCh; omega))
            have f_50 := rd_fr fr_c44 f_32 (by unfold WCh; omega)
            have f_51 := rd_fr fr_c44 f_33 (by unfold WCh; omega)
            have f_52 := rd_fr fr_c44 f_34 (by unfold WCh; omega)
            have f_53 := rd_fr fr_c44 f_35 (by unfold WCh; omega)
            have f_54 := rd_fr fr_c44 f_36 (by unfold WCh; omega)
            have f_55 := rd_fr fr_c44 f_37 (by unfold WCh; omega)
            have f_56 := rd_fr fr_c44 f_38 (by unfold WCh; omega)
            have fr_57 := fr_39.tr (fr_c44.mono (fun k9 j9 h9 => by unfold WCh at h9; unfold WR0; omega))
            clear rw_23 f_24 f_25 f_26 f_27 f_28 f_29 f_31 f_32 f_33 f_34 f_35 f_36 f_37 f_38 fr_39
            show WpN (gp g0 wp) CLS p l e R s m args below meth c Q D_271.2.2.1 kc0 ks0 40 [some (.ref 124), some (.int i1), some (.int i2), none] (hs_c44, kc, ks) [.int rv_c44]
            refine g_storeI act (gx gp_271 (w := 0x3002910) rfl (by decide) rfl) (a := 3) (n := 41) rfl rfl (L2 := [some (.ref 124), some (.int i1), some (.int i2), some (.int rv_c44)]) rfl ?_
            refine g_loadA act (gx gp_271 (w := 0x2a03) rfl (by decide) rfl) (a := 0) (n := 42) rfl rfl rfl ?_
            refine r_getf act (gx gp_271 (w := 0x9002d04) rfl (by decide) rfl) (n := 45) (ci := 9) (j := 0) (N := 39) rfl rfl rfl rw_45.1 (by decide) (v := .int (0 : Int32)) f_56 ?_
            refine g_ifNe act (gx gp_271 (w := 0x4700301d) rfl (by decide) rfl) (tgt := 71) (n := 48) rfl rfl (fun q => absurd q (by decide)) (fun _ => ?_)
            refine g_loadA act (gx gp_271 (w := 0x3103) rfl (by decide) rfl) (a := 0) (n := 49) rfl rfl rfl ?_
            refine r_getf act (gx gp_271 (w := 0x30000c9003404) rfl (by decide) rfl) (n := 52) (ci := 9) (j := 3) (N := 39) rfl rfl rfl rw_45.1 (by decide) (rw_45.2 (3, 127, 32, 39) (by decide)).1 ?_
            refine g_constI act (gx gp_271 (w := 0x40000003400000031000000003601) rfl (by decide) rfl) (n := 54) (x := (6 : Int32)) (by decide) rfl ?_
            refine g_loadI act (gx gp_271 (w := 0x1003702) rfl (by decide) rfl) (a := 1) (n := 55) rfl rfl rfl ?_
            refine g_iadd act (gx gp_271 (w := 0x380a) rfl (by decide) rfl) (n := 56) rfl ?_
            have v_58 := iv_add (show (6 : Int32).toInt = ((6 : Nat) : Int) from by decide) (rfl : Int32.toInt i1 = _) (show -2147483648 ≤ (((6 : Nat) : Int) + (Int32.toInt i1)) by omega) (show (((6 : Nat) : Int) + (Int32.toInt i1)) < 2147483648 by omega)
            obtain ⟨j_59, hj_60⟩ := Int.eq_ofNat_of_zero_le (show (0 : Int) ≤ (((6 : Nat) : Int) + (Int32.toInt i1)) by omega)
            obtain ⟨x_61, e_62, hx_63⟩ := hW_c44 j_59 (by omega)
            refine r_iald act (gx gp_271 (w := 0x391a) rfl (by decide) rfl) (n := 57) (j := j_59) rfl (rw_45.2 (3, 127, 32, 39) (by decide)).2 (v_58.trans hj_60) (show j_59 < 39 by omega) (v := .int x_61) e_62 ?_
            refine g_loadI act (gx gp_271 (w := 0x2003a02) rfl (by decide) rfl) (a := 2) (n := 58) rfl rfl rfl ?_
            refine g_icmpGe act (gx gp_271 (w := 0x47003d08) rfl (by decide) rfl) (tgt := 71) (n := 61) rfl rfl (fun h31 => ?_) (fun h31 => ?_)
            · simp only [i_le] at h31
              refine g_loadI act (gx gp_271 (w := 0x3004802) rfl (by decide) rfl) (a := 3) (n := 72) rfl rfl rfl ?_
              exact g_retI hEnd (gx gp_271 (w := 0x2f) rfl (by decide) rfl) ⟨rfl, ⟨_, rfl⟩, ⟨tl, (upI wl j_42 (Int32.toInt i2)), pv_c44, nl, n, ng, nr, np_c44, ⟨rw_45, f_46, hW_c44⟩, hPa_c44, ⟨_, e6_c44, hp_c44⟩, by omega, (hNW.upd (Or.inl ⟨by omega, by omega, by omega⟩)), (hr_c44.nw hNW hPN), hM.frw fr_57 ⟨_, f_56, by have w9 := (show (0 : Int32).toInt = ((0 : Nat) : Int) from by decide); omega, by have w9 := (show (0 : Int32).toInt = ((0 : Nat) : Int) from by decide); omega⟩, ⟨⟨_, f_47⟩, ⟨_, f_50, (hL9).trans (by omega)⟩, by omega, by omega, ⟨_, f_51⟩, ⟨_, f_52⟩, ⟨_, f_53⟩, ⟨_, f_54⟩, ⟨_, f_55, by have w9 := (rfl : Int32.toInt b9 = _); omega, by have w9 := (rfl : Int32.toInt b9 = _); omega⟩, ⟨_, f_48⟩, ⟨_, f_49⟩⟩⟩, fr_57⟩ hk1 hk2
            · simp only [i_le] at h31
              refine g_loadA act (gx gp_271 (w := 0x3e03) rfl (by decide) rfl) (a := 0) (n := 62) rfl rfl rfl ?_
              refine r_getf act (gx gp_271 (w := 0x30000c9004104) rfl (by decide) rfl) (n := 65) (ci := 9) (j := 3) (N := 39) rfl rfl rfl rw_45.1 (by decide) (rw_45.2 (3, 127, 32, 39) (by decide)).1 ?_
              refine g_constI act (gx gp_271 (w := 0x40000003400000031000000004301) rfl (by decide) rfl) (n := 67) (x := (6 : Int32)) (by decide) rfl ?_
              refine g_loadI act (gx gp_271 (w := 0x1004402) rfl (by decide) rfl) (a := 1) (n := 68) rfl rfl rfl ?_
              refine g_iadd act (gx gp_271 (w := 0x450a) rfl (by decide) rfl) (n := 69) rfl ?_
              have v_64 := iv_add (show (6 : Int32).toInt = ((6 : Nat) : Int) from by decide) (rfl : Int32.toInt i1 = _) (show -2147483648 ≤ (((6 : Nat) : Int) + (Int32.toInt i1)) by omega) (show (((6 : Nat) : Int) + (Int32.toInt i1)) < 2147483648 by omega)
              refine g_loadI act (gx gp_271 (w := 0x2004602) rfl (by decide) rfl) (a := 2) (n := 70) rfl rfl rfl ?_
              obtain ⟨j_65, hj_66⟩ := Int.eq_ofNat_of_zero_le (show (0 : Int) ≤ (((6 : Nat) : Int) + (Int32.toInt i1)) by omega)
              refine r_iast act (gx gp_271 (w := 0x4724) rfl (by decide) rfl) (n := 71) (j := j_65) rfl (rw_45.2 (3, 127, 32, 39) (by decide)).2 (v_64.trans hj_66) (show j_65 < 39 by omega) ?_
              have rw_67 := RW.wr (k := 127) (j := j_65) (v := .int i2) rw_45 (Or.inl (by decide))
              have f_68 := f_46.ne (k := 127) (j := j_65) (v := .int i2) (by decide)
              have f_69 := f_47.ne (k := 127) (j := j_65) (v := .int i2) (by decide)
              have f_70 := f_48.ne (k := 127) (j := j_65) (v := .int i2) (by decide)
              have f_71 := f_49.ne (k := 127) (j := j_65) (v := .int i2) (by decide)
              have f_72 := (rd_ne hs_c44 (k := 127) (j := j_65) (.int i2) (Or.inl (by decide))).trans f_50
              have f_73 := (rd_ne hs_c44 (k := 127) (j := j_65) (.int i2) (Or.inl (by decide))).trans f_51
              have f_74 := (rd_ne hs_c44 (k := 127) (j := j_65) (.int i2) (Or.inl (by decide))).trans f_52
              have f_75 := (rd_ne hs_c44 (k := 127) (j := j_65) (.int i2) (Or.inl (by decide))).trans f_53
              have f_76 := (rd_ne hs_c44 (k := 127) (j := j_65) (.int i2) (Or.inl (by decide))).trans f_54
              have f_77 := (rd_ne hs_c44 (k := 127) (j := j_65) (.int i2) (Or.inl (by decide))).trans f_55
              have f_78 := (rd_ne hs_c44 (k := 127) (j := j_65) (.int i2) (Or.inl (by decide))).trans f_56
              have f_79 := hPa_c44.ne (k := 127) (j := j_65) (v := .int i2) (by decide)
              have f_80 := hW_c44.put (j := j_65) (rw_45.2 (3, 127, 32, 39) (by decide)).2 (rfl : Int32.toInt i2 = _)
              have f_81 := (rd_ne hs_c44 (k := 127) (j := j_65) (.int i2) (Or.inl (by decide))).trans e6_c44
              have fr_82 := fr_57.wr (k := 127) (j := j_65) (.int i2) (by unfold WR0; omega)
              clear rw_45 fr_57 f_46 f_47 f_48 f_49 f_50 f_51 f_52 f_53 f_54 f_55 f_56 hPa_c44 hW_c44 e6_c44
              generalize (wr hs_c44 127 j_65 (.int i2)) = hs_83 at *
              refine g_loadI act (gx gp_271 (w := 0x3004802) rfl (by decide) rfl) (a := 3) (n := 72) rfl rfl rfl ?_
              exact g_retI hEnd (gx gp_271 (w := 0x2f) rfl (by decide) rfl) ⟨rfl, ⟨_, rfl⟩, ⟨tl, (upI (upI wl j_42 (Int32.toInt i2)) j_65 (Int32.toInt i2)), pv_c44, nl, n, ng, nr, np_c44, ⟨rw_67, f_68, f_80⟩, f_79, ⟨_, f_81, hp_c44⟩, by omega, ((hNW.upd (Or.inl ⟨by omega, by omega, by omega⟩)).upd (Or.inr (Or.inl ⟨by omega, by omega, by omega, by omega⟩))), (hr_c44.nw hNW hPN), hM.frw fr_82 ⟨_, f_78, by have w9 := (show (0 : Int32).toInt = ((0 : Nat) : Int) from by decide); omega, by have w9 := (show (0 : Int32).toInt = ((0 : Nat) : Int) from by decide); omega⟩, ⟨⟨_, f_69⟩, ⟨_, f_72, (hL9).trans (by omega)⟩, by omega, by omega, ⟨_, f_73⟩, ⟨_, f_74⟩, ⟨_, f_75⟩, ⟨_, f_76⟩, ⟨_, f_77, by have w9 := (rfl : Int32.toInt b9 = _); omega, by have w9 := (rfl : Int32.toInt b9 = _); omega⟩, ⟨_, f_70⟩, ⟨_, f_71⟩⟩⟩, fr_82⟩ hk1 hk2
          · exact absurd hpo.1 (by omega)
      · exact absurd hpo.1 (by omega)
    · simp only [i_eq, i0] at h4
      refine g_constI act (gx gp_271 (w := 0x40000000c00000009000000000a01) rfl (by decide) rfl) (n := 10) (x := (1 : Int32)) (by decide) rfl ?_
      refine g_goto act (gx gp_271 (w := 0x1d07) rfl (by decide) rfl) (n := 29) rfl ?_
      refine r_putf act (gx gp_271 (w := 0x9002013) rfl (by decide) rfl) (n := 32) (ci := 9) (j := 0) (N := 39) rfl rfl rfl rw0.1 (by decide) (Or.inl ⟨rfl, _, rfl⟩) ?_
      have rw_84 := RW.wr (k := 124) (j := 0) (v := .int (1 : Int32)) rw0 (Or.inr (by decide))
      have f_85 := hTo.ne (k := 124) (j := 0) (v := .int (1 : Int32)) (by decide)
      have f_86 := hW.ne (k := 124) (j := 0) (v := .int (1 : Int32)) (by decide)
      have f_87 := hPa.ne (k := 124) (j := 0) (v := .int (1 : Int32)) (by decide)
      have f_88 := hT.ne (k := 124) (j := 0) (v := .int (1 : Int32)) (by decide)
      have f_89 := hF.ne (k := 124) (j := 0) (v := .int (1 : Int32)) (by decide)
      have f_90 := hG.ne (k := 124) (j := 0) (v := .int (1 : Int32)) (by decide)
      have f_92 := (rd_ne hs (k := 124) (j := 0) (.int (1 : Int32)) (Or.inr (by decide))).trans e6
      have f_93 := (rd_ne hs (k := 124) (j := 0) (.int (1 : Int32)) (Or.inr (by decide))).trans e10
      have f_94 := (rd_ne hs (k := 124) (j := 0) (.int (1 : Int32)) (Or.inr (by decide))).trans e11
      have f_95 := (rd_ne hs (k := 124) (j := 0) (.int (1 : Int32)) (Or.inr (by decide))).trans e12
      have f_96 := (rd_ne hs (k := 124) (j := 0) (.int (1 : Int32)) (Or.inr (by decide))).trans e13
      have f_97 := (rd_ne hs (k := 124) (j := 0) (.int (1 : Int32)) (Or.inr (by decide))).trans e15
      have f_98 := (rd_ne hs (k := 124) (j := 0) (.int (1 : Int32)) (Or.inr (by decide))).trans e14
      have f_99 := rd_same (j := 0) (v := .int (1 : Int32)) rw0.1
      have fr_100 := hfr0.wr (k := 124) (j := 0) (.int (1 : Int32)) (by unfold WR0; omega)
      clear hTo hW hPa hT hF hG e0 e6 e10 e11 e12 e13 e15 e14
      generalize (wr hs 124 0 (.int (1 : Int32))) = hs_101 at *
      refine g_loadA act (gx gp_271 (w := 0x2103) rfl (by decide) rfl) (a := 0) (n := 33) rfl rfl rfl ?_
      refine g_constI act (gx gp_271 (w := 0x40000000400000001000000002201) rfl (by decide) rfl) (n := 34) (x := (0 : Int32)) (by decide) rfl ?_
      refine g_loadI act (gx gp_271 (w := 0x1002302) rfl (by decide) rfl) (a := 1) (n := 35) rfl rfl rfl ?_
      refine g_iadd act (gx gp_271 (w := 0x240a) rfl (by decide) rfl) (n := 36) rfl ?_
      refine g_loadI act (gx gp_271 (w := 0x2002502) rfl (by decide) rfl) (a := 2) (n := 37) rfl rfl rfl ?_
      refine n_call tb_pres act hEnd (gx (P := G_call) gp_271 (w := 0xa000000000000c10330000bb00280f) rfl (by decide) rfl) (d' := D_187) rfl (as := [.ref 124, .int ((0 : Int32) + i1), .int i2]) (rest := []) (br_ch1 rw_84 f_99 (by decide)) (show (3 : Nat) = fb 0xa000000000000c10330000bb00280f % 16 by decide) (by show (3 : Nat) ≤ 4; decide) (fun _ => ⟨_, _, rfl, _, shp_at rw_84.1, Or.inr (show fb 0xa000000000000c10330000bb00280f >>> 68 = 10 by decide)⟩) (by omega) (by show 8 + (4 + 11) + 21 ≤ R.locals; omega) (by show (0 : Nat) ≤ 8; decide) (by show kc + 0 ≤ _; omega) (by show ks + 0 ≤ _; omega) (fun r9 h3 hpo hr9 => ?_) (fun x9 hs9 hx9 hpo => ?_)
      · obtain ⟨-, rfl, rfl⟩ := hpo
        show WpN (gp g0 wp) CLS p l e R s m args below meth c Q D_271.2.2.1 kc0 ks0 40 [some (.ref 124), some (.int i1), some (.int i2), none] (hs_101, kc, ks) [.int (0 : Int32)]
        refine g_storeI act (gx gp_271 (w := 0x3002910) rfl (by decide) rfl) (a := 3) (n := 41) rfl rfl (L2 := [some (.ref 124), some (.int i1), some (.int i2), some (.int (0 : Int32))]) rfl ?_
        refine g_loadA act (gx gp_271 (w := 0x2a03) rfl (by decide) rfl) (a := 0) (n := 42) rfl rfl rfl ?_
        refine r_getf act (gx gp_271 (w := 0x9002d04) rfl (by decide) rfl) (n := 45) (ci := 9) (j := 0) (N := 39) rfl rfl rfl rw_84.1 (by decide) (v := .int (1 : Int32)) f_99 ?_
        refine g_ifNe act (gx gp_271 (w := 0x4700301d) rfl (by decide) rfl) (tgt := 71) (n := 48) rfl rfl (fun _ => ?_) (fun q => absurd (by decide) q)
        refine g_loadI act (gx gp_271 (w := 0x3004802) rfl (by decide) rfl) (a := 3) (n := 72) rfl rfl rfl ?_
        exact g_retI hEnd (gx gp_271 (w := 0x2f) rfl (by decide) rfl) ⟨rfl, ⟨_, rfl⟩, ⟨tl, wl, pv, nl, n, ng, nr, np, ⟨rw_84, f_85, f_86⟩, f_87, ⟨_, f_92, hp9⟩, by omega, hNW, hPN, hM.frw fr_100 ⟨_, f_99, by have w9 := (show (1 : Int32).toInt = ((1 : Nat) : Int) from by decide); omega, by have w9 := (show (1 : Int32).toInt = ((1 : Nat) : Int) from by decide); omega⟩, ⟨⟨_, f_88⟩, ⟨_, f_93, (hL9).trans (by omega)⟩, by omega, by omega, ⟨_, f_94⟩, ⟨_, f_95⟩, ⟨_, f_96⟩, ⟨_, f_97⟩, ⟨_, f_98, by have w9 := (rfl : Int32.toInt b9 = _); omega, by have w9 := (rfl : Int32.toInt b9 = _); omega⟩, ⟨_, f_89⟩, ⟨_, f_90⟩⟩⟩, fr_100⟩ hk1 hk2
      · exact absurd hpo.1 (by omega)
  · exact absurd hpo.1 (by omega)

theorem br_setCost {i1 i2 : Int32} (hRI : RSt hs L) : BodyN SSX TBL g0 CLS bl xs l D_269 2 44 0 0 [.ref 124, .int i1, .int i2] hs (POR hs L) := by
  intro wp p e R s m args below meth c Q kc0 ks0 kc ks act hf hl hc hsl hEnd
  have hf : 2 ≤ R.frames := hf
  have hl : 44 ≤ R.locals := hl
  have hk1 : kc ≤ kc + 0 := by omega
  have hk2 : ks ≤ ks + 0 := by omega
  obtain ⟨tl, wl, pv, nl, n, ng, nr, np, ⟨rw0, hTo, hW⟩, hPa, ⟨p9, e6, hp9⟩, hp10, hNW, hPN, hM, ⟨⟨tx, hT⟩, ⟨L9, e10, hL9⟩, hL0, hL7, ⟨A9, e11⟩, ⟨c9, e12⟩, ⟨d9, e13⟩, ⟨f9, e15⟩, ⟨b9, e14, hb9⟩, ⟨fv, hF⟩, ⟨gv, hG⟩⟩⟩ := hRI
  obtain ⟨⟨x0, e0, hx0⟩, -⟩ := id hM
  have hN9 := hNW.1
  obtain ⟨n0, n1, n2, n3, n4, n5, n6, n7, n8, hG0, nL, nC, nP, nD⟩ := hN9
  have hGn := hG0.1
  have hGn3 := hG0.2.1
  have hGl := hG0.2.2.1
  have hfr0 := FrS.rf WR0 hs
  show WpN (gp g0 wp) CLS p l e R s m args below meth c Q D_269.2.2.1 kc0 ks0 0 [some (.ref 124), some (.int i1), some (.int i2)] (hs, kc, ks) []
  refine g_loadA act (gx gp_269 (w := 0x103) rfl (by decide) rfl) (a := 0) (n := 1) rfl rfl rfl ?_
  refine g_loadA act (gx gp_269 (w := 0x203) rfl (by decide) rfl) (a := 0) (n := 2) rfl rfl rfl ?_
  refine g_loadI act (gx gp_269 (w := 0x1000302) rfl (by decide) rfl) (a := 1) (n := 3) rfl rfl rfl ?_
  refine n_call tb_pres act hEnd (gx (P := G_call) gp_269 (w := 0xa000000000000c08220000de00060f) rfl (by decide) rfl) (d' := D_222) rfl (as := [.ref 124, .int i1]) (rest := [.ref 124]) (b_isGenerator rw0 hTo (rfl : Int32.toInt i1 = _) (by omega) (by omega)) (show (2 : Nat) = fb 0xa000000000000c08220000de00060f % 16 by decide) (by show (2 : Nat) ≤ 2; decide) (fun _ => ⟨_, _, rfl, _, shp_at rw0.1, Or.inr (show fb 0xa000000000000c08220000de00060f >>> 68 = 10 by decide)⟩) (by omega) (by show 8 + (2 + 11) + 22 ≤ R.locals; omega) (by show (1 : Nat) ≤ 8; decide) (by show kc + 0 ≤ _; omega) (by show ks + 0 ≤ _; omega) (fun r9 h3 hpo hr9 => ?_) (fun x9 hs9 hx9 hpo => ?_)
  · obtain ⟨-, rfl, hin9⟩ := hpo
    obtain ⟨rv_1, rfl, hr_2⟩ := in1_x hin9
    show WpN (gp g0 wp) CLS p l e R s m args below meth c Q D_269.2.2.1 kc0 ks0 6 [some (.ref 124), some (.int i1), some (.int i2)] (hs, kc, ks) [.int rv_1, .ref 124]
    refine g_ifNe act (gx gp_269 (w := 0xd00091d) rfl (by decide) rfl) (tgt := 13) (n := 9) rfl rfl (fun h4 => ?_) (fun h4 => ?_)
    · simp only [i_eq, i0] at h4
      refine g_loadI act (gx gp_269 (w := 0x2000e02) rfl (by decide) rfl) (a := 2) (n := 14) rfl rfl rfl ?_
      refine g_constI act (gx gp_269 (w := 0x40000000400000001000000000f01) rfl (by decide) rfl) (n := 15) (x := (0 : Int32)) (by decide) rfl ?_
      refine g_constI act (gx gp_269 (w := 0x40000031c00000319000000001101) rfl (by decide) rfl) (n := 17) (x := (99 : Int32)) (by decide) rfl ?_
      refine n_call tb_pres act hEnd (gx (P := G_call) gp_269 (w := 0x40c330000d900140f) rfl (by decide) rfl) (d' := D_217) rfl (as := [.int i2, .int (0 : Int32), .int (99 : Int32)]) (rest := [.ref 124]) (b_in (rfl : Int32.toInt i2 = _) (show (0 : Int32).toInt = ((0 : Nat) : Int) from by decide) (show (99 : Int32).toInt = ((99 : Nat) : Int) from by decide)) (show (3 : Nat) = fb 0x40c330000d900140f % 16 by decide) (by show (3 : Nat) ≤ 3; decide) (fun q => absurd q (by decide)) (by omega) (by show 8 + (3 + 11) + 0 ≤ R.locals; omega) (by show (1 : Nat) ≤ 8; decide) (by show kc + 0 ≤ _; omega) (by show ks + 0 ≤ _; omega) (fun r9 h3 hpo hr9 => ?_) (fun x9 hs9 hx9 hpo => ?_)
      · obtain ⟨-, rfl, hin9⟩ := hpo
        obtain ⟨rv_3, rfl, hr_4⟩ := in1_x hin9
        show WpN (gp g0 wp) CLS p l e R s m args below meth c Q D_269.2.2.1 kc0 ks0 20 [some (.ref 124), some (.int i1), some (.int i2)] (hs, kc, ks) [.int rv_3, .ref 124]
        refine g_ifEq act (gx gp_269 (w := 0x1b00170e) rfl (by decide) rfl) (tgt := 27) (n := 23) rfl rfl (fun h8 => ?_) (fun h8 => ?_)
        · simp only [i_eq, i0] at h8
          refine g_constI act (gx gp_269 (w := 0x40000001400000011000000001c01) rfl (by decide) rfl) (n := 28) (x := (2 : Int32)) (by decide) rfl ?_
          refine r_putf act (gx gp_269 (w := 0x9001f13) rfl (by decide) rfl) (n := 31) (ci := 9) (j := 0) (N := 39) rfl rfl rfl rw0.1 (by decide) (Or.inl ⟨rfl, _, rfl⟩) ?_
          have rw_5 := RW.wr (k := 124) (j := 0) (v := .int (2 : Int32)) rw0 (Or.inr (by decide))
          have f_6 := hTo.ne (k := 124) (j := 0) (v := .int (2 : Int32)) (by decide)
          have f_7 := hW.ne (k := 124) (j := 0) (v := .int (2 : Int32)) (by decide)
          have f_8 := hPa.ne (k := 124) (j := 0) (v := .int (2 : Int32)) (by decide)
          have f_9 := hT.ne (k := 124) (j := 0) (v := .int (2 : Int32)) (by decide)
          have f_10 := hF.ne (k := 124) (j := 0) (v := .int (2 : Int32)) (by decide)
          have f_11 := hG.ne (k := 124) (j := 0) (v := .int (2 : Int32)) (by decide)
          have f_13 := (rd_ne hs (k := 124) (j := 0) (.int (2 : Int32)) (Or.inr (by decide))).trans e6
          have f_14 := (rd_ne hs (k := 124) (j := 0) (.int (2 : Int32)) (Or.inr (by decide))).trans e10
          have f_15 := (rd_ne hs (k := 124) (j := 0) (.int (2 : Int32)) (Or.inr (by decide))).trans e11
          have f_16 := (rd_ne hs (k := 124) (j := 0) (.int (2 : Int32)) (Or.inr (by decide))).trans e12
          have f_17 := (rd_ne hs (k := 124) (j := 0) (.int (2 : Int32)) (Or.inr (by decide))).trans e13
          have f_18 := (rd_ne hs (k := 124) (j := 0) (.int (2 : Int32)) (Or.inr (by decide))).trans e15
          have f_19 := (rd_ne hs (k := 124) (j := 0) (.int (2 : Int32)) (Or.inr (by decide))).trans e14
          have f_20 := rd_same (j := 0) (v := .int (2 : Int32)) rw0.1
          have fr_21 := hfr0.wr (k := 124) (j := 0) (.int (2 : Int32)) (by unfold WR0; omega)
          clear hTo hW hPa hT hF hG e0 e6 e10 e11 e12 e13 e15 e14
          generalize (wr hs 124 0 (.int (2 : Int32))) = hs_22 at *
          refine g_loadA act (gx gp_269 (w := 0x2003) rfl (by decide) rfl) (a := 0) (n := 32) rfl rfl rfl ?_
          refine g_constI act (gx gp_269 (w := 0x40000006400000061000000002201) rfl (by decide) rfl) (n := 34) (x := (12 : Int32)) (by decide) rfl ?_
          refine g_loadI act (gx gp_269 (w := 0x1002302) rfl (by decide) rfl) (a := 1) (n := 35) rfl rfl rfl ?_
          refine g_iadd act (gx gp_269 (w := 0x240a) rfl (by decide) rfl) (n := 36) rfl ?_
          refine g_loadI act (gx gp_269 (w := 0x2002502) rfl (by decide) rfl) (a := 2) (n := 37) rfl rfl rfl ?_
          refine n_call tb_pres act hEnd (gx (P := G_call) gp_269 (w := 0xa000000000000c10330000bb00280f) rfl (by decide) rfl) (d' := D_187) rfl (as := [.ref 124, .int ((12 : Int32) + i1), .int i2]) (rest := []) (br_ch1 rw_5 f_20 (by decide)) (show (3 : Nat) = fb 0xa000000000000c10330000bb00280f % 16 by decide) (by show (3 : Nat) ≤ 4; decide) (fun _ => ⟨_, _, rfl, _, shp_at rw_5.1, Or.inr (show fb 0xa000000000000c10330000bb00280f >>> 68 = 10 by decide)⟩) (by omega) (by show 8 + (4 + 11) + 21 ≤ R.locals; omega) (by show (0 : Nat) ≤ 8; decide) (by show kc + 0 ≤ _; omega) (by show ks + 0 ≤ _; omega) (fun r9 h3 hpo hr9 => ?_) (fun x9 hs9 hx9 hpo => ?_)
          · obtain ⟨-, rfl, rfl⟩ := hpo
            show WpN (gp g0 wp) CLS p l e R s m args below meth c Q D_269.2.2.1 kc0 ks0 40 [some (.ref 124), some (.int i1), some (.int i2)] (hs_22, kc, ks) [.int (0 : Int32)]
            exact g_retI hEnd (gx gp_269 (w := 0x2f) rfl (by decide) rfl) ⟨rfl, ⟨_, rfl⟩, ⟨tl, wl, pv, nl, n, ng, nr, np, ⟨rw_5, f_6, f_7⟩, f_8, ⟨_, f_13, hp9⟩, by omega, hNW, hPN, hM.frw fr_21 ⟨_, f_20, by have w9 := (show (2 : Int32).toInt = ((2 : Nat) : Int) from by decide); omega, by have w9 := (show (2 : Int32).toInt = ((2 : Nat) : Int) from by decide); omega⟩, ⟨⟨_, f_9⟩, ⟨_, f_14, (hL9).trans (by omega)⟩, by omega, by omega, ⟨_, f_15⟩, ⟨_, f_16⟩, ⟨_, f_17⟩, ⟨_, f_18⟩, ⟨_, f_19, by have w9 := (rfl : Int32.toInt b9 = _); omega, by have w9 := (rfl : Int32.toInt b9 = _); omega⟩, ⟨_, f_10⟩, ⟨_, f_11⟩⟩⟩, fr_21⟩ hk1 hk2
          · exact absurd hpo.1 (by omega)
        · simp only [i_eq, i0] at h8
          refine g_constI act (gx gp_269 (w := 0x40000000400000001000000001801) rfl (by decide) rfl) (n := 24) (x := (0 : Int32)) (by decide) rfl ?_
          refine g_goto act (gx gp_269 (w := 0x1c07) rfl (by decide) rfl) (n := 28) rfl ?_
          refine r_putf act (gx gp_269 (w := 0x9001f13) rfl (by decide) rfl) (n := 31) (ci := 9) (j := 0) (N := 39) rfl rfl rfl rw0.1 (by decide) (Or.inl ⟨rfl, _, rfl⟩) ?_
          have rw_23 := RW.wr (k := 124) (j := 0) (v := .int (0 : Int32)) rw0 (Or.inr (by decide))
          have f_24 := hTo.ne (k := 124) (j := 0) (v := .int (0 : Int32)) (by decide)
          have f_25 := hW.ne (k := 124) (j := 0) (v := .int (0 : Int32)) (by decide)
          have f_26 := hPa.ne (k := 124) (j := 0) (v := .int (0 : Int32)) (by decide)
          have f_27 := hT.ne (k := 124) (j := 0) (v := .int (0 : Int32)) (by decide)
          have f_28 := hF.ne (k := 124) (j := 0) (v := .int (0 : Int32)) (by decide)
          have f_29 := hG.ne (k := 124) (j := 0) (v := .int (0 : Int32)) (by decide)
          have f_31 := (rd_ne hs (k := 124) (j := 0) (.int (0 : Int32)) (Or.inr (by decide))).trans e6
          have f_32 := (rd_ne hs (k := 124) (j := 0) (.int (0 : Int32)) (Or.inr (by decide))).trans e10
          have f_33 := (rd_ne hs (k := 124) (j := 0) (.int (0 : Int32)) (Or.inr (by decide))).trans e11
          have f_34 := (rd_ne hs (k := 124) (j := 0) (.int (0 : Int32)) (Or.inr (by decide))).trans e12
          have f_35 := (rd_ne hs (k := 124) (j := 0) (.int (0 : Int32)) (Or.inr (by decide))).trans e13
          have f_36 := (rd_ne hs (k := 124) (j := 0) (.int (0 : Int32)) (Or.inr (by decide))).trans e15
          have f_37 := (rd_ne hs (k := 124) (j := 0) (.int (0 : Int32)) (Or.inr (by decide))).trans e14
          have f_38 := rd_same (j := 0) (v := .int (0 : Int32)) rw0.1
          have fr_39 := hfr0.wr (k := 124) (j := 0) (.int (0 : Int32)) (by unfold WR0; omega)
          clear hTo hW hPa hT hF hG e0 e6 e10 e11 e12 e13 e15 e14
          generalize (wr hs 124 0 (.int (0 : Int32))) = hs_40 at *
          refine g_loadA act (gx gp_269 (w := 0x2003) rfl (by decide) rfl) (a := 0) (n := 32) rfl rfl rfl ?_
          refine g_constI act (gx gp_269 (w := 0x40000006400000061000000002201) rfl (by decide) rfl) (n := 34) (x := (12 : Int32)) (by decide) rfl ?_
          refine g_loadI act (gx gp_269 (w := 0x1002302) rfl (by decide) rfl) (a := 1) (n := 35) rfl rfl rfl ?_
          refine g_iadd act (gx gp_269 (w := 0x240a) rfl (by decide) rfl) (n := 36) rfl ?_
          have v_41 := iv_add (show (12 : Int32).toInt = ((12 : Nat) : Int) from by decide) (rfl : Int32.toInt i1 = _) (show -2147483648 ≤ (((12 : Nat) : Int) + (Int32.toInt i1)) by omega) (show (((12 : Nat) : Int) + (Int32.toInt i1)) < 2147483648 by omega)
          refine g_loadI act (gx gp_269 (w := 0x2002502) rfl (by decide) rfl) (a := 2) (n := 37) rfl rfl rfl ?_
          obtain ⟨j_42, hj_43⟩ := Int.eq_ofNat_of_zero_le (show (0 : Int) ≤ (((12 : Nat) : Int) + (Int32.toInt i1)) by omega)
          refine n_call tb_pres act hEnd (gx (P := G_call) gp_269 (w := 0xa000000000000c10330000bb00280f) rfl (by decide) rfl) (d' := D_187) rfl (as := [.ref 124, .int ((12 : Int32) + i1), .int i2]) (rest := []) (br_ch0 rw_23 f_25 f_26 f_31 hp9 (by omega) f_38 (v_41.trans hj_43) (by omega) (rfl : Int32.toInt i2 = _)) (show (3 : Nat) = fb 0xa000000000000c10330000bb00280f % 16 by decide) (by show (3 : Nat) ≤ 4; decide) (fun _ => ⟨_, _, rfl, _, shp_at rw_23.1, Or.inr (show fb 0xa000000000000c10330000bb00280f >>> 68 = 10 by decide)⟩) (by omega) (by show 8 + (4 + 11) + 21 ≤ R.locals; omega) (by show (0 : Nat) ≤ 8; decide) (by show kc + 0 ≤ _; omega) (by show ks + 0 ≤ _; omega) (fun r9 hs_c44 hpo hr9 => ?_) (fun x9 hs9 hx9 hpo => ?_)
          · obtain ⟨-, ⟨rv_c44, rfl⟩, pv_c44, np_c44, p9_c44, hPa_c44, e6_c44, hp_c44, hq_c44, hr_c44, hW_c44, fr_c44⟩ := hpo
            have rw_45 := rw_23.fr fr_c44 WCh_rw
            have f_46 := f_24.fr (fun j9 _ => fr_c44.2.2 125 j9 (by unfold WCh; omega))
            have f_47 := f_27.fr (fun j9 _ => fr_c44.2.2 130 j9 (by unfold WCh; omega))
            have f_48 := f_28.fr (fun j9 _ => fr_c44.2.2 126 j9 (by unfold WCh; omega))
            have f_49 := f_29.fr (fun j9 _ => fr_c44.2.2 128 j9 (by unfold WCh; omega))
            have f_50 := rd_fr fr_c44 f_32 (by unfold WCh; omega)
            have f_51 := rd_fr fr_c44 f_33 (by unfold WCh; omega)
            have f_52 := rd_fr fr_c44 f_34 (by unfold WCh; omega)
            have f_53 := rd_fr fr_c44 f_35 (by unfold WCh; omega)
            have f_54 := rd_fr fr_c44 f_36 (by unfold WCh; omega)
            have f_55 := rd_fr fr_c44 f_37 (by unfold WCh; omega)
            have f_56 := rd_fr fr_c44 f_38 (by unfold WCh; omega)
            have fr_57 := fr_39.tr (fr_c44.mono (fun k9 j9 h9 => by unfold WCh at h9; unfold WR0; omega))
            clear rw_23 f_24 f_25 f_26 f_27 f_28 f_29 f_31 f_32 f_33 f_34 f_35 f_36 f_37 f_38 fr_39
            show WpN (gp g0 wp) CLS p l e R s m args below meth c Q D_269.2.2.1 kc0 ks0 40 [some (.ref 124), some (.int i1), some (.int i2)] (hs_c44, kc, ks) [.int rv_c44]
            exact g_retI hEnd (gx gp_269 (w := 0x2f) rfl (by decide) rfl) ⟨rfl, ⟨_, rfl⟩, ⟨tl, (upI wl j_42 (Int32.toInt i2)), pv_c44, nl, n, ng, nr, np_c44, ⟨rw_45, f_46, hW_c44⟩, hPa_c44, ⟨_, e6_c44, hp_c44⟩, by omega, (hNW.upd (Or.inr (Or.inr (Or.inl ⟨by omega, by omega, by omega, by omega⟩)))), (hr_c44.nw hNW hPN), hM.frw fr_57 ⟨_, f_56, by have w9 := (show (0 : Int32).toInt = ((0 : Nat) : Int) from by decide); omega, by have w9 := (show (0 : Int32).toInt = ((0 : Nat) : Int) from by decide); omega⟩, ⟨⟨_, f_47⟩, ⟨_, f_50, (hL9).trans (by omega)⟩, by omega, by omega, ⟨_, f_51⟩, ⟨_, f_52⟩, ⟨_, f_53⟩, ⟨_, f_54⟩, ⟨_, f_55, by have w9 := (rfl : Int32.toInt b9 = _); omega, by have w9 := (rfl : Int32.toInt b9 = _); omega⟩, ⟨_, f_48⟩, ⟨_, f_49⟩⟩⟩, fr_57⟩ hk1 hk2
          · exact absurd hpo.1 (by omega)
      · exact absurd hpo.1 (by omega)
    · simp only [i_eq, i0] at h4
      refine g_constI act (gx gp_269 (w := 0x40000000c00000009000000000a01) rfl (by decide) rfl) (n := 10) (x := (1 : Int32)) (by decide) rfl ?_
      refine g_goto act (gx gp_269 (w := 0x1c07) rfl (by decide) rfl) (n := 28) rfl ?_
      refine r_putf act (gx gp_269 (w := 0x9001f13) rfl (by decide) rfl) (n := 31) (ci := 9) (j := 0) (N := 39) rfl rfl rfl rw0.1 (by decide) (Or.inl ⟨rfl, _, rfl⟩) ?_
      have rw_58 := RW.wr (k := 124) (j := 0) (v := .int (1 : Int32)) rw0 (Or.inr (by decide))
      have f_59 := hTo.ne (k := 124) (j := 0) (v := .int (1 : Int32)) (by decide)
      have f_60 := hW.ne (k := 124) (j := 0) (v := .int (1 : Int32)) (by decide)
      have f_61 := hPa.ne (k := 124) (j := 0) (v := .int (1 : Int32)) (by decide)
      have f_62 := hT.ne (k := 124) (j := 0) (v := .int (1 : Int32)) (by decide)
      have f_63 := hF.ne (k := 124) (j := 0) (v := .int (1 : Int32)) (by decide)
      have f_64 := hG.ne (k := 124) (j := 0) (v := .int (1 : Int32)) (by decide)
      have f_66 := (rd_ne hs (k := 124) (j := 0) (.int (1 : Int32)) (Or.inr (by decide))).trans e6
      have f_67 := (rd_ne hs (k := 124) (j := 0) (.int (1 : Int32)) (Or.inr (by decide))).trans e10
      have f_68 := (rd_ne hs (k := 124) (j := 0) (.int (1 : Int32)) (Or.inr (by decide))).trans e11
      have f_69 := (rd_ne hs (k := 124) (j := 0) (.int (1 : Int32)) (Or.inr (by decide))).trans e12
      have f_70 := (rd_ne hs (k := 124) (j := 0) (.int (1 : Int32)) (Or.inr (by decide))).trans e13
      have f_71 := (rd_ne hs (k := 124) (j := 0) (.int (1 : Int32)) (Or.inr (by decide))).trans e15
      have f_72 := (rd_ne hs (k := 124) (j := 0) (.int (1 : Int32)) (Or.inr (by decide))).trans e14
      have f_73 := rd_same (j := 0) (v := .int (1 : Int32)) rw0.1
      have fr_74 := hfr0.wr (k := 124) (j := 0) (.int (1 : Int32)) (by unfold WR0; omega)
      clear hTo hW hPa hT hF hG e0 e6 e10 e11 e12 e13 e15 e14
      generalize (wr hs 124 0 (.int (1 : Int32))) = hs_75 at *
      refine g_loadA act (gx gp_269 (w := 0x2003) rfl (by decide) rfl) (a := 0) (n := 32) rfl rfl rfl ?_
      refine g_constI act (gx gp_269 (w := 0x40000006400000061000000002201) rfl (by decide) rfl) (n := 34) (x := (12 : Int32)) (by decide) rfl ?_
      refine g_loadI act (gx gp_269 (w := 0x1002302) rfl (by decide) rfl) (a := 1) (n := 35) rfl rfl rfl ?_
      refine g_iadd act (gx gp_269 (w := 0x240a) rfl (by decide) rfl) (n := 36) rfl ?_
      refine g_loadI act (gx gp_269 (w := 0x2002502) rfl (by decide) rfl) (a := 2) (n := 37) rfl rfl rfl ?_
      refine n_call tb_pres act hEnd (gx (P := G_call) gp_269 (w := 0xa000000000000c10330000bb00280f) rfl (by decide) rfl) (d' := D_187) rfl (as := [.ref 124, .int ((12 : Int32) + i1), .int i2]) (rest := []) (br_ch1 rw_58 f_73 (by decide)) (show (3 : Nat) = fb 0xa000000000000c10330000bb00280f % 16 by decide) (by show (3 : Nat) ≤ 4; decide) (fun _ => ⟨_, _, rfl, _, shp_at rw_58.1, Or.inr (show fb 0xa000000000000c10330000bb00280f >>> 68 = 10 by decide)⟩) (by omega) (by show 8 + (4 + 11) + 21 ≤ R.locals; omega) (by show (0 : Nat) ≤ 8; decide) (by show kc + 0 ≤ _; omega) (by show ks + 0 ≤ _; omega) (fun r9 h3 hpo hr9 => ?_) (fun x9 hs9 hx9 hpo => ?_)
      · obtain ⟨-, rfl, rfl⟩ := hpo
        show WpN (gp g0 wp) CLS p l e R s m args below meth c Q D_269.2.2.1 kc0 ks0 40 [some (.ref 124), some (.int i1), some (.int i2)] (hs_75, kc, ks) [.int (0 : Int32)]
        exact g_retI hEnd (gx gp_269 (w := 0x2f) rfl (by decide) rfl) ⟨rfl, ⟨_, rfl⟩, ⟨tl, wl, pv, nl, n, ng, nr, np, ⟨rw_58, f_59, f_60⟩, f_61, ⟨_, f_66, hp9⟩, by omega, hNW, hPN, hM.frw fr_74 ⟨_, f_73, by have w9 := (show (1 : Int32).toInt = ((1 : Nat) : Int) from by decide); omega, by have w9 := (show (1 : Int32).toInt = ((1 : Nat) : Int) from by decide); omega⟩, ⟨⟨_, f_62⟩, ⟨_, f_67, (hL9).trans (by omega)⟩, by omega, by omega, ⟨_, f_68⟩, ⟨_, f_69⟩, ⟨_, f_70⟩, ⟨_, f_71⟩, ⟨_, f_72, by have w9 := (rfl : Int32.toInt b9 = _); omega, by have w9 := (rfl : Int32.toInt b9 = _); omega⟩, ⟨_, f_63⟩, ⟨_, f_64⟩⟩⟩, fr_74⟩ hk1 hk2
      · exact absurd hpo.1 (by omega)
  · exact absurd hpo.1 (by omega)

theorem br_setCapacity {i1 i2 : Int32} (hRI : RSt hs L) : BodyN SSX TBL g0 CLS bl xs l D_268 2 44 0 0 [.ref 124, .int i1, .int i2] hs (POR hs L) := by
  intro wp p e R s m args below meth c Q kc0 ks0 kc ks act hf hl hc hsl hEnd
  have hf : 2 ≤ R.frames := hf
  have hl : 44 ≤ R.locals := hl
  have hk1 : kc ≤ kc + 0 := by omega
  have hk2 : ks ≤ ks + 0 := by omega
  obtain ⟨tl, wl, pv, nl, n, ng, nr, np, ⟨rw0, hTo, hW⟩, hPa, ⟨p9, e6, hp9⟩, hp10, hNW, hPN, hM, ⟨⟨tx, hT⟩, ⟨L9, e10, hL9⟩, hL0, hL7, ⟨A9, e11⟩, ⟨c9, e12⟩, ⟨d9, e13⟩, ⟨f9, e15⟩, ⟨b9, e14, hb9⟩, ⟨fv, hF⟩, ⟨gv, hG⟩⟩⟩ := hRI
  obtain ⟨⟨x0, e0, hx0⟩, -⟩ := id hM
  have hN9 := hNW.1
  obtain ⟨n0, n1, n2, n3, n4, n5, n6, n7, n8, hG0, nL, nC, nP, nD⟩ := hN9
  have hGn := hG0.1
  have hGn3 := hG0.2.1
  have hGl := hG0.2.2.1
  have hfr0 := FrS.rf WR0 hs
  show WpN (gp g0 wp) CLS p l e R s m args below meth c Q D_268.2.2.1 kc0 ks0 0 [some (.ref 124), some (.int i1), some (.int i2)] (hs, kc, ks) []
  refine g_loadA act (gx gp_268 (w := 0x103) rfl (by decide) rfl) (a := 0) (n := 1) rfl rfl rfl ?_
  refine g_loadA act (gx gp_268 (w := 0x203) rfl (by decide) rfl) (a := 0) (n := 2) rfl rfl rfl ?_
  refine g_loadI act (gx gp_268 (w := 0x1000302) rfl (by decide) rfl) (a := 1) (n := 3) rfl rfl rfl ?_
  refine n_call tb_pres act hEnd (gx (P := G_call) gp_268 (w := 0xa000000000000c08220000de00060f) rfl (by decide) rfl) (d' := D_222) rfl (as := [.ref 124, .int i1]) (rest := [.ref 124]) (b_isGenerator rw0 hTo (rfl : Int32.toInt i1 = _) (by omega) (by omega)) (show (2 : Nat) = fb 0xa000000000000c08220000de00060f % 16 by decide) (by show (2 : Nat) ≤ 2; decide) (fun _ => ⟨_, _, rfl, _, shp_at rw0.1, Or.inr (show fb 0xa000000000000c08220000de00060f >>> 68 = 10 by decide)⟩) (by omega) (by show 8 + (2 + 11) + 22 ≤ R.locals; omega) (by show (1 : Nat) ≤ 8; decide) (by show kc + 0 ≤ _; omega) (by show ks + 0 ≤ _; omega) (fun r9 h3 hpo hr9 => ?_) (fun x9 hs9 hx9 hpo => ?_)
  · obtain ⟨-, rfl, hin9⟩ := hpo
    obtain ⟨rv_1, rfl, hr_2⟩ := in1_x hin9
    show WpN (gp g0 wp) CLS p l e R s m args below meth c Q D_268.2.2.1 kc0 ks0 6 [some (.ref 124), some (.int i1), some (.int i2)] (hs, kc, ks) [.int rv_1, .ref 124]
    refine g_ifNe act (gx gp_268 (w := 0xd00091d) rfl (by decide) rfl) (tgt := 13) (n := 9) rfl rfl (fun h4 => ?_) (fun h4 => ?_)
    · simp only [i_eq, i0] at h4
      refine g_loadI act (gx gp_268 (w := 0x2000e02) rfl (by decide) rfl) (a := 2) (n := 14) rfl rfl rfl ?_
      refine g_constI act (gx gp_268 (w := 0x40000000c00000009000000000f01) rfl (by decide) rfl) (n := 15) (x := (1 : Int32)) (by decide) rfl ?_
      refine g_constI act (gx gp_268 (w := 0x40000064400000641000000001201) rfl (by decide) rfl) (n := 18) (x := (200 : Int32)) (by decide) rfl ?_
      refine n_call tb_pres act hEnd (gx (P := G_call) gp_268 (w := 0x40c330000d900150f) rfl (by decide) rfl) (d' := D_217) rfl (as := [.int i2, .int (1 : Int32), .int (200 : Int32)]) (rest := [.ref 124]) (b_in (rfl : Int32.toInt i2 = _) (show (1 : Int32).toInt = ((1 : Nat) : Int) from by decide) (show (200 : Int32).toInt = ((200 : Nat) : Int) from by decide)) (show (3 : Nat) = fb 0x40c330000d900150f % 16 by decide) (by show (3 : Nat) ≤ 3; decide) (fun q => absurd q (by decide)) (by omega) (by show 8 + (3 + 11) + 0 ≤ R.locals; omega) (by show (1 : Nat) ≤ 8; decide) (by show kc + 0 ≤ _; omega) (by show ks + 0 ≤ _; omega) (fun r9 h3 hpo hr9 => ?_) (fun x9 hs9 hx9 hpo => ?_)
      · obtain ⟨-, rfl, hin9⟩ := hpo
        obtain ⟨rv_3, rfl, hr_4⟩ := in1_x hin9
        show WpN (gp g0 wp) CLS p l e R s m args below meth c Q D_268.2.2.1 kc0 ks0 21 [some (.ref 124), some (.int i1), some (.int i2)] (hs, kc, ks) [.int rv_3, .ref 124]
        refine g_ifEq act (gx gp_268 (w := 0x1c00180e) rfl (by decide) rfl) (tgt := 28) (n := 24) rfl rfl (fun h8 => ?_) (fun h8 => ?_)
        · simp only [i_eq, i0] at h8
          refine g_constI act (gx gp_268 (w := 0x40000001400000011000000001d01) rfl (by decide) rfl) (n := 29) (x := (2 : Int32)) (by decide) rfl ?_
          refine r_putf act (gx gp_268 (w := 0x9002013) rfl (by decide) rfl) (n := 32) (ci := 9) (j := 0) (N := 39) rfl rfl rfl rw0.1 (by decide) (Or.inl ⟨rfl, _, rfl⟩) ?_
          have rw_5 := RW.wr (k := 124) (j := 0) (v := .int (2 : Int32)) rw0 (Or.inr (by decide))
          have f_6 := hTo.ne (k := 124) (j := 0) (v := .int (2 : Int32)) (by decide)
          have f_7 := hW.ne (k := 124) (j := 0) (v := .int (2 : Int32)) (by decide)
          have f_8 := hPa.ne (k := 124) (j := 0) (v := .int (2 : Int32)) (by decide)
          have f_9 := hT.ne (k := 124) (j := 0) (v := .int (2 : Int32)) (by decide)
          have f_10 := hF.ne (k := 124) (j := 0) (v := .int (2 : Int32)) (by decide)
          have f_11 := hG.ne (k := 124) (j := 0) (v := .int (2 : Int32)) (by decide)
          have f_13 := (rd_ne hs (k := 124) (j := 0) (.int (2 : Int32)) (Or.inr (by decide))).trans e6
          have f_14 := (rd_ne hs (k := 124) (j := 0) (.int (2 : Int32)) (Or.inr (by decide))).trans e10
          have f_15 := (rd_ne hs (k := 124) (j := 0) (.int (2 : Int32)) (Or.inr (by decide))).trans e11
          have f_16 := (rd_ne hs (k := 124) (j := 0) (.int (2 : Int32)) (Or.inr (by decide))).trans e12
          have f_17 := (rd_ne hs (k := 124) (j := 0) (.int (2 : Int32)) (Or.inr (by decide))).trans e13
          have f_18 := (rd_ne hs (k := 124) (j := 0) (.int (2 : Int32)) (Or.inr (by decide))).trans e15
          have f_19 := (rd_ne hs (k := 124) (j := 0) (.int (2 : Int32)) (Or.inr (by decide))).trans e14
          have f_20 := rd_same (j := 0) (v := .int (2 : Int32)) rw0.1
          have fr_21 := hfr0.wr (k := 124) (j := 0) (.int (2 : Int32)) (by unfold WR0; omega)
          clear hTo hW hPa hT hF hG e0 e6 e10 e11 e12 e13 e15 e14
          generalize (wr hs 124 0 (.int (2 : Int32))) = hs_22 at *
          refine g_loadA act (gx gp_268 (w := 0x2103) rfl (by decide) rfl) (a := 0) (n := 33) rfl rfl rfl ?_
          refine g_constI act (gx gp_268 (w := 0x40000008c00000089000000002301) rfl (by decide) rfl) (n := 35) (x := (17 : Int32)) (by decide) rfl ?_
          refine g_loadI act (gx gp_268 (w := 0x1002402) rfl (by decide) rfl) (a := 1) (n := 36) rfl rfl rfl ?_
          refine g_iadd act (gx gp_268 (w := 0x250a) rfl (by decide) rfl) (n := 37) rfl ?_
          refine g_loadI act (gx gp_268 (w := 0x2002602) rfl (by decide) rfl) (a := 2) (n := 38) rfl rfl rfl ?_
          refine n_call tb_pres act hEnd (gx (P := G_call) gp_268 (w := 0xa000000000000c10330000bb00290f) rfl (by decide) rfl) (d' := D_187) rfl (as := [.ref 124, .int ((17 : Int32) + i1), .int i2]) (rest := []) (br_ch1 rw_5 f_20 (by decide)) (show (3 : Nat) = fb 0xa000000000000c10330000bb00290f % 16 by decide) (by show (3 : Nat) ≤ 4; decide) (fun _ => ⟨_, _, rfl, _, shp_at rw_5.1, Or.inr (show fb 0xa000000000000c10330000bb00290f >>> 68 = 10 by decide)⟩) (by omega) (by show 8 + (4 + 11) + 21 ≤ R.locals; omega) (by show (0 : Nat) ≤ 8; decide) (by show kc + 0 ≤ _; omega) (by show ks + 0 ≤ _; omega) (fun r9 h3 hpo hr9 => ?_) (fun x9 hs9 hx9 hpo => ?_)
          · obtain ⟨-, rfl, rfl⟩ := hpo
            show WpN (gp g0 wp) CLS p l e R s m args below meth c Q D_268.2.2.1 kc0 ks0 41 [some (.ref 124), some (.int i1), some (.int i2)] (hs_22, kc, ks) [.int (0 : Int32)]
            exact g_retI hEnd (gx gp_268 (w := 0x2f) rfl (by decide) rfl) ⟨rfl, ⟨_, rfl⟩, ⟨tl, wl, pv, nl, n, ng, nr, np, ⟨rw_5, f_6, f_7⟩, f_8, ⟨_, f_13, hp9⟩, by omega, hNW, hPN, hM.frw fr_21 ⟨_, f_20, by have w9 := (show (2 : Int32).toInt = ((2 : Nat) : Int) from by decide); omega, by have w9 := (show (2 : Int32).toInt = ((2 : Nat) : Int) from by decide); omega⟩, ⟨⟨_, f_9⟩, ⟨_, f_14, (hL9).trans (by omega)⟩, by omega, by omega, ⟨_, f_15⟩, ⟨_, f_16⟩, ⟨_, f_17⟩, ⟨_, f_18⟩, ⟨_, f_19, by have w9 := (rfl : Int32.toInt b9 = _); omega, by have w9 := (rfl : Int32.toInt b9 = _); omega⟩, ⟨_, f_10⟩, ⟨_, f_11⟩⟩⟩, fr_21⟩ hk1 hk2
          · exact absurd hpo.1 (by omega)
        · simp only [i_eq, i0] at h8
          refine g_constI act (gx gp_268 (w := 0x40000000400000001000000001901) rfl (by decide) rfl) (n := 25) (x := (0 : Int32)) (by decide) rfl ?_
          refine g_goto act (gx gp_268 (w := 0x1d07) rfl (by decide) rfl) (n := 29) rfl ?_
          refine r_putf act (gx gp_268 (w := 0x9002013) rfl (by decide) rfl) (n := 32) (ci := 9) (j := 0) (N := 39) rfl rfl rfl rw0.1 (by decide) (Or.inl ⟨rfl, _, rfl⟩) ?_
          have rw_23 := RW.wr (k := 124) (j := 0) (v := .int (0 : Int32)) rw0 (Or.inr (by decide))
          have f_24 := hTo.ne (k := 124) (j := 0) (v := .int (0 : Int32)) (by decide)
          have f_25 := hW.ne (k := 124) (j := 0) (v := .int (0 : Int32)) (by decide)
          have f_26 := hPa.ne (k := 124) (j := 0) (v := .int (0 : Int32)) (by decide)
          have f_27 := hT.ne (k := 124) (j := 0) (v := .int (0 : Int32)) (by decide)
          have f_28 := hF.ne (k := 124) (j := 0) (v := .int (0 : Int32)) (by decide)
          have f_29 := hG.ne (k := 124) (j := 0) (v := .int (0 : Int32)) (by decide)
          have f_31 := (rd_ne hs (k := 124) (j := 0) (.int (0 : Int32)) (Or.inr (by decide))).trans e6
          have f_32 := (rd_ne hs (k := 124) (j := 0) (.int (0 : Int32)) (Or.inr (by decide))).trans e10
          have f_33 := (rd_ne hs (k := 124) (j := 0) (.int (0 : Int32)) (Or.inr (by decide))).trans e11
          have f_34 := (rd_ne hs (k := 124) (j := 0) (.int (0 : Int32)) (Or.inr (by decide))).trans e12
          have f_35 := (rd_ne hs (k := 124) (j := 0) (.int (0 : Int32)) (Or.inr (by decide))).trans e13
          have f_36 := (rd_ne hs (k := 124) (j := 0) (.int (0 : Int32)) (Or.inr (by decide))).trans e15
          have f_37 := (rd_ne hs (k := 124) (j := 0) (.int (0 : Int32)) (Or.inr (by decide))).trans e14
          have f_38 := rd_same (j := 0) (v := .int (0 : Int32)) rw0.1
          have fr_39 := hfr0.wr (k := 124) (j := 0) (.int (0 : Int32)) (by unfold WR0; omega)
          clear hTo hW hPa hT hF hG e0 e6 e10 e11 e12 e13 e15 e14
          generalize (wr hs 124 0 (.int (0 : Int32))) = hs_40 at *
          refine g_loadA act (gx gp_268 (w := 0x2103) rfl (by decide) rfl) (a := 0) (n := 33) rfl rfl rfl ?_
          refine g_constI act (gx gp_268 (w := 0x40000008c00000089000000002301) rfl (by decide) rfl) (n := 35) (x := (17 : Int32)) (by decide) rfl ?_
          refine g_loadI act (gx gp_268 (w := 0x1002402) rfl (by decide) rfl) (a := 1) (n := 36) rfl rfl rfl ?_
          refine g_iadd act (gx gp_268 (w := 0x250a) rfl (by decide) rfl) (n := 37) rfl ?_
          have v_41 := iv_add (show (17 : Int32).toInt = ((17 : Nat) : Int) from by decide) (rfl : Int32.toInt i1 = _) (show -2147483648 ≤ (((17 : Nat) : Int) + (Int32.toInt i1)) by omega) (show (((17 : Nat) : Int) + (Int32.toInt i1)) < 2147483648 by omega)
          refine g_loadI act (gx gp_268 (w := 0x2002602) rfl (by decide) rfl) (a := 2) (n := 38) rfl rfl rfl ?_
          obtain ⟨j_42, hj_43⟩ := Int.eq_ofNat_of_zero_le (show (0 : Int) ≤ (((17 : Nat) : Int) + (Int32.toInt i1)) by omega)
          refine n_call tb_pres act hEnd (gx (P := G_call) gp_268 (w := 0xa000000000000c10330000bb00290f) rfl (by decide) rfl) (d' := D_187) rfl (as := [.ref 124, .int ((17 : Int32) + i1), .int i2]) (rest := []) (br_ch0 rw_23 f_25 f_26 f_31 hp9 (by omega) f_38 (v_41.trans hj_43) (by omega) (rfl : Int32.toInt i2 = _)) (show (3 : Nat) = fb 0xa000000000000c10330000bb00290f % 16 by decide) (by show (3 : Nat) ≤ 4; decide) (fun _ => ⟨_, _, rfl, _, shp_at rw_23.1, Or.inr (show fb 0xa000000000000c10330000bb00290f >>> 68 = 10 by decide)⟩) (by omega) (by show 8 + (4 + 11) + 21 ≤ R.locals; omega) (by show (0 : Nat) ≤ 8; decide) (by show kc + 0 ≤ _; omega) (by show ks + 0 ≤ _; omega) (fun r9 hs_c44 hpo hr9 => ?_) (fun x9 hs9 hx9 hpo => ?_)
          · obtain ⟨-, ⟨rv_c44, rfl⟩, pv_c44, np_c44, p9_c44, hPa_c44, e6_c44, hp_c44, hq_c44, hr_c44, hW_c44, fr_c44⟩ := hpo
            have rw_45 := rw_23.fr fr_c44 WCh_rw
            have f_46 := f_24.fr (fun j9 _ => fr_c44.2.2 125 j9 (by unfold WCh; omega))
            have f_47 := f_27.fr (fun j9 _ => fr_c44.2.2 130 j9 (by unfold WCh; omega))
            have f_48 := f_28.fr (fun j9 _ => fr_c44.2.2 126 j9 (by unfold WCh; omega))
            have f_49 := f_29.fr (fun j9 _ => fr_c44.2.2 128 j9 (by unfold WCh; omega))
            have f_50 := rd_fr fr_c44 f_32 (by unfold WCh; omega)
            have f_51 := rd_fr fr_c44 f_33 (by unfold WCh; omega)
            have f_52 := rd_fr fr_c44 f_34 (by unfold WCh; omega)
            have f_53 := rd_fr fr_c44 f_35 (by unfold WCh; omega)
            have f_54 := rd_fr fr_c44 f_36 (by unfold WCh; omega)
            have f_55 := rd_fr fr_c44 f_37 (by unfold WCh; omega)
            have f_56 := rd_fr fr_c44 f_38 (by unfold WCh; omega)
            have fr_57 := fr_39.tr (fr_c44.mono (fun k9 j9 h9 => by unfold WCh at h9; unfold WR0; omega))
            clear rw_23 f_24 f_25 f_26 f_27 f_28 f_29 f_31 f_32 f_33 f_34 f_35 f_36 f_37 f_38 fr_39
            show WpN (gp g0 wp) CLS p l e R s m args below meth c Q D_268.2.2.1 kc0 ks0 41 [some (.ref 124), some (.int i1), some (.int i2)] (hs_c44, kc, ks) [.int rv_c44]
            exact g_retI hEnd (gx gp_268 (w := 0x2f) rfl (by decide) rfl) ⟨rfl, ⟨_, rfl⟩, ⟨tl, (upI wl j_42 (Int32.toInt i2)), pv_c44, nl, n, ng, nr, np_c44, ⟨rw_45, f_46, hW_c44⟩, hPa_c44, ⟨_, e6_c44, hp_c44⟩, by omega, (hNW.upd (Or.inr (Or.inr (Or.inr (Or.inl ⟨by omega, by omega, by omega, by omega⟩))))), (hr_c44.nw hNW hPN), hM.frw fr_57 ⟨_, f_56, by have w9 := (show (0 : Int32).toInt = ((0 : Nat) : Int) from by decide); omega, by have w9 := (show (0 : Int32).toInt = ((0 : Nat) : Int) from by decide); omega⟩, ⟨⟨_, f_47⟩, ⟨_, f_50, (hL9).trans (by omega)⟩, by omega, by omega, ⟨_, f_51⟩, ⟨_, f_52⟩, ⟨_, f_53⟩, ⟨_, f_54⟩, ⟨_, f_55, by have w9 := (rfl : Int32.toInt b9 = _); omega, by have w9 := (rfl : Int32.toInt b9 = _); omega⟩, ⟨_, f_48⟩, ⟨_, f_49⟩⟩⟩, fr_57⟩ hk1 hk2
          · exact absurd hpo.1 (by omega)
      · exact absurd hpo.1 (by omega)
    · simp only [i_eq, i0] at h4
      refine g_constI act (gx gp_268 (w := 0x40000000c00000009000000000a01) rfl (by decide) rfl) (n := 10) (x := (1 : Int32)) (by decide) rfl ?_
      refine g_goto act (gx gp_268 (w := 0x1d07) rfl (by decide) rfl) (n := 29) rfl ?_
      refine r_putf act (gx gp_268 (w := 0x9002013) rfl (by decide) rfl) (n := 32) (ci := 9) (j := 0) (N := 39) rfl rfl rfl rw0.1 (by decide) (Or.inl ⟨rfl, _, rfl⟩) ?_
      have rw_58 := RW.wr (k := 124) (j := 0) (v := .int (1 : Int32)) rw0 (Or.inr (by decide))
      have f_59 := hTo.ne (k := 124) (j := 0) (v := .int (1 : Int32)) (by decide)
      have f_60 := hW.ne (k := 124) (j := 0) (v := .int (1 : Int32)) (by decide)
      have f_61 := hPa.ne (k := 124) (j := 0) (v := .int (1 : Int32)) (by decide)
      have f_62 := hT.ne (k := 124) (j := 0) (v := .int (1 : Int32)) (by decide)
      have f_63 := hF.ne (k := 124) (j := 0) (v := .int (1 : Int32)) (by decide)
      have f_64 := hG.ne (k := 124) (j := 0) (v := .int (1 : Int32)) (by decide)
      have f_66 := (rd_ne hs (k := 124) (j := 0) (.int (1 : Int32)) (Or.inr (by decide))).trans e6
      have f_67 := (rd_ne hs (k := 124) (j := 0) (.int (1 : Int32)) (Or.inr (by decide))).trans e10
      have f_68 := (rd_ne hs (k := 124) (j := 0) (.int (1 : Int32)) (Or.inr (by decide))).trans e11
      have f_69 := (rd_ne hs (k := 124) (j := 0) (.int (1 : Int32)) (Or.inr (by decide))).trans e12
      have f_70 := (rd_ne hs (k := 124) (j := 0) (.int (1 : Int32)) (Or.inr (by decide))).trans e13
      have f_71 := (rd_ne hs (k := 124) (j := 0) (.int (1 : Int32)) (Or.inr (by decide))).trans e15
      have f_72 := (rd_ne hs (k := 124) (j := 0) (.int (1 : Int32)) (Or.inr (by decide))).trans e14
      have f_73 := rd_same (j := 0) (v := .int (1 : Int32)) rw0.1
      have fr_74 := hfr0.wr (k := 124) (j := 0) (.int (1 : Int32)) (by unfold WR0; omega)
      clear hTo hW hPa hT hF hG e0 e6 e10 e11 e12 e13 e15 e14
      generalize (wr hs 124 0 (.int (1 : Int32))) = hs_75 at *
      refine g_loadA act (gx gp_268 (w := 0x2103) rfl (by decide) rfl) (a := 0) (n := 33) rfl rfl rfl ?_
      refine g_constI act (gx gp_268 (w := 0x40000008c00000089000000002301) rfl (by decide) rfl) (n := 35) (x := (17 : Int32)) (by decide) rfl ?_
      refine g_loadI act (gx gp_268 (w := 0x1002402) rfl (by decide) rfl) (a := 1) (n := 36) rfl rfl rfl ?_
      refine g_iadd act (gx gp_268 (w := 0x250a) rfl (by decide) rfl) (n := 37) rfl ?_
      refine g_loadI act (gx gp_268 (w := 0x2002602) rfl (by decide) rfl) (a := 2) (n := 38) rfl rfl rfl ?_
      refine n_call tb_pres act hEnd (gx (P := G_call) gp_268 (w := 0xa000000000000c10330000bb00290f) rfl (by decide) rfl) (d' := D_187) rfl (as := [.ref 124, .int ((17 : Int32) + i1), .int i2]) (rest := []) (br_ch1 rw_58 f_73 (by decide)) (show (3 : Nat) = fb 0xa000000000000c10330000bb00290f % 16 by decide) (by show (3 : Nat) ≤ 4; decide) (fun _ => ⟨_, _, rfl, _, shp_at rw_58.1, Or.inr (show fb 0xa000000000000c10330000bb00290f >>> 68 = 10 by decide)⟩) (by omega) (by show 8 + (4 + 11) + 21 ≤ R.locals; omega) (by show (0 : Nat) ≤ 8; decide) (by show kc + 0 ≤ _; omega) (by show ks + 0 ≤ _; omega) (fun r9 h3 hpo hr9 => ?_) (fun x9 hs9 hx9 hpo => ?_)
      · obtain ⟨-, rfl, rfl⟩ := hpo
        show WpN (gp g0 wp) CLS p l e R s m args below meth c Q D_268.2.2.1 kc0 ks0 41 [some (.ref 124), some (.int i1), some (.int i2)] (hs_75, kc, ks) [.int (0 : Int32)]
        exact g_retI hEnd (gx gp_268 (w := 0x2f) rfl (by decide) rfl) ⟨rfl, ⟨_, rfl⟩, ⟨tl, wl, pv, nl, n, ng, nr, np, ⟨rw_58, f_59, f_60⟩, f_61, ⟨_, f_66, hp9⟩, by omega, hNW, hPN, hM.frw fr_74 ⟨_, f_73, by have w9 := (show (1 : Int32).toInt = ((1 : Nat) : Int) from by decide); omega, by have w9 := (show (1 : Int32).toInt = ((1 : Nat) : Int) from by decide); omega⟩, ⟨⟨_, f_62⟩, ⟨_, f_67, (hL9).trans (by omega)⟩, by omega, by omega, ⟨_, f_68⟩, ⟨_, f_69⟩, ⟨_, f_70⟩, ⟨_, f_71⟩, ⟨_, f_72, by have w9 := (rfl : Int32.toInt b9 = _); omega, by have w9 := (rfl : Int32.toInt b9 = _); omega⟩, ⟨_, f_63⟩, ⟨_, f_64⟩⟩⟩, fr_74⟩ hk1 hk2
      · exact absurd hpo.1 (by omega)
  · exact absurd hpo.1 (by omega)

theorem br_setDemand {i1 i2 i3 : Int32} (hRI : RSt hs L) : BodyN SSX TBL g0 CLS bl xs l D_270 2 44 0 0 [.ref 124, .int i1, .int i2, .int i3] hs (POR hs L) := by
  intro wp p e R s m args below meth c Q kc0 ks0 kc ks act hf hl hc hsl hEnd
  have hf : 2 ≤ R.frames := hf
  have hl : 44 ≤ R.locals := hl
  have hk1 : kc ≤ kc + 0 := by omega
  have hk2 : ks ≤ ks + 0 := by omega
  obtain ⟨tl, wl, pv, nl, n, ng, nr, np, ⟨rw0, hTo, hW⟩, hPa, ⟨p9, e6, hp9⟩, hp10, hNW, hPN, hM, ⟨⟨tx, hT⟩, ⟨L9, e10, hL9⟩, hL0, hL7, ⟨A9, e11⟩, ⟨c9, e12⟩, ⟨d9, e13⟩, ⟨f9, e15⟩, ⟨b9, e14, hb9⟩, ⟨fv, hF⟩, ⟨gv, hG⟩⟩⟩ := hRI
  obtain ⟨⟨x0, e0, hx0⟩, -⟩ := id hM
  have hN9 := hNW.1
  obtain ⟨n0, n1, n2, n3, n4, n5, n6, n7, n8, hG0, nL, nC, nP, nD⟩ := hN9
  have hGn := hG0.1
  have hGn3 := hG0.2.1
  have hGl := hG0.2.2.1
  have hfr0 := FrS.rf WR0 hs
  show WpN (gp g0 wp) CLS p l e R s m args below meth c Q D_270.2.2.1 kc0 ks0 0 [some (.ref 124), some (.int i1), some (.int i2), some (.int i3)] (hs, kc, ks) []
  refine g_loadA act (gx gp_270 (w := 0x103) rfl (by decide) rfl) (a := 0) (n := 1) rfl rfl rfl ?_
  refine g_loadA act (gx gp_270 (w := 0x203) rfl (by decide) rfl) (a := 0) (n := 2) rfl rfl rfl ?_
  refine g_loadI act (gx gp_270 (w := 0x1000302) rfl (by decide) rfl) (a := 1) (n := 3) rfl rfl rfl ?_
  refine n_call tb_pres act hEnd (gx (P := G_call) gp_270 (w := 0xa000000000000c08220000e000060f) rfl (by decide) rfl) (d' := D_224) rfl (as := [.ref 124, .int i1]) (rest := [.ref 124]) (b_isInterval rw0 hTo (rfl : Int32.toInt i1 = _) (by omega) (by omega)) (show (2 : Nat) = fb 0xa000000000000c08220000e000060f % 16 by decide) (by show (2 : Nat) ≤ 2; decide) (fun _ => ⟨_, _, rfl, _, shp_at rw0.1, Or.inr (show fb 0xa000000000000c08220000e000060f >>> 68 = 10 by decide)⟩) (by omega) (by show 8 + (2 + 11) + 22 ≤ R.locals; omega) (by show (1 : Nat) ≤ 8; decide) (by show kc + 0 ≤ _; omega) (by show ks + 0 ≤ _; omega) (fun r9 h3 hpo hr9 => ?_) (fun x9 hs9 hx9 hpo => ?_)
  · obtain ⟨-, rfl, hin9⟩ := hpo
    obtain ⟨rv_1, rfl, hr_2⟩ := in1_x hin9
    show WpN (gp g0 wp) CLS p l e R s m args below meth c Q D_270.2.2.1 kc0 ks0 6 [some (.ref 124), some (.int i1), some (.int i2), some (.int i3)] (hs, kc, ks) [.int rv_1, .ref 124]
    refine g_ifEq act (gx gp_270 (w := 0x1100090e) rfl (by decide) rfl) (tgt := 17) (n := 9) rfl rfl (fun h4 => ?_) (fun h4 => ?_)
    · simp only [i_eq, i0] at h4
      refine g_constI act (gx gp_270 (w := 0x40000000c00000009000000001201) rfl (by decide) rfl) (n := 18) (x := (1 : Int32)) (by decide) rfl ?_
      refine g_goto act (gx gp_270 (w := 0x2507) rfl (by decide) rfl) (n := 37) rfl ?_
      refine r_putf act (gx gp_270 (w := 0x9002813) rfl (by decide) rfl) (n := 40) (ci := 9) (j := 0) (N := 39) rfl rfl rfl rw0.1 (by decide) (Or.inl ⟨rfl, _, rfl⟩) ?_
      have rw_3 := RW.wr (k := 124) (j := 0) (v := .int (1 : Int32)) rw0 (Or.inr (by decide))
      have f_4 := hTo.ne (k := 124) (j := 0) (v := .int (1 : Int32)) (by decide)
      have f_5 := hW.ne (k := 124) (j := 0) (v := .int (1 : Int32)) (by decide)
      have f_6 := hPa.ne (k := 124) (j := 0) (v := .int (1 : Int32)) (by decide)
      have f_7 := hT.ne (k := 124) (j := 0) (v := .int (1 : Int32)) (by decide)
      have f_8 := hF.ne (k := 124) (j := 0) (v := .int (1 : Int32)) (by decide)
      have f_9 := hG.ne (k := 124) (j := 0) (v := .int (1 : Int32)) (by decide)
      have f_11 := (rd_ne hs (k := 124) (j := 0) (.int (1 : Int32)) (Or.inr (by decide))).trans e6
      have f_12 := (rd_ne hs (k := 124) (j := 0) (.int (1 : Int32)) (Or.inr (by decide))).trans e10
      have f_13 := (rd_ne hs (k := 124) (j := 0) (.int (1 : Int32)) (Or.inr (by decide))).trans e11
      have f_14 := (rd_ne hs (k := 124) (j := 0) (.int (1 : Int32)) (Or.inr (by decide))).trans e12
      have f_15 := (rd_ne hs (k := 124) (j := 0) (.int (1 : Int32)) (Or.inr (by decide))).trans e13
      have f_16 := (rd_ne hs (k := 124) (j := 0) (.int (1 : Int32)) (Or.inr (by decide))).trans e15
      have f_17 := (rd_ne hs (k := 124) (j := 0) (.int (1 : Int32)) (Or.inr (by decide))).trans e14
      have f_18 := rd_same (j := 0) (v := .int (1 : Int32)) rw0.1
      have fr_19 := hfr0.wr (k := 124) (j := 0) (.int (1 : Int32)) (by unfold WR0; omega)
      clear hTo hW hPa hT hF hG e0 e6 e10 e11 e12 e13 e15 e14
      generalize (wr hs 124 0 (.int (1 : Int32))) = hs_20 at *
      refine g_loadA act (gx gp_270 (w := 0x2903) rfl (by decide) rfl) (a := 0) (n := 41) rfl rfl rfl ?_
      refine g_constI act (gx gp_270 (w := 0x4000000b4000000b1000000002b01) rfl (by decide) rfl) (n := 43) (x := (22 : Int32)) (by decide) rfl ?_
      refine g_constI act (gx gp_270 (w := 0x40000002400000021000000002c01) rfl (by decide) rfl) (n := 44) (x := (4 : Int32)) (by decide) rfl ?_
      refine g_loadI act (gx gp_270 (w := 0x1002d02) rfl (by decide) rfl) (a := 1) (n := 45) rfl rfl rfl ?_
      refine g_imul act (gx gp_270 (w := 0x2e11) rfl (by decide) rfl) (n := 46) rfl ?_
      refine g_iadd act (gx gp_270 (w := 0x2f0a) rfl (by decide) rfl) (n := 47) rfl ?_
      refine g_loadI act (gx gp_270 (w := 0x2003002) rfl (by decide) rfl) (a := 2) (n := 48) rfl rfl rfl ?_
      refine g_iadd act (gx gp_270 (w := 0x310a) rfl (by decide) rfl) (n := 49) rfl ?_
      refine g_loadI act (gx gp_270 (w := 0x3003202) rfl (by decide) rfl) (a := 3) (n := 50) rfl rfl rfl ?_
      refine n_call tb_pres act hEnd (gx (P := G_call) gp_270 (w := 0xa000000000000c10330000bb00350f) rfl (by decide) rfl) (d' := D_187) rfl (as := [.ref 124, .int (((22 : Int32) + ((4 : Int32) * i1)) + i2), .int i3]) (rest := []) (br_ch1 rw_3 f_18 (by decide)) (show (3 : Nat) = fb 0xa000000000000c10330000bb00350f % 16 by decide) (by show (3 : Nat) ≤ 4; decide) (fun _ => ⟨_, _, rfl, _, shp_at rw_3.1, Or.inr (show fb 0xa000000000000c10330000bb00350f >>> 68 = 10 by decide)⟩) (by omega) (by show 8 + (4 + 11) + 21 ≤ R.locals; omega) (by show (0 : Nat) ≤ 8; decide) (by show kc + 0 ≤ _; omega) (by show ks + 0 ≤ _; omega) (fun r9 h3 hpo hr9 => ?_) (fun x9 hs9 hx9 hpo => ?_)
      · obtain ⟨-, rfl, rfl⟩ := hpo
        show WpN (gp g0 wp) CLS p l e R s m args below meth c Q D_270.2.2.1 kc0 ks0 53 [some (.ref 124), some (.int i1), some (.int i2), some (.int i3)] (hs_20, kc, ks) [.int (0 : Int32)]
        exact g_retI hEnd (gx gp_270 (w := 0x2f) rfl (by decide) rfl) ⟨rfl, ⟨_, rfl⟩, ⟨tl, wl, pv, nl, n, ng, nr, np, ⟨rw_3, f_4, f_5⟩, f_6, ⟨_, f_11, hp9⟩, by omega, hNW, hPN, hM.frw fr_19 ⟨_, f_18, by have w9 := (show (1 : Int32).toInt = ((1 : Nat) : Int) from by decide); omega, by have w9 := (show (1 : Int32).toInt = ((1 : Nat) : Int) from by decide); omega⟩, ⟨⟨_, f_7⟩, ⟨_, f_12, (hL9).trans (by omega)⟩, by omega, by omega, ⟨_, f_13⟩, ⟨_, f_14⟩, ⟨_, f_15⟩, ⟨_, f_16⟩, ⟨_, f_17, by have w9 := (rfl : Int32.toInt b9 = _); omega, by have w9 := (rfl : Int32.toInt b9 = _); omega⟩, ⟨_, f_8⟩, ⟨_, f_9⟩⟩⟩, fr_19⟩ hk1 hk2
      · exact absurd hpo.1 (by omega)
    · simp only [i_eq, i0] at h4
      refine g_loadA act (gx gp_270 (w := 0xa03) rfl (by decide) rfl) (a := 0) (n := 10) rfl rfl rfl ?_
      refine g_loadI act (gx gp_270 (w := 0x2000b02) rfl (by decide) rfl) (a := 2) (n := 11) rfl rfl rfl ?_
      refine n_call tb_pres act hEnd (gx (P := G_call) gp_270 (w := 0xa000000000000c08220000e3000e0f) rfl (by decide) rfl) (d' := D_227) rfl (as := [.ref 124, .int i2]) (rest := [.ref 124]) (b_isNode rw0 hTo (rfl : Int32.toInt i2 = _) (by omega) (by omega)) (show (2 : Nat) = fb 0xa000000000000c08220000e3000e0f % 16 by decide) (by show (2 : Nat) ≤ 2; decide) (fun _ => ⟨_, _, rfl, _, shp_at rw0.1, Or.inr (show fb 0xa000000000000c08220000e3000e0f >>> 68 = 10 by decide)⟩) (by omega) (by show 8 + (2 + 11) + 22 ≤ R.locals; omega) (by show (1 : Nat) ≤ 8; decide) (by show kc + 0 ≤ _; omega) (by show ks + 0 ≤ _; omega) (fun r9 h3 hpo hr9 => ?_) (fun x9 hs9 hx9 hpo => ?_)
      · obtain ⟨-, rfl, hin9⟩ := hpo
        obtain ⟨rv_21, rfl, hr_22⟩ := in1_x hin9
        show WpN (gp g0 wp) CLS p l e R s m args below meth c Q D_270.2.2.1 kc0 ks0 14 [some (.ref 124), some (.int i1), some (.int i2), some (.int i3)] (hs, kc, ks) [.int rv_21, .ref 124]
        refine g_ifNe act (gx gp_270 (w := 0x1500111d) rfl (by decide) rfl) (tgt := 21) (n := 17) rfl rfl (fun h15 => ?_) (fun h15 => ?_)
        · simp only [i_eq, i0] at h15
          refine g_loadI act (gx gp_270 (w := 0x3001602) rfl (by decide) rfl) (a := 3) (n := 22) rfl rfl rfl ?_
          refine g_constI act (gx gp_270 (w := 0x40000000400000001000000001701) rfl (by decide) rfl) (n := 23) (x := (0 : Int32)) (by decide) rfl ?_
          refine g_constI act (gx gp_270 (w := 0x40000064400000641000000001a01) rfl (by decide) rfl) (n := 26) (x := (200 : Int32)) (by decide) rfl ?_
          refine n_call tb_pres act hEnd (gx (P := G_call) gp_270 (w := 0x40c330000d9001d0f) rfl (by decide) rfl) (d' := D_217) rfl (as := [.int i3, .int (0 : Int32), .int (200 : Int32)]) (rest := [.ref 124]) (b_in (rfl : Int32.toInt i3 = _) (show (0 : Int32).toInt = ((0 : Nat) : Int) from by decide) (show (200 : Int32).toInt = ((200 : Nat) : Int) from by decide)) (show (3 : Nat) = fb 0x40c330000d9001d0f % 16 by decide) (by show (3 : Nat) ≤ 3; decide) (fun q => absurd q (by decide)) (by omega) (by show 8 + (3 + 11) + 0 ≤ R.locals; omega) (by show (1 : Nat) ≤ 8; decide) (by show kc + 0 ≤ _; omega) (by show ks + 0 ≤ _; omega) (fun r9 h3 hpo hr9 => ?_) (fun x9 hs9 hx9 hpo => ?_)
          · obtain ⟨-, rfl, hin9⟩ := hpo
            obtain ⟨rv_23, rfl, hr_24⟩ := in1_x hin9
            show WpN (gp g0 wp) CLS p l e R s m args below meth c Q D_270.2.2.1 kc0 ks0 29 [some (.ref 124), some (.int i1), some (.int i2), some (.int i3)] (hs, kc, ks) [.int rv_23, .ref 124]
            refine g_ifEq act (gx gp_270 (w := 0x2400200e) rfl (by decide) rfl) (tgt := 36) (n := 32) rfl rfl (fun h19 => ?_) (fun h19 => ?_)
            · simp only [i_eq, i0] at h19
              refine g_constI act (gx gp_270 (w := 0x40000001400000011000000002501) rfl (by decide) rfl) (n := 37) (x := (2 : Int32)) (by decide) rfl ?_
              refine r_putf act (gx gp_270 (w := 0x9002813) rfl (by decide) rfl) (n := 40) (ci := 9) (j := 0) (N := 39) rfl rfl rfl rw0.1 (by decide) (Or.inl ⟨rfl, _, rfl⟩) ?_
              have rw_25 := RW.wr (k := 124) (j := 0) (v := .int (2 : Int32)) rw0 (Or.inr (by decide))
              have f_26 := hTo.ne (k := 124) (j := 0) (v := .int (2 : Int32)) (by decide)
              have f_27 := hW.ne (k := 124) (j := 0) (v := .int (2 : Int32)) (by decide)
              have f_28 := hPa.ne (k := 124) (j := 0) (v := .int (2 : Int32)) (by decide)
              have f_29 := hT.ne (k := 124) (j := 0) (v := .int (2 : Int32)) (by decide)
              have f_30 := hF.ne (k := 124) (j := 0) (v := .int (2 : Int32)) (by decide)
              have f_31 := hG.ne (k := 124) (j := 0) (v := .int (2 : Int32)) (by decide)
              have f_33 := (rd_ne hs (k := 124) (j := 0) (.int (2 : Int32)) (Or.inr (by decide))).trans e6
              have f_34 := (rd_ne hs (k := 124) (j := 0) (.int (2 : Int32)) (Or.inr (by decide))).trans e10
              have f_35 := (rd_ne hs (k := 124) (j := 0) (.int (2 : Int32)) (Or.inr (by decide))).trans e11
              have f_36 := (rd_ne hs (k := 124) (j := 0) (.int (2 : Int32)) (Or.inr (by decide))).trans e12
              have f_37 := (rd_ne hs (k := 124) (j := 0) (.int (2 : Int32)) (Or.inr (by decide))).trans e13
              have f_38 := (rd_ne hs (k := 124) (j := 0) (.int (2 : Int32)) (Or.inr (by decide))).trans e15
              have f_39 := (rd_ne hs (k := 124) (j := 0) (.int (2 : Int32)) (Or.inr (by decide))).trans e14
              have f_40 := rd_same (j := 0) (v := .int (2 : Int32)) rw0.1
              have fr_41 := hfr0.wr (k := 124) (j := 0) (.int (2 : Int32)) (by unfold WR0; omega)
              clear hTo hW hPa hT hF hG e0 e6 e10 e11 e12 e13 e15 e14
              generalize (wr hs 124 0 (.int (2 : Int32))) = hs_42 at *
              refine g_loadA act (gx gp_270 (w := 0x2903) rfl (by decide) rfl) (a := 0) (n := 41) rfl rfl rfl ?_
              refine g_constI act (gx gp_270 (w := 0x4000000b4000000b1000000002b01) rfl (by decide) rfl) (n := 43) (x := (22 : Int32)) (by decide) rfl ?_
              refine g_constI act (gx gp_270 (w := 0x40000002400000021000000002c01) rfl (by decide) rfl) (n := 44) (x := (4 : Int32)) (by decide) rfl ?_
              refine g_loadI act (gx gp_270 (w := 0x1002d02) rfl (by decide) rfl) (a := 1) (n := 45) rfl rfl rfl ?_
              refine g_imul act (gx gp_270 (w := 0x2e11) rfl (by decide) rfl) (n := 46) rfl ?_
              refine g_iadd act (gx gp_270 (w := 0x2f0a) rfl (by decide) rfl) (n := 47) rfl ?_
              refine g_loadI act (gx gp_270 (w := 0x2003002) rfl (by decide) rfl) (a := 2) (n := 48) rfl rfl rfl ?_
              refine g_iadd act (gx gp_270 (w := 0x310a) rfl (by decide) rfl) (n := 49) rfl ?_
              refine g_loadI act (gx gp_270 (w := 0x3003202) rfl (by decide) rfl) (a := 3) (n := 50) rfl rfl rfl ?_
              refine n_call tb_pres act hEnd (gx (P := G_call) gp_270 (w := 0xa000000000000c10330000bb00350f) rfl (by decide) rfl) (d' := D_187) rfl (as := [.ref 124, .int (((22 : Int32) + ((4 : Int32) * i1)) + i2), .int i3]) (rest := []) (br_ch1 rw_25 f_40 (by decide)) (show (3 : Nat) = fb 0xa000000000000c10330000bb00350f % 16 by decide) (by show (3 : Nat) ≤ 4; decide) (fun _ => ⟨_, _, rfl, _, shp_at rw_25.1, Or.inr (show fb 0xa000000000000c10330000bb00350f >>> 68 = 10 by decide)⟩) (by omega) (by show 8 + (4 + 11) + 21 ≤ R.locals; omega) (by show (0 : Nat) ≤ 8; decide) (by show kc + 0 ≤ _; omega) (by show ks + 0 ≤ _; omega) (fun r9 h3 hpo hr9 => ?_) (fun x9 hs9 hx9 hpo => ?_)
              · obtain ⟨-, rfl, rfl⟩ := hpo
                show WpN (gp g0 wp) CLS p l e R s m args below meth c Q D_270.2.2.1 kc0 ks0 53 [some (.ref 124), some (.int i1), some (.int i2), some (.int i3)] (hs_42, kc, ks) [.int (0 : Int32)]
                exact g_retI hEnd (gx gp_270 (w := 0x2f) rfl (by decide) rfl) ⟨rfl, ⟨_, rfl⟩, ⟨tl, wl, pv, nl, n, ng, nr, np, ⟨rw_25, f_26, f_27⟩, f_28, ⟨_, f_33, hp9⟩, by omega, hNW, hPN, hM.frw fr_41 ⟨_, f_40, by have w9 := (show (2 : Int32).toInt = ((2 : Nat) : Int) from by decide); omega, by have w9 := (show (2 : Int32).toInt = ((2 : Nat) : Int) from by decide); omega⟩, ⟨⟨_, f_29⟩, ⟨_, f_34, (hL9).trans (by omega)⟩, by omega, by omega, ⟨_, f_35⟩, ⟨_, f_36⟩, ⟨_, f_37⟩, ⟨_, f_38⟩, ⟨_, f_39, by have w9 := (rfl : Int32.toInt b9 = _); omega, by have w9 := (rfl : Int32.toInt b9 = _); omega⟩, ⟨_, f_30⟩, ⟨_, f_31⟩⟩⟩, fr_41⟩ hk1 hk2
              · exact absurd hpo.1 (by omega)
            · simp only [i_eq, i0] at h19
              refine g_constI act (gx gp_270 (w := 0x40000000400000001000000002101) rfl (by decide) rfl) (n := 33) (x := (0 : Int32)) (by decide) rfl ?_
              refine g_goto act (gx gp_270 (w := 0x2507) rfl (by decide) rfl) (n := 37) rfl ?_
              refine r_putf act (gx gp_270 (w := 0x9002813) rfl (by decide) rfl) (n := 40) (ci := 9) (j := 0) (N := 39) rfl rfl rfl rw0.1 (by decide) (Or.inl ⟨rfl, _, rfl⟩) ?_
              have rw_43 := RW.wr (k := 124) (j := 0) (v := .int (0 : Int32)) rw0 (Or.inr (by decide))
              have f_44 := hTo.ne (k := 124) (j := 0) (v := .int (0 : Int32)) (by decide)
              have f_45 := hW.ne (k := 124) (j := 0) (v := .int (0 : Int32)) (by decide)
              have f_46 := hPa.ne (k := 124) (j := 0) (v := .int (0 : Int32)) (by decide)
              have f_47 := hT.ne (k := 124) (j := 0) (v := .int (0 : Int32)) (by decide)
              have f_48 := hF.ne (k := 124) (j := 0) (v := .int (0 : Int32)) (by decide)
              have f_49 := hG.ne (k := 124) (j := 0) (v := .int (0 : Int32)) (by decide)
              have f_51 := (rd_ne hs (k := 124) (j := 0) (.int (0 : Int32)) (Or.inr (by decide))).trans e6
              have f_52 := (rd_ne hs (k := 124) (j := 0) (.int (0 : Int32)) (Or.inr (by decide))).trans e10
              have f_53 := (rd_ne hs (k := 124) (j := 0) (.int (0 : Int32)) (Or.inr (by decide))).trans e11
              have f_54 := (rd_ne hs (k := 124) (j := 0) (.int (0 : Int32)) (Or.inr (by decide))).trans e12
              have f_55 := (rd_ne hs (k := 124) (j := 0) (.int (0 : Int32)) (Or.inr (by decide))).trans e13
              have f_56 := (rd_ne hs (k := 124) (j := 0) (.int (0 : Int32)) (Or.inr (by decide))).trans e15
              have f_57 := (rd_ne hs (k := 124) (j := 0) (.int (0 : Int32)) (Or.inr (by decide))).trans e14
              have f_58 := rd_same (j := 0) (v := .int (0 : Int32)) rw0.1
              have fr_59 := hfr0.wr (k := 124) (j := 0) (.int (0 : Int32)) (by unfold WR0; omega)
              clear hTo hW hPa hT hF hG e0 e6 e10 e11 e12 e13 e15 e14
              generalize (wr hs 124 0 (.int (0 : Int32))) = hs_60 at *
              refine g_loadA act (gx gp_270 (w := 0x2903) rfl (by decide) rfl) (a := 0) (n := 41) rfl rfl rfl ?_
              refine g_constI act (gx gp_270 (w := 0x4000000b4000000b1000000002b01) rfl (by decide) rfl) (n := 43) (x := (22 : Int32)) (by decide) rfl ?_
              refine g_constI act (gx gp_270 (w := 0x40000002400000021000000002c01) rfl (by decide) rfl) (n := 44) (x := (4 : Int32)) (by decide) rfl ?_
              refine g_loadI act (gx gp_270 (w := 0x1002d02) rfl (by decide) rfl) (a := 1) (n := 45) rfl rfl rfl ?_
              refine g_imul act (gx gp_270 (w := 0x2e11) rfl (by decide) rfl) (n := 46) rfl ?_
              have v_61 := iv_mul (show (4 : Int32).toInt = ((4 : Nat) : Int) from by decide) (rfl : Int32.toInt i1 = _) (show -2147483648 ≤ (((4 : Nat) : Int) * (Int32.toInt i1)) by omega) (show (((4 : Nat) : Int) * (Int32.toInt i1)) < 2147483648 by omega)
              refine g_iadd act (gx gp_270 (w := 0x2f0a) rfl (by decide) rfl) (n := 47) rfl ?_
              have v_62 := iv_add (show (22 : Int32).toInt = ((22 : Nat) : Int) from by decide) v_61 (show -2147483648 ≤ (((22 : Nat) : Int) + (((4 : Nat) : Int) * (Int32.toInt i1))) by omega) (show (((22 : Nat) : Int) + (((4 : Nat) : Int) * (Int32.toInt i1))) < 2147483648 by omega)
              refine g_loadI act (gx gp_270 (w := 0x2003002) rfl (by decide) rfl) (a := 2) (n := 48) rfl rfl rfl ?_
              refine g_iadd act (gx gp_270 (w := 0x310a) rfl (by decide) rfl) (n := 49) rfl ?_
              have v_63 := iv_add v_62 (rfl : Int32.toInt i2 = _) (show -2147483648 ≤ ((((22 : Nat) : Int) + (((4 : Nat) : Int) * (Int32.toInt i1))) + (Int32.toInt i2)) by omega) (show ((((22 : Nat) : Int) + (((4 : Nat) : Int) * (Int32.toInt i1))) + (Int32.toInt i2)) < 2147483648 by omega)
              refine g_loadI act (gx gp_270 (w := 0x3003202) rfl (by decide) rfl) (a := 3) (n := 50) rfl rfl rfl ?_
              obtain ⟨j_64, hj_65⟩ := Int.eq_ofNat_of_zero_le (show (0 : Int) ≤ ((((22 : Nat) : Int) + (((4 : Nat) : Int) * (Int32.toInt i1))) + (Int32.toInt i2)) by omega)
              refine n_call tb_pres act hEnd (gx (P := G_call) gp_270 (w := 0xa000000000000c10330000bb00350f) rfl (by decide) rfl) (d' := D_187) rfl (as := [.ref 124, .int (((22 : Int32) + ((4 : Int32) * i1)) + i2), .int i3]) (rest := []) (br_ch0 rw_43 f_45 f_46 f_51 hp9 (by omega) f_58 (v_63.trans hj_65) (by omega) (rfl : Int32.toInt i3 = _)) (show (3 : Nat) = fb 0xa000000000000c10330000bb00350f % 16 by decide) (by show (3 : Nat) ≤ 4; decide) (fun _ => ⟨_, _, rfl, _, shp_at rw_43.1, Or.inr (show fb 0xa000000000000c10330000bb00350f >>> 68 = 10 by decide)⟩) (by omega) (by show 8 + (4 + 11) + 21 ≤ R.locals; omega) (by show (0 : Nat) ≤ 8; decide) (by show kc + 0 ≤ _; omega) (by show ks + 0 ≤ _; omega) (fun r9 hs_c66 hpo hr9 => ?_) (fun x9 hs9 hx9 hpo => ?_)
              · obtain ⟨-, ⟨rv_c66, rfl⟩, pv_c66, np_c66, p9_c66, hPa_c66, e6_c66, hp_c66, hq_c66, hr_c66, hW_c66, fr_c66⟩ := hpo
                have rw_67 := rw_43.fr fr_c66 WCh_rw
                have f_68 := f_44.fr (fun j9 _ => fr_c66.2.2 125 j9 (by unfold WCh; omega))
                have f_69 := f_47.fr (fun j9 _ => fr_c66.2.2 130 j9 (by unfold WCh; omega))
                have f_70 := f_48.fr (fun j9 _ => fr_c66.2.2 126 j9 (by unfold WCh; omega))
                have f_71 := f_49.fr (fun j9 _ => fr_c66.2.2 128 j9 (by unfold WCh; omega))
                have f_72 := rd_fr fr_c66 f_52 (by unfold WCh; omega)
                have f_73 := rd_fr fr_c66 f_53 (by unfold WCh; omega)
                have f_74 := rd_fr fr_c66 f_54 (by unfold WCh; omega)
                have f_75 := rd_fr fr_c66 f_55 (by unfold WCh; omega)
                have f_76 := rd_fr fr_c66 f_56 (by unfold WCh; omega)
                have f_77 := rd_fr fr_c66 f_57 (by unfold WCh; omega)
                have f_78 := rd_fr fr_c66 f_58 (by unfold WCh; omega)
                have fr_79 := fr_59.tr (fr_c66.mono (fun k9 j9 h9 => by unfold WCh at h9; unfold WR0; omega))
                clear rw_43 f_44 f_45 f_46 f_47 f_48 f_49 f_51 f_52 f_53 f_54 f_55 f_56 f_57 f_58 fr_59
                show WpN (gp g0 wp) CLS p l e R s m args below meth c Q D_270.2.2.1 kc0 ks0 53 [some (.ref 124), some (.int i1), some (.int i2), some (.int i3)] (hs_c66, kc, ks) [.int rv_c66]
                exact g_retI hEnd (gx gp_270 (w := 0x2f) rfl (by decide) rfl) ⟨rfl, ⟨_, rfl⟩, ⟨tl, (upI wl j_64 (Int32.toInt i3)), pv_c66, nl, n, ng, nr, np_c66, ⟨rw_67, f_68, hW_c66⟩, hPa_c66, ⟨_, e6_c66, hp_c66⟩, by omega, (hNW.upd (Or.inr (Or.inr (Or.inr (Or.inr ⟨by omega, by omega, by omega, by omega⟩))))), (hr_c66.nw hNW hPN), hM.frw fr_79 ⟨_, f_78, by have w9 := (show (0 : Int32).toInt = ((0 : Nat) : Int) from by decide); omega, by have w9 := (show (0 : Int32).toInt = ((0 : Nat) : Int) from by decide); omega⟩, ⟨⟨_, f_69⟩, ⟨_, f_72, (hL9).trans (by omega)⟩, by omega, by omega, ⟨_, f_73⟩, ⟨_, f_74⟩, ⟨_, f_75⟩, ⟨_, f_76⟩, ⟨_, f_77, by have w9 := (rfl : Int32.toInt b9 = _); omega, by have w9 := (rfl : Int32.toInt b9 = _); omega⟩, ⟨_, f_70⟩, ⟨_, f_71⟩⟩⟩, fr_79⟩ hk1 hk2
              · exact absurd hpo.1 (by omega)
          · exact absurd hpo.1 (by omega)
        · simp only [i_eq, i0] at h15
          refine g_constI act (gx gp_270 (w := 0x40000000c00000009000000001201) rfl (by decide) rfl) (n := 18) (x := (1 : Int32)) (by decide) rfl ?_
          refine g_goto act (gx gp_270 (w := 0x2507) rfl (by decide) rfl) (n := 37) rfl ?_
          refine r_putf act (gx gp_270 (w := 0x9002813) rfl (by decide) rfl) (n := 40) (ci := 9) (j := 0) (N := 39) rfl rfl rfl rw0.1 (by decide) (Or.inl ⟨rfl, _, rfl⟩) ?_
          have rw_80 := RW.wr (k := 124) (j := 0) (v := .int (1 : Int32)) rw0 (Or.inr (by decide))
          have f_81 := hTo.ne (k := 124) (j := 0) (v := .int (1 : Int32)) (by decide)
          have f_82 := hW.ne (k := 124) (j := 0) (v := .int (1 : Int32)) (by decide)
          have f_83 := hPa.ne (k := 124) (j := 0) (v := .int (1 : Int32)) (by decide)
          have f_84 := hT.ne (k := 124) (j := 0) (v := .int (1 : Int32)) (by decide)
          have f_85 := hF.ne (k := 124) (j := 0) (v := .int (1 : Int32)) (by decide)
          have f_86 := hG.ne (k := 124) (j := 0) (v := .int (1 : Int32)) (by decide)
          have f_88 := (rd_ne hs (k := 124) (j := 0) (.int (1 : Int32)) (Or.inr (by decide))).trans e6
          have f_89 := (rd_ne hs (k := 124) (j := 0) (.int (1 : Int32)) (Or.inr (by decide))).trans e10
          have f_90 := (rd_ne hs (k := 124) (j := 0) (.int (1 : Int32)) (Or.inr (by decide))).trans e11
          have f_91 := (rd_ne hs (k := 124) (j := 0) (.int (1 : Int32)) (Or.inr (by decide))).trans e12
          have f_92 := (rd_ne hs (k := 124) (j := 0) (.int (1 : Int32)) (Or.inr (by decide))).trans e13
          have f_93 := (rd_ne hs (k := 124) (j := 0) (.int (1 : Int32)) (Or.inr (by decide))).trans e15
          have f_94 := (rd_ne hs (k := 124) (j := 0) (.int (1 : Int32)) (Or.inr (by decide))).trans e14
          have f_95 := rd_same (j := 0) (v := .int (1 : Int32)) rw0.1
          have fr_96 := hfr0.wr (k := 124) (j := 0) (.int (1 : Int32)) (by unfold WR0; omega)
          clear hTo hW hPa hT hF hG e0 e6 e10 e11 e12 e13 e15 e14
          generalize (wr hs 124 0 (.int (1 : Int32))) = hs_97 at *
          refine g_loadA act (gx gp_270 (w := 0x2903) rfl (by decide) rfl) (a := 0) (n := 41) rfl rfl rfl ?_
          refine g_constI act (gx gp_270 (w := 0x4000000b4000000b1000000002b01) rfl (by decide) rfl) (n := 43) (x := (22 : Int32)) (by decide) rfl ?_
          refine g_constI act (gx gp_270 (w := 0x40000002400000021000000002c01) rfl (by decide) rfl) (n := 44) (x := (4 : Int32)) (by decide) rfl ?_
          refine g_loadI act (gx gp_270 (w := 0x1002d02) rfl (by decide) rfl) (a := 1) (n := 45) rfl rfl rfl ?_
          refine g_imul act (gx gp_270 (w := 0x2e11) rfl (by decide) rfl) (n := 46) rfl ?_
          refine g_iadd act (gx gp_270 (w := 0x2f0a) rfl (by decide) rfl) (n := 47) rfl ?_
          refine g_loadI act (gx gp_270 (w := 0x2003002) rfl (by decide) rfl) (a := 2) (n := 48) rfl rfl rfl ?_
          refine g_iadd act (gx gp_270 (w := 0x310a) rfl (by decide) rfl) (n := 49) rfl ?_
          refine g_loadI act (gx gp_270 (w := 0x3003202) rfl (by decide) rfl) (a := 3) (n := 50) rfl rfl rfl ?_
          refine n_call tb_pres act hEnd (gx (P := G_call) gp_270 (w := 0xa000000000000c10330000bb00350f) rfl (by decide) rfl) (d' := D_187) rfl (as := [.ref 124, .int (((22 : Int32) + ((4 : Int32) * i1)) + i2), .int i3]) (rest := []) (br_ch1 rw_80 f_95 (by decide)) (show (3 : Nat) = fb 0xa000000000000c10330000bb00350f % 16 by decide) (by show (3 : Nat) ≤ 4; decide) (fun _ => ⟨_, _, rfl, _, shp_at rw_80.1, Or.inr (show fb 0xa000000000000c10330000bb00350f >>> 68 = 10 by decide)⟩) (by omega) (by show 8 + (4 + 11) + 21 ≤ R.locals; omega) (by show (0 : Nat) ≤ 8; decide) (by show kc + 0 ≤ _; omega) (by show ks + 0 ≤ _; omega) (fun r9 h3 hpo hr9 => ?_) (fun x9 hs9 hx9 hpo => ?_)
          · obtain ⟨-, rfl, rfl⟩ := hpo
            show WpN (gp g0 wp) CLS p l e R s m args below meth c Q D_270.2.2.1 kc0 ks0 53 [some (.ref 124), some (.int i1), some (.int i2), some (.int i3)] (hs_97, kc, ks) [.int (0 : Int32)]
            exact g_retI hEnd (gx gp_270 (w := 0x2f) rfl (by decide) rfl) ⟨rfl, ⟨_, rfl⟩, ⟨tl, wl, pv, nl, n, ng, nr, np, ⟨rw_80, f_81, f_82⟩, f_83, ⟨_, f_88, hp9⟩, by omega, hNW, hPN, hM.frw fr_96 ⟨_, f_95, by have w9 := (show (1 : Int32).toInt = ((1 : Nat) : Int) from by decide); omega, by have w9 := (show (1 : Int32).toInt = ((1 : Nat) : Int) from by decide); omega⟩, ⟨⟨_, f_84⟩, ⟨_, f_89, (hL9).trans (by omega)⟩, by omega, by omega, ⟨_, f_90⟩, ⟨_, f_91⟩, ⟨_, f_92⟩, ⟨_, f_93⟩, ⟨_, f_94, by have w9 := (rfl : Int32.toInt b9 = _); omega, by have w9 := (rfl : Int32.toInt b9 = _); omega⟩, ⟨_, f_85⟩, ⟨_, f_86⟩⟩⟩, fr_96⟩ hk1 hk2
          · exact absurd hpo.1 (by omega)
      · exact absurd hpo.1 (by omega)
  · exact absurd hpo.1 (by omega)

theorem br_setOutage {i1 : Int32} (hRI : RSt hs L) : BodyN SSX TBL g0 CLS bl xs l D_272 2 44 0 0 [.ref 124, .int i1] hs (POR hs L) := by
  intro wp p e R s m args below meth c Q kc0 ks0 kc ks act hf hl hc hsl hEnd
  have hf : 2 ≤ R.frames := hf
  have hl : 44 ≤ R.locals := hl
  have hk1 : kc ≤ kc + 0 := by omega
  have hk2 : ks ≤ ks + 0 := by omega
  obtain ⟨tl, wl, pv, nl, n, ng, nr, np, ⟨rw0, hTo, hW⟩, hPa, ⟨p9, e6, hp9⟩, hp10, hNW, hPN, hM, ⟨⟨tx, hT⟩, ⟨L9, e10, hL9⟩, hL0, hL7, ⟨A9, e11⟩, ⟨c9, e12⟩, ⟨d9, e13⟩, ⟨f9, e15⟩, ⟨b9, e14, hb9⟩, ⟨fv, hF⟩, ⟨gv, hG⟩⟩⟩ := hRI
  obtain ⟨⟨x0, e0, hx0⟩, -⟩ := id hM
  have hN9 := hNW.1
  obtain ⟨n0, n1, n2, n3, n4, n5, n6, n7, n8, hG0, nL, nC, nP, nD⟩ := hN9
  have hGn := hG0.1
  have hGn3 := hG0.2.1
  have hGl := hG0.2.2.1
  have hfr0 := FrS.rf WR0 hs
  show WpN (gp g0 wp) CLS p l e R s m args below meth c Q D_272.2.2.1 kc0 ks0 0 [some (.ref 124), some (.int i1)] (hs, kc, ks) []
  refine g_loadA act (gx gp_272 (w := 0x103) rfl (by decide) rfl) (a := 0) (n := 1) rfl rfl rfl ?_
  refine g_loadI act (gx gp_272 (w := 0x1000202) rfl (by decide) rfl) (a := 1) (n := 2) rfl rfl rfl ?_
  refine g_constI act (gx gp_272 (w := 0x3fffffffbfffffff9000000000301) rfl (by decide) rfl) (n := 3) (x := (-1 : Int32)) (by decide) rfl ?_
  refine g_icmpEq act (gx gp_272 (w := 0x1200062e) rfl (by decide) rfl) (tgt := 18) (n := 6) rfl rfl (fun h4 => ?_) (fun h4 => ?_)
  · simp only [i_eq, show (-1 : Int32).toInt = -1 from by decide] at h4
    refine g_loadI act (gx gp_272 (w := 0x1001302) rfl (by decide) rfl) (a := 1) (n := 19) rfl rfl rfl ?_
    refine g_constI act (gx gp_272 (w := 0x3fffffffbfffffff9000000001401) rfl (by decide) rfl) (n := 20) (x := (-1 : Int32)) (by decide) rfl ?_
    refine g_icmpEq act (gx gp_272 (w := 0x2200172e) rfl (by decide) rfl) (tgt := 34) (n := 23) rfl rfl (fun h7 => ?_) (fun h7 => ?_)
    · simp only [i_eq, show (-1 : Int32).toInt = -1 from by decide] at h7
      refine g_constI act (gx gp_272 (w := 0x40000000400000001000000002301) rfl (by decide) rfl) (n := 35) (x := (0 : Int32)) (by decide) rfl ?_
      refine g_goto act (gx gp_272 (w := 0x2707) rfl (by decide) rfl) (n := 39) rfl ?_
      refine r_putf act (gx gp_272 (w := 0x9002a13) rfl (by decide) rfl) (n := 42) (ci := 9) (j := 0) (N := 39) rfl rfl rfl rw0.1 (by decide) (Or.inl ⟨rfl, _, rfl⟩) ?_
      have rw_1 := RW.wr (k := 124) (j := 0) (v := .int (0 : Int32)) rw0 (Or.inr (by decide))
      have f_2 := hTo.ne (k := 124) (j := 0) (v := .int (0 : Int32)) (by decide)
      have f_3 := hW.ne (k := 124) (j := 0) (v := .int (0 : Int32)) (by decide)
      have f_4 := hPa.ne (k := 124) (j := 0) (v := .int (0 : Int32)) (by decide)
      have f_5 := hT.ne (k := 124) (j := 0) (v := .int (0 : Int32)) (by decide)
      have f_6 := hF.ne (k := 124) (j := 0) (v := .int (0 : Int32)) (by decide)
      have f_7 := hG.ne (k := 124) (j := 0) (v := .int (0 : Int32)) (by decide)
      have f_9 := (rd_ne hs (k := 124) (j := 0) (.int (0 : Int32)) (Or.inr (by decide))).trans e6
      have f_10 := (rd_ne hs (k := 124) (j := 0) (.int (0 : Int32)) (Or.inr (by decide))).trans e10
      have f_11 := (rd_ne hs (k := 124) (j := 0) (.int (0 : Int32)) (Or.inr (by decide))).trans e11
      have f_12 := (rd_ne hs (k := 124) (j := 0) (.int (0 : Int32)) (Or.inr (by decide))).trans e12
      have f_13 := (rd_ne hs (k := 124) (j := 0) (.int (0 : Int32)) (Or.inr (by decide))).trans e13
      have f_14 := (rd_ne hs (k := 124) (j := 0) (.int (0 : Int32)) (Or.inr (by decide))).trans e15
      have f_15 := (rd_ne hs (k := 124) (j := 0) (.int (0 : Int32)) (Or.inr (by decide))).trans e14
      have f_16 := rd_same (j := 0) (v := .int (0 : Int32)) rw0.1
      have fr_17 := hfr0.wr (k := 124) (j := 0) (.int (0 : Int32)) (by unfold WR0; omega)
      clear hTo hW hPa hT hF hG e0 e6 e10 e11 e12 e13 e15 e14
      generalize (wr hs 124 0 (.int (0 : Int32))) = hs_18 at *
      refine g_loadA act (gx gp_272 (w := 0x2b03) rfl (by decide) rfl) (a := 0) (n := 43) rfl rfl rfl ?_
      refine g_constI act (gx gp_272 (w := 0x40000013400000131000000002d01) rfl (by decide) rfl) (n := 45) (x := (38 : Int32)) (by decide) rfl ?_
      refine g_loadI act (gx gp_272 (w := 0x1002e02) rfl (by decide) rfl) (a := 1) (n := 46) rfl rfl rfl ?_
      refine n_call tb_pres act hEnd (gx (P := G_call) gp_272 (w := 0xa000000000000c10330000bb00310f) rfl (by decide) rfl) (d' := D_187) rfl (as := [.ref 124, .int (38 : Int32), .int i1]) (rest := []) (br_ch0 rw_1 f_3 f_4 f_9 hp9 (by omega) f_16 (show (38 : Int32).toInt = ((38 : Nat) : Int) from by decide) (by omega) (rfl : Int32.toInt i1 = _)) (show (3 : Nat) = fb 0xa000000000000c10330000bb00310f % 16 by decide) (by show (3 : Nat) ≤ 4; decide) (fun _ => ⟨_, _, rfl, _, shp_at rw_1.1, Or.inr (show fb 0xa000000000000c10330000bb00310f >>> 68 = 10 by decide)⟩) (by omega) (by show 8 + (4 + 11) + 21 ≤ R.locals; omega) (by show (0 : Nat) ≤ 8; decide) (by show kc + 0 ≤ _; omega) (by show ks + 0 ≤ _; omega) (fun r9 hs_c19 hpo hr9 => ?_) (fun x9 hs9 hx9 hpo => ?_)
      · obtain ⟨-, ⟨rv_c19, rfl⟩, pv_c19, np_c19, p9_c19, hPa_c19, e6_c19, hp_c19, hq_c19, hr_c19, hW_c19, fr_c19⟩ := hpo
        have rw_20 := rw_1.fr fr_c19 WCh_rw
        have f_21 := f_2.fr (fun j9 _ => fr_c19.2.2 125 j9 (by unfold WCh; omega))
        have f_22 := f_5.fr (fun j9 _ => fr_c19.2.2 130 j9 (by unfold WCh; omega))
        have f_23 := f_6.fr (fun j9 _ => fr_c19.2.2 126 j9 (by unfold WCh; omega))
        have f_24 := f_7.fr (fun j9 _ => fr_c19.2.2 128 j9 (by unfold WCh; omega))
        have f_25 := rd_fr fr_c19 f_10 (by unfold WCh; omega)
        have f_26 := rd_fr fr_c19 f_11 (by unfold WCh; omega)
        have f_27 := rd_fr fr_c19 f_12 (by unfold WCh; omega)
        have f_28 := rd_fr fr_c19 f_13 (by unfold WCh; omega)
        have f_29 := rd_fr fr_c19 f_14 (by unfold WCh; omega)
        have f_30 := rd_fr fr_c19 f_15 (by unfold WCh; omega)
        have f_31 := rd_fr fr_c19 f_16 (by unfold WCh; omega)
        have fr_32 := fr_17.tr (fr_c19.mono (fun k9 j9 h9 => by unfold WCh at h9; unfold WR0; omega))
        clear rw_1 f_2 f_3 f_4 f_5 f_6 f_7 f_9 f_10 f_11 f_12 f_13 f_14 f_15 f_16 fr_17
        show WpN (gp g0 wp) CLS p l e R s m args below meth c Q D_272.2.2.1 kc0 ks0 49 [some (.ref 124), some (.int i1)] (hs_c19, kc, ks) [.int rv_c19]
        exact g_retI hEnd (gx gp_272 (w := 0x2f) rfl (by decide) rfl) ⟨rfl, ⟨_, rfl⟩, ⟨tl, (upI wl 38 (Int32.toInt i1)), pv_c19, nl, n, ng, nr, np_c19, ⟨rw_20, f_21, hW_c19⟩, hPa_c19, ⟨_, e6_c19, hp_c19⟩, by omega, (hNW.out (Or.inl (by omega))), (hr_c19.nw hNW hPN), hM.frw fr_32 ⟨_, f_31, by have w9 := (show (0 : Int32).toInt = ((0 : Nat) : Int) from by decide); omega, by have w9 := (show (0 : Int32).toInt = ((0 : Nat) : Int) from by decide); omega⟩, ⟨⟨_, f_22⟩, ⟨_, f_25, (hL9).trans (by omega)⟩, by omega, by omega, ⟨_, f_26⟩, ⟨_, f_27⟩, ⟨_, f_28⟩, ⟨_, f_29⟩, ⟨_, f_30, by have w9 := (rfl : Int32.toInt b9 = _); omega, by have w9 := (rfl : Int32.toInt b9 = _); omega⟩, ⟨_, f_23⟩, ⟨_, f_24⟩⟩⟩, fr_32⟩ hk1 hk2
      · exact absurd hpo.1 (by omega)
    · simp only [i_eq, show (-1 : Int32).toInt = -1 from by decide] at h7
      refine g_loadA act (gx gp_272 (w := 0x1803) rfl (by decide) rfl) (a := 0) (n := 24) rfl rfl rfl ?_
      refine r_getf act (gx gp_272 (w := 0x3000049001b04) rfl (by decide) rfl) (n := 27) (ci := 9) (j := 1) (N := 39) rfl rfl rfl rw0.1 (by decide) (rw0.2 (1, 125, 32, 46) (by decide)).1 ?_
      refine g_loadI act (gx gp_272 (w := 0x1001c02) rfl (by decide) rfl) (a := 1) (n := 28) rfl rfl rfl ?_
      refine n_call tb_pres act hEnd (gx (P := G_call) gp_272 (w := 0x418220000c1001f0f) rfl (by decide) rfl) (d' := D_193) rfl (as := [.ref 125, .int i1]) (rest := [.ref 124]) (br_con125 (n9 := n) rw0 hTo (rfl : Int32.toInt i1 = _) n2 hGl n0 (by omega) (by omega) (fun l hl => by have w9 := hG0.2.2.2.1 l hl; omega)) (show (2 : Nat) = fb 0x418220000c1001f0f % 16 by decide) (by show (2 : Nat) ≤ 6; decide) (fun q => absurd q (by decide)) (by omega) (by show 8 + (6 + 11) + 0 ≤ R.locals; omega) (by show (1 : Nat) ≤ 8; decide) (by show kc + 0 ≤ _; omega) (by show ks + 0 ≤ _; omega) (fun r9 h3 hpo hr9 => ?_) (fun x9 hs9 hx9 hpo => ?_)
      · obtain ⟨-, rfl, rv_33, rfl, hcn_34⟩ := hpo
        show WpN (gp g0 wp) CLS p l e R s m args below meth c Q D_272.2.2.1 kc0 ks0 31 [some (.ref 124), some (.int i1)] (hs, kc, ks) [.int rv_33, .ref 124]
        refine g_ifEq act (gx gp_272 (w := 0x2600220e) rfl (by decide) rfl) (tgt := 38) (n := 34) rfl rfl (fun h15 => ?_) (fun h15 => ?_)
        · simp only [i_eq, i0] at h15
          refine g_constI act (gx gp_272 (w := 0x40000001400000011000000002701) rfl (by decide) rfl) (n := 39) (x := (2 : Int32)) (by decide) rfl ?_
          refine r_putf act (gx gp_272 (w := 0x9002a13) rfl (by decide) rfl) (n := 42) (ci := 9) (j := 0) (N := 39) rfl rfl rfl rw0.1 (by decide) (Or.inl ⟨rfl, _, rfl⟩) ?_
          have rw_35 := RW.wr (k := 124) (j := 0) (v := .int (2 : Int32)) rw0 (Or.inr (by decide))
          have f_36 := hTo.ne (k := 124) (j := 0) (v := .int (2 : Int32)) (by decide)
          have f_37 := hW.ne (k := 124) (j := 0) (v := .int (2 : Int32)) (by decide)
          have f_38 := hPa.ne (k := 124) (j := 0) (v := .int (2 : Int32)) (by decide)
          have f_39 := hT.ne (k := 124) (j := 0) (v := .int (2 : Int32)) (by decide)
          have f_40 := hF.ne (k := 124) (j := 0) (v := .int (2 : Int32)) (by decide)
          have f_41 := hG.ne (k := 124) (j := 0) (v := .int (2 : Int32)) (by decide)
          have f_43 := (rd_ne hs (k := 124) (j := 0) (.int (2 : Int32)) (Or.inr (by decide))).trans e6
          have f_44 := (rd_ne hs (k := 124) (j := 0) (.int (2 : Int32)) (Or.inr (by decide))).trans e10
          have f_45 := (rd_ne hs (k := 124) (j := 0) (.int (2 : Int32)) (Or.inr (by decide))).trans e11
          have f_46 := (rd_ne hs (k := 124) (j := 0) (.int (2 : Int32)) (Or.inr (by decide))).trans e12
          have f_47 := (rd_ne hs (k := 124) (j := 0) (.int (2 : Int32)) (Or.inr (by decide))).trans e13
          have f_48 := (rd_ne hs (k := 124) (j := 0) (.int (2 : Int32)) (Or.inr (by decide))).trans e15
          have f_49 := (rd_ne hs (k := 124) (j := 0) (.int (2 : Int32)) (Or.inr (by decide))).trans e14
          have f_50 := rd_same (j := 0) (v := .int (2 : Int32)) rw0.1
          have fr_51 := hfr0.wr (k := 124) (j := 0) (.int (2 : Int32)) (by unfold WR0; omega)
          clear hTo hW hPa hT hF hG e0 e6 e10 e11 e12 e13 e15 e14
          generalize (wr hs 124 0 (.int (2 : Int32))) = hs_52 at *
          refine g_loadA act (gx gp_272 (w := 0x2b03) rfl (by decide) rfl) (a := 0) (n := 43) rfl rfl rfl ?_
          refine g_constI act (gx gp_272 (w := 0x40000013400000131000000002d01) rfl (by decide) rfl) (n := 45) (x := (38 : Int32)) (by decide) rfl ?_
          refine g_loadI act (gx gp_272 (w := 0x1002e02) rfl (by decide) rfl) (a := 1) (n := 46) rfl rfl rfl ?_
          refine n_call tb_pres act hEnd (gx (P := G_call) gp_272 (w := 0xa000000000000c10330000bb00310f) rfl (by decide) rfl) (d' := D_187) rfl (as := [.ref 124, .int (38 : Int32), .int i1]) (rest := []) (br_ch1 rw_35 f_50 (by decide)) (show (3 : Nat) = fb 0xa000000000000c10330000bb00310f % 16 by decide) (by show (3 : Nat) ≤ 4; decide) (fun _ => ⟨_, _, rfl, _, shp_at rw_35.1, Or.inr (show fb 0xa000000000000c10330000bb00310f >>> 68 = 10 by decide)⟩) (by omega) (by show 8 + (4 + 11) + 21 ≤ R.locals; omega) (by show (0 : Nat) ≤ 8; decide) (by show kc + 0 ≤ _; omega) (by show ks + 0 ≤ _; omega) (fun r9 h3 hpo hr9 => ?_) (fun x9 hs9 hx9 hpo => ?_)
          · obtain ⟨-, rfl, rfl⟩ := hpo
            show WpN (gp g0 wp) CLS p l e R s m args below meth c Q D_272.2.2.1 kc0 ks0 49 [some (.ref 124), some (.int i1)] (hs_52, kc, ks) [.int (0 : Int32)]
            exact g_retI hEnd (gx gp_272 (w := 0x2f) rfl (by decide) rfl) ⟨rfl, ⟨_, rfl⟩, ⟨tl, wl, pv, nl, n, ng, nr, np, ⟨rw_35, f_36, f_37⟩, f_38, ⟨_, f_43, hp9⟩, by omega, hNW, hPN, hM.frw fr_51 ⟨_, f_50, by have w9 := (show (2 : Int32).toInt = ((2 : Nat) : Int) from by decide); omega, by have w9 := (show (2 : Int32).toInt = ((2 : Nat) : Int) from by decide); omega⟩, ⟨⟨_, f_39⟩, ⟨_, f_44, (hL9).trans (by omega)⟩, by omega, by omega, ⟨_, f_45⟩, ⟨_, f_46⟩, ⟨_, f_47⟩, ⟨_, f_48⟩, ⟨_, f_49, by have w9 := (rfl : Int32.toInt b9 = _); omega, by have w9 := (rfl : Int32.toInt b9 = _); omega⟩, ⟨_, f_40⟩, ⟨_, f_41⟩⟩⟩, fr_51⟩ hk1 hk2
          · exact absurd hpo.1 (by omega)
        · simp only [i_eq, i0] at h15
          refine g_constI act (gx gp_272 (w := 0x40000000400000001000000002301) rfl (by decide) rfl) (n := 35) (x := (0 : Int32)) (by decide) rfl ?_
          refine g_goto act (gx gp_272 (w := 0x2707) rfl (by decide) rfl) (n := 39) rfl ?_
          refine r_putf act (gx gp_272 (w := 0x9002a13) rfl (by decide) rfl) (n := 42) (ci := 9) (j := 0) (N := 39) rfl rfl rfl rw0.1 (by decide) (Or.inl ⟨rfl, _, rfl⟩) ?_
          have rw_53 := RW.wr (k := 124) (j := 0) (v := .int (0 : Int32)) rw0 (Or.inr (by decide))
          have f_54 := hTo.ne (k := 124) (j := 0) (v := .int (0 : Int32)) (by decide)
          have f_55 := hW.ne (k := 124) (j := 0) (v := .int (0 : Int32)) (by decide)
          have f_56 := hPa.ne (k := 124) (j := 0) (v := .int (0 : Int32)) (by decide)
          have f_57 := hT.ne (k := 124) (j := 0) (v := .int (0 : Int32)) (by decide)
          have f_58 := hF.ne (k := 124) (j := 0) (v := .int (0 : Int32)) (by decide)
          have f_59 := hG.ne (k := 124) (j := 0) (v := .int (0 : Int32)) (by decide)
          have f_61 := (rd_ne hs (k := 124) (j := 0) (.int (0 : Int32)) (Or.inr (by decide))).trans e6
          have f_62 := (rd_ne hs (k := 124) (j := 0) (.int (0 : Int32)) (Or.inr (by decide))).trans e10
          have f_63 := (rd_ne hs (k := 124) (j := 0) (.int (0 : Int32)) (Or.inr (by decide))).trans e11
          have f_64 := (rd_ne hs (k := 124) (j := 0) (.int (0 : Int32)) (Or.inr (by decide))).trans e12
          have f_65 := (rd_ne hs (k := 124) (j := 0) (.int (0 : Int32)) (Or.inr (by decide))).trans e13
          have f_66 := (rd_ne hs (k := 124) (j := 0) (.int (0 : Int32)) (Or.inr (by decide))).trans e15
          have f_67 := (rd_ne hs (k := 124) (j := 0) (.int (0 : Int32)) (Or.inr (by decide))).trans e14
          have f_68 := rd_same (j := 0) (v := .int (0 : Int32)) rw0.1
          have fr_69 := hfr0.wr (k := 124) (j := 0) (.int (0 : Int32)) (by unfold WR0; omega)
          clear hTo hW hPa hT hF hG e0 e6 e10 e11 e12 e13 e15 e14
          generalize (wr hs 124 0 (.int (0 : Int32))) = hs_70 at *
          refine g_loadA act (gx gp_272 (w := 0x2b03) rfl (by decide) rfl) (a := 0) (n := 43) rfl rfl rfl ?_
          refine g_constI act (gx gp_272 (w := 0x40000013400000131000000002d01) rfl (by decide) rfl) (n := 45) (x := (38 : Int32)) (by decide) rfl ?_
          refine g_loadI act (gx gp_272 (w := 0x1002e02) rfl (by decide) rfl) (a := 1) (n := 46) rfl rfl rfl ?_
          refine n_call tb_pres act hEnd (gx (P := G_call) gp_272 (w := 0xa000000000000c10330000bb00310f) rfl (by decide) rfl) (d' := D_187) rfl (as := [.ref 124, .int (38 : Int32), .int i1]) (rest := []) (br_ch0 rw_53 f_55 f_56 f_61 hp9 (by omega) f_68 (show (38 : Int32).toInt = ((38 : Nat) : Int) from by decide) (by omega) (rfl : Int32.toInt i1 = _)) (show (3 : Nat) = fb 0xa000000000000c10330000bb00310f % 16 by decide) (by show (3 : Nat) ≤ 4; decide) (fun _ => ⟨_, _, rfl, _, shp_at rw_53.1, Or.inr (show fb 0xa000000000000c10330000bb00310f >>> 68 = 10 by decide)⟩) (by omega) (by show 8 + (4 + 11) + 21 ≤ R.locals; omega) (by show (0 : Nat) ≤ 8; decide) (by show kc + 0 ≤ _; omega) (by show ks + 0 ≤ _; omega) (fun r9 hs_c71 hpo hr9 => ?_) (fun x9 hs9 hx9 hpo => ?_)
          · obtain ⟨-, ⟨rv_c71, rfl⟩, pv_c71, np_c71, p9_c71, hPa_c71, e6_c71, hp_c71, hq_c71, hr_c71, hW_c71, fr_c71⟩ := hpo
            have rw_72 := rw_53.fr fr_c71 WCh_rw
            have f_73 := f_54.fr (fun j9 _ => fr_c71.2.2 125 j9 (by unfold WCh; omega))
            have f_74 := f_57.fr (fun j9 _ => fr_c71.2.2 130 j9 (by unfold WCh; omega))
            have f_75 := f_58.fr (fun j9 _ => fr_c71.2.2 126 j9 (by unfold WCh; omega))
            have f_76 := f_59.fr (fun j9 _ => fr_c71.2.2 128 j9 (by unfold WCh; omega))
            have f_77 := rd_fr fr_c71 f_62 (by unfold WCh; omega)
            have f_78 := rd_fr fr_c71 f_63 (by unfold WCh; omega)
            have f_79 := rd_fr fr_c71 f_64 (by unfold WCh; omega)
            have f_80 := rd_fr fr_c71 f_65 (by unfold WCh; omega)
            have f_81 := rd_fr fr_c71 f_66 (by unfold WCh; omega)
            have f_82 := rd_fr fr_c71 f_67 (by unfold WCh; omega)
            have f_83 := rd_fr fr_c71 f_68 (by unfold WCh; omega)
            have fr_84 := fr_69.tr (fr_c71.mono (fun k9 j9 h9 => by unfold WCh at h9; unfold WR0; omega))
            clear rw_53 f_54 f_55 f_56 f_57 f_58 f_59 f_61 f_62 f_63 f_64 f_65 f_66 f_67 f_68 fr_69
            show WpN (gp g0 wp) CLS p l e R s m args below meth c Q D_272.2.2.1 kc0 ks0 49 [some (.ref 124), some (.int i1)] (hs_c71, kc, ks) [.int rv_c71]
            exact g_retI hEnd (gx gp_272 (w := 0x2f) rfl (by decide) rfl) ⟨rfl, ⟨_, rfl⟩, ⟨tl, (upI wl 38 (Int32.toInt i1)), pv_c71, nl, n, ng, nr, np_c71, ⟨rw_72, f_73, hW_c71⟩, hPa_c71, ⟨_, e6_c71, hp_c71⟩, by omega, (hNW.out (Or.inr ⟨by omega, by omega, (hcn_34.resolve_left (by omega)).2⟩)), (hr_c71.nw hNW hPN), hM.frw fr_84 ⟨_, f_83, by have w9 := (show (0 : Int32).toInt = ((0 : Nat) : Int) from by decide); omega, by have w9 := (show (0 : Int32).toInt = ((0 : Nat) : Int) from by decide); omega⟩, ⟨⟨_, f_74⟩, ⟨_, f_77, (hL9).trans (by omega)⟩, by omega, by omega, ⟨_, f_78⟩, ⟨_, f_79⟩, ⟨_, f_80⟩, ⟨_, f_81⟩, ⟨_, f_82, by have w9 := (rfl : Int32.toInt b9 = _); omega, by have w9 := (rfl : Int32.toInt b9 = _); omega⟩, ⟨_, f_75⟩, ⟨_, f_76⟩⟩⟩, fr_84⟩ hk1 hk2
          · exact absurd hpo.1 (by omega)
      · exact absurd hpo.1 (by omega)
  · simp only [i_eq, show (-1 : Int32).toInt = -1 from by decide] at h4
    refine g_loadA act (gx gp_272 (w := 0x703) rfl (by decide) rfl) (a := 0) (n := 7) rfl rfl rfl ?_
    refine g_loadI act (gx gp_272 (w := 0x1000802) rfl (by decide) rfl) (a := 1) (n := 8) rfl rfl rfl ?_
    refine n_call tb_pres act hEnd (gx (P := G_call) gp_272 (w := 0xa000000000000c08220000e2000b0f) rfl (by decide) rfl) (d' := D_226) rfl (as := [.ref 124, .int i1]) (rest := [.ref 124]) (b_isLine rw0 hTo (rfl : Int32.toInt i1 = _) (by omega) (by omega)) (show (2 : Nat) = fb 0xa000000000000c08220000e2000b0f % 16 by decide) (by show (2 : Nat) ≤ 2; decide) (fun _ => ⟨_, _, rfl, _, shp_at rw0.1, Or.inr (show fb 0xa000000000000c08220000e2000b0f >>> 68 = 10 by decide)⟩) (by omega) (by show 8 + (2 + 11) + 22 ≤ R.locals; omega) (by show (1 : Nat) ≤ 8; decide) (by show kc + 0 ≤ _; omega) (by show ks + 0 ≤ _; omega) (fun r9 h3 hpo hr9 => ?_) (fun x9 hs9 hx9 hpo => ?_)
    · obtain ⟨-, rfl, hin9⟩ := hpo
      obtain ⟨rv_85, rfl, hr_86⟩ := in1_x hin9
      show WpN (gp g0 wp) CLS p l e R s m args below meth c Q D_272.2.2.1 kc0 ks0 11 [some (.ref 124), some (.int i1)] (hs, kc, ks) [.int rv_85, .ref 124]
      refine g_ifNe act (gx gp_272 (w := 0x12000e1d) rfl (by decide) rfl) (tgt := 18) (n := 14) rfl rfl (fun h27 => ?_) (fun h27 => ?_)
      · simp only [i_eq, i0] at h27
        refine g_loadI act (gx gp_272 (w := 0x1001302) rfl (by decide) rfl) (a := 1) (n := 19) rfl rfl rfl ?_
        refine g_constI act (gx gp_272 (w := 0x3fffffffbfffffff9000000001401) rfl (by decide) rfl) (n := 20) (x := (-1 : Int32)) (by decide) rfl ?_
        refine g_icmpEq act (gx gp_272 (w := 0x2200172e) rfl (by decide) rfl) (tgt := 34) (n := 23) rfl rfl (fun h30 => ?_) (fun h30 => ?_)
        · simp only [i_eq, show (-1 : Int32).toInt = -1 from by decide] at h30
          refine g_constI act (gx gp_272 (w := 0x40000000400000001000000002301) rfl (by decide) rfl) (n := 35) (x := (0 : Int32)) (by decide) rfl ?_
          refine g_goto act (gx gp_272 (w := 0x2707) rfl (by decide) rfl) (n := 39) rfl ?_
          refine r_putf act (gx gp_272 (w := 0x9002a13) rfl (by decide) rfl) (n := 42) (ci := 9) (j := 0) (N := 39) rfl rfl rfl rw0.1 (by decide) (Or.inl ⟨rfl, _, rfl⟩) ?_
          have rw_87 := RW.wr (k := 124) (j := 0) (v := .int (0 : Int32)) rw0 (Or.inr (by decide))
          have f_88 := hTo.ne (k := 124) (j := 0) (v := .int (0 : Int32)) (by decide)
          have f_89 := hW.ne (k := 124) (j := 0) (v := .int (0 : Int32)) (by decide)
          have f_90 := hPa.ne (k := 124) (j := 0) (v := .int (0 : Int32)) (by decide)
          have f_91 := hT.ne (k := 124) (j := 0) (v := .int (0 : Int32)) (by decide)
          have f_92 := hF.ne (k := 124) (j := 0) (v := .int (0 : Int32)) (by decide)
          have f_93 := hG.ne (k := 124) (j := 0) (v := .int (0 : Int32)) (by decide)
          have f_95 := (rd_ne hs (k := 124) (j := 0) (.int (0 : Int32)) (Or.inr (by decide))).trans e6
          have f_96 := (rd_ne hs (k := 124) (j := 0) (.int (0 : Int32)) (Or.inr (by decide))).trans e10
          have f_97 := (rd_ne hs (k := 124) (j := 0) (.int (0 : Int32)) (Or.inr (by decide))).trans e11
          have f_98 := (rd_ne hs (k := 124) (j := 0) (.int (0 : Int32)) (Or.inr (by decide))).trans e12
          have f_99 := (rd_ne hs (k := 124) (j := 0) (.int (0 : Int32)) (Or.inr (by decide))).trans e13
          have f_100 := (rd_ne hs (k := 124) (j := 0) (.int (0 : Int32)) (Or.inr (by decide))).trans e15
          have f_101 := (rd_ne hs (k := 124) (j := 0) (.int (0 : Int32)) (Or.inr (by decide))).trans e14
          have f_102 := rd_same (j := 0) (v := .int (0 : Int32)) rw0.1
          have fr_103 := hfr0.wr (k := 124) (j := 0) (.int (0 : Int32)) (by unfold WR0; omega)
          clear hTo hW hPa hT hF hG e0 e6 e10 e11 e12 e13 e15 e14
          generalize (wr hs 124 0 (.int (0 : Int32))) = hs_104 at *
          refine g_loadA act (gx gp_272 (w := 0x2b03) rfl (by decide) rfl) (a := 0) (n := 43) rfl rfl rfl ?_
          refine g_constI act (gx gp_272 (w := 0x40000013400000131000000002d01) rfl (by decide) rfl) (n := 45) (x := (38 : Int32)) (by decide) rfl ?_
          refine g_loadI act (gx gp_272 (w := 0x1002e02) rfl (by decide) rfl) (a := 1) (n := 46) rfl rfl rfl ?_
          refine n_call tb_pres act hEnd (gx (P := G_call) gp_272 (w := 0xa000000000000c10330000bb00310f) rfl (by decide) rfl) (d' := D_187) rfl (as := [.ref 124, .int (38 : Int32), .int i1]) (rest := []) (br_ch0 rw_87 f_89 f_90 f_95 hp9 (by omega) f_102 (show (38 : Int32).toInt = ((38 : Nat) : Int) from by decide) (by omega) (rfl : Int32.toInt i1 = _)) (show (3 : Nat) = fb 0xa000000000000c10330000bb00310f % 16 by decide) (by show (3 : Nat) ≤ 4; decide) (fun _ => ⟨_, _, rfl, _, shp_at rw_87.1, Or.inr (show fb 0xa000000000000c10330000bb00310f >>> 68 = 10 by decide)⟩) (by omega) (by show 8 + (4 + 11) + 21 ≤ R.locals; omega) (by show (0 : Nat) ≤ 8; decide) (by show kc + 0 ≤ _; omega) (by show ks + 0 ≤ _; omega) (fun r9 hs_c105 hpo hr9 => ?_) (fun x9 hs9 hx9 hpo => ?_)
          · obtain ⟨-, ⟨rv_c105, rfl⟩, pv_c105, np_c105, p9_c105, hPa_c105, e6_c105, hp_c105, hq_c105, hr_c105, hW_c105, fr_c105⟩ := hpo
            have rw_106 := rw_87.fr fr_c105 WCh_rw
            have f_107 := f_88.fr (fun j9 _ => fr_c105.2.2 125 j9 (by unfold WCh; omega))
            have f_108 := f_91.fr (fun j9 _ => fr_c105.2.2 130 j9 (by unfold WCh; omega))
            have f_109 := f_92.fr (fun j9 _ => fr_c105.2.2 126 j9 (by unfold WCh; omega))
            have f_110 := f_93.fr (fun j9 _ => fr_c105.2.2 128 j9 (by unfold WCh; omega))
            have f_111 := rd_fr fr_c105 f_96 (by unfold WCh; omega)
            have f_112 := rd_fr fr_c105 f_97 (by unfold WCh; omega)
            have f_113 := rd_fr fr_c105 f_98 (by unfold WCh; omega)
            have f_114 := rd_fr fr_c105 f_99 (by unfold WCh; omega)
            have f_115 := rd_fr fr_c105 f_100 (by unfold WCh; omega)
            have f_116 := rd_fr fr_c105 f_101 (by unfold WCh; omega)
            have f_117 := rd_fr fr_c105 f_102 (by unfold WCh; omega)
            have fr_118 := fr_103.tr (fr_c105.mono (fun k9 j9 h9 => by unfold WCh at h9; unfold WR0; omega))
            clear rw_87 f_88 f_89 f_90 f_91 f_92 f_93 f_95 f_96 f_97 f_98 f_99 f_100 f_101 f_102 fr_103
            show WpN (gp g0 wp) CLS p l e R s m args below meth c Q D_272.2.2.1 kc0 ks0 49 [some (.ref 124), some (.int i1)] (hs_c105, kc, ks) [.int rv_c105]
            exact g_retI hEnd (gx gp_272 (w := 0x2f) rfl (by decide) rfl) ⟨rfl, ⟨_, rfl⟩, ⟨tl, (upI wl 38 (Int32.toInt i1)), pv_c105, nl, n, ng, nr, np_c105, ⟨rw_106, f_107, hW_c105⟩, hPa_c105, ⟨_, e6_c105, hp_c105⟩, by omega, (hNW.out (Or.inl (by omega))), (hr_c105.nw hNW hPN), hM.frw fr_118 ⟨_, f_117, by have w9 := (show (0 : Int32).toInt = ((0 : Nat) : Int) from by decide); omega, by have w9 := (show (0 : Int32).toInt = ((0 : Nat) : Int) from by decide); omega⟩, ⟨⟨_, f_108⟩, ⟨_, f_111, (hL9).trans (by omega)⟩, by omega, by omega, ⟨_, f_112⟩, ⟨_, f_113⟩, ⟨_, f_114⟩, ⟨_, f_115⟩, ⟨_, f_116, by have w9 := (rfl : Int32.toInt b9 = _); omega, by have w9 := (rfl : Int32.toInt b9 = _); omega⟩, ⟨_, f_109⟩, ⟨_, f_110⟩⟩⟩, fr_118⟩ hk1 hk2
          · exact absurd hpo.1 (by omega)
        · simp only [i_eq, show (-1 : Int32).toInt = -1 from by decide] at h30
          refine g_loadA act (gx gp_272 (w := 0x1803) rfl (by decide) rfl) (a := 0) (n := 24) rfl rfl rfl ?_
          refine r_getf act (gx gp_272 (w := 0x3000049001b04) rfl (by decide) rfl) (n := 27) (ci := 9) (j := 1) (N := 39) rfl rfl rfl rw0.1 (by decide) (rw0.2 (1, 125, 32, 46) (by decide)).1 ?_
          refine g_loadI act (gx gp_272 (w := 0x1001c02) rfl (by decide) rfl) (a := 1) (n := 28) rfl rfl rfl ?_
          refine n_call tb_pres act hEnd (gx (P := G_call) gp_272 (w := 0x418220000c1001f0f) rfl (by decide) rfl) (d' := D_193) rfl (as := [.ref 125, .int i1]) (rest := [.ref 124]) (br_con125 (n9 := n) rw0 hTo (rfl : Int32.toInt i1 = _) n2 hGl n0 (by omega) (by omega) (fun l hl => by have w9 := hG0.2.2.2.1 l hl; omega)) (show (2 : Nat) = fb 0x418220000c1001f0f % 16 by decide) (by show (2 : Nat) ≤ 6; decide) (fun q => absurd q (by decide)) (by omega) (by show 8 + (6 + 11) + 0 ≤ R.locals; omega) (by show (1 : Nat) ≤ 8; decide) (by show kc + 0 ≤ _; omega) (by show ks + 0 ≤ _; omega) (fun r9 h3 hpo hr9 => ?_) (fun x9 hs9 hx9 hpo => ?_)
          · obtain ⟨-, rfl, rv_119, rfl, hcn_120⟩ := hpo
            show WpN (gp g0 wp) CLS p l e R s m args below meth c Q D_272.2.2.1 kc0 ks0 31 [some (.ref 124), some (.int i1)] (hs, kc, ks) [.int rv_119, .ref 124]
            refine g_ifEq act (gx gp_272 (w := 0x2600220e) rfl (by decide) rfl) (tgt := 38) (n := 34) rfl rfl (fun h38 => ?_) (fun h38 => ?_)
            · simp only [i_eq, i0] at h38
              refine g_constI act (gx gp_272 (w := 0x40000001400000011000000002701) rfl (by decide) rfl) (n := 39) (x := (2 : Int32)) (by decide) rfl ?_
              refine r_putf act (gx gp_272 (w := 0x9002a13) rfl (by decide) rfl) (n := 42) (ci := 9) (j := 0) (N := 39) rfl rfl rfl rw0.1 (by decide) (Or.inl ⟨rfl, _, rfl⟩) ?_
              have rw_121 := RW.wr (k := 124) (j := 0) (v := .int (2 : Int32)) rw0 (Or.inr (by decide))
              have f_122 := hTo.ne (k := 124) (j := 0) (v := .int (2 : Int32)) (by decide)
              have f_123 := hW.ne (k := 124) (j := 0) (v := .int (2 : Int32)) (by decide)
              have f_124 := hPa.ne (k := 124) (j := 0) (v := .int (2 : Int32)) (by decide)
              have f_125 := hT.ne (k := 124) (j := 0) (v := .int (2 : Int32)) (by decide)
              have f_126 := hF.ne (k := 124) (j := 0) (v := .int (2 : Int32)) (by decide)
              have f_127 := hG.ne (k := 124) (j := 0) (v := .int (2 : Int32)) (by decide)
              have f_129 := (rd_ne hs (k := 124) (j := 0) (.int (2 : Int32)) (Or.inr (by decide))).trans e6
              have f_130 := (rd_ne hs (k := 124) (j := 0) (.int (2 : Int32)) (Or.inr (by decide))).trans e10
              have f_131 := (rd_ne hs (k := 124) (j := 0) (.int (2 : Int32)) (Or.inr (by decide))).trans e11
              have f_132 := (rd_ne hs (k := 124) (j := 0) (.int (2 : Int32)) (Or.inr (by decide))).trans e12
              have f_133 := (rd_ne hs (k := 124) (j := 0) (.int (2 : Int32)) (Or.inr (by decide))).trans e13
              have f_134 := (rd_ne hs (k := 124) (j := 0) (.int (2 : Int32)) (Or.inr (by decide))).trans e15
              have f_135 := (rd_ne hs (k := 124) (j := 0) (.int (2 : Int32)) (Or.inr (by decide))).trans e14
              have f_136 := rd_same (j := 0) (v := .int (2 : Int32)) rw0.1
              have fr_137 := hfr0.wr (k := 124) (j := 0) (.int (2 : Int32)) (by unfold WR0; omega)
              clear hTo hW hPa hT hF hG e0 e6 e10 e11 e12 e13 e15 e14
              generalize (wr hs 124 0 (.int (2 : Int32))) = hs_138 at *
              refine g_loadA act (gx gp_272 (w := 0x2b03) rfl (by decide) rfl) (a := 0) (n := 43) rfl rfl rfl ?_
              refine g_constI act (gx gp_272 (w := 0x40000013400000131000000002d01) rfl (by decide) rfl) (n := 45) (x := (38 : Int32)) (by decide) rfl ?_
              refine g_loadI act (gx gp_272 (w := 0x1002e02) rfl (by decide) rfl) (a := 1) (n := 46) rfl rfl rfl ?_
              refine n_call tb_pres act hEnd (gx (P := G_call) gp_272 (w := 0xa000000000000c10330000bb00310f) rfl (by decide) rfl) (d' := D_187) rfl (as := [.ref 124, .int (38 : Int32), .int i1]) (rest := []) (br_ch1 rw_121 f_136 (by decide)) (show (3 : Nat) = fb 0xa000000000000c10330000bb00310f % 16 by decide) (by show (3 : Nat) ≤ 4; decide) (fun _ => ⟨_, _, rfl, _, shp_at rw_121.1, Or.inr (show fb 0xa000000000000c10330000bb00310f >>> 68 = 10 by decide)⟩) (by omega) (by show 8 + (4 + 11) + 21 ≤ R.locals; omega) (by show (0 : Nat) ≤ 8; decide) (by show kc + 0 ≤ _; omega) (by show ks + 0 ≤ _; omega) (fun r9 h3 hpo hr9 => ?_) (fun x9 hs9 hx9 hpo => ?_)
              · obtain ⟨-, rfl, rfl⟩ := hpo
                show WpN (gp g0 wp) CLS p l e R s m args below meth c Q D_272.2.2.1 kc0 ks0 49 [some (.ref 124), some (.int i1)] (hs_138, kc, ks) [.int (0 : Int32)]
                exact g_retI hEnd (gx gp_272 (w := 0x2f) rfl (by decide) rfl) ⟨rfl, ⟨_, rfl⟩, ⟨tl, wl, pv, nl, n, ng, nr, np, ⟨rw_121, f_122, f_123⟩, f_124, ⟨_, f_129, hp9⟩, by omega, hNW, hPN, hM.frw fr_137 ⟨_, f_136, by have w9 := (show (2 : Int32).toInt = ((2 : Nat) : Int) from by decide); omega, by have w9 := (show (2 : Int32).toInt = ((2 : Nat) : Int) from by decide); omega⟩, ⟨⟨_, f_125⟩, ⟨_, f_130, (hL9).trans (by omega)⟩, by omega, by omega, ⟨_, f_131⟩, ⟨_, f_132⟩, ⟨_, f_133⟩, ⟨_, f_134⟩, ⟨_, f_135, by have w9 := (rfl : Int32.toInt b9 = _); omega, by have w9 := (rfl : Int32.toInt b9 = _); omega⟩, ⟨_, f_126⟩, ⟨_, f_127⟩⟩⟩, fr_137⟩ hk1 hk2
              · exact absurd hpo.1 (by omega)
            · simp only [i_eq, i0] at h38
              refine g_constI act (gx gp_272 (w := 0x40000000400000001000000002301) rfl (by decide) rfl) (n := 35) (x := (0 : Int32)) (by decide) rfl ?_
              refine g_goto act (gx gp_272 (w := 0x2707) rfl (by decide) rfl) (n := 39) rfl ?_
              refine r_putf act (gx gp_272 (w := 0x9002a13) rfl (by decide) rfl) (n := 42) (ci := 9) (j := 0) (N := 39) rfl rfl rfl rw0.1 (by decide) (Or.inl ⟨rfl, _, rfl⟩) ?_
              have rw_139 := RW.wr (k := 124) (j := 0) (v := .int (0 : Int32)) rw0 (Or.inr (by decide))
              have f_140 := hTo.ne (k := 124) (j := 0) (v := .int (0 : Int32)) (by decide)
              have f_141 := hW.ne (k := 124) (j := 0) (v := .int (0 : Int32)) (by decide)
              have f_142 := hPa.ne (k := 124) (j := 0) (v := .int (0 : Int32)) (by decide)
              have f_143 := hT.ne (k := 124) (j := 0) (v := .int (0 : Int32)) (by decide)
              have f_144 := hF.ne (k := 124) (j := 0) (v := .int (0 : Int32)) (by decide)
              have f_145 := hG.ne (k := 124) (j := 0) (v := .int (0 : Int32)) (by decide)
              have f_147 := (rd_ne hs (k := 124) (j := 0) (.int (0 : Int32)) (Or.inr (by decide))).trans e6
              have f_148 := (rd_ne hs (k := 124) (j := 0) (.int (0 : Int32)) (Or.inr (by decide))).trans e10
              have f_149 := (rd_ne hs (k := 124) (j := 0) (.int (0 : Int32)) (Or.inr (by decide))).trans e11
              have f_150 := (rd_ne hs (k := 124) (j := 0) (.int (0 : Int32)) (Or.inr (by decide))).trans e12
              have f_151 := (rd_ne hs (k := 124) (j := 0) (.int (0 : Int32)) (Or.inr (by decide))).trans e13
              have f_152 := (rd_ne hs (k := 124) (j := 0) (.int (0 : Int32)) (Or.inr (by decide))).trans e15
              have f_153 := (rd_ne hs (k := 124) (j := 0) (.int (0 : Int32)) (Or.inr (by decide))).trans e14
              have f_154 := rd_same (j := 0) (v := .int (0 : Int32)) rw0.1
              have fr_155 := hfr0.wr (k := 124) (j := 0) (.int (0 : Int32)) (by unfold WR0; omega)
              clear hTo hW hPa hT hF hG e0 e6 e10 e11 e12 e13 e15 e14
              generalize (wr hs 124 0 (.int (0 : Int32))) = hs_156 at *
              refine g_loadA act (gx gp_272 (w := 0x2b03) rfl (by decide) rfl) (a := 0) (n := 43) rfl rfl rfl ?_
              refine g_constI act (gx gp_272 (w := 0x40000013400000131000000002d01) rfl (by decide) rfl) (n := 45) (x := (38 : Int32)) (by decide) rfl ?_
              refine g_loadI act (gx gp_272 (w := 0x1002e02) rfl (by decide) rfl) (a := 1) (n := 46) rfl rfl rfl ?_
              refine n_call tb_pres act hEnd (gx (P := G_call) gp_272 (w := 0xa000000000000c10330000bb00310f) rfl (by decide) rfl) (d' := D_187) rfl (as := [.ref 124, .int (38 : Int32), .int i1]) (rest := []) (br_ch0 rw_139 f_141 f_142 f_147 hp9 (by omega) f_154 (show (38 : Int32).toInt = ((38 : Nat) : Int) from by decide) (by omega) (rfl : Int32.toInt i1 = _)) (show (3 : Nat) = fb 0xa000000000000c10330000bb00310f % 16 by decide) (by show (3 : Nat) ≤ 4; decide) (fun _ => ⟨_, _, rfl, _, shp_at rw_139.1, Or.inr (show fb 0xa000000000000c10330000bb00310f >>> 68 = 10 by decide)⟩) (by omega) (by show 8 + (4 + 11) + 21 ≤ R.locals; omega) (by show (0 : Nat) ≤ 8; decide) (by show kc + 0 ≤ _; omega) (by show ks + 0 ≤ _; omega) (fun r9 hs_c157 hpo hr9 => ?_) (fun x9 hs9 hx9 hpo => ?_)
              · obtain ⟨-, ⟨rv_c157, rfl⟩, pv_c157, np_c157, p9_c157, hPa_c157, e6_c157, hp_c157, hq_c157, hr_c157, hW_c157, fr_c157⟩ := hpo
                have rw_158 := rw_139.fr fr_c157 WCh_rw
                have f_159 := f_140.fr (fun j9 _ => fr_c157.2.2 125 j9 (by unfold WCh; omega))
                have f_160 := f_143.fr (fun j9 _ => fr_c157.2.2 130 j9 (by unfold WCh; omega))
                have f_161 := f_144.fr (fun j9 _ => fr_c157.2.2 126 j9 (by unfold WCh; omega))
                have f_162 := f_145.fr (fun j9 _ => fr_c157.2.2 128 j9 (by unfold WCh; omega))
                have f_163 := rd_fr fr_c157 f_148 (by unfold WCh; omega)
                have f_164 := rd_fr fr_c157 f_149 (by unfold WCh; omega)
                have f_165 := rd_fr fr_c157 f_150 (by unfold WCh; omega)
                have f_166 := rd_fr fr_c157 f_151 (by unfold WCh; omega)
                have f_167 := rd_fr fr_c157 f_152 (by unfold WCh; omega)
                have f_168 := rd_fr fr_c157 f_153 (by unfold WCh; omega)
                have f_169 := rd_fr fr_c157 f_154 (by unfold WCh; omega)
                have fr_170 := fr_155.tr (fr_c157.mono (fun k9 j9 h9 => by unfold WCh at h9; unfold WR0; omega))
                clear rw_139 f_140 f_141 f_142 f_143 f_144 f_145 f_147 f_148 f_149 f_150 f_151 f_152 f_153 f_154 fr_155
                show WpN (gp g0 wp) CLS p l e R s m args below meth c Q D_272.2.2.1 kc0 ks0 49 [some (.ref 124), some (.int i1)] (hs_c157, kc, ks) [.int rv_c157]
                exact g_retI hEnd (gx gp_272 (w := 0x2f) rfl (by decide) rfl) ⟨rfl, ⟨_, rfl⟩, ⟨tl, (upI wl 38 (Int32.toInt i1)), pv_c157, nl, n, ng, nr, np_c157, ⟨rw_158, f_159, hW_c157⟩, hPa_c157, ⟨_, e6_c157, hp_c157⟩, by omega, (hNW.out (Or.inr ⟨by omega, by omega, (hcn_120.resolve_left (by omega)).2⟩)), (hr_c157.nw hNW hPN), hM.frw fr_170 ⟨_, f_169, by have w9 := (show (0 : Int32).toInt = ((0 : Nat) : Int) from by decide); omega, by have w9 := (show (0 : Int32).toInt = ((0 : Nat) : Int) from by decide); omega⟩, ⟨⟨_, f_160⟩, ⟨_, f_163, (hL9).trans (by omega)⟩, by omega, by omega, ⟨_, f_164⟩, ⟨_, f_165⟩, ⟨_, f_166⟩, ⟨_, f_167⟩, ⟨_, f_168, by have w9 := (rfl : Int32.toInt b9 = _); omega, by have w9 := (rfl : Int32.toInt b9 = _); omega⟩, ⟨_, f_161⟩, ⟨_, f_162⟩⟩⟩, fr_170⟩ hk1 hk2
              · exact absurd hpo.1 (by omega)
          · exact absurd hpo.1 (by omega)
      · simp only [i_eq, i0] at h27
        refine g_constI act (gx gp_272 (w := 0x40000000c00000009000000000f01) rfl (by decide) rfl) (n := 15) (x := (1 : Int32)) (by decide) rfl ?_
        refine g_goto act (gx gp_272 (w := 0x2707) rfl (by decide) rfl) (n := 39) rfl ?_
        refine r_putf act (gx gp_272 (w := 0x9002a13) rfl (by decide) rfl) (n := 42) (ci := 9) (j := 0) (N := 39) rfl rfl rfl rw0.1 (by decide) (Or.inl ⟨rfl, _, rfl⟩) ?_
        have rw_171 := RW.wr (k := 124) (j := 0) (v := .int (1 : Int32)) rw0 (Or.inr (by decide))
        have f_172 := hTo.ne (k := 124) (j := 0) (v := .int (1 : Int32)) (by decide)
        have f_173 := hW.ne (k := 124) (j := 0) (v := .int (1 : Int32)) (by decide)
        have f_174 := hPa.ne (k := 124) (j := 0) (v := .int (1 : Int32)) (by decide)
        have f_175 := hT.ne (k := 124) (j := 0) (v := .int (1 : Int32)) (by decide)
        have f_176 := hF.ne (k := 124) (j := 0) (v := .int (1 : Int32)) (by decide)
        have f_177 := hG.ne (k := 124) (j := 0) (v := .int (1 : Int32)) (by decide)
        have f_179 := (rd_ne hs (k := 124) (j := 0) (.int (1 : Int32)) (Or.inr (by decide))).trans e6
        have f_180 := (rd_ne hs (k := 124) (j := 0) (.int (1 : Int32)) (Or.inr (by decide))).trans e10
        have f_181 := (rd_ne hs (k := 124) (j := 0) (.int (1 : Int32)) (Or.inr (by decide))).trans e11
        have f_182 := (rd_ne hs (k := 124) (j := 0) (.int (1 : Int32)) (Or.inr (by decide))).trans e12
        have f_183 := (rd_ne hs (k := 124) (j := 0) (.int (1 : Int32)) (Or.inr (by decide))).trans e13
        have f_184 := (rd_ne hs (k := 124) (j := 0) (.int (1 : Int32)) (Or.inr (by decide))).trans e15
        have f_185 := (rd_ne hs (k := 124) (j := 0) (.int (1 : Int32)) (Or.inr (by decide))).trans e14
        have f_186 := rd_same (j := 0) (v := .int (1 : Int32)) rw0.1
        have fr_187 := hfr0.wr (k := 124) (j := 0) (.int (1 : Int32)) (by unfold WR0; omega)
        clear hTo hW hPa hT hF hG e0 e6 e10 e11 e12 e13 e15 e14
        generalize (wr hs 124 0 (.int (1 : Int32))) = hs_188 at *
        refine g_loadA act (gx gp_272 (w := 0x2b03) rfl (by decide) rfl) (a := 0) (n := 43) rfl rfl rfl ?_
        refine g_constI act (gx gp_272 (w := 0x40000013400000131000000002d01) rfl (by decide) rfl) (n := 45) (x := (38 : Int32)) (by decide) rfl ?_
        refine g_loadI act (gx gp_272 (w := 0x1002e02) rfl (by decide) rfl) (a := 1) (n := 46) rfl rfl rfl ?_
        refine n_call tb_pres act hEnd (gx (P := G_call) gp_272 (w := 0xa000000000000c10330000bb00310f) rfl (by decide) rfl) (d' := D_187) rfl (as := [.ref 124, .int (38 : Int32), .int i1]) (rest := []) (br_ch1 rw_171 f_186 (by decide)) (show (3 : Nat) = fb 0xa000000000000c10330000bb00310f % 16 by decide) (by show (3 : Nat) ≤ 4; decide) (fun _ => ⟨_, _, rfl, _, shp_at rw_171.1, Or.inr (show fb 0xa000000000000c10330000bb00310f >>> 68 = 10 by decide)⟩) (by omega) (by show 8 + (4 + 11) + 21 ≤ R.locals; omega) (by show (0 : Nat) ≤ 8; decide) (by show kc + 0 ≤ _; omega) (by show ks + 0 ≤ _; omega) (fun r9 h3 hpo hr9 => ?_) (fun x9 hs9 hx9 hpo => ?_)
        · obtain ⟨-, rfl, rfl⟩ := hpo
          show WpN (gp g0 wp) CLS p l e R s m args below meth c Q D_272.2.2.1 kc0 ks0 49 [some (.ref 124), some (.int i1)] (hs_188, kc, ks) [.int (0 : Int32)]
          exact g_retI hEnd (gx gp_272 (w := 0x2f) rfl (by decide) rfl) ⟨rfl, ⟨_, rfl⟩, ⟨tl, wl, pv, nl, n, ng, nr, np, ⟨rw_171, f_172, f_173⟩, f_174, ⟨_, f_179, hp9⟩, by omega, hNW, hPN, hM.frw fr_187 ⟨_, f_186, by have w9 := (show (1 : Int32).toInt = ((1 : Nat) : Int) from by decide); omega, by have w9 := (show (1 : Int32).toInt = ((1 : Nat) : Int) from by decide); omega⟩, ⟨⟨_, f_175⟩, ⟨_, f_180, (hL9).trans (by omega)⟩, by omega, by omega, ⟨_, f_181⟩, ⟨_, f_182⟩, ⟨_, f_183⟩, ⟨_, f_184⟩, ⟨_, f_185, by have w9 := (rfl : Int32.toInt b9 = _); omega, by have w9 := (rfl : Int32.toInt b9 = _); omega⟩, ⟨_, f_176⟩, ⟨_, f_177⟩⟩⟩, fr_187⟩ hk1 hk2
        · exact absurd hpo.1 (by omega)
    · exact absurd hpo.1 (by omega)

end PUB2

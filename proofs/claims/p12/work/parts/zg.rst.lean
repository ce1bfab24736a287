/-! The reference changes its numbers and takes changes back, exactly. -/
/-- the past with one more row -/
def PAdd (pv2 pv wl : Nat → Int) (np2 np : Nat) : Prop := (np = 10 ∧ np2 = 10 ∧ (∀ q, q < 351 → pv2 q = pv (q + 39)) ∧ ∀ q, q < 39 → pv2 (351 + q) = wl q) ∨ (np ≤ 9 ∧ np2 = np + 1 ∧ (∀ q, q < 39 * np → pv2 q = pv q) ∧ ∀ q, q < 39 → pv2 (39 * np + q) = wl q)
def PSh (pv0 pv : Nat → Int) (np0 np : Nat) : Prop := (np = 10 ∧ np0 = 9 ∧ ∀ q, q < 351 → pv0 q = pv (q + 39)) ∨ (np ≤ 9 ∧ np0 = np ∧ pv0 = pv)
theorem PAdd.fin {pj pv0 pv wl : Nat → Int} {np0 np : Nat} (h0 : PSh pv0 pv np0 np) (h1 : ∀ q, q < 39 * np0 → pj q = pv0 q) (h2 : ∀ q, q < 39 → pj (39 * np0 + q) = wl q) : PAdd pj pv wl (np0 + 1) np := by
  rcases h0 with ⟨a, rfl, b⟩ | ⟨a, rfl, rfl⟩
  · exact Or.inl ⟨a, rfl, fun q hq => (h1 q (by omega)).trans (b q hq), fun q hq => h2 q hq⟩
  · exact Or.inr ⟨a, rfl, h1, h2⟩
theorem PAdd.le {pv2 pv wl : Nat → Int} {np2 np : Nat} (h : PAdd pv2 pv wl np2 np) : 1 ≤ np2 ∧ np2 ≤ 10 := by
  rcases h with ⟨a, b, -⟩ | ⟨a, b, -⟩ <;> omega
/-- what setters may write -/
def WST (k j : Nat) : Prop := k = 127 ∨ k = 129 ∨ (k = 124 ∧ (j = 0 ∨ j = 6))
def WZ0 (k j : Nat) : Prop := k = 124 ∧ j = 0
theorem FrS.st0 {hs h2 : List CE} (f : FrS WZ0 hs h2) : FrS WST hs h2 := f.mono (fun k j h => by unfold WZ0 at h; unfold WST; omega)
theorem FrS.stR {hs h2 : List CE} (f : FrS WST hs h2) : FrS WR0 hs h2 := f.mono (fun k j h => by unfold WST at h; unfold WR0; omega)
/-- the reference's numbers between two calls -/
def MXS (hs : List CE) (tl wl pv : Nat → Int) (nl n ng nr np : Nat) : Prop := BM hs tl wl ∧ IArr hs 129 390 pv ∧ (∃ x : Int32, rd hs 124 6 = .int x ∧ x.toInt = (np : Int)) ∧ np ≤ 10 ∧ NWx tl wl nl n ng nr ∧ ModF hs
/-- the rows of the past may come back -/
def PNW (tl pv : Nat → Int) (nl n ng nr np : Nat) : Prop := ∀ i, i < np → NWx tl (fun j => pv (39 * i + j)) nl n ng nr
theorem PAdd.nw {tl pv2 pv wl : Nat → Int} {nl n ng nr np2 np : Nat} (h : PAdd pv2 pv wl np2 np) (hw : NWx tl wl nl n ng nr) (hp : PNW tl pv nl n ng nr np) : PNW tl pv2 nl n ng nr np2 := fun i hi => by
  rcases h with ⟨a, b, c, d⟩ | ⟨a, b, c, d⟩
  · by_cases q : i < 9
    · exact (hp (i + 1) (by omega)).cong (fun x hx => by rw [c _ (by omega)]; congr 1; omega)
    · obtain rfl : i = 9 := by omega
      exact hw.cong d
  · by_cases q : i < np
    · exact (hp i q).cong (fun x hx => c _ (by omega))
    · obtain rfl : i = np := by omega
      exact hw.cong d
theorem NWx.lim {tl wl : Nat → Int} {nl n ng nr i : Nat} {v : Int} (h : NWx tl wl nl n ng nr) (hi : i < 6) (h1 : 1 ≤ v) (h2 : v ≤ 200) : NWx tl (wLim wl i v) nl n ng nr := by
  unfold wLim
  split
  · exact (h.upd (Or.inl ⟨hi, h1, h2⟩)).upd (Or.inr (Or.inl ⟨by omega, by omega, by omega, by omega⟩))
  · exact h.upd (Or.inl ⟨hi, h1, h2⟩)
theorem wLim1 {w : Nat → Int} {i : Nat} {v : Int} (h : upI w i v (6 + i) < v) : upI (upI w i v) (6 + i) v = wLim w i v := by
  have e : upI w i v (6 + i) = w (6 + i) := by unfold upI; rw [if_neg (by omega)]
  rw [e] at h
  exact (if_pos h).symm
theorem wLim0 {w : Nat → Int} {i : Nat} {v : Int} (h : ¬ upI w i v (6 + i) < v) : upI w i v = wLim w i v := by
  have e : upI w i v (6 + i) = w (6 + i) := by unfold upI; rw [if_neg (by omega)]
  rw [e] at h
  exact (if_neg h).symm
/-- a setter's good end: r the answer, w2 what holds now -/
def SOk (hs h2 : List CE) (tl wl w2 pv : Nat → Int) (nl n ng nr np : Nat) (was : Int) (r : Option Value) : Prop := (∃ x : Int32, r = some (.int x) ∧ x.toInt = was) ∧ rd h2 124 0 = .int 0 ∧ FrS WST hs h2 ∧ ∃ (pv2 : Nat → Int) (np2 : Nat), PAdd pv2 pv wl np2 np ∧ MXS h2 tl w2 pv2 nl n ng nr np2
/-- a setter's bad end: c the throw -/
def SBad (hs h2 : List CE) (tl wl pv : Nat → Int) (nl n ng nr np : Nat) (c : Int32) (r : Option Value) : Prop := r = some (.int 0) ∧ rd h2 124 0 = .int c ∧ FrS WZ0 hs h2 ∧ MXS h2 tl wl pv nl n ng nr np
section PUBX
variable {g0 : GG} {bl : Nat} {xs : Nat → Int32} {l : Launch} {hs : List CE} {L : Int}

theorem bx_keeps {wl pv : Nat → Int} {np : Nat} {p9 : Int32} (rw0 : RW hs) (hW : IArr hs 127 39 wl) (hP : IArr hs 129 390 pv) (e6 : rd hs 124 6 = .int p9) (hp9 : p9.toInt = (np : Int)) (hp10 : np ≤ 10)  : BodyN SSX TBL g0 CLS bl xs l D_230 0 0 0 0 [.ref 124] hs (fun kd r h2 => kd = 0 ∧ r = none ∧ ∃ (pv2 : Nat → Int) (np2 : Nat) (x : Int32), IArr h2 129 390 pv2 ∧ rd h2 124 6 = .int x ∧ x.toInt = (np2 : Int) ∧ np2 ≤ 10 ∧ PAdd pv2 pv wl np2 np ∧ FrS WKp hs h2) := by
  intro wp p e R s m args below meth c Q kc0 ks0 kc ks act hf hl hc hsl hEnd
  have hf : 0 ≤ R.frames := hf
  have hl : 0 ≤ R.locals := hl
  have hk1 : kc ≤ kc + 0 := by omega
  have hk2 : ks ≤ ks + 0 := by omega
  have hfr0 := FrS.rf WKp hs
  have loop2 : ∀ (pv0 : Nat → Int) (np0 : Nat), np0 ≤ 9 → PSh pv0 pv np0 np → ∀ (hj : List CE) (pj : Nat → Int) (p6j kj : Int32) (k9 : Nat), RW hj → IArr hj 127 39 wl → IArr hj 129 390 pj → rd hj 124 6 = .int p6j → p6j.toInt = (np0 : Int) → kj.toInt = (k9 : Int) → k9 ≤ 39 → FrS WKp hs hj → (∀ q, q < 39 * np0 ∨ 39 * np0 + k9 ≤ q → q < 390 → pj q = pv0 q) → (∀ q, q < k9 → pj (39 * np0 + q) = wl q) → WpN (gp g0 wp) CLS p l e R s m args below meth c Q D_230.2.2.1 kc0 ks0 55 [some (.ref 124), some (.int kj)] (hj, kc, ks) [] := by
    intro pv0 np0 hn9 hrow hj pj p6j kj k9 rwj hWj hPj e6j hp6 hkj hk39 hfr hI1 hI2
    generalize hm : 39 - k9 = m9
    induction m9 using Nat.strongRecOn generalizing hj pj p6j kj k9 with
    | _ m9 ih =>
    subst hm
    refine g_loadI act (gx gp_230 (w := 0x1003802) rfl (by decide) rfl) (a := 1) (n := 56) rfl rfl rfl ?_
    refine g_constI act (gx gp_230 (w := 0x40000013c00000139000000003a01) rfl (by decide) rfl) (n := 58) (x := (39 : Int32)) (by decide) rfl ?_
    refine g_icmpGe act (gx gp_230 (w := 0x57003d08) rfl (by decide) rfl) (tgt := 87) (n := 61) rfl rfl (fun h3 => ?_) (fun h3 => ?_)
    · simp only [i_le, show (39 : Int32).toInt = 39 from by decide] at h3
      refine g_loadA act (gx gp_230 (w := 0x5803) rfl (by decide) rfl) (a := 0) (n := 88) rfl rfl rfl ?_
      refine g_dup act (gx gp_230 (w := 0x5922) rfl (by decide) rfl) (n := 89) rfl rfl ?_
      refine r_getf act (gx gp_230 (w := 0x189005c04) rfl (by decide) rfl) (n := 92) (ci := 9) (j := 6) (N := 39) rfl rfl rfl rwj.1 (by decide) (v := .int p6j) e6j ?_
      refine g_constI act (gx gp_230 (w := 0x40000000c00000009000000005d01) rfl (by decide) rfl) (n := 93) (x := (1 : Int32)) (by decide) rfl ?_
      refine g_iadd act (gx gp_230 (w := 0x5e0a) rfl (by decide) rfl) (n := 94) rfl ?_
      have v_1 := iv_addN hp6 (show (1 : Int32).toInt = ((1 : Nat) : Int) from by decide) (show (np0 + 1) < 2147483648 by omega)
      refine r_putf act (gx gp_230 (w := 0x189006113) rfl (by decide) rfl) (n := 97) (ci := 9) (j := 6) (N := 39) rfl rfl rfl rwj.1 (by decide) (Or.inl ⟨rfl, _, rfl⟩) ?_
      have rw_2 := RW.wr (k := 124) (j := 6) (v := .int (p6j + (1 : Int32))) rwj (Or.inr (by decide))
      have f_3 := hWj.ne (k := 124) (j := 6) (v := .int (p6j + (1 : Int32))) (by decide)
      have f_4 := hPj.ne (k := 124) (j := 6) (v := .int (p6j + (1 : Int32))) (by decide)
      have f_6 := rd_same (j := 6) (v := .int (p6j + (1 : Int32))) rwj.1
      have fr_7 := hfr.wr (k := 124) (j := 6) (.int (p6j + (1 : Int32))) (by unfold WKp; omega)
      clear rwj hfr hWj hPj e6j
      generalize (wr hj 124 6 (.int (p6j + (1 : Int32)))) = hs_8 at *
      exact g_retV hEnd (gx gp_230 (w := 0x18) rfl (by decide) rfl) ⟨rfl, rfl, _, np0 + 1, _, f_4, f_6, v_1, by omega, PAdd.fin hrow (fun q hq => hI1 q (Or.inl hq) (by omega)) (fun q hq => hI2 q (by omega)), fr_7⟩ hk1 hk2
    · simp only [i_le, show (39 : Int32).toInt = 39 from by decide] at h3
      refine g_loadA act (gx gp_230 (w := 0x3e03) rfl (by decide) rfl) (a := 0) (n := 62) rfl rfl rfl ?_
      refine r_getf act (gx gp_230 (w := 0x3000149004104) rfl (by decide) rfl) (n := 65) (ci := 9) (j := 5) (N := 39) rfl rfl rfl rwj.1 (by decide) (rwj.2 (5, 129, 32, 390) (by decide)).1 ?_
      refine g_constI act (gx gp_230 (w := 0x40000013c00000139000000004301) rfl (by decide) rfl) (n := 67) (x := (39 : Int32)) (by decide) rfl ?_
      refine g_loadA act (gx gp_230 (w := 0x4403) rfl (by decide) rfl) (a := 0) (n := 68) rfl rfl rfl ?_
      refine r_getf act (gx gp_230 (w := 0x189004704) rfl (by decide) rfl) (n := 71) (ci := 9) (j := 6) (N := 39) rfl rfl rfl rwj.1 (by decide) (v := .int p6j) e6j ?_
      refine g_imul act (gx gp_230 (w := 0x4811) rfl (by decide) rfl) (n := 72) rfl ?_
      have v_9 := iv_mulN (show (39 : Int32).toInt = ((39 : Nat) : Int) from by decide) hp6 (show (39 * np0) < 2147483648 by omega)
      refine g_loadI act (gx gp_230 (w := 0x1004902) rfl (by decide) rfl) (a := 1) (n := 73) rfl rfl rfl ?_
      refine g_iadd act (gx gp_230 (w := 0x4a0a) rfl (by decide) rfl) (n := 74) rfl ?_
      have v_10 := iv_addN v_9 hkj (show ((39 * np0) + k9) < 2147483648 by omega)
      refine g_loadA act (gx gp_230 (w := 0x4b03) rfl (by decide) rfl) (a := 0) (n := 75) rfl rfl rfl ?_
      refine r_getf act (gx gp_230 (w := 0x30000c9004e04) rfl (by decide) rfl) (n := 78) (ci := 9) (j := 3) (N := 39) rfl rfl rfl rwj.1 (by decide) (rwj.2 (3, 127, 32, 39) (by decide)).1 ?_
      refine g_loadI act (gx gp_230 (w := 0x1004f02) rfl (by decide) rfl) (a := 1) (n := 79) rfl rfl rfl ?_
      obtain ⟨x_11, e_12, hx_13⟩ := hWj k9 (by omega)
      refine r_iald act (gx gp_230 (w := 0x501a) rfl (by decide) rfl) (n := 80) (j := k9) rfl (rwj.2 (3, 127, 32, 39) (by decide)).2 hkj (show k9 < 39 by omega) (v := .int x_11) e_12 ?_
      refine r_iast act (gx gp_230 (w := 0x5124) rfl (by decide) rfl) (n := 81) (j := ((39 * np0) + k9)) rfl (rwj.2 (5, 129, 32, 390) (by decide)).2 v_10 (show ((39 * np0) + k9) < 390 by omega) ?_
      have rw_14 := RW.wr (k := 129) (j := ((39 * np0) + k9)) (v := .int x_11) rwj (Or.inl (by decide))
      have f_15 := hWj.ne (k := 129) (j := ((39 * np0) + k9)) (v := .int x_11) (by decide)
      have f_16 := hPj.put (j := ((39 * np0) + k9)) (rwj.2 (5, 129, 32, 390) (by decide)).2 hx_13
      have f_17 := (rd_ne hj (k := 129) (j := ((39 * np0) + k9)) (.int x_11) (Or.inl (by decide))).trans e6j
      have fr_18 := hfr.wr (k := 129) (j := ((39 * np0) + k9)) (.int x_11) (by unfold WKp; omega)
      clear rwj hfr hWj hPj e6j
      generalize (wr hj 129 ((39 * np0) + k9) (.int x_11)) = hs_19 at *
      refine g_iinc act (gx gp_230 (w := 0x80000001000001005409) rfl (by decide) rfl) (a := 1) (i := (1 : Int32)) (n := 84) rfl (by decide) rfl rfl (L2 := [some (.ref 124), some (.int (kj + (1 : Int32)))]) rfl ?_
      have v_20 := iv_addN hkj (show (1 : Int32).toInt = ((1 : Nat) : Int) from by decide) (show (k9 + 1) < 2147483648 by omega)
      refine g_goto act (gx gp_230 (w := 0x3707) rfl (by decide) rfl) (n := 55) rfl ?_
      exact ih _ (by omega) _ (upI pj ((39 * np0) + k9) (wl k9)) _ _ (k9 + 1) rw_14 f_15 f_16 f_17 hp6 v_20 (by omega) fr_18 (fun q h1 h2 => by have w9 := hI1 q (by omega) h2; simp only [upI]; omega) (fun q hq => by
        by_cases e9 : q = k9
        · subst e9; simp only [upI, ↓reduceIte]
        · have w9 := hI2 q (by omega); simp only [upI]; omega) rfl
  have loop1 : np = 10 → ∀ (hj : List CE) (pj : Nat → Int) (p6j kj : Int32) (k9 : Nat), RW hj → IArr hj 127 39 wl → IArr hj 129 390 pj → rd hj 124 6 = .int p6j → p6j.toInt = ((9 : Nat) : Int) → kj.toInt = (k9 : Int) → k9 ≤ 351 → FrS WKp hs hj → (∀ q, q < k9 → pj q = pv (q + 39)) → (∀ q, k9 ≤ q → q < 390 → pj q = pv q) → WpN (gp g0 wp) CLS p l e R s m args below meth c Q D_230.2.2.1 kc0 ks0 21 [some (.ref 124), some (.int kj)] (hj, kc, ks) [] := by
    intro hn10 hj pj p6j kj k9 rwj hWj hPj e6j hp6 hkj hk39 hfr hI1 hI2
    generalize hm : 351 - k9 = m9
    induction m9 using Nat.strongRecOn generalizing hj pj p6j kj k9 with
    | _ m9 ih =>
    subst hm
    refine g_loadI act (gx gp_230 (w := 0x1001602) rfl (by decide) rfl) (a := 1) (n := 22) rfl rfl rfl ?_
    refine g_loadA act (gx gp_230 (w := 0x1703) rfl (by decide) rfl) (a := 0) (n := 23) rfl rfl rfl ?_
    refine r_getf act (gx gp_230 (w := 0x189001a04) rfl (by decide) rfl) (n := 26) (ci := 9) (j := 6) (N := 39) rfl rfl rfl rwj.1 (by decide) (v := .int p6j) e6j ?_
    refine g_constI act (gx gp_230 (w := 0x40000013c00000139000000001c01) rfl (by decide) rfl) (n := 28) (x := (39 : Int32)) (by decide) rfl ?_
    refine g_imul act (gx gp_230 (w := 0x1d11) rfl (by decide) rfl) (n := 29) rfl ?_
    have v_21 := iv_mulN hp6 (show (39 : Int32).toInt = ((39 : Nat) : Int) from by decide) (show (9 * 39) < 2147483648 by omega)
    refine g_icmpGe act (gx gp_230 (w := 0x35002008) rfl (by decide) rfl) (tgt := 53) (n := 32) rfl rfl (fun h4 => ?_) (fun h4 => ?_)
    · simp only [i_le, show (39 : Int32).toInt = 39 from by decide] at h4
      refine g_constI act (gx gp_230 (w := 0x40000000400000001000000003601) rfl (by decide) rfl) (n := 54) (x := (0 : Int32)) (by decide) rfl ?_
      refine g_storeI act (gx gp_230 (w := 0x1003710) rfl (by decide) rfl) (a := 1) (n := 55) rfl rfl (L2 := [some (.ref 124), some (.int (0 : Int32))]) rfl ?_
      exact loop2 pj 9 (by decide) (Or.inl ⟨hn10, rfl, fun q hq => hI1 q (by omega)⟩) _ _ _ _ 0 rwj hWj hPj e6j hp6 (show (0 : Int32).toInt = ((0 : Nat) : Int) from by decide) (by decide) hfr (fun _ _ _ => rfl) (fun q hq => absurd hq (Nat.not_lt_zero _))
    · simp only [i_le, show (39 : Int32).toInt = 39 from by decide] at h4
      refine g_loadA act (gx gp_230 (w := 0x2103) rfl (by decide) rfl) (a := 0) (n := 33) rfl rfl rfl ?_
      refine r_getf act (gx gp_230 (w := 0x3000149002404) rfl (by decide) rfl) (n := 36) (ci := 9) (j := 5) (N := 39) rfl rfl rfl rwj.1 (by decide) (rwj.2 (5, 129, 32, 390) (by decide)).1 ?_
      refine g_loadI act (gx gp_230 (w := 0x1002502) rfl (by decide) rfl) (a := 1) (n := 37) rfl rfl rfl ?_
      refine g_loadA act (gx gp_230 (w := 0x2603) rfl (by decide) rfl) (a := 0) (n := 38) rfl rfl rfl ?_
      refine r_getf act (gx gp_230 (w := 0x3000149002904) rfl (by decide) rfl) (n := 41) (ci := 9) (j := 5) (N := 39) rfl rfl rfl rwj.1 (by decide) (rwj.2 (5, 129, 32, 390) (by decide)).1 ?_
      refine g_loadI act (gx gp_230 (w := 0x1002a02) rfl (by decide) rfl) (a := 1) (n := 42) rfl rfl rfl ?_
      refine g_constI act (gx gp_230 (w := 0x40000013c00000139000000002c01) rfl (by decide) rfl) (n := 44) (x := (39 : Int32)) (by decide) rfl ?_
      refine g_iadd act (gx gp_230 (w := 0x2d0a) rfl (by decide) rfl) (n := 45) rfl ?_
      have v_22 := iv_addN hkj (show (39 : Int32).toInt = ((39 : Nat) : Int) from by decide) (show (k9 + 39) < 2147483648 by omega)
      obtain ⟨x_23, e_24, hx_25⟩ := hPj (k9 + 39) (by omega)
      refine r_iald act (gx gp_230 (w := 0x2e1a) rfl (by decide) rfl) (n := 46) (j := (k9 + 39)) rfl (rwj.2 (5, 129, 32, 390) (by decide)).2 v_22 (show (k9 + 39) < 390 by omega) (v := .int x_23) e_24 ?_
      refine r_iast act (gx gp_230 (w := 0x2f24) rfl (by decide) rfl) (n := 47) (j := k9) rfl (rwj.2 (5, 129, 32, 390) (by decide)).2 hkj (show k9 < 390 by omega) ?_
      have rw_26 := RW.wr (k := 129) (j := k9) (v := .int x_23) rwj (Or.inl (by decide))
      have f_27 := hWj.ne (k := 129) (j := k9) (v := .int x_23) (by decide)
      have f_28 := hPj.put (j := k9) (rwj.2 (5, 129, 32, 390) (by decide)).2 hx_25
      have f_29 := (rd_ne hj (k := 129) (j := k9) (.int x_23) (Or.inl (by decide))).trans e6j
      have fr_30 := hfr.wr (k := 129) (j := k9) (.int x_23) (by unfold WKp; omega)
      clear rwj hfr hWj hPj e6j
      generalize (wr hj 129 k9 (.int x_23)) = hs_31 at *
      refine g_iinc act (gx gp_230 (w := 0x80000001000001003209) rfl (by decide) rfl) (a := 1) (i := (1 : Int32)) (n := 50) rfl (by decide) rfl rfl (L2 := [some (.ref 124), some (.int (kj + (1 : Int32)))]) rfl ?_
      have v_32 := iv_addN hkj (show (1 : Int32).toInt = ((1 : Nat) : Int) from by decide) (show (k9 + 1) < 2147483648 by omega)
      refine g_goto act (gx gp_230 (w := 0x1507) rfl (by decide) rfl) (n := 21) rfl ?_
      exact ih _ (by omega) _ (upI pj k9 (pj (k9 + 39))) _ _ (k9 + 1) rw_26 f_27 f_28 f_29 hp6 v_32 (by omega) fr_30 (fun q hq => by
        by_cases e9 : q = k9
        · subst e9; have w9 := hI2 (q + 39) (by omega) (by omega); simp only [upI, ↓reduceIte]; omega
        · have w9 := hI1 q (by omega); simp only [upI]; omega) (fun q h1 h2 => by have w9 := hI2 q (by omega) h2; simp only [upI]; omega) rfl
  show WpN (gp g0 wp) CLS p l e R s m args below meth c Q D_230.2.2.1 kc0 ks0 0 [some (.ref 124), none] (hs, kc, ks) []
  refine g_loadA act (gx gp_230 (w := 0x103) rfl (by decide) rfl) (a := 0) (n := 1) rfl rfl rfl ?_
  refine r_getf act (gx gp_230 (w := 0x189000404) rfl (by decide) rfl) (n := 4) (ci := 9) (j := 6) (N := 39) rfl rfl rfl rw0.1 (by decide) (v := .int p9) e6 ?_
  refine g_constI act (gx gp_230 (w := 0x40000005400000051000000000601) rfl (by decide) rfl) (n := 6) (x := (10 : Int32)) (by decide) rfl ?_
  refine g_icmpNe act (gx gp_230 (w := 0x35000921) rfl (by decide) rfl) (tgt := 53) (n := 9) rfl rfl (fun h3 => ?_) (fun h3 => ?_)
  · simp only [i_eq, show (10 : Int32).toInt = 10 from by decide] at h3
    refine g_constI act (gx gp_230 (w := 0x40000000400000001000000003601) rfl (by decide) rfl) (n := 54) (x := (0 : Int32)) (by decide) rfl ?_
    refine g_storeI act (gx gp_230 (w := 0x1003710) rfl (by decide) rfl) (a := 1) (n := 55) rfl rfl (L2 := [some (.ref 124), some (.int (0 : Int32))]) rfl ?_
    exact loop2 pv np (by omega) (Or.inr ⟨by omega, rfl, rfl⟩) _ _ _ _ 0 rw0 hW hP e6 hp9 (show (0 : Int32).toInt = ((0 : Nat) : Int) from by decide) (by decide) hfr0 (fun _ _ _ => rfl) (fun q hq => absurd hq (Nat.not_lt_zero _))
  · simp only [i_eq, show (10 : Int32).toInt = 10 from by decide] at h3
    refine g_loadA act (gx gp_230 (w := 0xa03) rfl (by decide) rfl) (a := 0) (n := 10) rfl rfl rfl ?_
    refine g_dup act (gx gp_230 (w := 0xb22) rfl (by decide) rfl) (n := 11) rfl rfl ?_
    refine r_getf act (gx gp_230 (w := 0x189000e04) rfl (by decide) rfl) (n := 14) (ci := 9) (j := 6) (N := 39) rfl rfl rfl rw0.1 (by decide) (v := .int p9) e6 ?_
    refine g_constI act (gx gp_230 (w := 0x40000000c00000009000000000f01) rfl (by decide) rfl) (n := 15) (x := (1 : Int32)) (by decide) rfl ?_
    refine g_isub act (gx gp_230 (w := 0x1026) rfl (by decide) rfl) (n := 16) rfl ?_
    have v_33 := iv_subN hp9 (show (1 : Int32).toInt = ((1 : Nat) : Int) from by decide) (show 1 ≤ np by omega)
    refine r_putf act (gx gp_230 (w := 0x189001313) rfl (by decide) rfl) (n := 19) (ci := 9) (j := 6) (N := 39) rfl rfl rfl rw0.1 (by decide) (Or.inl ⟨rfl, _, rfl⟩) ?_
    have rw_34 := RW.wr (k := 124) (j := 6) (v := .int (p9 - (1 : Int32))) rw0 (Or.inr (by decide))
    have f_35 := hW.ne (k := 124) (j := 6) (v := .int (p9 - (1 : Int32))) (by decide)
    have f_36 := hP.ne (k := 124) (j := 6) (v := .int (p9 - (1 : Int32))) (by decide)
    have f_38 := rd_same (j := 6) (v := .int (p9 - (1 : Int32))) rw0.1
    have fr_39 := hfr0.wr (k := 124) (j := 6) (.int (p9 - (1 : Int32))) (by unfold WKp; omega)
    clear hW hP e6
    generalize (wr hs 124 6 (.int (p9 - (1 : Int32)))) = hs_40 at *
    refine g_constI act (gx gp_230 (w := 0x40000000400000001000000001401) rfl (by decide) rfl) (n := 20) (x := (0 : Int32)) (by decide) rfl ?_
    refine g_storeI act (gx gp_230 (w := 0x1001510) rfl (by decide) rfl) (a := 1) (n := 21) rfl rfl (L2 := [some (.ref 124), some (.int (0 : Int32))]) rfl ?_
    exact loop1 (by omega) _ _ _ _ 0 rw_34 f_35 f_36 f_38 ((v_33).trans (by omega)) (show (0 : Int32).toInt = ((0 : Nat) : Int) from by decide) (by decide) fr_39 (fun q hq => absurd hq (Nat.not_lt_zero _)) (fun _ _ _ => rfl)

theorem bx_ch0 {wl pv : Nat → Int} {np : Nat} {p9 : Int32} (rw0 : RW hs) (hW : IArr hs 127 39 wl) (hP : IArr hs 129 390 pv) (e6 : rd hs 124 6 = .int p9) (hp9 : p9.toInt = (np : Int)) (hp10 : np ≤ 10) {ii xi : Int32} {i9 : Nat} {X : Int} (e0 : rd hs 124 0 = .int (0 : Int32)) (hiv : ii.toInt = (i9 : Int)) (hi39 : i9 < 39) (hX : xi.toInt = X) : BodyN SSX TBL g0 CLS bl xs l D_187 1 21 0 0 [.ref 124, .int ii, .int xi] hs (fun kd r h2 => kd = 0 ∧ (∃ x : Int32, r = some (.int x) ∧ x.toInt = wl i9) ∧ ∃ (pv2 : Nat → Int) (np2 : Nat) (x : Int32), IArr h2 129 390 pv2 ∧ rd h2 124 6 = .int x ∧ x.toInt = (np2 : Int) ∧ np2 ≤ 10 ∧ PAdd pv2 pv wl np2 np ∧ IArr h2 127 39 (upI wl i9 X) ∧ FrS WCh hs h2) := by
  intro wp p e R s m args below meth c Q kc0 ks0 kc ks act hf hl hc hsl hEnd
  have hf : 1 ≤ R.frames := hf
  have hl : 21 ≤ R.locals := hl
  have hk1 : kc ≤ kc + 0 := by omega
  have hk2 : ks ≤ ks + 0 := by omega
  have hfr0 := FrS.rf WCh hs
  show WpN (gp g0 wp) CLS p l e R s m args below meth c Q D_187.2.2.1 kc0 ks0 0 [some (.ref 124), some (.int ii), some (.int xi), none] (hs, kc, ks) []
  refine g_loadA act (gx gp_187 (w := 0x103) rfl (by decide) rfl) (a := 0) (n := 1) rfl rfl rfl ?_
  refine r_getf act (gx gp_187 (w := 0x9000404) rfl (by decide) rfl) (n := 4) (ci := 9) (j := 0) (N := 39) rfl rfl rfl rw0.1 (by decide) (v := .int (0 : Int32)) e0 ?_
  refine g_ifLe act (gx gp_187 (w := 0x900073d) rfl (by decide) rfl) (tgt := 9) (n := 7) rfl rfl (fun _ => ?_) (fun q => absurd (by decide) q)
  refine g_loadA act (gx gp_187 (w := 0xa03) rfl (by decide) rfl) (a := 0) (n := 10) rfl rfl rfl ?_
  refine n_call tb_pres act hEnd (gx (P := G_call) gp_187 (w := 0xa000000000000808110000e6000d0f) rfl (by decide) rfl) (d' := D_230) rfl (as := [.ref 124]) (rest := []) (bx_keeps rw0 hW hP e6 hp9 (by omega)) (show (1 : Nat) = fb 0xa000000000000808110000e6000d0f % 16 by decide) (by show (1 : Nat) ≤ 2; decide) (fun _ => ⟨_, _, rfl, _, shp_at rw0.1, Or.inr (show fb 0xa000000000000808110000e6000d0f >>> 68 = 10 by decide)⟩) (by omega) (by show 8 + (2 + 11) + 0 ≤ R.locals; omega) (by show (0 : Nat) ≤ 8; decide) (by show kc + 0 ≤ _; omega) (by show ks + 0 ≤ _; omega) (fun r9 hs_c1 hpo hr9 => ?_) (fun x9 hs9 hx9 hpo => ?_)
  · obtain rfl : r9 = none := hr9.elim (fun q => q.2) (fun q => absurd rfl q.1)
    obtain ⟨-, -, pv_c1, np_c1, p9_c1, hPa_c1, e6_c1, hp_c1, hq_c1, hr_c1, fr_c1⟩ := hpo
    have rw_2 := rw0.fr fr_c1 WKp_rw
    have f_3 := hW.fr (fun j9 _ => fr_c1.2.2 127 j9 (by unfold WKp; omega))
    have f_4 := rd_fr fr_c1 e0 (by unfold WKp; omega)
    have fr_5 := hfr0.tr (fr_c1.mono (fun k9 j9 h9 => by unfold WKp at h9; unfold WCh; omega))
    clear hW hP e6 e0
    show WpN (gp g0 wp) CLS p l e R s m args below meth c Q D_187.2.2.1 kc0 ks0 13 [some (.ref 124), some (.int ii), some (.int xi), none] (hs_c1, kc, ks) []
    refine g_loadA act (gx gp_187 (w := 0xe03) rfl (by decide) rfl) (a := 0) (n := 14) rfl rfl rfl ?_
    refine r_getf act (gx gp_187 (w := 0x30000c9001104) rfl (by decide) rfl) (n := 17) (ci := 9) (j := 3) (N := 39) rfl rfl rfl rw_2.1 (by decide) (rw_2.2 (3, 127, 32, 39) (by decide)).1 ?_
    refine g_loadI act (gx gp_187 (w := 0x1001202) rfl (by decide) rfl) (a := 1) (n := 18) rfl rfl rfl ?_
    obtain ⟨x_6, e_7, hx_8⟩ := f_3 i9 (by omega)
    refine r_iald act (gx gp_187 (w := 0x131a) rfl (by decide) rfl) (n := 19) (j := i9) rfl (rw_2.2 (3, 127, 32, 39) (by decide)).2 hiv (show i9 < 39 by omega) (v := .int x_6) e_7 ?_
    refine g_storeI act (gx gp_187 (w := 0x3001410) rfl (by decide) rfl) (a := 3) (n := 20) rfl rfl (L2 := [some (.ref 124), some (.int ii), some (.int xi), some (.int x_6)]) rfl ?_
    refine g_loadA act (gx gp_187 (w := 0x1503) rfl (by decide) rfl) (a := 0) (n := 21) rfl rfl rfl ?_
    refine r_getf act (gx gp_187 (w := 0x30000c9001804) rfl (by decide) rfl) (n := 24) (ci := 9) (j := 3) (N := 39) rfl rfl rfl rw_2.1 (by decide) (rw_2.2 (3, 127, 32, 39) (by decide)).1 ?_
    refine g_loadI act (gx gp_187 (w := 0x1001902) rfl (by decide) rfl) (a := 1) (n := 25) rfl rfl rfl ?_
    refine g_loadI act (gx gp_187 (w := 0x2001a02) rfl (by decide) rfl) (a := 2) (n := 26) rfl rfl rfl ?_
    refine r_iast act (gx gp_187 (w := 0x1b24) rfl (by decide) rfl) (n := 27) (j := i9) rfl (rw_2.2 (3, 127, 32, 39) (by decide)).2 hiv (show i9 < 39 by omega) ?_
    have rw_9 := RW.wr (k := 127) (j := i9) (v := .int xi) rw_2 (Or.inl (by decide))
    have f_10 := f_3.put (j := i9) (rw_2.2 (3, 127, 32, 39) (by decide)).2 hX
    have f_11 := (rd_ne hs_c1 (k := 127) (j := i9) (.int xi) (Or.inl (by decide))).trans f_4
    have f_12 := hPa_c1.ne (k := 127) (j := i9) (v := .int xi) (by decide)
    have f_13 := (rd_ne hs_c1 (k := 127) (j := i9) (.int xi) (Or.inl (by decide))).trans e6_c1
    have fr_14 := fr_5.wr (k := 127) (j := i9) (.int xi) (by unfold WCh; omega)
    clear rw_2 fr_5 f_3 f_4 hPa_c1 e6_c1
    generalize (wr hs_c1 127 i9 (.int xi)) = hs_15 at *
    refine g_loadI act (gx gp_187 (w := 0x3001c02) rfl (by decide) rfl) (a := 3) (n := 28) rfl rfl rfl ?_
    exact g_retI hEnd (gx gp_187 (w := 0x2f) rfl (by decide) rfl) ⟨rfl, ⟨_, rfl, hx_8⟩, _, _, _, f_12, f_13, hp_c1, by omega, hr_c1, f_10, fr_14⟩ hk1 hk2
  · exact absurd hpo.1 (by omega)

theorem bx_setLimit {tl wl pv : Nat → Int} {nl n ng nr np : Nat} {i1 i2 : Int32} (hX0 : MXS hs tl wl pv nl n ng nr np) : BodyN SSX TBL g0 CLS bl xs l D_271 2 44 0 0 [.ref 124, .int i1, .int i2] hs (fun kd r h2 => kd = 0 ∧ ((((0 ≤ i1.toInt ∧ i1.toInt < (nl : Int)) ∧ (1 ≤ i2.toInt ∧ i2.toInt ≤ 200)) ∧ SOk hs h2 tl wl (wLim wl i1.toInt.toNat i2.toInt) pv nl n ng nr np (wl (i1.toInt.toNat)) r) ∨ (¬ (0 ≤ i1.toInt ∧ i1.toInt < (nl : Int)) ∧ SBad hs h2 tl wl pv nl n ng nr np 1 r) ∨ (((0 ≤ i1.toInt ∧ i1.toInt < (nl : Int)) ∧ ¬ (1 ≤ i2.toInt ∧ i2.toInt ≤ 200)) ∧ SBad hs h2 tl wl pv nl n ng nr np 2 r))) := by
  intro wp p e R s m args below meth c Q kc0 ks0 kc ks act hf hl hc hsl hEnd
  have hf : 2 ≤ R.frames := hf
  have hl : 44 ≤ R.locals := hl
  have hk1 : kc ≤ kc + 0 := by omega
  have hk2 : ks ≤ ks + 0 := by omega
  obtain ⟨⟨rw0, hTo, hW⟩, hPa, ⟨p9, e6, hp9⟩, hp10, hNW, hM⟩ := hX0
  obtain ⟨⟨x0, e0, hx0⟩, -⟩ := id hM
  have hN9 := hNW.1
  obtain ⟨n0, n1, n2, n3, n4, n5, n6, n7, n8, hG0, nL, nC, nP, nD⟩ := hN9
  have hGn := hG0.1
  have hGn3 := hG0.2.1
  have hGl := hG0.2.2.1
  have hfr0 := FrS.rf WST hs
  have hfr1 := FrS.rf WZ0 hs
  show WpN (gp g0 wp) CLS p l e R s m args below meth c Q D_271.2.2.1 kc0 ks0 0 [some (.ref 124), some (.int i1), some (.int i2), none] (hs, kc, ks) []
  refine g_loadA act (gx gp_271 (w := 0x103) rfl (by decide) rfl) (a := 0) (n := 1) rfl rfl rfl ?_
  refine g_loadA act (gx gp_271 (w := 0x203) rfl (by decide) rfl) (a := 0) (n := 2) rfl rfl rfl ?_
  refine g_loadI act (gx gp_271 (w := 0x1000302) rfl (by decide) rfl) (a := 1) (n := 3) rfl rfl rfl ?_
  refine n_call tb_pres act hEnd (gx (P := G_call) gp_271 (w := 0xa000000000000c08220000e200060f) rfl (by decide) rfl) (d' := D_226) rfl (as := [.ref 124, .int i1]) (rest := [.ref 124]) (b_isLine rw0 hTo (rfl : Int32.toInt i1 = _) (by omega) (by omega)) (show (2 : Nat) = fb 0xa000000000000c08220000e200060f % 16 by decide) (by show (2 : Nat) ≤ 2; decide) (fun _ => ⟨_, _, rfl, _, shp_at rw0.1, Or.inr (show fb 0xa000000000000c08220000e200060f >>> 68 = 10 by decide)⟩) (by omega) (by show 8 + (2 + 11) + 22 ≤ R.locals; omega) (by show (1 : Nat) ≤ 8; decide) (by show kc + 0 ≤ _; omega) (by show ks + 0 ≤ _; omega) (fun r9 h3 hpo hr9 => ?_) (fun x9 hs9 hx9 hpo => ?_)
  · obtain ⟨-, rfl, hin9⟩ := hpo
    obtain ⟨rv_1, rfl, hr_2⟩ := in1_x hin9
    show WpN (gp g0 wp) CLS p l e R s m args below meth c Q D_271.2.2.1 kc0 ks0 6 [some (.ref 124), some (.int i1), some (.int i2), none] (hs, kc, ks) [.int rv_1, .ref 124]
    refine g_ifNe act (gx gp_271 (w := 0xd00091d) rfl (by decide) rfl) (tgt := 13) (n := 9) rfl rfl (fun h4 => ?_) (fun h4 => ?_)
    · simp only [i_eq, i0] at h4
      refine g_loadI act (gx gp_271 (w := 0x2000e02) rfl (by decide) rfl) (a := 2) (n := 14) rfl rfl rfl ?_
      refine g_constI act (gx gp_271 (w := 0x40000000c00000009000000000f01) rfl (by decide) rfl) (n := 15) (x := (1 : Int32)) (by decide) rfl ?_
      refine g_constI act (gx gp_271 (w := 0x40000064400000641000000001201) rfl (by decide) rfl) (n := 18) (x := (200 : Int32)) (by decide) rfl ?_
      refine n_call tb_pres act hEnd (gx (P := G_call) gp_271 (w := 0x40c330000d900150f) rfl (by decide) rfl) (d' := D_217) rfl (as := [.int i2, .int (1 : Int32), .int (200 : Int32)]) (rest := [.ref 124]) (b_in (rfl : Int32.toInt i2 = _) (show (1 : Int32).toInt = ((1 : Nat) : Int) from by decide) (show (200 : Int32).toInt = ((200 : Nat) : Int) from by decide)) (show (3 : Nat) = fb 0x40c330000d900150f % 16 by decide) (by show (3 : Nat) ≤ 3; decide) (fun q => absurd q (by decide)) (by omega) (by show 8 + (3 + 11) + 0 ≤ R.locals; omega) (by show (1 : Nat) ≤ 8; decide) (by show kc + 0 ≤ _; omega) (by show ks + 0 ≤ _; omega) (fun r9 h3 hpo hr9 => ?_) (fun x9 hs9 hx9 hpo => ?_)
      · obtain ⟨-, rfl, hin9⟩ := hpo
        obtain ⟨rv_3, rfl, hr_4⟩ := in1_x hin9
        show WpN (gp g0 wp) CLS p l e R s m args below meth c Q D_271.2.2.1 kc0 ks0 21 [some (.ref 124), some (.int i1), some (.int i2), none] (hs, kc, ks) [.int rv_3, .ref 124]
        refine g_ifEq act (gx gp_271 (w := 0x1c00180e) rfl (by decide) rfl) (tgt := 28) (n := 24) rfl rfl (fun h8 => ?_) (fun h8 => ?_)
        · simp only [i_eq, i0] at h8
          refine g_constI act (gx gp_271 (w := 0x40000001400000011000000001d01) rfl (by decide) rfl) (n := 29) (x := (2 : Int32)) (by decide) rfl ?_
          refine r_putf act (gx gp_271 (w := 0x9002013) rfl (by decide) rfl) (n := 32) (ci := 9) (j := 0) (N := 39) rfl rfl rfl rw0.1 (by decide) (Or.inl ⟨rfl, _, rfl⟩) ?_
          have rw_5 := RW.wr (k := 124) (j := 0) (v := .int (2 : Int32)) rw0 (Or.inr (by decide))
          have f_6 := hTo.ne (k := 124) (j := 0) (v := .int (2 : Int32)) (by decide)
          have f_7 := hW.ne (k := 124) (j := 0) (v := .int (2 : Int32)) (by decide)
          have f_8 := hPa.ne (k := 124) (j := 0) (v := .int (2 : Int32)) (by decide)
          have f_10 := (rd_ne hs (k := 124) (j := 0) (.int (2 : Int32)) (Or.inr (by decide))).trans e6
          have f_11 := rd_same (j := 0) (v := .int (2 : Int32)) rw0.1
          have fr_12 := hfr0.wr (k := 124) (j := 0) (.int (2 : Int32)) (by unfold WST; omega)
          have fr_13 := hfr1.wr (k := 124) (j := 0) (.int (2 : Int32)) (by unfold WZ0; omega)
          clear hTo hW hPa e0 e6
          generalize (wr hs 124 0 (.int (2 : Int32))) = hs_14 at *
          refine g_loadA act (gx gp_271 (w := 0x2103) rfl (by decide) rfl) (a := 0) (n := 33) rfl rfl rfl ?_
          refine g_constI act (gx gp_271 (w := 0x40000000400000001000000002201) rfl (by decide) rfl) (n := 34) (x := (0 : Int32)) (by decide) rfl ?_
          refine g_loadI act (gx gp_271 (w := 0x1002302) rfl (by decide) rfl) (a := 1) (n := 35) rfl rfl rfl ?_
          refine g_iadd act (gx gp_271 (w := 0x240a) rfl (by decide) rfl) (n := 36) rfl ?_
          refine g_loadI act (gx gp_271 (w := 0x2002502) rfl (by decide) rfl) (a := 2) (n := 37) rfl rfl rfl ?_
          refine n_call tb_pres act hEnd (gx (P := G_call) gp_271 (w := 0xa000000000000c10330000bb00280f) rfl (by decide) rfl) (d' := D_187) rfl (as := [.ref 124, .int ((0 : Int32) + i1), .int i2]) (rest := []) (br_ch1 rw_5 f_11 (by decide)) (show (3 : Nat) = fb 0xa000000000000c10330000bb00280f % 16 by decide) (by show (3 : Nat) ≤ 4; decide) (fun _ => ⟨_, _, rfl, _, shp_at rw_5.1, Or.inr (show fb 0xa000000000000c10330000bb00280f >>> 68 = 10 by decide)⟩) (by omega) (by show 8 + (4 + 11) + 21 ≤ R.locals; omega) (by show (0 : Nat) ≤ 8; decide) (by show kc + 0 ≤ _; omega) (by show ks + 0 ≤ _; omega) (fun r9 h3 hpo hr9 => ?_) (fun x9 hs9 hx9 hpo => ?_)
          · obtain ⟨-, rfl, rfl⟩ := hpo
            show WpN (gp g0 wp) CLS p l e R s m args below meth c Q D_271.2.2.1 kc0 ks0 40 [some (.ref 124), some (.int i1), some (.int i2), none] (hs_14, kc, ks) [.int (0 : Int32)]
            refine g_storeI act (gx gp_271 (w := 0x3002910) rfl (by decide) rfl) (a := 3) (n := 41) rfl rfl (L2 := [some (.ref 124), some (.int i1), some (.int i2), some (.int (0 : Int32))]) rfl ?_
            refine g_loadA act (gx gp_271 (w := 0x2a03) rfl (by decide) rfl) (a := 0) (n := 42) rfl rfl rfl ?_
            refine r_getf act (gx gp_271 (w := 0x9002d04) rfl (by decide) rfl) (n := 45) (ci := 9) (j := 0) (N := 39) rfl rfl rfl rw_5.1 (by decide) (v := .int (2 : Int32)) f_11 ?_
            refine g_ifNe act (gx gp_271 (w := 0x4700301d) rfl (by decide) rfl) (tgt := 71) (n := 48) rfl rfl (fun _ => ?_) (fun q => absurd (by decide) q)
            refine g_loadI act (gx gp_271 (w := 0x3004802) rfl (by decide) rfl) (a := 3) (n := 72) rfl rfl rfl ?_
            exact g_retI hEnd (gx gp_271 (w := 0x2f) rfl (by decide) rfl) ⟨rfl, Or.inr (Or.inr (⟨(by omega), rfl, f_11, fr_13, ⟨⟨rw_5, f_6, f_7⟩, f_8, ⟨_, f_10, hp9⟩, by omega, hNW, hM.frw fr_13.st0.stR ⟨_, f_11, by have w9 := (show (2 : Int32).toInt = ((2 : Nat) : Int) from by decide); omega, by have w9 := (show (2 : Int32).toInt = ((2 : Nat) : Int) from by decide); omega⟩⟩⟩))⟩ hk1 hk2
          · exact absurd hpo.1 (by omega)
        · simp only [i_eq, i0] at h8
          refine g_constI act (gx gp_271 (w := 0x40000000400000001000000001901) rfl (by decide) rfl) (n := 25) (x := (0 : Int32)) (by decide) rfl ?_
          refine g_goto act (gx gp_271 (w := 0x1d07) rfl (by decide) rfl) (n := 29) rfl ?_
          refine r_putf act (gx gp_271 (w := 0x9002013) rfl (by decide) rfl) (n := 32) (ci := 9) (j := 0) (N := 39) rfl rfl rfl rw0.1 (by decide) (Or.inl ⟨rfl, _, rfl⟩) ?_
          have rw_15 := RW.wr (k := 124) (j := 0) (v := .int (0 : Int32)) rw0 (Or.inr (by decide))
          have f_16 := hTo.ne (k := 124) (j := 0) (v := .int (0 : Int32)) (by decide)
          have f_17 := hW.ne (k := 124) (j := 0) (v := .int (0 : Int32)) (by decide)
          have f_18 := hPa.ne (k := 124) (j := 0) (v := .int (0 : Int32)) (by decide)
          have f_20 := (rd_ne hs (k := 124) (j := 0) (.int (0 : Int32)) (Or.inr (by decide))).trans e6
          have f_21 := rd_same (j := 0) (v := .int (0 : Int32)) rw0.1
          have fr_22 := hfr0.wr (k := 124) (j := 0) (.int (0 : Int32)) (by unfold WST; omega)
          have fr_23 := hfr1.wr (k := 124) (j := 0) (.int (0 : Int32)) (by unfold WZ0; omega)
          clear hTo hW hPa e0 e6
          generalize (wr hs 124 0 (.int (0 : Int32))) = hs_24 at *
          refine g_loadA act (gx gp_271 (w := 0x2103) rfl (by decide) rfl) (a := 0) (n := 33) rfl rfl rfl ?_
          refine g_constI act (gx gp_271 (w := 0x40000000400000001000000002201) rfl (by decide) rfl) (n := 34) (x := (0 : Int32)) (by decide) rfl ?_
          refine g_loadI act (gx gp_271 (w := 0x1002302) rfl (by decide) rfl) (a := 1) (n := 35) rfl rfl rfl ?_
          refine g_iadd act (gx gp_271 (w := 0x240a) rfl (by decide) rfl) (n := 36) rfl ?_
          have v_25 := iv_add (show (0 : Int32).toInt = ((0 : Nat) : Int) from by decide) (rfl : Int32.toInt i1 = _) (show -2147483648 ≤ (((0 : Nat) : Int) + (Int32.toInt i1)) by omega) (show (((0 : Nat) : Int) + (Int32.toInt i1)) < 2147483648 by omega)
          refine g_loadI act (gx gp_271 (w := 0x2002502) rfl (by decide) rfl) (a := 2) (n := 37) rfl rfl rfl ?_
          obtain ⟨j_26, hj_27⟩ := Int.eq_ofNat_of_zero_le (show (0 : Int) ≤ (((0 : Nat) : Int) + (Int32.toInt i1)) by omega)
          refine n_call tb_pres act hEnd (gx (P := G_call) gp_271 (w := 0xa000000000000c10330000bb00280f) rfl (by decide) rfl) (d' := D_187) rfl (as := [.ref 124, .int ((0 : Int32) + i1), .int i2]) (rest := []) (bx_ch0 rw_15 f_17 f_18 f_20 hp9 (by omega) f_21 (v_25.trans hj_27) (by omega) (rfl : Int32.toInt i2 = _)) (show (3 : Nat) = fb 0xa000000000000c10330000bb00280f % 16 by decide) (by show (3 : Nat) ≤ 4; decide) (fun _ => ⟨_, _, rfl, _, shp_at rw_15.1, Or.inr (show fb 0xa000000000000c10330000bb00280f >>> 68 = 10 by decide)⟩) (by omega) (by show 8 + (4 + 11) + 21 ≤ R.locals; omega) (by show (0 : Nat) ≤ 8; decide) (by show kc + 0 ≤ _; omega) (by show ks + 0 ≤ _; omega) (fun r9 hs_c28 hpo hr9 => ?_) (fun x9 hs9 hx9 hpo => ?_)
          · obtain ⟨-, ⟨rv_c28, rfl, hv_rv_c28⟩, pv_c28, np_c28, p9_c28, hPa_c28, e6_c28, hp_c28, hq_c28, hr_c28, hW_c28, fr_c28⟩ := hpo
            have rw_29 := rw_15.fr fr_c28 WCh_rw
            have f_30 := f_16.fr (fun j9 _ => fr_c28.2.2 125 j9 (by unfold WCh; omega))
            have f_31 := rd_fr fr_c28 f_21 (by unfold WCh; omega)
            have fr_32 := fr_22.tr (fr_c28.mono (fun k9 j9 h9 => by unfold WCh at h9; unfold WST; omega))
            clear rw_15 f_16 f_17 f_18 f_20 f_21 fr_22
            show WpN (gp g0 wp) CLS p l e R s m args below meth c Q D_271.2.2.1 kc0 ks0 40 [some (.ref 124), some (.int i1), some (.int i2), none] (hs_c28, kc, ks) [.int rv_c28]
            refine g_storeI act (gx gp_271 (w := 0x3002910) rfl (by decide) rfl) (a := 3) (n := 41) rfl rfl (L2 := [some (.ref 124), some (.int i1), some (.int i2), some (.int rv_c28)]) rfl ?_
            refine g_loadA act (gx gp_271 (w := 0x2a03) rfl (by decide) rfl) (a := 0) (n := 42) rfl rfl rfl ?_
            refine r_getf act (gx gp_271 (w := 0x9002d04) rfl (by decide) rfl) (n := 45) (ci := 9) (j := 0) (N := 39) rfl rfl rfl rw_29.1 (by decide) (v := .int (0 : Int32)) f_31 ?_
            refine g_ifNe act (gx gp_271 (w := 0x4700301d) rfl (by decide) rfl) (tgt := 71) (n := 48) rfl rfl (fun q => absurd q (by decide)) (fun _ => ?_)
            refine g_loadA act (gx gp_271 (w := 0x3103) rfl (by decide) rfl) (a := 0) (n := 49) rfl rfl rfl ?_
            refine r_getf act (gx gp_271 (w := 0x30000c9003404) rfl (by decide) rfl) (n := 52) (ci := 9) (j := 3) (N := 39) rfl rfl rfl rw_29.1 (by decide) (rw_29.2 (3, 127, 32, 39) (by decide)).1 ?_
            refine g_constI act (gx gp_271 (w := 0x40000003400000031000000003601) rfl (by decide) rfl) (n := 54) (x := (6 : Int32)) (by decide) rfl ?_
            refine g_loadI act (gx gp_271 (w := 0x1003702) rfl (by decide) rfl) (a := 1) (n := 55) rfl rfl rfl ?_
            refine g_iadd act (gx gp_271 (w := 0x380a) rfl (by decide) rfl) (n := 56) rfl ?_
            have v_33 := iv_add (show (6 : Int32).toInt = ((6 : Nat) : Int) from by decide) (rfl : Int32.toInt i1 = _) (show -2147483648 ≤ (((6 : Nat) : Int) + (Int32.toInt i1)) by omega) (show (((6 : Nat) : Int) + (Int32.toInt i1)) < 2147483648 by omega)
            obtain ⟨j_34, hj_35⟩ := Int.eq_ofNat_of_zero_le (show (0 : Int) ≤ (((6 : Nat) : Int) + (Int32.toInt i1)) by omega)
            obtain ⟨x_36, e_37, hx_38⟩ := hW_c28 j_34 (by omega)
            refine r_iald act (gx gp_271 (w := 0x391a) rfl (by decide) rfl) (n := 57) (j := j_34) rfl (rw_29.2 (3, 127, 32, 39) (by decide)).2 (v_33.trans hj_35) (show j_34 < 39 by omega) (v := .int x_36) e_37 ?_
            refine g_loadI act (gx gp_271 (w := 0x2003a02) rfl (by decide) rfl) (a := 2) (n := 58) rfl rfl rfl ?_
            refine g_icmpGe act (gx gp_271 (w := 0x47003d08) rfl (by decide) rfl) (tgt := 71) (n := 61) rfl rfl (fun h31 => ?_) (fun h31 => ?_)
            · simp only [i_le] at h31
              refine g_loadI act (gx gp_271 (w := 0x3004802) rfl (by decide) rfl) (a := 3) (n := 72) rfl rfl rfl ?_
              obtain rfl : j_26 = i1.toInt.toNat := by omega
              try (obtain rfl : j_34 = 6 + i1.toInt.toNat := by omega)
              have hw9 := hW_c28
              rw [wLim0 (by omega)] at hw9
              exact g_retI hEnd (gx gp_271 (w := 0x2f) rfl (by decide) rfl) ⟨rfl, Or.inl ⟨(by omega), ⟨_, rfl, hv_rv_c28⟩, f_31, fr_32, _, _, hr_c28, ⟨⟨rw_29, f_30, hw9⟩, hPa_c28, ⟨_, e6_c28, hp_c28⟩, by omega, (hNW.lim (by omega) (by omega) (by omega)), hM.frw fr_32.stR ⟨_, f_31, by have w9 := (show (0 : Int32).toInt = ((0 : Nat) : Int) from by decide); omega, by have w9 := (show (0 : Int32).toInt = ((0 : Nat) : Int) from by decide); omega⟩⟩⟩⟩ hk1 hk2
            · simp only [i_le] at h31
              refine g_loadA act (gx gp_271 (w := 0x3e03) rfl (by decide) rfl) (a := 0) (n := 62) rfl rfl rfl ?_
              refine r_getf act (gx gp_271 (w := 0x30000c9004104) rfl (by decide) rfl) (n := 65) (ci := 9) (j := 3) (N := 39) rfl rfl rfl rw_29.1 (by decide) (rw_29.2 (3, 127, 32, 39) (by decide)).1 ?_
              refine g_constI act (gx gp_271 (w := 0x40000003400000031000000004301) rfl (by decide) rfl) (n := 67) (x := (6 : Int32)) (by decide) rfl ?_
              refine g_loadI act (gx gp_271 (w := 0x1004402) rfl (by decide) rfl) (a := 1) (n := 68) rfl rfl rfl ?_
              refine g_iadd act (gx gp_271 (w := 0x450a) rfl (by decide) rfl) (n := 69) rfl ?_
              have v_39 := iv_add (show (6 : Int32).toInt = ((6 : Nat) : Int) from by decide) (rfl : Int32.toInt i1 = _) (show -2147483648 ≤ (((6 : Nat) : Int) + (Int32.toInt i1)) by omega) (show (((6 : Nat) : Int) + (Int32.toInt i1)) < 2147483648 by omega)
              refine g_loadI act (gx gp_271 (w := 0x2004602) rfl (by decide) rfl) (a := 2) (n := 70) rfl rfl rfl ?_
              obtain ⟨j_40, hj_41⟩ := Int.eq_ofNat_of_zero_le (show (0 : Int) ≤ (((6 : Nat) : Int) + (Int32.toInt i1)) by omega)
              refine r_iast act (gx gp_271 (w := 0x4724) rfl (by decide) rfl) (n := 71) (j := j_40) rfl (rw_29.2 (3, 127, 32, 39) (by decide)).2 (v_39.trans hj_41) (show j_40 < 39 by omega) ?_
              have rw_42 := RW.wr (k := 127) (j := j_40) (v := .int i2) rw_29 (Or.inl (by decide))
              have f_43 := f_30.ne (k := 127) (j := j_40) (v := .int i2) (by decide)
              have f_44 := (rd_ne hs_c28 (k := 127) (j := j_40) (.int i2) (Or.inl (by decide))).trans f_31
              have f_45 := hPa_c28.ne (k := 127) (j := j_40) (v := .int i2) (by decide)
              have f_46 := hW_c28.put (j := j_40) (rw_29.2 (3, 127, 32, 39) (by decide)).2 (rfl : Int32.toInt i2 = _)
              have f_47 := (rd_ne hs_c28 (k := 127) (j := j_40) (.int i2) (Or.inl (by decide))).trans e6_c28
              have fr_48 := fr_32.wr (k := 127) (j := j_40) (.int i2) (by unfold WST; omega)
              clear rw_29 fr_32 f_30 f_31 hPa_c28 hW_c28 e6_c28
              generalize (wr hs_c28 127 j_40 (.int i2)) = hs_49 at *
              refine g_loadI act (gx gp_271 (w := 0x3004802) rfl (by decide) rfl) (a := 3) (n := 72) rfl rfl rfl ?_
              obtain rfl : j_26 = i1.toInt.toNat := by omega
              try (obtain rfl : j_34 = 6 + i1.toInt.toNat := by omega)
              try (obtain rfl : j_40 = 6 + i1.toInt.toNat := by omega)
              have hw9 := f_46
              rw [wLim1 (by omega)] at hw9
              exact g_retI hEnd (gx gp_271 (w := 0x2f) rfl (by decide) rfl) ⟨rfl, Or.inl ⟨(by omega), ⟨_, rfl, hv_rv_c28⟩, f_44, fr_48, _, _, hr_c28, ⟨⟨rw_42, f_43, hw9⟩, f_45, ⟨_, f_47, hp_c28⟩, by omega, (hNW.lim (by omega) (by omega) (by omega)), hM.frw fr_48.stR ⟨_, f_44, by have w9 := (show (0 : Int32).toInt = ((0 : Nat) : Int) from by decide); omega, by have w9 := (show (0 : Int32).toInt = ((0 : Nat) : Int) from by decide); omega⟩⟩⟩⟩ hk1 hk2
          · exact absurd hpo.1 (by omega)
      · exact absurd hpo.1 (by omega)
    · simp only [i_eq, i0] at h4
      refine g_constI act (gx gp_271 (w := 0x40000000c00000009000000000a01) rfl (by decide) rfl) (n := 10) (x := (1 : Int32)) (by decide) rfl ?_
      refine g_goto act (gx gp_271 (w := 0x1d07) rfl (by decide) rfl) (n := 29) rfl ?_
      refine r_putf act (gx gp_271 (w := 0x9002013) rfl (by decide) rfl) (n := 32) (ci := 9) (j := 0) (N := 39) rfl rfl rfl rw0.1 (by decide) (Or.inl ⟨rfl, _, rfl⟩) ?_
      have rw_50 := RW.wr (k := 124) (j := 0) (v := .int (1 : Int32)) rw0 (Or.inr (by decide))
      have f_51 := hTo.ne (k := 124) (j := 0) (v := .int (1 : Int32)) (by decide)
      have f_52 := hW.ne (k := 124) (j := 0) (v := .int (1 : Int32)) (by decide)
      have f_53 := hPa.ne (k := 124) (j := 0) (v := .int (1 : Int32)) (by decide)
      have f_55 := (rd_ne hs (k := 124) (j := 0) (.int (1 : Int32)) (Or.inr (by decide))).trans e6
      have f_56 := rd_same (j := 0) (v := .int (1 : Int32)) rw0.1
      have fr_57 := hfr0.wr (k := 124) (j := 0) (.int (1 : Int32)) (by unfold WST; omega)
      have fr_58 := hfr1.wr (k := 124) (j := 0) (.int (1 : Int32)) (by unfold WZ0; omega)
      clear hTo hW hPa e0 e6
      generalize (wr hs 124 0 (.int (1 : Int32))) = hs_59 at *
      refine g_loadA act (gx gp_271 (w := 0x2103) rfl (by decide) rfl) (a := 0) (n := 33) rfl rfl rfl ?_
      refine g_constI act (gx gp_271 (w := 0x40000000400000001000000002201) rfl (by decide) rfl) (n := 34) (x := (0 : Int32)) (by decide) rfl ?_
      refine g_loadI act (gx gp_271 (w := 0x1002302) rfl (by decide) rfl) (a := 1) (n := 35) rfl rfl rfl ?_
      refine g_iadd act (gx gp_271 (w := 0x240a) rfl (by decide) rfl) (n := 36) rfl ?_
      refine g_loadI act (gx gp_271 (w := 0x2002502) rfl (by decide) rfl) (a := 2) (n := 37) rfl rfl rfl ?_
      refine n_call tb_pres act hEnd (gx (P := G_call) gp_271 (w := 0xa000000000000c10330000bb00280f) rfl (by decide) rfl) (d' := D_187) rfl (as := [.ref 124, .int ((0 : Int32) + i1), .int i2]) (rest := []) (br_ch1 rw_50 f_56 (by decide)) (show (3 : Nat) = fb 0xa000000000000c10330000bb00280f % 16 by decide) (by show (3 : Nat) ≤ 4; decide) (fun _ => ⟨_, _, rfl, _, shp_at rw_50.1, Or.inr (show fb 0xa000000000000c10330000bb00280f >>> 68 = 10 by decide)⟩) (by omega) (by show 8 + (4 + 11) + 21 ≤ R.locals; omega) (by show (0 : Nat) ≤ 8; decide) (by show kc + 0 ≤ _; omega) (by show ks + 0 ≤ _; omega) (fun r9 h3 hpo hr9 => ?_) (fun x9 hs9 hx9 hpo => ?_)
      · obtain ⟨-, rfl, rfl⟩ := hpo
        show WpN (gp g0 wp) CLS p l e R s m args below meth c Q D_271.2.2.1 kc0 ks0 40 [some (.ref 124), some (.int i1), some (.int i2), none] (hs_59, kc, ks) [.int (0 : Int32)]
        refine g_storeI act (gx gp_271 (w := 0x3002910) rfl (by decide) rfl) (a := 3) (n := 41) rfl rfl (L2 := [some (.ref 124), some (.int i1), some (.int i2), some (.int (0 : Int32))]) rfl ?_
        refine g_loadA act (gx gp_271 (w := 0x2a03) rfl (by decide) rfl) (a := 0) (n := 42) rfl rfl rfl ?_
        refine r_getf act (gx gp_271 (w := 0x9002d04) rfl (by decide) rfl) (n := 45) (ci := 9) (j := 0) (N := 39) rfl rfl rfl rw_50.1 (by decide) (v := .int (1 : Int32)) f_56 ?_
        refine g_ifNe act (gx gp_271 (w := 0x4700301d) rfl (by decide) rfl) (tgt := 71) (n := 48) rfl rfl (fun _ => ?_) (fun q => absurd (by decide) q)
        refine g_loadI act (gx gp_271 (w := 0x3004802) rfl (by decide) rfl) (a := 3) (n := 72) rfl rfl rfl ?_
        exact g_retI hEnd (gx gp_271 (w := 0x2f) rfl (by decide) rfl) ⟨rfl, Or.inr (Or.inl ⟨(by omega), rfl, f_56, fr_58, ⟨⟨rw_50, f_51, f_52⟩, f_53, ⟨_, f_55, hp9⟩, by omega, hNW, hM.frw fr_58.st0.stR ⟨_, f_56, by have w9 := (show (1 : Int32).toInt = ((1 : Nat) : Int) from by decide); omega, by have w9 := (show (1 : Int32).toInt = ((1 : Nat) : Int) from by decide); omega⟩⟩⟩)⟩ hk1 hk2
      · exact absurd hpo.1 (by omega)
  · exact absurd hpo.1 (by omega)

theorem bx_setCost {tl wl pv : Nat → Int} {nl n ng nr np : Nat} {i1 i2 : Int32} (hX0 : MXS hs tl wl pv nl n ng nr np) : BodyN SSX TBL g0 CLS bl xs l D_269 2 44 0 0 [.ref 124, .int i1, .int i2] hs (fun kd r h2 => kd = 0 ∧ ((((0 ≤ i1.toInt ∧ i1.toInt < (ng : Int)) ∧ (0 ≤ i2.toInt ∧ i2.toInt ≤ 99)) ∧ SOk hs h2 tl wl (upI wl (12 + i1.toInt.toNat) i2.toInt) pv nl n ng nr np (wl (12 + i1.toInt.toNat)) r) ∨ (¬ (0 ≤ i1.toInt ∧ i1.toInt < (ng : Int)) ∧ SBad hs h2 tl wl pv nl n ng nr np 1 r) ∨ (((0 ≤ i1.toInt ∧ i1.toInt < (ng : Int)) ∧ ¬ (0 ≤ i2.toInt ∧ i2.toInt ≤ 99)) ∧ SBad hs h2 tl wl pv nl n ng nr np 2 r))) := by
  intro wp p e R s m args below meth c Q kc0 ks0 kc ks act hf hl hc hsl hEnd
  have hf : 2 ≤ R.frames := hf
  have hl : 44 ≤ R.locals := hl
  have hk1 : kc ≤ kc + 0 := by omega
  have hk2 : ks ≤ ks + 0 := by omega
  obtain ⟨⟨rw0, hTo, hW⟩, hPa, ⟨p9, e6, hp9⟩, hp10, hNW, hM⟩ := hX0
  obtain ⟨⟨x0, e0, hx0⟩, -⟩ := id hM
  have hN9 := hNW.1
  obtain ⟨n0, n1, n2, n3, n4, n5, n6, n7, n8, hG0, nL, nC, nP, nD⟩ := hN9
  have hGn := hG0.1
  have hGn3 := hG0.2.1
  have hGl := hG0.2.2.1
  have hfr0 := FrS.rf WST hs
  have hfr1 := FrS.rf WZ0 hs
  show WpN (gp g0 wp) CLS p l e R s m args below meth c Q D_269.2.2.1 kc0 ks0 0 [some (.ref 124), some (.int i1), some (.int i2)] (hs, kc, ks) []
  refine g_loadA act (gx gp_269 (w := 0x103) rfl (by decide) rfl) (a := 0) (n := 1) rfl rfl rfl ?_
  refine g_loadA act (gx gp_269 (w := 0x203) rfl (by decide) rfl) (a := 0) (n := 2) rfl rfl rfl ?_
  refine g_loadI act (gx gp_269 (w := 0x1000302) rfl (by decide) rfl) (a := 1) (n := 3) rfl rfl rfl ?_
  refine n_call tb_pres act hEnd (gx (P := G_call) gp_269 (w := 0xa000000000000c08220000de00060f) rfl (by decide) rfl) (d' := D_222) rfl (as := [.ref 124, .int i1]) (rest := [.ref 124]) (b_isGenerator rw0 hTo (rfl : Int32.toInt i1 = _) (by omega) (by omega)) (show (2 : Nat) = fb 0xa000000000000c08220000de00060f % 16 by decide) (by show (2 : Nat) ≤ 2; decide) (fun _ => ⟨_, _, rfl, _, shp_at rw0.1, Or.inr (show fb 0xa000000000000c08220000de00060f >>> 68 = 10 by decide)⟩) (by omega) (by show 8 + (2 + 11) + 22 ≤ R.locals; omega) (by show (1 : Nat) ≤ 8; decide) (by show kc + 0 ≤ _; omega) (by show ks + 0 ≤ _; omega) (fun r9 h3 hpo hr9 => ?_) (fun x9 hs9 hx9 hpo => ?_)
  · obtain ⟨-, rfl, hin9⟩ := hpo
    obtain ⟨rv_1, rfl, hr_2⟩ := in1_x hin9
    show WpN (gp g0 wp) CLS p l e R s m args below meth c Q D_269.2.2.1 kc0 ks0 6 [some (.ref 124), some (.int i1), some (.int i2)] (hs, kc, ks) [.int rv_1, .ref 124]
    refine g_ifNe act (gx gp_269 (w := 0xd00091d) rfl (by decide) rfl) (tgt := 13) (n := 9) rfl rfl (fun h4 => ?_) (fun h4 => ?_)
    · simp only [i_eq, i0] at h4
      refine g_loadI act (gx gp_269 (w := 0x2000e02) rfl (by decide) rfl) (a := 2) (n := 14) rfl rfl rfl ?_
      refine g_constI act (gx gp_269 (w := 0x40000000400000001000000000f01) rfl (by decide) rfl) (n := 15) (x := (0 : Int32)) (by decide) rfl ?_
      refine g_constI act (gx gp_269 (w := 0x40000031c00000319000000001101) rfl (by decide) rfl) (n := 17) (x := (99 : Int32)) (by decide) rfl ?_
      refine n_call tb_pres act hEnd (gx (P := G_call) gp_269 (w := 0x40c330000d900140f) rfl (by decide) rfl) (d' := D_217) rfl (as := [.int i2, .int (0 : Int32), .int (99 : Int32)]) (rest := [.ref 124]) (b_in (rfl : Int32.toInt i2 = _) (show (0 : Int32).toInt = ((0 : Nat) : Int) from by decide) (show (99 : Int32).toInt = ((99 : Nat) : Int) from by decide)) (show (3 : Nat) = fb 0x40c330000d900140f % 16 by decide) (by show (3 : Nat) ≤ 3; decide) (fun q => absurd q (by decide)) (by omega) (by show 8 + (3 + 11) + 0 ≤ R.locals; omega) (by show (1 : Nat) ≤ 8; decide) (by show kc + 0 ≤ _; omega) (by show ks + 0 ≤ _; omega) (fun r9 h3 hpo hr9 => ?_) (fun x9 hs9 hx9 hpo => ?_)
      · obtain ⟨-, rfl, hin9⟩ := hpo
        obtain ⟨rv_3, rfl, hr_4⟩ := in1_x hin9
        show WpN (gp g0 wp) CLS p l e R s m args below meth c Q D_269.2.2.1 kc0 ks0 20 [some (.ref 124), some (.int i1), some (.int i2)] (hs, kc, ks) [.int rv_3, .ref 124]
        refine g_ifEq act (gx gp_269 (w := 0x1b00170e) rfl (by decide) rfl) (tgt := 27) (n := 23) rfl rfl (fun h8 => ?_) (fun h8 => ?_)
        · simp only [i_eq, i0] at h8
          refine g_constI act (gx gp_269 (w := 0x40000001400000011000000001c01) rfl (by decide) rfl) (n := 28) (x := (2 : Int32)) (by decide) rfl ?_
          refine r_putf act (gx gp_269 (w := 0x9001f13) rfl (by decide) rfl) (n := 31) (ci := 9) (j := 0) (N := 39) rfl rfl rfl rw0.1 (by decide) (Or.inl ⟨rfl, _, rfl⟩) ?_
          have rw_5 := RW.wr (k := 124) (j := 0) (v := .int (2 : Int32)) rw0 (Or.inr (by decide))
          have f_6 := hTo.ne (k := 124) (j := 0) (v := .int (2 : Int32)) (by decide)
          have f_7 := hW.ne (k := 124) (j := 0) (v := .int (2 : Int32)) (by decide)
          have f_8 := hPa.ne (k := 124) (j := 0) (v := .int (2 : Int32)) (by decide)
          have f_10 := (rd_ne hs (k := 124) (j := 0) (.int (2 : Int32)) (Or.inr (by decide))).trans e6
          have f_11 := rd_same (j := 0) (v := .int (2 : Int32)) rw0.1
          have fr_12 := hfr0.wr (k := 124) (j := 0) (.int (2 : Int32)) (by unfold WST; omega)
          have fr_13 := hfr1.wr (k := 124) (j := 0) (.int (2 : Int32)) (by unfold WZ0; omega)
          clear hTo hW hPa e0 e6
          generalize (wr hs 124 0 (.int (2 : Int32))) = hs_14 at *
          refine g_loadA act (gx gp_269 (w := 0x2003) rfl (by decide) rfl) (a := 0) (n := 32) rfl rfl rfl ?_
          refine g_constI act (gx gp_269 (w := 0x40000006400000061000000002201) rfl (by decide) rfl) (n := 34) (x := (12 : Int32)) (by decide) rfl ?_
          refine g_loadI act (gx gp_269 (w := 0x1002302) rfl (by decide) rfl) (a := 1) (n := 35) rfl rfl rfl ?_
          refine g_iadd act (gx gp_269 (w := 0x240a) rfl (by decide) rfl) (n := 36) rfl ?_
          refine g_loadI act (gx gp_269 (w := 0x2002502) rfl (by decide) rfl) (a := 2) (n := 37) rfl rfl rfl ?_
          refine n_call tb_pres act hEnd (gx (P := G_call) gp_269 (w := 0xa000000000000c10330000bb00280f) rfl (by decide) rfl) (d' := D_187) rfl (as := [.ref 124, .int ((12 : Int32) + i1), .int i2]) (rest := []) (br_ch1 rw_5 f_11 (by decide)) (show (3 : Nat) = fb 0xa000000000000c10330000bb00280f % 16 by decide) (by show (3 : Nat) ≤ 4; decide) (fun _ => ⟨_, _, rfl, _, shp_at rw_5.1, Or.inr (show fb 0xa000000000000c10330000bb00280f >>> 68 = 10 by decide)⟩) (by omega) (by show 8 + (4 + 11) + 21 ≤ R.locals; omega) (by show (0 : Nat) ≤ 8; decide) (by show kc + 0 ≤ _; omega) (by show ks + 0 ≤ _; omega) (fun r9 h3 hpo hr9 => ?_) (fun x9 hs9 hx9 hpo => ?_)
          · obtain ⟨-, rfl, rfl⟩ := hpo
            show WpN (gp g0 wp) CLS p l e R s m args below meth c Q D_269.2.2.1 kc0 ks0 40 [some (.ref 124), some (.int i1), some (.int i2)] (hs_14, kc, ks) [.int (0 : Int32)]
            exact g_retI hEnd (gx gp_269 (w := 0x2f) rfl (by decide) rfl) ⟨rfl, Or.inr (Or.inr (⟨(by omega), rfl, f_11, fr_13, ⟨⟨rw_5, f_6, f_7⟩, f_8, ⟨_, f_10, hp9⟩, by omega, hNW, hM.frw fr_13.st0.stR ⟨_, f_11, by have w9 := (show (2 : Int32).toInt = ((2 : Nat) : Int) from by decide); omega, by have w9 := (show (2 : Int32).toInt = ((2 : Nat) : Int) from by decide); omega⟩⟩⟩))⟩ hk1 hk2
          · exact absurd hpo.1 (by omega)
        · simp only [i_eq, i0] at h8
          refine g_constI act (gx gp_269 (w := 0x40000000400000001000000001801) rfl (by decide) rfl) (n := 24) (x := (0 : Int32)) (by decide) rfl ?_
          refine g_goto act (gx gp_269 (w := 0x1c07) rfl (by decide) rfl) (n := 28) rfl ?_
          refine r_putf act (gx gp_269 (w := 0x9001f13) rfl (by decide) rfl) (n := 31) (ci := 9) (j := 0) (N := 39) rfl rfl rfl rw0.1 (by decide) (Or.inl ⟨rfl, _, rfl⟩) ?_
          have rw_15 := RW.wr (k := 124) (j := 0) (v := .int (0 : Int32)) rw0 (Or.inr (by decide))
          have f_16 := hTo.ne (k := 124) (j := 0) (v := .int (0 : Int32)) (by decide)
          have f_17 := hW.ne (k := 124) (j := 0) (v := .int (0 : Int32)) (by decide)
          have f_18 := hPa.ne (k := 124) (j := 0) (v := .int (0 : Int32)) (by decide)
          have f_20 := (rd_ne hs (k := 124) (j := 0) (.int (0 : Int32)) (Or.inr (by decide))).trans e6
          have f_21 := rd_same (j := 0) (v := .int (0 : Int32)) rw0.1
          have fr_22 := hfr0.wr (k := 124) (j := 0) (.int (0 : Int32)) (by unfold WST; omega)
          have fr_23 := hfr1.wr (k := 124) (j := 0) (.int (0 : Int32)) (by unfold WZ0; omega)
          clear hTo hW hPa e0 e6
          generalize (wr hs 124 0 (.int (0 : Int32))) = hs_24 at *
          refine g_loadA act (gx gp_269 (w := 0x2003) rfl (by decide) rfl) (a := 0) (n := 32) rfl rfl rfl ?_
          refine g_constI act (gx gp_269 (w := 0x40000006400000061000000002201) rfl (by decide) rfl) (n := 34) (x := (12 : Int32)) (by decide) rfl ?_
          refine g_loadI act (gx gp_269 (w := 0x1002302) rfl (by decide) rfl) (a := 1) (n := 35) rfl rfl rfl ?_
          refine g_iadd act (gx gp_269 (w := 0x240a) rfl (by decide) rfl) (n := 36) rfl ?_
          have v_25 := iv_add (show (12 : Int32).toInt = ((12 : Nat) : Int) from by decide) (rfl : Int32.toInt i1 = _) (show -2147483648 ≤ (((12 : Nat) : Int) + (Int32.toInt i1)) by omega) (show (((12 : Nat) : Int) + (Int32.toInt i1)) < 2147483648 by omega)
          refine g_loadI act (gx gp_269 (w := 0x2002502) rfl (by decide) rfl) (a := 2) (n := 37) rfl rfl rfl ?_
          obtain ⟨j_26, hj_27⟩ := Int.eq_ofNat_of_zero_le (show (0 : Int) ≤ (((12 : Nat) : Int) + (Int32.toInt i1)) by omega)
          refine n_call tb_pres act hEnd (gx (P := G_call) gp_269 (w := 0xa000000000000c10330000bb00280f) rfl (by decide) rfl) (d' := D_187) rfl (as := [.ref 124, .int ((12 : Int32) + i1), .int i2]) (rest := []) (bx_ch0 rw_15 f_17 f_18 f_20 hp9 (by omega) f_21 (v_25.trans hj_27) (by omega) (rfl : Int32.toInt i2 = _)) (show (3 : Nat) = fb 0xa000000000000c10330000bb00280f % 16 by decide) (by show (3 : Nat) ≤ 4; decide) (fun _ => ⟨_, _, rfl, _, shp_at rw_15.1, Or.inr (show fb 0xa000000000000c10330000bb00280f >>> 68 = 10 by decide)⟩) (by omega) (by show 8 + (4 + 11) + 21 ≤ R.locals; omega) (by show (0 : Nat) ≤ 8; decide) (by show kc + 0 ≤ _; omega) (by show ks + 0 ≤ _; omega) (fun r9 hs_c28 hpo hr9 => ?_) (fun x9 hs9 hx9 hpo => ?_)
          · obtain ⟨-, ⟨rv_c28, rfl, hv_rv_c28⟩, pv_c28, np_c28, p9_c28, hPa_c28, e6_c28, hp_c28, hq_c28, hr_c28, hW_c28, fr_c28⟩ := hpo
            have rw_29 := rw_15.fr fr_c28 WCh_rw
            have f_30 := f_16.fr (fun j9 _ => fr_c28.2.2 125 j9 (by unfold WCh; omega))
            have f_31 := rd_fr fr_c28 f_21 (by unfold WCh; omega)
            have fr_32 := fr_22.tr (fr_c28.mono (fun k9 j9 h9 => by unfold WCh at h9; unfold WST; omega))
            clear rw_15 f_16 f_17 f_18 f_20 f_21 fr_22
            show WpN (gp g0 wp) CLS p l e R s m args below meth c Q D_269.2.2.1 kc0 ks0 40 [some (.ref 124), some (.int i1), some (.int i2)] (hs_c28, kc, ks) [.int rv_c28]
            obtain rfl : j_26 = 12 + i1.toInt.toNat := by omega
            exact g_retI hEnd (gx gp_269 (w := 0x2f) rfl (by decide) rfl) ⟨rfl, Or.inl ⟨(by omega), ⟨_, rfl, hv_rv_c28⟩, f_31, fr_32, _, _, hr_c28, ⟨⟨rw_29, f_30, hW_c28⟩, hPa_c28, ⟨_, e6_c28, hp_c28⟩, by omega, (hNW.upd (Or.inr (Or.inr (Or.inl ⟨by omega, by omega, by omega, by omega⟩)))), hM.frw fr_32.stR ⟨_, f_31, by have w9 := (show (0 : Int32).toInt = ((0 : Nat) : Int) from by decide); omega, by have w9 := (show (0 : Int32).toInt = ((0 : Nat) : Int) from by decide); omega⟩⟩⟩⟩ hk1 hk2
          · exact absurd hpo.1 (by omega)
      · exact absurd hpo.1 (by omega)
    · simp only [i_eq, i0] at h4
      refine g_constI act (gx gp_269 (w := 0x40000000c00000009000000000a01) rfl (by decide) rfl) (n := 10) (x := (1 : Int32)) (by decide) rfl ?_
      refine g_goto act (gx gp_269 (w := 0x1c07) rfl (by decide) rfl) (n := 28) rfl ?_
      refine r_putf act (gx gp_269 (w := 0x9001f13) rfl (by decide) rfl) (n := 31) (ci := 9) (j := 0) (N := 39) rfl rfl rfl rw0.1 (by decide) (Or.inl ⟨rfl, _, rfl⟩) ?_
      have rw_33 := RW.wr (k := 124) (j := 0) (v := .int (1 : Int32)) rw0 (Or.inr (by decide))
      have f_34 := hTo.ne (k := 124) (j := 0) (v := .int (1 : Int32)) (by decide)
      have f_35 := hW.ne (k := 124) (j := 0) (v := .int (1 : Int32)) (by decide)
      have f_36 := hPa.ne (k := 124) (j := 0) (v := .int (1 : Int32)) (by decide)
      have f_38 := (rd_ne hs (k := 124) (j := 0) (.int (1 : Int32)) (Or.inr (by decide))).trans e6
      have f_39 := rd_same (j := 0) (v := .int (1 : Int32)) rw0.1
      have fr_40 := hfr0.wr (k := 124) (j := 0) (.int (1 : Int32)) (by unfold WST; omega)
      have fr_41 := hfr1.wr (k := 124) (j := 0) (.int (1 : Int32)) (by unfold WZ0; omega)
      clear hTo hW hPa e0 e6
      generalize (wr hs 124 0 (.int (1 : Int32))) = hs_42 at *
      refine g_loadA act (gx gp_269 (w := 0x2003) rfl (by decide) rfl) (a := 0) (n := 32) rfl rfl rfl ?_
      refine g_constI act (gx gp_269 (w := 0x40000006400000061000000002201) rfl (by decide) rfl) (n := 34) (x := (12 : Int32)) (by decide) rfl ?_
      refine g_loadI act (gx gp_269 (w := 0x1002302) rfl (by decide) rfl) (a := 1) (n := 35) rfl rfl rfl ?_
      refine g_iadd act (gx gp_269 (w := 0x240a) rfl (by decide) rfl) (n := 36) rfl ?_
      refine g_loadI act (gx gp_269 (w := 0x2002502) rfl (by decide) rfl) (a := 2) (n := 37) rfl rfl rfl ?_
      refine n_call tb_pres act hEnd (gx (P := G_call) gp_269 (w := 0xa000000000000c10330000bb00280f) rfl (by decide) rfl) (d' := D_187) rfl (as := [.ref 124, .int ((12 : Int32) + i1), .int i2]) (rest := []) (br_ch1 rw_33 f_39 (by decide)) (show (3 : Nat) = fb 0xa000000000000c10330000bb00280f % 16 by decide) (by show (3 : Nat) ≤ 4; decide) (fun _ => ⟨_, _, rfl, _, shp_at rw_33.1, Or.inr (show fb 0xa000000000000c10330000bb00280f >>> 68 = 10 by decide)⟩) (by omega) (by show 8 + (4 + 11) + 21 ≤ R.locals; omega) (by show (0 : Nat) ≤ 8; decide) (by show kc + 0 ≤ _; omega) (by show ks + 0 ≤ _; omega) (fun r9 h3 hpo hr9 => ?_) (fun x9 hs9 hx9 hpo => ?_)
      · obtain ⟨-, rfl, rfl⟩ := hpo
        show WpN (gp g0 wp) CLS p l e R s m args below meth c Q D_269.2.2.1 kc0 ks0 40 [some (.ref 124), some (.int i1), some (.int i2)] (hs_42, kc, ks) [.int (0 : Int32)]
        exact g_retI hEnd (gx gp_269 (w := 0x2f) rfl (by decide) rfl) ⟨rfl, Or.inr (Or.inl ⟨(by omega), rfl, f_39, fr_41, ⟨⟨rw_33, f_34, f_35⟩, f_36, ⟨_, f_38, hp9⟩, by omega, hNW, hM.frw fr_41.st0.stR ⟨_, f_39, by have w9 := (show (1 : Int32).toInt = ((1 : Nat) : Int) from by decide); omega, by have w9 := (show (1 : Int32).toInt = ((1 : Nat) : Int) from by decide); omega⟩⟩⟩)⟩ hk1 hk2
      · exact absurd hpo.1 (by omega)
  · exact absurd hpo.1 (by omega)

theorem bx_setCapacity {tl wl pv : Nat → Int} {nl n ng nr np : Nat} {i1 i2 : Int32} (hX0 : MXS hs tl wl pv nl n ng nr np) : BodyN SSX TBL g0 CLS bl xs l D_268 2 44 0 0 [.ref 124, .int i1, .int i2] hs (fun kd r h2 => kd = 0 ∧ ((((0 ≤ i1.toInt ∧ i1.toInt < (ng : Int)) ∧ (1 ≤ i2.toInt ∧ i2.toInt ≤ 200)) ∧ SOk hs h2 tl wl (upI wl (17 + i1.toInt.toNat) i2.toInt) pv nl n ng nr np (wl (17 + i1.toInt.toNat)) r) ∨ (¬ (0 ≤ i1.toInt ∧ i1.toInt < (ng : Int)) ∧ SBad hs h2 tl wl pv nl n ng nr np 1 r) ∨ (((0 ≤ i1.toInt ∧ i1.toInt < (ng : Int)) ∧ ¬ (1 ≤ i2.toInt ∧ i2.toInt ≤ 200)) ∧ SBad hs h2 tl wl pv nl n ng nr np 2 r))) := by
  intro wp p e R s m args below meth c Q kc0 ks0 kc ks act hf hl hc hsl hEnd
  have hf : 2 ≤ R.frames := hf
  have hl : 44 ≤ R.locals := hl
  have hk1 : kc ≤ kc + 0 := by omega
  have hk2 : ks ≤ ks + 0 := by omega
  obtain ⟨⟨rw0, hTo, hW⟩, hPa, ⟨p9, e6, hp9⟩, hp10, hNW, hM⟩ := hX0
  obtain ⟨⟨x0, e0, hx0⟩, -⟩ := id hM
  have hN9 := hNW.1
  obtain ⟨n0, n1, n2, n3, n4, n5, n6, n7, n8, hG0, nL, nC, nP, nD⟩ := hN9
  have hGn := hG0.1
  have hGn3 := hG0.2.1
  have hGl := hG0.2.2.1
  have hfr0 := FrS.rf WST hs
  have hfr1 := FrS.rf WZ0 hs
  show WpN (gp g0 wp) CLS p l e R s m args below meth c Q D_268.2.2.1 kc0 ks0 0 [some (.ref 124), some (.int i1), some (.int i2)] (hs, kc, ks) []
  refine g_loadA act (gx gp_268 (w := 0x103) rfl (by decide) rfl) (a := 0) (n := 1) rfl rfl rfl ?_
  refine g_loadA act (gx gp_268 (w := 0x203) rfl (by decide) rfl) (a := 0) (n := 2) rfl rfl rfl ?_
  refine g_loadI act (gx gp_268 (w := 0x1000302) rfl (by decide) rfl) (a := 1) (n := 3) rfl rfl rfl ?_
  refine n_call tb_pres act hEnd (gx (P := G_call) gp_268 (w := 0xa000000000000c08220000de00060f) rfl (by decide) rfl) (d' := D_222) rfl (as := [.ref 124, .int i1]) (rest := [.ref 124]) (b_isGenerator rw0 hTo (rfl : Int32.toInt i1 = _) (by omega) (by omega)) (show (2 : Nat) = fb 0xa000000000000c08220000de00060f % 16 by decide) (by show (2 : Nat) ≤ 2; decide) (fun _ => ⟨_, _, rfl, _, shp_at rw0.1, Or.inr (show fb 0xa000000000000c08220000de00060f >>> 68 = 10 by decide)⟩) (by omega) (by show 8 + (2 + 11) + 22 ≤ R.locals; omega) (by show (1 : Nat) ≤ 8; decide) (by show kc + 0 ≤ _; omega) (by show ks + 0 ≤ _; omega) (fun r9 h3 hpo hr9 => ?_) (fun x9 hs9 hx9 hpo => ?_)
  · obtain ⟨-, rfl, hin9⟩ := hpo
    obtain ⟨rv_1, rfl, hr_2⟩ := in1_x hin9
    show WpN (gp g0 wp) CLS p l e R s m args below meth c Q D_268.2.2.1 kc0 ks0 6 [some (.ref 124), some (.int i1), some (.int i2)] (hs, kc, ks) [.int rv_1, .ref 124]
    refine g_ifNe act (gx gp_268 (w := 0xd00091d) rfl (by decide) rfl) (tgt := 13) (n := 9) rfl rfl (fun h4 => ?_) (fun h4 => ?_)
    · simp only [i_eq, i0] at h4
      refine g_loadI act (gx gp_268 (w := 0x2000e02) rfl (by decide) rfl) (a := 2) (n := 14) rfl rfl rfl ?_
      refine g_constI act (gx gp_268 (w := 0x40000000c00000009000000000f01) rfl (by decide) rfl) (n := 15) (x := (1 : Int32)) (by decide) rfl ?_
      refine g_constI act (gx gp_268 (w := 0x40000064400000641000000001201) rfl (by decide) rfl) (n := 18) (x := (200 : Int32)) (by decide) rfl ?_
      refine n_call tb_pres act hEnd (gx (P := G_call) gp_268 (w := 0x40c330000d900150f) rfl (by decide) rfl) (d' := D_217) rfl (as := [.int i2, .int (1 : Int32), .int (200 : Int32)]) (rest := [.ref 124]) (b_in (rfl : Int32.toInt i2 = _) (show (1 : Int32).toInt = ((1 : Nat) : Int) from by decide) (show (200 : Int32).toInt = ((200 : Nat) : Int) from by decide)) (show (3 : Nat) = fb 0x40c330000d900150f % 16 by decide) (by show (3 : Nat) ≤ 3; decide) (fun q => absurd q (by decide)) (by omega) (by show 8 + (3 + 11) + 0 ≤ R.locals; omega) (by show (1 : Nat) ≤ 8; decide) (by show kc + 0 ≤ _; omega) (by show ks + 0 ≤ _; omega) (fun r9 h3 hpo hr9 => ?_) (fun x9 hs9 hx9 hpo => ?_)
      · obtain ⟨-, rfl, hin9⟩ := hpo
        obtain ⟨rv_3, rfl, hr_4⟩ := in1_x hin9
        show WpN (gp g0 wp) CLS p l e R s m args below meth c Q D_268.2.2.1 kc0 ks0 21 [some (.ref 124), some (.int i1), some (.int i2)] (hs, kc, ks) [.int rv_3, .ref 124]
        refine g_ifEq act (gx gp_268 (w := 0x1c00180e) rfl (by decide) rfl) (tgt := 28) (n := 24) rfl rfl (fun h8 => ?_) (fun h8 => ?_)
        · simp only [i_eq, i0] at h8
          refine g_constI act (gx gp_268 (w := 0x40000001400000011000000001d01) rfl (by decide) rfl) (n := 29) (x := (2 : Int32)) (by decide) rfl ?_
          refine r_putf act (gx gp_268 (w := 0x9002013) rfl (by decide) rfl) (n := 32) (ci := 9) (j := 0) (N := 39) rfl rfl rfl rw0.1 (by decide) (Or.inl ⟨rfl, _, rfl⟩) ?_
          have rw_5 := RW.wr (k := 124) (j := 0) (v := .int (2 : Int32)) rw0 (Or.inr (by decide))
          have f_6 := hTo.ne (k := 124) (j := 0) (v := .int (2 : Int32)) (by decide)
          have f_7 := hW.ne (k := 124) (j := 0) (v := .int (2 : Int32)) (by decide)
          have f_8 := hPa.ne (k := 124) (j := 0) (v := .int (2 : Int32)) (by decide)
          have f_10 := (rd_ne hs (k := 124) (j := 0) (.int (2 : Int32)) (Or.inr (by decide))).trans e6
          have f_11 := rd_same (j := 0) (v := .int (2 : Int32)) rw0.1
          have fr_12 := hfr0.wr (k := 124) (j := 0) (.int (2 : Int32)) (by unfold WST; omega)
          have fr_13 := hfr1.wr (k := 124) (j := 0) (.int (2 : Int32)) (by unfold WZ0; omega)
          clear hTo hW hPa e0 e6
          generalize (wr hs 124 0 (.int (2 : Int32))) = hs_14 at *
          refine g_loadA act (gx gp_268 (w := 0x2103) rfl (by decide) rfl) (a := 0) (n := 33) rfl rfl rfl ?_
          refine g_constI act (gx gp_268 (w := 0x40000008c00000089000000002301) rfl (by decide) rfl) (n := 35) (x := (17 : Int32)) (by decide) rfl ?_
          refine g_loadI act (gx gp_268 (w := 0x1002402) rfl (by decide) rfl) (a := 1) (n := 36) rfl rfl rfl ?_
          refine g_iadd act (gx gp_268 (w := 0x250a) rfl (by decide) rfl) (n := 37) rfl ?_
          refine g_loadI act (gx gp_268 (w := 0x2002602) rfl (by decide) rfl) (a := 2) (n := 38) rfl rfl rfl ?_
          refine n_call tb_pres act hEnd (gx (P := G_call) gp_268 (w := 0xa000000000000c10330000bb00290f) rfl (by decide) rfl) (d' := D_187) rfl (as := [.ref 124, .int ((17 : Int32) + i1), .int i2]) (rest := []) (br_ch1 rw_5 f_11 (by decide)) (show (3 : Nat) = fb 0xa000000000000c10330000bb00290f % 16 by decide) (by show (3 : Nat) ≤ 4; decide) (fun _ => ⟨_, _, rfl, _, shp_at rw_5.1, Or.inr (show fb 0xa000000000000c10330000bb00290f >>> 68 = 10 by decide)⟩) (by omega) (by show 8 + (4 + 11) + 21 ≤ R.locals; omega) (by show (0 : Nat) ≤ 8; decide) (by show kc + 0 ≤ _; omega) (by show ks + 0 ≤ _; omega) (fun r9 h3 hpo hr9 => ?_) (fun x9 hs9 hx9 hpo => ?_)
          · obtain ⟨-, rfl, rfl⟩ := hpo
            show WpN (gp g0 wp) CLS p l e R s m args below meth c Q D_268.2.2.1 kc0 ks0 41 [some (.ref 124), some (.int i1), some (.int i2)] (hs_14, kc, ks) [.int (0 : Int32)]
            exact g_retI hEnd (gx gp_268 (w := 0x2f) rfl (by decide) rfl) ⟨rfl, Or.inr (Or.inr (⟨(by omega), rfl, f_11, fr_13, ⟨⟨rw_5, f_6, f_7⟩, f_8, ⟨_, f_10, hp9⟩, by omega, hNW, hM.frw fr_13.st0.stR ⟨_, f_11, by have w9 := (show (2 : Int32).toInt = ((2 : Nat) : Int) from by decide); omega, by have w9 := (show (2 : Int32).toInt = ((2 : Nat) : Int) from by decide); omega⟩⟩⟩))⟩ hk1 hk2
          · exact absurd hpo.1 (by omega)
        · simp only [i_eq, i0] at h8
          refine g_constI act (gx gp_268 (w := 0x40000000400000001000000001901) rfl (by decide) rfl) (n := 25) (x := (0 : Int32)) (by decide) rfl ?_
          refine g_goto act (gx gp_268 (w := 0x1d07) rfl (by decide) rfl) (n := 29) rfl ?_
          refine r_putf act (gx gp_268 (w := 0x9002013) rfl (by decide) rfl) (n := 32) (ci := 9) (j := 0) (N := 39) rfl rfl rfl rw0.1 (by decide) (Or.inl ⟨rfl, _, rfl⟩) ?_
          have rw_15 := RW.wr (k := 124) (j := 0) (v := .int (0 : Int32)) rw0 (Or.inr (by decide))
          have f_16 := hTo.ne (k := 124) (j := 0) (v := .int (0 : Int32)) (by decide)
          have f_17 := hW.ne (k := 124) (j := 0) (v := .int (0 : Int32)) (by decide)
          have f_18 := hPa.ne (k := 124) (j := 0) (v := .int (0 : Int32)) (by decide)
          have f_20 := (rd_ne hs (k := 124) (j := 0) (.int (0 : Int32)) (Or.inr (by decide))).trans e6
          have f_21 := rd_same (j := 0) (v := .int (0 : Int32)) rw0.1
          have fr_22 := hfr0.wr (k := 124) (j := 0) (.int (0 : Int32)) (by unfold WST; omega)
          have fr_23 := hfr1.wr (k := 124) (j := 0) (.int (0 : Int32)) (by unfold WZ0; omega)
          clear hTo hW hPa e0 e6
          generalize (wr hs 124 0 (.int (0 : Int32))) = hs_24 at *
          refine g_loadA act (gx gp_268 (w := 0x2103) rfl (by decide) rfl) (a := 0) (n := 33) rfl rfl rfl ?_
          refine g_constI act (gx gp_268 (w := 0x40000008c00000089000000002301) rfl (by decide) rfl) (n := 35) (x := (17 : Int32)) (by decide) rfl ?_
          refine g_loadI act (gx gp_268 (w := 0x1002402) rfl (by decide) rfl) (a := 1) (n := 36) rfl rfl rfl ?_
          refine g_iadd act (gx gp_268 (w := 0x250a) rfl (by decide) rfl) (n := 37) rfl ?_
          have v_25 := iv_add (show (17 : Int32).toInt = ((17 : Nat) : Int) from by decide) (rfl : Int32.toInt i1 = _) (show -2147483648 ≤ (((17 : Nat) : Int) + (Int32.toInt i1)) by omega) (show (((17 : Nat) : Int) + (Int32.toInt i1)) < 2147483648 by omega)
          refine g_loadI act (gx gp_268 (w := 0x2002602) rfl (by decide) rfl) (a := 2) (n := 38) rfl rfl rfl ?_
          obtain ⟨j_26, hj_27⟩ := Int.eq_ofNat_of_zero_le (show (0 : Int) ≤ (((17 : Nat) : Int) + (Int32.toInt i1)) by omega)
          refine n_call tb_pres act hEnd (gx (P := G_call) gp_268 (w := 0xa000000000000c10330000bb00290f) rfl (by decide) rfl) (d' := D_187) rfl (as := [.ref 124, .int ((17 : Int32) + i1), .int i2]) (rest := []) (bx_ch0 rw_15 f_17 f_18 f_20 hp9 (by omega) f_21 (v_25.trans hj_27) (by omega) (rfl : Int32.toInt i2 = _)) (show (3 : Nat) = fb 0xa000000000000c10330000bb00290f % 16 by decide) (by show (3 : Nat) ≤ 4; decide) (fun _ => ⟨_, _, rfl, _, shp_at rw_15.1, Or.inr (show fb 0xa000000000000c10330000bb00290f >>> 68 = 10 by decide)⟩) (by omega) (by show 8 + (4 + 11) + 21 ≤ R.locals; omega) (by show (0 : Nat) ≤ 8; decide) (by show kc + 0 ≤ _; omega) (by show ks + 0 ≤ _; omega) (fun r9 hs_c28 hpo hr9 => ?_) (fun x9 hs9 hx9 hpo => ?_)
          · obtain ⟨-, ⟨rv_c28, rfl, hv_rv_c28⟩, pv_c28, np_c28, p9_c28, hPa_c28, e6_c28, hp_c28, hq_c28, hr_c28, hW_c28, fr_c28⟩ := hpo
            have rw_29 := rw_15.fr fr_c28 WCh_rw
            have f_30 := f_16.fr (fun j9 _ => fr_c28.2.2 125 j9 (by unfold WCh; omega))
            have f_31 := rd_fr fr_c28 f_21 (by unfold WCh; omega)
            have fr_32 := fr_22.tr (fr_c28.mono (fun k9 j9 h9 => by unfold WCh at h9; unfold WST; omega))
            clear rw_15 f_16 f_17 f_18 f_20 f_21 fr_22
            show WpN (gp g0 wp) CLS p l e R s m args below meth c Q D_268.2.2.1 kc0 ks0 41 [some (.ref 124), some (.int i1), some (.int i2)] (hs_c28, kc, ks) [.int rv_c28]
            obtain rfl : j_26 = 17 + i1.toInt.toNat := by omega
            exact g_retI hEnd (gx gp_268 (w := 0x2f) rfl (by decide) rfl) ⟨rfl, Or.inl ⟨(by omega), ⟨_, rfl, hv_rv_c28⟩, f_31, fr_32, _, _, hr_c28, ⟨⟨rw_29, f_30, hW_c28⟩, hPa_c28, ⟨_, e6_c28, hp_c28⟩, by omega, (hNW.upd (Or.inr (Or.inr (Or.inr (Or.inl ⟨by omega, by omega, by omega, by omega⟩))))), hM.frw fr_32.stR ⟨_, f_31, by have w9 := (show (0 : Int32).toInt = ((0 : Nat) : Int) from by decide); omega, by have w9 := (show (0 : Int32).toInt = ((0 : Nat) : Int) from by decide); omega⟩⟩⟩⟩ hk1 hk2
          · exact absurd hpo.1 (by omega)
      · exact absurd hpo.1 (by omega)
    · simp only [i_eq, i0] at h4
      refine g_constI act (gx gp_268 (w := 0x40000000c00000009000000000a01) rfl (by decide) rfl) (n := 10) (x := (1 : Int32)) (by decide) rfl ?_
      refine g_goto act (gx gp_268 (w := 0x1d07) rfl (by decide) rfl) (n := 29) rfl ?_
      refine r_putf act (gx gp_268 (w := 0x9002013) rfl (by decide) rfl) (n := 32) (ci := 9) (j := 0) (N := 39) rfl rfl rfl rw0.1 (by decide) (Or.inl ⟨rfl, _, rfl⟩) ?_
      have rw_33 := RW.wr (k := 124) (j := 0) (v := .int (1 : Int32)) rw0 (Or.inr (by decide))
      have f_34 := hTo.ne (k := 124) (j := 0) (v := .int (1 : Int32)) (by decide)
      have f_35 := hW.ne (k := 124) (j := 0) (v := .int (1 : Int32)) (by decide)
      have f_36 := hPa.ne (k := 124) (j := 0) (v := .int (1 : Int32)) (by decide)
      have f_38 := (rd_ne hs (k := 124) (j := 0) (.int (1 : Int32)) (Or.inr (by decide))).trans e6
      have f_39 := rd_same (j := 0) (v := .int (1 : Int32)) rw0.1
      have fr_40 := hfr0.wr (k := 124) (j := 0) (.int (1 : Int32)) (by unfold WST; omega)
      have fr_41 := hfr1.wr (k := 124) (j := 0) (.int (1 : Int32)) (by unfold WZ0; omega)
      clear hTo hW hPa e0 e6
      generalize (wr hs 124 0 (.int (1 : Int32))) = hs_42 at *
      refine g_loadA act (gx gp_268 (w := 0x2103) rfl (by decide) rfl) (a := 0) (n := 33) rfl rfl rfl ?_
      refine g_constI act (gx gp_268 (w := 0x40000008c00000089000000002301) rfl (by decide) rfl) (n := 35) (x := (17 : Int32)) (by decide) rfl ?_
      refine g_loadI act (gx gp_268 (w := 0x1002402) rfl (by decide) rfl) (a := 1) (n := 36) rfl rfl rfl ?_
      refine g_iadd act (gx gp_268 (w := 0x250a) rfl (by decide) rfl) (n := 37) rfl ?_
      refine g_loadI act (gx gp_268 (w := 0x2002602) rfl (by decide) rfl) (a := 2) (n := 38) rfl rfl rfl ?_
      refine n_call tb_pres act hEnd (gx (P := G_call) gp_268 (w := 0xa000000000000c10330000bb00290f) rfl (by decide) rfl) (d' := D_187) rfl (as := [.ref 124, .int ((17 : Int32) + i1), .int i2]) (rest := []) (br_ch1 rw_33 f_39 (by decide)) (show (3 : Nat) = fb 0xa000000000000c10330000bb00290f % 16 by decide) (by show (3 : Nat) ≤ 4; decide) (fun _ => ⟨_, _, rfl, _, shp_at rw_33.1, Or.inr (show fb 0xa000000000000c10330000bb00290f >>> 68 = 10 by decide)⟩) (by omega) (by show 8 + (4 + 11) + 21 ≤ R.locals; omega) (by show (0 : Nat) ≤ 8; decide) (by show kc + 0 ≤ _; omega) (by show ks + 0 ≤ _; omega) (fun r9 h3 hpo hr9 => ?_) (fun x9 hs9 hx9 hpo => ?_)
      · obtain ⟨-, rfl, rfl⟩ := hpo
        show WpN (gp g0 wp) CLS p l e R s m args below meth c Q D_268.2.2.1 kc0 ks0 41 [some (.ref 124), some (.int i1), some (.int i2)] (hs_42, kc, ks) [.int (0 : Int32)]
        exact g_retI hEnd (gx gp_268 (w := 0x2f) rfl (by decide) rfl) ⟨rfl, Or.inr (Or.inl ⟨(by omega), rfl, f_39, fr_41, ⟨⟨rw_33, f_34, f_35⟩, f_36, ⟨_, f_38, hp9⟩, by omega, hNW, hM.frw fr_41.st0.stR ⟨_, f_39, by have w9 := (show (1 : Int32).toInt = ((1 : Nat) : Int) from by decide); omega, by have w9 := (show (1 : Int32).toInt = ((1 : Nat) : Int) from by decide); omega⟩⟩⟩)⟩ hk1 hk2
      · exact absurd hpo.1 (by omega)
  · exact absurd hpo.1 (by omega)

theorem bx_setDemand {tl wl pv : Nat → Int} {nl n ng nr np : Nat} {i1 i2 i3 : Int32} (hX0 : MXS hs tl wl pv nl n ng nr np) : BodyN SSX TBL g0 CLS bl xs l D_270 2 44 0 0 [.ref 124, .int i1, .int i2, .int i3] hs (fun kd r h2 => kd = 0 ∧ (((((0 ≤ i1.toInt ∧ i1.toInt < tl 1) ∧ (0 ≤ i2.toInt ∧ i2.toInt < (n : Int) + 1)) ∧ (0 ≤ i3.toInt ∧ i3.toInt ≤ 200)) ∧ SOk hs h2 tl wl (upI wl (22 + 4 * i1.toInt.toNat + i2.toInt.toNat) i3.toInt) pv nl n ng nr np (wl (22 + 4 * i1.toInt.toNat + i2.toInt.toNat)) r) ∨ (¬ ((0 ≤ i1.toInt ∧ i1.toInt < tl 1) ∧ (0 ≤ i2.toInt ∧ i2.toInt < (n : Int) + 1)) ∧ SBad hs h2 tl wl pv nl n ng nr np 1 r) ∨ ((((0 ≤ i1.toInt ∧ i1.toInt < tl 1) ∧ (0 ≤ i2.toInt ∧ i2.toInt < (n : Int) + 1)) ∧ ¬ (0 ≤ i3.toInt ∧ i3.toInt ≤ 200)) ∧ SBad hs h2 tl wl pv nl n ng nr np 2 r))) := by
  intro wp p e R s m args below meth c Q kc0 ks0 kc ks act hf hl hc hsl hEnd
  have hf : 2 ≤ R.frames := hf
  have hl : 44 ≤ R.locals := hl
  have hk1 : kc ≤ kc + 0 := by omega
  have hk2 : ks ≤ ks + 0 := by omega
  obtain ⟨⟨rw0, hTo, hW⟩, hPa, ⟨p9, e6, hp9⟩, hp10, hNW, hM⟩ := hX0
  obtain ⟨⟨x0, e0, hx0⟩, -⟩ := id hM
  have hN9 := hNW.1
  obtain ⟨n0, n1, n2, n3, n4, n5, n6, n7, n8, hG0, nL, nC, nP, nD⟩ := hN9
  have hGn := hG0.1
  have hGn3 := hG0.2.1
  have hGl := hG0.2.2.1
  have hfr0 := FrS.rf WST hs
  have hfr1 := FrS.rf WZ0 hs
  show WpN (gp g0 wp) CLS p l e R s m args below meth c Q D_270.2.2.1 kc0 ks0 0 [some (.ref 124), some (.int i1), some (.int i2), some (.int i3)] (hs, kc, ks) []
  refine g_loadA act (gx gp_270 (w := 0x103) rfl (by decide) rfl) (a := 0) (n := 1) rfl rfl rfl ?_
  refine g_loadA act (gx gp_270 (w := 0x203) rfl (by decide) rfl) (a := 0) (n := 2) rfl rfl rfl ?_
  refine g_loadI act (gx gp_270 (w := 0x1000302) rfl (by decide) rfl) (a := 1) (n := 3) rfl rfl rfl ?_
  refine n_call tb_pres act hEnd (gx (P := G_call) gp_270 (w := 0xa000000000000c08220000e000060f) rfl (by decide) rfl) (d' := D_224) rfl (as := [.ref 124, .int i1]) (rest := [.ref 124]) (b_isInterval rw0 hTo (rfl : Int32.toInt i1 = _) (by omega) (by omega)) (show (2 : Nat) = fb 0xa000000000000c08220000e000060f % 16 by decide) (by show (2 : Nat) ≤ 2; decide) (fun _ => ⟨_, _, rfl, _, shp_at rw0.1, Or.inr (show fb 0xa000000000000c08220000e000060f >>> 68 = 10 by decide)⟩) (by omega) (by show 8 + (2 + 11) + 22 ≤ R.locals; omega) (by show (1 : Nat) ≤ 8; decide) (by show kc + 0 ≤ _; omega) (by show ks + 0 ≤ _; omega) (fun r9 h3 hpo hr9 => ?_) (fun x9 hs9 hx9 hpo => ?_)
  · obtain ⟨-, rfl, hin9⟩ := hpo
    obtain ⟨rv_1, rfl, hr_2⟩ := in1_x hin9
    show WpN (gp g0 wp) CLS p l e R s m args below meth c Q D_270.2.2.1 kc0 ks0 6 [some (.ref 124), some (.int i1), some (.int i2), some (.int i3)] (hs, kc, ks) [.int rv_1, .ref 124]
    refine g_ifEq act (gx gp_270 (w := 0x1100090e) rfl (by decide) rfl) (tgt := 17) (n := 9) rfl rfl (fun h4 => ?_) (fun h4 => ?_)
    · simp only [i_eq, i0] at h4
      refine g_constI act (gx gp_270 (w := 0x40000000c00000009000000001201) rfl (by decide) rfl) (n := 18) (x := (1 : Int32)) (by decide) rfl ?_
      refine g_goto act (gx gp_270 (w := 0x2507) rfl (by decide) rfl) (n := 37) rfl ?_
      refine r_putf act (gx gp_270 (w := 0x9002813) rfl (by decide) rfl) (n := 40) (ci := 9) (j := 0) (N := 39) rfl rfl rfl rw0.1 (by decide) (Or.inl ⟨rfl, _, rfl⟩) ?_
      have rw_3 := RW.wr (k := 124) (j := 0) (v := .int (1 : Int32)) rw0 (Or.inr (by decide))
      have f_4 := hTo.ne (k := 124) (j := 0) (v := .int (1 : Int32)) (by decide)
      have f_5 := hW.ne (k := 124) (j := 0) (v := .int (1 : Int32)) (by decide)
      have f_6 := hPa.ne (k := 124) (j := 0) (v := .int (1 : Int32)) (by decide)
      have f_8 := (rd_ne hs (k := 124) (j := 0) (.int (1 : Int32)) (Or.inr (by decide))).trans e6
      have f_9 := rd_same (j := 0) (v := .int (1 : Int32)) rw0.1
      have fr_10 := hfr0.wr (k := 124) (j := 0) (.int (1 : Int32)) (by unfold WST; omega)
      have fr_11 := hfr1.wr (k := 124) (j := 0) (.int (1 : Int32)) (by unfold WZ0; omega)
      clear hTo hW hPa e0 e6
      generalize (wr hs 124 0 (.int (1 : Int32))) = hs_12 at *
      refine g_loadA act (gx gp_270 (w := 0x2903) rfl (by decide) rfl) (a := 0) (n := 41) rfl rfl rfl ?_
      refine g_constI act (gx gp_270 (w := 0x4000000b4000000b1000000002b01) rfl (by decide) rfl) (n := 43) (x := (22 : Int32)) (by decide) rfl ?_
      refine g_constI act (gx gp_270 (w := 0x40000002400000021000000002c01) rfl (by decide) rfl) (n := 44) (x := (4 : Int32)) (by decide) rfl ?_
      refine g_loadI act (gx gp_270 (w := 0x1002d02) rfl (by decide) rfl) (a := 1) (n := 45) rfl rfl rfl ?_
      refine g_imul act (gx gp_270 (w := 0x2e11) rfl (by decide) rfl) (n := 46) rfl ?_
      refine g_iadd act (gx gp_270 (w := 0x2f0a) rfl (by decide) rfl) (n := 47) rfl ?_
      refine g_loadI act (gx gp_270 (w := 0x2003002) rfl (by decide) rfl) (a := 2) (n := 48) rfl rfl rfl ?_
      refine g_iadd act (gx gp_270 (w := 0x310a) rfl (by decide) rfl) (n := 49) rfl ?_
      refine g_loadI act (gx gp_270 (w := 0x3003202) rfl (by decide) rfl) (a := 3) (n := 50) rfl rfl rfl ?_
      refine n_call tb_pres act hEnd (gx (P := G_call) gp_270 (w := 0xa000000000000c10330000bb00350f) rfl (by decide) rfl) (d' := D_187) rfl (as := [.ref 124, .int (((22 : Int32) + ((4 : Int32) * i1)) + i2), .int i3]) (rest := []) (br_ch1 rw_3 f_9 (by decide)) (show (3 : Nat) = fb 0xa000000000000c10330000bb00350f % 16 by decide) (by show (3 : Nat) ≤ 4; decide) (fun _ => ⟨_, _, rfl, _, shp_at rw_3.1, Or.inr (show fb 0xa000000000000c10330000bb00350f >>> 68 = 10 by decide)⟩) (by omega) (by show 8 + (4 + 11) + 21 ≤ R.locals; omega) (by show (0 : Nat) ≤ 8; decide) (by show kc + 0 ≤ _; omega) (by show ks + 0 ≤ _; omega) (fun r9 h3 hpo hr9 => ?_) (fun x9 hs9 hx9 hpo => ?_)
      · obtain ⟨-, rfl, rfl⟩ := hpo
        show WpN (gp g0 wp) CLS p l e R s m args below meth c Q D_270.2.2.1 kc0 ks0 53 [some (.ref 124), some (.int i1), some (.int i2), some (.int i3)] (hs_12, kc, ks) [.int (0 : Int32)]
        exact g_retI hEnd (gx gp_270 (w := 0x2f) rfl (by decide) rfl) ⟨rfl, Or.inr (Or.inl ⟨(by omega), rfl, f_9, fr_11, ⟨⟨rw_3, f_4, f_5⟩, f_6, ⟨_, f_8, hp9⟩, by omega, hNW, hM.frw fr_11.st0.stR ⟨_, f_9, by have w9 := (show (1 : Int32).toInt = ((1 : Nat) : Int) from by decide); omega, by have w9 := (show (1 : Int32).toInt = ((1 : Nat) : Int) from by decide); omega⟩⟩⟩)⟩ hk1 hk2
      · exact absurd hpo.1 (by omega)
    · simp only [i_eq, i0] at h4
      refine g_loadA act (gx gp_270 (w := 0xa03) rfl (by decide) rfl) (a := 0) (n := 10) rfl rfl rfl ?_
      refine g_loadI act (gx gp_270 (w := 0x2000b02) rfl (by decide) rfl) (a := 2) (n := 11) rfl rfl rfl ?_
      refine n_call tb_pres act hEnd (gx (P := G_call) gp_270 (w := 0xa000000000000c08220000e3000e0f) rfl (by decide) rfl) (d' := D_227) rfl (as := [.ref 124, .int i2]) (rest := [.ref 124]) (b_isNode rw0 hTo (rfl : Int32.toInt i2 = _) (by omega) (by omega)) (show (2 : Nat) = fb 0xa000000000000c08220000e3000e0f % 16 by decide) (by show (2 : Nat) ≤ 2; decide) (fun _ => ⟨_, _, rfl, _, shp_at rw0.1, Or.inr (show fb 0xa000000000000c08220000e3000e0f >>> 68 = 10 by decide)⟩) (by omega) (by show 8 + (2 + 11) + 22 ≤ R.locals; omega) (by show (1 : Nat) ≤ 8; decide) (by show kc + 0 ≤ _; omega) (by show ks + 0 ≤ _; omega) (fun r9 h3 hpo hr9 => ?_) (fun x9 hs9 hx9 hpo => ?_)
      · obtain ⟨-, rfl, hin9⟩ := hpo
        obtain ⟨rv_13, rfl, hr_14⟩ := in1_x hin9
        show WpN (gp g0 wp) CLS p l e R s m args below meth c Q D_270.2.2.1 kc0 ks0 14 [some (.ref 124), some (.int i1), some (.int i2), some (.int i3)] (hs, kc, ks) [.int rv_13, .ref 124]
        refine g_ifNe act (gx gp_270 (w := 0x1500111d) rfl (by decide) rfl) (tgt := 21) (n := 17) rfl rfl (fun h15 => ?_) (fun h15 => ?_)
        · simp only [i_eq, i0] at h15
          refine g_loadI act (gx gp_270 (w := 0x3001602) rfl (by decide) rfl) (a := 3) (n := 22) rfl rfl rfl ?_
          refine g_constI act (gx gp_270 (w := 0x40000000400000001000000001701) rfl (by decide) rfl) (n := 23) (x := (0 : Int32)) (by decide) rfl ?_
          refine g_constI act (gx gp_270 (w := 0x40000064400000641000000001a01) rfl (by decide) rfl) (n := 26) (x := (200 : Int32)) (by decide) rfl ?_
          refine n_call tb_pres act hEnd (gx (P := G_call) gp_270 (w := 0x40c330000d9001d0f) rfl (by decide) rfl) (d' := D_217) rfl (as := [.int i3, .int (0 : Int32), .int (200 : Int32)]) (rest := [.ref 124]) (b_in (rfl : Int32.toInt i3 = _) (show (0 : Int32).toInt = ((0 : Nat) : Int) from by decide) (show (200 : Int32).toInt = ((200 : Nat) : Int) from by decide)) (show (3 : Nat) = fb 0x40c330000d9001d0f % 16 by decide) (by show (3 : Nat) ≤ 3; decide) (fun q => absurd q (by decide)) (by omega) (by show 8 + (3 + 11) + 0 ≤ R.locals; omega) (by show (1 : Nat) ≤ 8; decide) (by show kc + 0 ≤ _; omega) (by show ks + 0 ≤ _; omega) (fun r9 h3 hpo hr9 => ?_) (fun x9 hs9 hx9 hpo => ?_)
          · obtain ⟨-, rfl, hin9⟩ := hpo
            obtain ⟨rv_15, rfl, hr_16⟩ := in1_x hin9
            show WpN (gp g0 wp) CLS p l e R s m args below meth c Q D_270.2.2.1 kc0 ks0 29 [some (.ref 124), some (.int i1), some (.int i2), some (.int i3)] (hs, kc, ks) [.int rv_15, .ref 124]
            refine g_ifEq act (gx gp_270 (w := 0x2400200e) rfl (by decide) rfl) (tgt := 36) (n := 32) rfl rfl (fun h19 => ?_) (fun h19 => ?_)
            · simp only [i_eq, i0] at h19
              refine g_constI act (gx gp_270 (w := 0x40000001400000011000000002501) rfl (by decide) rfl) (n := 37) (x := (2 : Int32)) (by decide) rfl ?_
              refine r_putf act (gx gp_270 (w := 0x9002813) rfl (by decide) rfl) (n := 40) (ci := 9) (j := 0) (N := 39) rfl rfl rfl rw0.1 (by decide) (Or.inl ⟨rfl, _, rfl⟩) ?_
              have rw_17 := RW.wr (k := 124) (j := 0) (v := .int (2 : Int32)) rw0 (Or.inr (by decide))
              have f_18 := hTo.ne (k := 124) (j := 0) (v := .int (2 : Int32)) (by decide)
              have f_19 := hW.ne (k := 124) (j := 0) (v := .int (2 : Int32)) (by decide)
              have f_20 := hPa.ne (k := 124) (j := 0) (v := .int (2 : Int32)) (by decide)
              have f_22 := (rd_ne hs (k := 124) (j := 0) (.int (2 : Int32)) (Or.inr (by decide))).trans e6
              have f_23 := rd_same (j := 0) (v := .int (2 : Int32)) rw0.1
              have fr_24 := hfr0.wr (k := 124) (j := 0) (.int (2 : Int32)) (by unfold WST; omega)
              have fr_25 := hfr1.wr (k := 124) (j := 0) (.int (2 : Int32)) (by unfold WZ0; omega)
              clear hTo hW hPa e0 e6
              generalize (wr hs 124 0 (.int (2 : Int32))) = hs_26 at *
              refine g_loadA act (gx gp_270 (w := 0x2903) rfl (by decide) rfl) (a := 0) (n := 41) rfl rfl rfl ?_
              refine g_constI act (gx gp_270 (w := 0x4000000b4000000b1000000002b01) rfl (by decide) rfl) (n := 43) (x := (22 : Int32)) (by decide) rfl ?_
              refine g_constI act (gx gp_270 (w := 0x40000002400000021000000002c01) rfl (by decide) rfl) (n := 44) (x := (4 : Int32)) (by decide) rfl ?_
              refine g_loadI act (gx gp_270 (w := 0x1002d02) rfl (by decide) rfl) (a := 1) (n := 45) rfl rfl rfl ?_
              refine g_imul act (gx gp_270 (w := 0x2e11) rfl (by decide) rfl) (n := 46) rfl ?_
              refine g_iadd act (gx gp_270 (w := 0x2f0a) rfl (by decide) rfl) (n := 47) rfl ?_
              refine g_loadI act (gx gp_270 (w := 0x2003002) rfl (by decide) rfl) (a := 2) (n := 48) rfl rfl rfl ?_
              refine g_iadd act (gx gp_270 (w := 0x310a) rfl (by decide) rfl) (n := 49) rfl ?_
              refine g_loadI act (gx gp_270 (w := 0x3003202) rfl (by decide) rfl) (a := 3) (n := 50) rfl rfl rfl ?_
              refine n_call tb_pres act hEnd (gx (P := G_call) gp_270 (w := 0xa000000000000c10330000bb00350f) rfl (by decide) rfl) (d' := D_187) rfl (as := [.ref 124, .int (((22 : Int32) + ((4 : Int32) * i1)) + i2), .int i3]) (rest := []) (br_ch1 rw_17 f_23 (by decide)) (show (3 : Nat) = fb 0xa000000000000c10330000bb00350f % 16 by decide) (by show (3 : Nat) ≤ 4; decide) (fun _ => ⟨_, _, rfl, _, shp_at rw_17.1, Or.inr (show fb 0xa000000000000c10330000bb00350f >>> 68 = 10 by decide)⟩) (by omega) (by show 8 + (4 + 11) + 21 ≤ R.locals; omega) (by show (0 : Nat) ≤ 8; decide) (by show kc + 0 ≤ _; omega) (by show ks + 0 ≤ _; omega) (fun r9 h3 hpo hr9 => ?_) (fun x9 hs9 hx9 hpo => ?_)
              · obtain ⟨-, rfl, rfl⟩ := hpo
                show WpN (gp g0 wp) CLS p l e R s m args below meth c Q D_270.2.2.1 kc0 ks0 53 [some (.ref 124), some (.int i1), some (.int i2), some (.int i3)] (hs_26, kc, ks) [.int (0 : Int32)]
                exact g_retI hEnd (gx gp_270 (w := 0x2f) rfl (by decide) rfl) ⟨rfl, Or.inr (Or.inr (⟨(by omega), rfl, f_23, fr_25, ⟨⟨rw_17, f_18, f_19⟩, f_20, ⟨_, f_22, hp9⟩, by omega, hNW, hM.frw fr_25.st0.stR ⟨_, f_23, by have w9 := (show (2 : Int32).toInt = ((2 : Nat) : Int) from by decide); omega, by have w9 := (show (2 : Int32).toInt = ((2 : Nat) : Int) from by decide); omega⟩⟩⟩))⟩ hk1 hk2
              · exact absurd hpo.1 (by omega)
            · simp only [i_eq, i0] at h19
              refine g_constI act (gx gp_270 (w := 0x40000000400000001000000002101) rfl (by decide) rfl) (n := 33) (x := (0 : Int32)) (by decide) rfl ?_
              refine g_goto act (gx gp_270 (w := 0x2507) rfl (by decide) rfl) (n := 37) rfl ?_
              refine r_putf act (gx gp_270 (w := 0x9002813) rfl (by decide) rfl) (n := 40) (ci := 9) (j := 0) (N := 39) rfl rfl rfl rw0.1 (by decide) (Or.inl ⟨rfl, _, rfl⟩) ?_
              have rw_27 := RW.wr (k := 124) (j := 0) (v := .int (0 : Int32)) rw0 (Or.inr (by decide))
              have f_28 := hTo.ne (k := 124) (j := 0) (v := .int (0 : Int32)) (by decide)
              have f_29 := hW.ne (k := 124) (j := 0) (v := .int (0 : Int32)) (by decide)
              have f_30 := hPa.ne (k := 124) (j := 0) (v := .int (0 : Int32)) (by decide)
              have f_32 := (rd_ne hs (k := 124) (j := 0) (.int (0 : Int32)) (Or.inr (by decide))).trans e6
              have f_33 := rd_same (j := 0) (v := .int (0 : Int32)) rw0.1
              have fr_34 := hfr0.wr (k := 124) (j := 0) (.int (0 : Int32)) (by unfold WST; omega)
              have fr_35 := hfr1.wr (k := 124) (j := 0) (.int (0 : Int32)) (by unfold WZ0; omega)
              clear hTo hW hPa e0 e6
              generalize (wr hs 124 0 (.int (0 : Int32))) = hs_36 at *
              refine g_loadA act (gx gp_270 (w := 0x2903) rfl (by decide) rfl) (a := 0) (n := 41) rfl rfl rfl ?_
              refine g_constI act (gx gp_270 (w := 0x4000000b4000000b1000000002b01) rfl (by decide) rfl) (n := 43) (x := (22 : Int32)) (by decide) rfl ?_
              refine g_constI act (gx gp_270 (w := 0x40000002400000021000000002c01) rfl (by decide) rfl) (n := 44) (x := (4 : Int32)) (by decide) rfl ?_
              refine g_loadI act (gx gp_270 (w := 0x1002d02) rfl (by decide) rfl) (a := 1) (n := 45) rfl rfl rfl ?_
              refine g_imul act (gx gp_270 (w := 0x2e11) rfl (by decide) rfl) (n := 46) rfl ?_
              have v_37 := iv_mul (show (4 : Int32).toInt = ((4 : Nat) : Int) from by decide) (rfl : Int32.toInt i1 = _) (show -2147483648 ≤ (((4 : Nat) : Int) * (Int32.toInt i1)) by omega) (show (((4 : Nat) : Int) * (Int32.toInt i1)) < 2147483648 by omega)
              refine g_iadd act (gx gp_270 (w := 0x2f0a) rfl (by decide) rfl) (n := 47) rfl ?_
              have v_38 := iv_add (show (22 : Int32).toInt = ((22 : Nat) : Int) from by decide) v_37 (show -2147483648 ≤ (((22 : Nat) : Int) + (((4 : Nat) : Int) * (Int32.toInt i1))) by omega) (show (((22 : Nat) : Int) + (((4 : Nat) : Int) * (Int32.toInt i1))) < 2147483648 by omega)
              refine g_loadI act (gx gp_270 (w := 0x2003002) rfl (by decide) rfl) (a := 2) (n := 48) rfl rfl rfl ?_
              refine g_iadd act (gx gp_270 (w := 0x310a) rfl (by decide) rfl) (n := 49) rfl ?_
              have v_39 := iv_add v_38 (rfl : Int32.toInt i2 = _) (show -2147483648 ≤ ((((22 : Nat) : Int) + (((4 : Nat) : Int) * (Int32.toInt i1))) + (Int32.toInt i2)) by omega) (show ((((22 : Nat) : Int) + (((4 : Nat) : Int) * (Int32.toInt i1))) + (Int32.toInt i2)) < 2147483648 by omega)
              refine g_loadI act (gx gp_270 (w := 0x3003202) rfl (by decide) rfl) (a := 3) (n := 50) rfl rfl rfl ?_
              obtain ⟨j_40, hj_41⟩ := Int.eq_ofNat_of_zero_le (show (0 : Int) ≤ ((((22 : Nat) : Int) + (((4 : Nat) : Int) * (Int32.toInt i1))) + (Int32.toInt i2)) by omega)
              refine n_call tb_pres act hEnd (gx (P := G_call) gp_270 (w := 0xa000000000000c10330000bb00350f) rfl (by decide) rfl) (d' := D_187) rfl (as := [.ref 124, .int (((22 : Int32) + ((4 : Int32) * i1)) + i2), .int i3]) (rest := []) (bx_ch0 rw_27 f_29 f_30 f_32 hp9 (by omega) f_33 (v_39.trans hj_41) (by omega) (rfl : Int32.toInt i3 = _)) (show (3 : Nat) = fb 0xa000000000000c10330000bb00350f % 16 by decide) (by show (3 : Nat) ≤ 4; decide) (fun _ => ⟨_, _, rfl, _, shp_at rw_27.1, Or.inr (show fb 0xa000000000000c10330000bb00350f >>> 68 = 10 by decide)⟩) (by omega) (by show 8 + (4 + 11) + 21 ≤ R.locals; omega) (by show (0 : Nat) ≤ 8; decide) (by show kc + 0 ≤ _; omega) (by show ks + 0 ≤ _; omega) (fun r9 hs_c42 hpo hr9 => ?_) (fun x9 hs9 hx9 hpo => ?_)
              · obtain ⟨-, ⟨rv_c42, rfl, hv_rv_c42⟩, pv_c42, np_c42, p9_c42, hPa_c42, e6_c42, hp_c42, hq_c42, hr_c42, hW_c42, fr_c42⟩ := hpo
                have rw_43 := rw_27.fr fr_c42 WCh_rw
                have f_44 := f_28.fr (fun j9 _ => fr_c42.2.2 125 j9 (by unfold WCh; omega))
                have f_45 := rd_fr fr_c42 f_33 (by unfold WCh; omega)
                have fr_46 := fr_34.tr (fr_c42.mono (fun k9 j9 h9 => by unfold WCh at h9; unfold WST; omega))
                clear rw_27 f_28 f_29 f_30 f_32 f_33 fr_34
                show WpN (gp g0 wp) CLS p l e R s m args below meth c Q D_270.2.2.1 kc0 ks0 53 [some (.ref 124), some (.int i1), some (.int i2), some (.int i3)] (hs_c42, kc, ks) [.int rv_c42]
                obtain rfl : j_40 = 22 + 4 * i1.toInt.toNat + i2.toInt.toNat := by omega
                exact g_retI hEnd (gx gp_270 (w := 0x2f) rfl (by decide) rfl) ⟨rfl, Or.inl ⟨(by omega), ⟨_, rfl, hv_rv_c42⟩, f_45, fr_46, _, _, hr_c42, ⟨⟨rw_43, f_44, hW_c42⟩, hPa_c42, ⟨_, e6_c42, hp_c42⟩, by omega, (hNW.upd (Or.inr (Or.inr (Or.inr (Or.inr ⟨by omega, by omega, by omega, by omega⟩))))), hM.frw fr_46.stR ⟨_, f_45, by have w9 := (show (0 : Int32).toInt = ((0 : Nat) : Int) from by decide); omega, by have w9 := (show (0 : Int32).toInt = ((0 : Nat) : Int) from by decide); omega⟩⟩⟩⟩ hk1 hk2
              · exact absurd hpo.1 (by omega)
          · exact absurd hpo.1 (by omega)
        · simp only [i_eq, i0] at h15
          refine g_constI act (gx gp_270 (w := 0x40000000c00000009000000001201) rfl (by decide) rfl) (n := 18) (x := (1 : Int32)) (by decide) rfl ?_
          refine g_goto act (gx gp_270 (w := 0x2507) rfl (by decide) rfl) (n := 37) rfl ?_
          refine r_putf act (gx gp_270 (w := 0x9002813) rfl (by decide) rfl) (n := 40) (ci := 9) (j := 0) (N := 39) rfl rfl rfl rw0.1 (by decide) (Or.inl ⟨rfl, _, rfl⟩) ?_
          have rw_47 := RW.wr (k := 124) (j := 0) (v := .int (1 : Int32)) rw0 (Or.inr (by decide))
          have f_48 := hTo.ne (k := 124) (j := 0) (v := .int (1 : Int32)) (by decide)
          have f_49 := hW.ne (k := 124) (j := 0) (v := .int (1 : Int32)) (by decide)
          have f_50 := hPa.ne (k := 124) (j := 0) (v := .int (1 : Int32)) (by decide)
          have f_52 := (rd_ne hs (k := 124) (j := 0) (.int (1 : Int32)) (Or.inr (by decide))).trans e6
          have f_53 := rd_same (j := 0) (v := .int (1 : Int32)) rw0.1
          have fr_54 := hfr0.wr (k := 124) (j := 0) (.int (1 : Int32)) (by unfold WST; omega)
          have fr_55 := hfr1.wr (k := 124) (j := 0) (.int (1 : Int32)) (by unfold WZ0; omega)
          clear hTo hW hPa e0 e6
          generalize (wr hs 124 0 (.int (1 : Int32))) = hs_56 at *
          refine g_loadA act (gx gp_270 (w := 0x2903) rfl (by decide) rfl) (a := 0) (n := 41) rfl rfl rfl ?_
          refine g_constI act (gx gp_270 (w := 0x4000000b4000000b1000000002b01) rfl (by decide) rfl) (n := 43) (x := (22 : Int32)) (by decide) rfl ?_
          refine g_constI act (gx gp_270 (w := 0x40000002400000021000000002c01) rfl (by decide) rfl) (n := 44) (x := (4 : Int32)) (by decide) rfl ?_
          refine g_loadI act (gx gp_270 (w := 0x1002d02) rfl (by decide) rfl) (a := 1) (n := 45) rfl rfl rfl ?_
          refine g_imul act (gx gp_270 (w := 0x2e11) rfl (by decide) rfl) (n := 46) rfl ?_
          refine g_iadd act (gx gp_270 (w := 0x2f0a) rfl (by decide) rfl) (n := 47) rfl ?_
          refine g_loadI act (gx gp_270 (w := 0x2003002) rfl (by decide) rfl) (a := 2) (n := 48) rfl rfl rfl ?_
          refine g_iadd act (gx gp_270 (w := 0x310a) rfl (by decide) rfl) (n := 49) rfl ?_
          refine g_loadI act (gx gp_270 (w := 0x3003202) rfl (by decide) rfl) (a := 3) (n := 50) rfl rfl rfl ?_
          refine n_call tb_pres act hEnd (gx (P := G_call) gp_270 (w := 0xa000000000000c10330000bb00350f) rfl (by decide) rfl) (d' := D_187) rfl (as := [.ref 124, .int (((22 : Int32) + ((4 : Int32) * i1)) + i2), .int i3]) (rest := []) (br_ch1 rw_47 f_53 (by decide)) (show (3 : Nat) = fb 0xa000000000000c10330000bb00350f % 16 by decide) (by show (3 : Nat) ≤ 4; decide) (fun _ => ⟨_, _, rfl, _, shp_at rw_47.1, Or.inr (show fb 0xa000000000000c10330000bb00350f >>> 68 = 10 by decide)⟩) (by omega) (by show 8 + (4 + 11) + 21 ≤ R.locals; omega) (by show (0 : Nat) ≤ 8; decide) (by show kc + 0 ≤ _; omega) (by show ks + 0 ≤ _; omega) (fun r9 h3 hpo hr9 => ?_) (fun x9 hs9 hx9 hpo => ?_)
          · obtain ⟨-, rfl, rfl⟩ := hpo
            show WpN (gp g0 wp) CLS p l e R s m args below meth c Q D_270.2.2.1 kc0 ks0 53 [some (.ref 124), some (.int i1), some (.int i2), some (.int i3)] (hs_56, kc, ks) [.int (0 : Int32)]
            exact g_retI hEnd (gx gp_270 (w := 0x2f) rfl (by decide) rfl) ⟨rfl, Or.inr (Or.inl ⟨(by omega), rfl, f_53, fr_55, ⟨⟨rw_47, f_48, f_49⟩, f_50, ⟨_, f_52, hp9⟩, by omega, hNW, hM.frw fr_55.st0.stR ⟨_, f_53, by have w9 := (show (1 : Int32).toInt = ((1 : Nat) : Int) from by decide); omega, by have w9 := (show (1 : Int32).toInt = ((1 : Nat) : Int) from by decide); omega⟩⟩⟩)⟩ hk1 hk2
          · exact absurd hpo.1 (by omega)
      · exact absurd hpo.1 (by omega)
  · exact absurd hpo.1 (by omega)

theorem bx_setOutage {tl wl pv : Nat → Int} {nl n ng nr np : Nat} {i1 : Int32} (hX0 : MXS hs tl wl pv nl n ng nr np) : BodyN SSX TBL g0 CLS bl xs l D_272 2 44 0 0 [.ref 124, .int i1] hs (fun kd r h2 => kd = 0 ∧ (((i1.toInt = -1 ∨ (0 ≤ i1.toInt ∧ i1.toInt < (nl : Int) ∧ CutOK tl nl i1.toInt n)) ∧ SOk hs h2 tl wl (upI wl 38 i1.toInt) pv nl n ng nr np (wl (38)) r) ∨ ((i1.toInt ≠ -1 ∧ ¬ (0 ≤ i1.toInt ∧ i1.toInt < (nl : Int))) ∧ SBad hs h2 tl wl pv nl n ng nr np 1 r) ∨ ((0 ≤ i1.toInt ∧ i1.toInt < (nl : Int) ∧ ¬ CutOK tl nl i1.toInt n) ∧ SBad hs h2 tl wl pv nl n ng nr np 2 r))) := by
  intro wp p e R s m args below meth c Q kc0 ks0 kc ks act hf hl hc hsl hEnd
  have hf : 2 ≤ R.frames := hf
  have hl : 44 ≤ R.locals := hl
  have hk1 : kc ≤ kc + 0 := by omega
  have hk2 : ks ≤ ks + 0 := by omega
  obtain ⟨⟨rw0, hTo, hW⟩, hPa, ⟨p9, e6, hp9⟩, hp10, hNW, hM⟩ := hX0
  obtain ⟨⟨x0, e0, hx0⟩, -⟩ := id hM
  have hN9 := hNW.1
  obtain ⟨n0, n1, n2, n3, n4, n5, n6, n7, n8, hG0, nL, nC, nP, nD⟩ := hN9
  have hGn := hG0.1
  have hGn3 := hG0.2.1
  have hGl := hG0.2.2.1
  have hfr0 := FrS.rf WST hs
  have hfr1 := FrS.rf WZ0 hs
  show WpN (gp g0 wp) CLS p l e R s m args below meth c Q D_272.2.2.1 kc0 ks0 0 [some (.ref 124), some (.int i1)] (hs, kc, ks) []
  refine g_loadA act (gx gp_272 (w := 0x103) rfl (by decide) rfl) (a := 0) (n := 1) rfl rfl rfl ?_
  refine g_loadI act (gx gp_272 (w := 0x1000202) rfl (by decide) rfl) (a := 1) (n := 2) rfl rfl rfl ?_
  refine g_constI act (gx gp_272 (w := 0x3fffffffbfffffff9000000000301) rfl (by decide) rfl) (n := 3) (x := (-1 : Int32)) (by decide) rfl ?_
  refine g_icmpEq act (gx gp_272 (w := 0x1200062e) rfl (by decide) rfl) (tgt := 18) (n := 6) rfl rfl (fun h4 => ?_) (fun h4 => ?_)
  · simp only [i_eq, show (-1 : Int32).toInt = -1 from by decide] at h4
    refine g_loadI act (gx gp_272 (w := 0x1001302) rfl (by decide) rfl) (a := 1) (n := 19) rfl rfl rfl ?_
    refine g_constI act (gx gp_272 (w := 0x3fffffffbfffffff9000000001401) rfl (by decide) rfl) (n := 20) (x := (-1 : Int32)) (by decide) rfl ?_
    refine g_icmpEq act (gx gp_272 (w := 0x2200172e) rfl (by decide) rfl) (tgt := 34) (n := 23) rfl rfl (fun h7 => ?_) (fun h7 => ?_)
    · simp only [i_eq, show (-1 : Int32).toInt = -1 from by decide] at h7
      refine g_constI act (gx gp_272 (w := 0x40000000400000001000000002301) rfl (by decide) rfl) (n := 35) (x := (0 : Int32)) (by decide) rfl ?_
      refine g_goto act (gx gp_272 (w := 0x2707) rfl (by decide) rfl) (n := 39) rfl ?_
      refine r_putf act (gx gp_272 (w := 0x9002a13) rfl (by decide) rfl) (n := 42) (ci := 9) (j := 0) (N := 39) rfl rfl rfl rw0.1 (by decide) (Or.inl ⟨rfl, _, rfl⟩) ?_
      have rw_1 := RW.wr (k := 124) (j := 0) (v := .int (0 : Int32)) rw0 (Or.inr (by decide))
      have f_2 := hTo.ne (k := 124) (j := 0) (v := .int (0 : Int32)) (by decide)
      have f_3 := hW.ne (k := 124) (j := 0) (v := .int (0 : Int32)) (by decide)
      have f_4 := hPa.ne (k := 124) (j := 0) (v := .int (0 : Int32)) (by decide)
      have f_6 := (rd_ne hs (k := 124) (j := 0) (.int (0 : Int32)) (Or.inr (by decide))).trans e6
      have f_7 := rd_same (j := 0) (v := .int (0 : Int32)) rw0.1
      have fr_8 := hfr0.wr (k := 124) (j := 0) (.int (0 : Int32)) (by unfold WST; omega)
      have fr_9 := hfr1.wr (k := 124) (j := 0) (.int (0 : Int32)) (by unfold WZ0; omega)
      clear hTo hW hPa e0 e6
      generalize (wr hs 124 0 (.int (0 : Int32))) = hs_10 at *
      refine g_loadA act (gx gp_272 (w := 0x2b03) rfl (by decide) rfl) (a := 0) (n := 43) rfl rfl rfl ?_
      refine g_constI act (gx gp_272 (w := 0x40000013400000131000000002d01) rfl (by decide) rfl) (n := 45) (x := (38 : Int32)) (by decide) rfl ?_
      refine g_loadI act (gx gp_272 (w := 0x1002e02) rfl (by decide) rfl) (a := 1) (n := 46) rfl rfl rfl ?_
      refine n_call tb_pres act hEnd (gx (P := G_call) gp_272 (w := 0xa000000000000c10330000bb00310f) rfl (by decide) rfl) (d' := D_187) rfl (as := [.ref 124, .int (38 : Int32), .int i1]) (rest := []) (bx_ch0 rw_1 f_3 f_4 f_6 hp9 (by omega) f_7 (show (38 : Int32).toInt = ((38 : Nat) : Int) from by decide) (by omega) (rfl : Int32.toInt i1 = _)) (show (3 : Nat) = fb 0xa000000000000c10330000bb00310f % 16 by decide) (by show (3 : Nat) ≤ 4; decide) (fun _ => ⟨_, _, rfl, _, shp_at rw_1.1, Or.inr (show fb 0xa000000000000c10330000bb00310f >>> 68 = 10 by decide)⟩) (by omega) (by show 8 + (4 + 11) + 21 ≤ R.locals; omega) (by show (0 : Nat) ≤ 8; decide) (by show kc + 0 ≤ _; omega) (by show ks + 0 ≤ _; omega) (fun r9 hs_c11 hpo hr9 => ?_) (fun x9 hs9 hx9 hpo => ?_)
      · obtain ⟨-, ⟨rv_c11, rfl, hv_rv_c11⟩, pv_c11, np_c11, p9_c11, hPa_c11, e6_c11, hp_c11, hq_c11, hr_c11, hW_c11, fr_c11⟩ := hpo
        have rw_12 := rw_1.fr fr_c11 WCh_rw
        have f_13 := f_2.fr (fun j9 _ => fr_c11.2.2 125 j9 (by unfold WCh; omega))
        have f_14 := rd_fr fr_c11 f_7 (by unfold WCh; omega)
        have fr_15 := fr_8.tr (fr_c11.mono (fun k9 j9 h9 => by unfold WCh at h9; unfold WST; omega))
        clear rw_1 f_2 f_3 f_4 f_6 f_7 fr_8
        show WpN (gp g0 wp) CLS p l e R s m args below meth c Q D_272.2.2.1 kc0 ks0 49 [some (.ref 124), some (.int i1)] (hs_c11, kc, ks) [.int rv_c11]
        exact g_retI hEnd (gx gp_272 (w := 0x2f) rfl (by decide) rfl) ⟨rfl, Or.inl ⟨(Or.inl (by omega)), ⟨_, rfl, hv_rv_c11⟩, f_14, fr_15, _, _, hr_c11, ⟨⟨rw_12, f_13, hW_c11⟩, hPa_c11, ⟨_, e6_c11, hp_c11⟩, by omega, (hNW.out (Or.inl (by omega))), hM.frw fr_15.stR ⟨_, f_14, by have w9 := (show (0 : Int32).toInt = ((0 : Nat) : Int) from by decide); omega, by have w9 := (show (0 : Int32).toInt = ((0 : Nat) : Int) from by decide); omega⟩⟩⟩⟩ hk1 hk2
      · exact absurd hpo.1 (by omega)
    · simp only [i_eq, show (-1 : Int32).toInt = -1 from by decide] at h7
      refine g_loadA act (gx gp_272 (w := 0x1803) rfl (by decide) rfl) (a := 0) (n := 24) rfl rfl rfl ?_
      refine r_getf act (gx gp_272 (w := 0x3000049001b04) rfl (by decide) rfl) (n := 27) (ci := 9) (j := 1) (N := 39) rfl rfl rfl rw0.1 (by decide) (rw0.2 (1, 125, 32, 46) (by decide)).1 ?_
      refine g_loadI act (gx gp_272 (w := 0x1001c02) rfl (by decide) rfl) (a := 1) (n := 28) rfl rfl rfl ?_
      refine n_call tb_pres act hEnd (gx (P := G_call) gp_272 (w := 0x418220000c1001f0f) rfl (by decide) rfl) (d' := D_193) rfl (as := [.ref 125, .int i1]) (rest := [.ref 124]) (bx_con125 (n9 := n) rw0 hTo (rfl : Int32.toInt i1 = _) n2 hGl n0 (by omega) (by omega) (fun l hl => by have w9 := hG0.2.2.2.1 l hl; omega)) (show (2 : Nat) = fb 0x418220000c1001f0f % 16 by decide) (by show (2 : Nat) ≤ 6; decide) (fun q => absurd q (by decide)) (by omega) (by show 8 + (6 + 11) + 0 ≤ R.locals; omega) (by show (1 : Nat) ≤ 8; decide) (by show kc + 0 ≤ _; omega) (by show ks + 0 ≤ _; omega) (fun r9 h3 hpo hr9 => ?_) (fun x9 hs9 hx9 hpo => ?_)
      · obtain ⟨-, rfl, rv_16, rfl, hcn_17⟩ := hpo
        show WpN (gp g0 wp) CLS p l e R s m args below meth c Q D_272.2.2.1 kc0 ks0 31 [some (.ref 124), some (.int i1)] (hs, kc, ks) [.int rv_16, .ref 124]
        refine g_ifEq act (gx gp_272 (w := 0x2600220e) rfl (by decide) rfl) (tgt := 38) (n := 34) rfl rfl (fun h15 => ?_) (fun h15 => ?_)
        · simp only [i_eq, i0] at h15
          refine g_constI act (gx gp_272 (w := 0x40000001400000011000000002701) rfl (by decide) rfl) (n := 39) (x := (2 : Int32)) (by decide) rfl ?_
          refine r_putf act (gx gp_272 (w := 0x9002a13) rfl (by decide) rfl) (n := 42) (ci := 9) (j := 0) (N := 39) rfl rfl rfl rw0.1 (by decide) (Or.inl ⟨rfl, _, rfl⟩) ?_
          have rw_18 := RW.wr (k := 124) (j := 0) (v := .int (2 : Int32)) rw0 (Or.inr (by decide))
          have f_19 := hTo.ne (k := 124) (j := 0) (v := .int (2 : Int32)) (by decide)
          have f_20 := hW.ne (k := 124) (j := 0) (v := .int (2 : Int32)) (by decide)
          have f_21 := hPa.ne (k := 124) (j := 0) (v := .int (2 : Int32)) (by decide)
          have f_23 := (rd_ne hs (k := 124) (j := 0) (.int (2 : Int32)) (Or.inr (by decide))).trans e6
          have f_24 := rd_same (j := 0) (v := .int (2 : Int32)) rw0.1
          have fr_25 := hfr0.wr (k := 124) (j := 0) (.int (2 : Int32)) (by unfold WST; omega)
          have fr_26 := hfr1.wr (k := 124) (j := 0) (.int (2 : Int32)) (by unfold WZ0; omega)
          clear hTo hW hPa e0 e6
          generalize (wr hs 124 0 (.int (2 : Int32))) = hs_27 at *
          refine g_loadA act (gx gp_272 (w := 0x2b03) rfl (by decide) rfl) (a := 0) (n := 43) rfl rfl rfl ?_
          refine g_constI act (gx gp_272 (w := 0x40000013400000131000000002d01) rfl (by decide) rfl) (n := 45) (x := (38 : Int32)) (by decide) rfl ?_
          refine g_loadI act (gx gp_272 (w := 0x1002e02) rfl (by decide) rfl) (a := 1) (n := 46) rfl rfl rfl ?_
          refine n_call tb_pres act hEnd (gx (P := G_call) gp_272 (w := 0xa000000000000c10330000bb00310f) rfl (by decide) rfl) (d' := D_187) rfl (as := [.ref 124, .int (38 : Int32), .int i1]) (rest := []) (br_ch1 rw_18 f_24 (by decide)) (show (3 : Nat) = fb 0xa000000000000c10330000bb00310f % 16 by decide) (by show (3 : Nat) ≤ 4; decide) (fun _ => ⟨_, _, rfl, _, shp_at rw_18.1, Or.inr (show fb 0xa000000000000c10330000bb00310f >>> 68 = 10 by decide)⟩) (by omega) (by show 8 + (4 + 11) + 21 ≤ R.locals; omega) (by show (0 : Nat) ≤ 8; decide) (by show kc + 0 ≤ _; omega) (by show ks + 0 ≤ _; omega) (fun r9 h3 hpo hr9 => ?_) (fun x9 hs9 hx9 hpo => ?_)
          · obtain ⟨-, rfl, rfl⟩ := hpo
            show WpN (gp g0 wp) CLS p l e R s m args below meth c Q D_272.2.2.1 kc0 ks0 49 [some (.ref 124), some (.int i1)] (hs_27, kc, ks) [.int (0 : Int32)]
            exact g_retI hEnd (gx gp_272 (w := 0x2f) rfl (by decide) rfl) ⟨rfl, Or.inr (Or.inr (⟨⟨by omega, by omega, ((hcn_17).resolve_right (by omega)).2⟩, rfl, f_24, fr_26, ⟨⟨rw_18, f_19, f_20⟩, f_21, ⟨_, f_23, hp9⟩, by omega, hNW, hM.frw fr_26.st0.stR ⟨_, f_24, by have w9 := (show (2 : Int32).toInt = ((2 : Nat) : Int) from by decide); omega, by have w9 := (show (2 : Int32).toInt = ((2 : Nat) : Int) from by decide); omega⟩⟩⟩))⟩ hk1 hk2
          · exact absurd hpo.1 (by omega)
        · simp only [i_eq, i0] at h15
          refine g_constI act (gx gp_272 (w := 0x40000000400000001000000002301) rfl (by decide) rfl) (n := 35) (x := (0 : Int32)) (by decide) rfl ?_
          refine g_goto act (gx gp_272 (w := 0x2707) rfl (by decide) rfl) (n := 39) rfl ?_
          refine r_putf act (gx gp_272 (w := 0x9002a13) rfl (by decide) rfl) (n := 42) (ci := 9) (j := 0) (N := 39) rfl rfl rfl rw0.1 (by decide) (Or.inl ⟨rfl, _, rfl⟩) ?_
          have rw_28 := RW.wr (k := 124) (j := 0) (v := .int (0 : Int32)) rw0 (Or.inr (by decide))
          have f_29 := hTo.ne (k := 124) (j := 0) (v := .int (0 : Int32)) (by decide)
          have f_30 := hW.ne (k := 124) (j := 0) (v := .int (0 : Int32)) (by decide)
          have f_31 := hPa.ne (k := 124) (j := 0) (v := .int (0 : Int32)) (by decide)
          have f_33 := (rd_ne hs (k := 124) (j := 0) (.int (0 : Int32)) (Or.inr (by decide))).trans e6
          have f_34 := rd_same (j := 0) (v := .int (0 : Int32)) rw0.1
          have fr_35 := hfr0.wr (k := 124) (j := 0) (.int (0 : Int32)) (by unfold WST; omega)
          have fr_36 := hfr1.wr (k := 124) (j := 0) (.int (0 : Int32)) (by unfold WZ0; omega)
          clear hTo hW hPa e0 e6
          generalize (wr hs 124 0 (.int (0 : Int32))) = hs_37 at *
          refine g_loadA act (gx gp_272 (w := 0x2b03) rfl (by decide) rfl) (a := 0) (n := 43) rfl rfl rfl ?_
          refine g_constI act (gx gp_272 (w := 0x40000013400000131000000002d01) rfl (by decide) rfl) (n := 45) (x := (38 : Int32)) (by decide) rfl ?_
          refine g_loadI act (gx gp_272 (w := 0x1002e02) rfl (by decide) rfl) (a := 1) (n := 46) rfl rfl rfl ?_
          refine n_call tb_pres act hEnd (gx (P := G_call) gp_272 (w := 0xa000000000000c10330000bb00310f) rfl (by decide) rfl) (d' := D_187) rfl (as := [.ref 124, .int (38 : Int32), .int i1]) (rest := []) (bx_ch0 rw_28 f_30 f_31 f_33 hp9 (by omega) f_34 (show (38 : Int32).toInt = ((38 : Nat) : Int) from by decide) (by omega) (rfl : Int32.toInt i1 = _)) (show (3 : Nat) = fb 0xa000000000000c10330000bb00310f % 16 by decide) (by show (3 : Nat) ≤ 4; decide) (fun _ => ⟨_, _, rfl, _, shp_at rw_28.1, Or.inr (show fb 0xa000000000000c10330000bb00310f >>> 68 = 10 by decide)⟩) (by omega) (by show 8 + (4 + 11) + 21 ≤ R.locals; omega) (by show (0 : Nat) ≤ 8; decide) (by show kc + 0 ≤ _; omega) (by show ks + 0 ≤ _; omega) (fun r9 hs_c38 hpo hr9 => ?_) (fun x9 hs9 hx9 hpo => ?_)
          · obtain ⟨-, ⟨rv_c38, rfl, hv_rv_c38⟩, pv_c38, np_c38, p9_c38, hPa_c38, e6_c38, hp_c38, hq_c38, hr_c38, hW_c38, fr_c38⟩ := hpo
            have rw_39 := rw_28.fr fr_c38 WCh_rw
            have f_40 := f_29.fr (fun j9 _ => fr_c38.2.2 125 j9 (by unfold WCh; omega))
            have f_41 := rd_fr fr_c38 f_34 (by unfold WCh; omega)
            have fr_42 := fr_35.tr (fr_c38.mono (fun k9 j9 h9 => by unfold WCh at h9; unfold WST; omega))
            clear rw_28 f_29 f_30 f_31 f_33 f_34 fr_35
            show WpN (gp g0 wp) CLS p l e R s m args below meth c Q D_272.2.2.1 kc0 ks0 49 [some (.ref 124), some (.int i1)] (hs_c38, kc, ks) [.int rv_c38]
            exact g_retI hEnd (gx gp_272 (w := 0x2f) rfl (by decide) rfl) ⟨rfl, Or.inl ⟨(Or.inr ⟨by omega, by omega, ((hcn_17).resolve_left (by omega)).2⟩), ⟨_, rfl, hv_rv_c38⟩, f_41, fr_42, _, _, hr_c38, ⟨⟨rw_39, f_40, hW_c38⟩, hPa_c38, ⟨_, e6_c38, hp_c38⟩, by omega, (hNW.out (Or.inr ⟨by omega, by omega, ((hcn_17).resolve_left (by omega)).2⟩)), hM.frw fr_42.stR ⟨_, f_41, by have w9 := (show (0 : Int32).toInt = ((0 : Nat) : Int) from by decide); omega, by have w9 := (show (0 : Int32).toInt = ((0 : Nat) : Int) from by decide); omega⟩⟩⟩⟩ hk1 hk2
          · exact absurd hpo.1 (by omega)
      · exact absurd hpo.1 (by omega)
  · simp only [i_eq, show (-1 : Int32).toInt = -1 from by decide] at h4
    refine g_loadA act (gx gp_272 (w := 0x703) rfl (by decide) rfl) (a := 0) (n := 7) rfl rfl rfl ?_
    refine g_loadI act (gx gp_272 (w := 0x1000802) rfl (by decide) rfl) (a := 1) (n := 8) rfl rfl rfl ?_
    refine n_call tb_pres act hEnd (gx (P := G_call) gp_272 (w := 0xa000000000000c08220000e2000b0f) rfl (by decide) rfl) (d' := D_226) rfl (as := [.ref 124, .int i1]) (rest := [.ref 124]) (b_isLine rw0 hTo (rfl : Int32.toInt i1 = _) (by omega) (by omega)) (show (2 : Nat) = fb 0xa000000000000c08220000e2000b0f % 16 by decide) (by show (2 : Nat) ≤ 2; decide) (fun _ => ⟨_, _, rfl, _, shp_at rw0.1, Or.inr (show fb 0xa000000000000c08220000e2000b0f >>> 68 = 10 by decide)⟩) (by omega) (by show 8 + (2 + 11) + 22 ≤ R.locals; omega) (by show (1 : Nat) ≤ 8; decide) (by show kc + 0 ≤ _; omega) (by show ks + 0 ≤ _; omega) (fun r9 h3 hpo hr9 => ?_) (fun x9 hs9 hx9 hpo => ?_)
    · obtain ⟨-, rfl, hin9⟩ := hpo
      obtain ⟨rv_43, rfl, hr_44⟩ := in1_x hin9
      show WpN (gp g0 wp) CLS p l e R s m args below meth c Q D_272.2.2.1 kc0 ks0 11 [some (.ref 124), some (.int i1)] (hs, kc, ks) [.int rv_43, .ref 124]
      refine g_ifNe act (gx gp_272 (w := 0x12000e1d) rfl (by decide) rfl) (tgt := 18) (n := 14) rfl rfl (fun h27 => ?_) (fun h27 => ?_)
      · simp only [i_eq, i0] at h27
        refine g_loadI act (gx gp_272 (w := 0x1001302) rfl (by decide) rfl) (a := 1) (n := 19) rfl rfl rfl ?_
        refine g_constI act (gx gp_272 (w := 0x3fffffffbfffffff9000000001401) rfl (by decide) rfl) (n := 20) (x := (-1 : Int32)) (by decide) rfl ?_
        refine g_icmpEq act (gx gp_272 (w := 0x2200172e) rfl (by decide) rfl) (tgt := 34) (n := 23) rfl rfl (fun h30 => ?_) (fun h30 => ?_)
        · simp only [i_eq, show (-1 : Int32).toInt = -1 from by decide] at h30
          refine g_constI act (gx gp_272 (w := 0x40000000400000001000000002301) rfl (by decide) rfl) (n := 35) (x := (0 : Int32)) (by decide) rfl ?_
          refine g_goto act (gx gp_272 (w := 0x2707) rfl (by decide) rfl) (n := 39) rfl ?_
          refine r_putf act (gx gp_272 (w := 0x9002a13) rfl (by decide) rfl) (n := 42) (ci := 9) (j := 0) (N := 39) rfl rfl rfl rw0.1 (by decide) (Or.inl ⟨rfl, _, rfl⟩) ?_
          have rw_45 := RW.wr (k := 124) (j := 0) (v := .int (0 : Int32)) rw0 (Or.inr (by decide))
          have f_46 := hTo.ne (k := 124) (j := 0) (v := .int (0 : Int32)) (by decide)
          have f_47 := hW.ne (k := 124) (j := 0) (v := .int (0 : Int32)) (by decide)
          have f_48 := hPa.ne (k := 124) (j := 0) (v := .int (0 : Int32)) (by decide)
          have f_50 := (rd_ne hs (k := 124) (j := 0) (.int (0 : Int32)) (Or.inr (by decide))).trans e6
          have f_51 := rd_same (j := 0) (v := .int (0 : Int32)) rw0.1
          have fr_52 := hfr0.wr (k := 124) (j := 0) (.int (0 : Int32)) (by unfold WST; omega)
          have fr_53 := hfr1.wr (k := 124) (j := 0) (.int (0 : Int32)) (by unfold WZ0; omega)
          clear hTo hW hPa e0 e6
          generalize (wr hs 124 0 (.int (0 : Int32))) = hs_54 at *
          refine g_loadA act (gx gp_272 (w := 0x2b03) rfl (by decide) rfl) (a := 0) (n := 43) rfl rfl rfl ?_
          refine g_constI act (gx gp_272 (w := 0x40000013400000131000000002d01) rfl (by decide) rfl) (n := 45) (x := (38 : Int32)) (by decide) rfl ?_
          refine g_loadI act (gx gp_272 (w := 0x1002e02) rfl (by decide) rfl) (a := 1) (n := 46) rfl rfl rfl ?_
          refine n_call tb_pres act hEnd (gx (P := G_call) gp_272 (w := 0xa000000000000c10330000bb00310f) rfl (by decide) rfl) (d' := D_187) rfl (as := [.ref 124, .int (38 : Int32), .int i1]) (rest := []) (bx_ch0 rw_45 f_47 f_48 f_50 hp9 (by omega) f_51 (show (38 : Int32).toInt = ((38 : Nat) : Int) from by decide) (by omega) (rfl : Int32.toInt i1 = _)) (show (3 : Nat) = fb 0xa000000000000c10330000bb00310f % 16 by decide) (by show (3 : Nat) ≤ 4; decide) (fun _ => ⟨_, _, rfl, _, shp_at rw_45.1, Or.inr (show fb 0xa000000000000c10330000bb00310f >>> 68 = 10 by decide)⟩) (by omega) (by show 8 + (4 + 11) + 21 ≤ R.locals; omega) (by show (0 : Nat) ≤ 8; decide) (by show kc + 0 ≤ _; omega) (by show ks + 0 ≤ _; omega) (fun r9 hs_c55 hpo hr9 => ?_) (fun x9 hs9 hx9 hpo => ?_)
          · obtain ⟨-, ⟨rv_c55, rfl, hv_rv_c55⟩, pv_c55, np_c55, p9_c55, hPa_c55, e6_c55, hp_c55, hq_c55, hr_c55, hW_c55, fr_c55⟩ := hpo
            have rw_56 := rw_45.fr fr_c55 WCh_rw
            have f_57 := f_46.fr (fun j9 _ => fr_c55.2.2 125 j9 (by unfold WCh; omega))
            have f_58 := rd_fr fr_c55 f_51 (by unfold WCh; omega)
            have fr_59 := fr_52.tr (fr_c55.mono (fun k9 j9 h9 => by unfold WCh at h9; unfold WST; omega))
            clear rw_45 f_46 f_47 f_48 f_50 f_51 fr_52
            show WpN (gp g0 wp) CLS p l e R s m args below meth c Q D_272.2.2.1 kc0 ks0 49 [some (.ref 124), some (.int i1)] (hs_c55, kc, ks) [.int rv_c55]
            exact g_retI hEnd (gx gp_272 (w := 0x2f) rfl (by decide) rfl) ⟨rfl, Or.inl ⟨(Or.inl (by omega)), ⟨_, rfl, hv_rv_c55⟩, f_58, fr_59, _, _, hr_c55, ⟨⟨rw_56, f_57, hW_c55⟩, hPa_c55, ⟨_, e6_c55, hp_c55⟩, by omega, (hNW.out (Or.inl (by omega))), hM.frw fr_59.stR ⟨_, f_58, by have w9 := (show (0 : Int32).toInt = ((0 : Nat) : Int) from by decide); omega, by have w9 := (show (0 : Int32).toInt = ((0 : Nat) : Int) from by decide); omega⟩⟩⟩⟩ hk1 hk2
          · exact absurd hpo.1 (by omega)
        · simp only [i_eq, show (-1 : Int32).toInt = -1 from by decide] at h30
          refine g_loadA act (gx gp_272 (w := 0x1803) rfl (by decide) rfl) (a := 0) (n := 24) rfl rfl rfl ?_
          refine r_getf act (gx gp_272 (w := 0x3000049001b04) rfl (by decide) rfl) (n := 27) (ci := 9) (j := 1) (N := 39) rfl rfl rfl rw0.1 (by decide) (rw0.2 (1, 125, 32, 46) (by decide)).1 ?_
          refine g_loadI act (gx gp_272 (w := 0x1001c02) rfl (by decide) rfl) (a := 1) (n := 28) rfl rfl rfl ?_
          refine n_call tb_pres act hEnd (gx (P := G_call) gp_272 (w := 0x418220000c1001f0f) rfl (by decide) rfl) (d' := D_193) rfl (as := [.ref 125, .int i1]) (rest := [.ref 124]) (bx_con125 (n9 := n) rw0 hTo (rfl : Int32.toInt i1 = _) n2 hGl n0 (by omega) (by omega) (fun l hl => by have w9 := hG0.2.2.2.1 l hl; omega)) (show (2 : Nat) = fb 0x418220000c1001f0f % 16 by decide) (by show (2 : Nat) ≤ 6; decide) (fun q => absurd q (by decide)) (by omega) (by show 8 + (6 + 11) + 0 ≤ R.locals; omega) (by show (1 : Nat) ≤ 8; decide) (by show kc + 0 ≤ _; omega) (by show ks + 0 ≤ _; omega) (fun r9 h3 hpo hr9 => ?_) (fun x9 hs9 hx9 hpo => ?_)
          · obtain ⟨-, rfl, rv_60, rfl, hcn_61⟩ := hpo
            show WpN (gp g0 wp) CLS p l e R s m args below meth c Q D_272.2.2.1 kc0 ks0 31 [some (.ref 124), some (.int i1)] (hs, kc, ks) [.int rv_60, .ref 124]
            refine g_ifEq act (gx gp_272 (w := 0x2600220e) rfl (by decide) rfl) (tgt := 38) (n := 34) rfl rfl (fun h38 => ?_) (fun h38 => ?_)
            · simp only [i_eq, i0] at h38
              refine g_constI act (gx gp_272 (w := 0x40000001400000011000000002701) rfl (by decide) rfl) (n := 39) (x := (2 : Int32)) (by decide) rfl ?_
              refine r_putf act (gx gp_272 (w := 0x9002a13) rfl (by decide) rfl) (n := 42) (ci := 9) (j := 0) (N := 39) rfl rfl rfl rw0.1 (by decide) (Or.inl ⟨rfl, _, rfl⟩) ?_
              have rw_62 := RW.wr (k := 124) (j := 0) (v := .int (2 : Int32)) rw0 (Or.inr (by decide))
              have f_63 := hTo.ne (k := 124) (j := 0) (v := .int (2 : Int32)) (by decide)
              have f_64 := hW.ne (k := 124) (j := 0) (v := .int (2 : Int32)) (by decide)
              have f_65 := hPa.ne (k := 124) (j := 0) (v := .int (2 : Int32)) (by decide)
              have f_67 := (rd_ne hs (k := 124) (j := 0) (.int (2 : Int32)) (Or.inr (by decide))).trans e6
              have f_68 := rd_same (j := 0) (v := .int (2 : Int32)) rw0.1
              have fr_69 := hfr0.wr (k := 124) (j := 0) (.int (2 : Int32)) (by unfold WST; omega)
              have fr_70 := hfr1.wr (k := 124) (j := 0) (.int (2 : Int32)) (by unfold WZ0; omega)
              clear hTo hW hPa e0 e6
              generalize (wr hs 124 0 (.int (2 : Int32))) = hs_71 at *
              refine g_loadA act (gx gp_272 (w := 0x2b03) rfl (by decide) rfl) (a := 0) (n := 43) rfl rfl rfl ?_
              refine g_constI act (gx gp_272 (w := 0x40000013400000131000000002d01) rfl (by decide) rfl) (n := 45) (x := (38 : Int32)) (by decide) rfl ?_
              refine g_loadI act (gx gp_272 (w := 0x1002e02) rfl (by decide) rfl) (a := 1) (n := 46) rfl rfl rfl ?_
              refine n_call tb_pres act hEnd (gx (P := G_call) gp_272 (w := 0xa000000000000c10330000bb00310f) rfl (by decide) rfl) (d' := D_187) rfl (as := [.ref 124, .int (38 : Int32), .int i1]) (rest := []) (br_ch1 rw_62 f_68 (by decide)) (show (3 : Nat) = fb 0xa000000000000c10330000bb00310f % 16 by decide) (by show (3 : Nat) ≤ 4; decide) (fun _ => ⟨_, _, rfl, _, shp_at rw_62.1, Or.inr (show fb 0xa000000000000c10330000bb00310f >>> 68 = 10 by decide)⟩) (by omega) (by show 8 + (4 + 11) + 21 ≤ R.locals; omega) (by show (0 : Nat) ≤ 8; decide) (by show kc + 0 ≤ _; omega) (by show ks + 0 ≤ _; omega) (fun r9 h3 hpo hr9 => ?_) (fun x9 hs9 hx9 hpo => ?_)
              · obtain ⟨-, rfl, rfl⟩ := hpo
                show WpN (gp g0 wp) CLS p l e R s m args below meth c Q D_272.2.2.1 kc0 ks0 49 [some (.ref 124), some (.int i1)] (hs_71, kc, ks) [.int (0 : Int32)]
                exact g_retI hEnd (gx gp_272 (w := 0x2f) rfl (by decide) rfl) ⟨rfl, Or.inr (Or.inr (⟨⟨by omega, by omega, ((hcn_61).resolve_right (by omega)).2⟩, rfl, f_68, fr_70, ⟨⟨rw_62, f_63, f_64⟩, f_65, ⟨_, f_67, hp9⟩, by omega, hNW, hM.frw fr_70.st0.stR ⟨_, f_68, by have w9 := (show (2 : Int32).toInt = ((2 : Nat) : Int) from by decide); omega, by have w9 := (show (2 : Int32).toInt = ((2 : Nat) : Int) from by decide); omega⟩⟩⟩))⟩ hk1 hk2
              · exact absurd hpo.1 (by omega)
            · simp only [i_eq, i0] at h38
              refine g_constI act (gx gp_272 (w := 0x40000000400000001000000002301) rfl (by decide) rfl) (n := 35) (x := (0 : Int32)) (by decide) rfl ?_
              refine g_goto act (gx gp_272 (w := 0x2707) rfl (by decide) rfl) (n := 39) rfl ?_
              refine r_putf act (gx gp_272 (w := 0x9002a13) rfl (by decide) rfl) (n := 42) (ci := 9) (j := 0) (N := 39) rfl rfl rfl rw0.1 (by decide) (Or.inl ⟨rfl, _, rfl⟩) ?_
              have rw_72 := RW.wr (k := 124) (j := 0) (v := .int (0 : Int32)) rw0 (Or.inr (by decide))
              have f_73 := hTo.ne (k := 124) (j := 0) (v := .int (0 : Int32)) (by decide)
              have f_74 := hW.ne (k := 124) (j := 0) (v := .int (0 : Int32)) (by decide)
              have f_75 := hPa.ne (k := 124) (j := 0) (v := .int (0 : Int32)) (by decide)
              have f_77 := (rd_ne hs (k := 124) (j := 0) (.int (0 : Int32)) (Or.inr (by decide))).trans e6
              have f_78 := rd_same (j := 0) (v := .int (0 : Int32)) rw0.1
              have fr_79 := hfr0.wr (k := 124) (j := 0) (.int (0 : Int32)) (by unfold WST; omega)
              have fr_80 := hfr1.wr (k := 124) (j := 0) (.int (0 : Int32)) (by unfold WZ0; omega)
              clear hTo hW hPa e0 e6
              generalize (wr hs 124 0 (.int (0 : Int32))) = hs_81 at *
              refine g_loadA act (gx gp_272 (w := 0x2b03) rfl (by decide) rfl) (a := 0) (n := 43) rfl rfl rfl ?_
              refine g_constI act (gx gp_272 (w := 0x40000013400000131000000002d01) rfl (by decide) rfl) (n := 45) (x := (38 : Int32)) (by decide) rfl ?_
              refine g_loadI act (gx gp_272 (w := 0x1002e02) rfl (by decide) rfl) (a := 1) (n := 46) rfl rfl rfl ?_
              refine n_call tb_pres act hEnd (gx (P := G_call) gp_272 (w := 0xa000000000000c10330000bb00310f) rfl (by decide) rfl) (d' := D_187) rfl (as := [.ref 124, .int (38 : Int32), .int i1]) (rest := []) (bx_ch0 rw_72 f_74 f_75 f_77 hp9 (by omega) f_78 (show (38 : Int32).toInt = ((38 : Nat) : Int) from by decide) (by omega) (rfl : Int32.toInt i1 = _)) (show (3 : Nat) = fb 0xa000000000000c10330000bb00310f % 16 by decide) (by show (3 : Nat) ≤ 4; decide) (fun _ => ⟨_, _, rfl, _, shp_at rw_72.1, Or.inr (show fb 0xa000000000000c10330000bb00310f >>> 68 = 10 by decide)⟩) (by omega) (by show 8 + (4 + 11) + 21 ≤ R.locals; omega) (by show (0 : Nat) ≤ 8; decide) (by show kc + 0 ≤ _; omega) (by show ks + 0 ≤ _; omega) (fun r9 hs_c82 hpo hr9 => ?_) (fun x9 hs9 hx9 hpo => ?_)
              · obtain ⟨-, ⟨rv_c82, rfl, hv_rv_c82⟩, pv_c82, np_c82, p9_c82, hPa_c82, e6_c82, hp_c82, hq_c82, hr_c82, hW_c82, fr_c82⟩ := hpo
                have rw_83 := rw_72.fr fr_c82 WCh_rw
                have f_84 := f_73.fr (fun j9 _ => fr_c82.2.2 125 j9 (by unfold WCh; omega))
                have f_85 := rd_fr fr_c82 f_78 (by unfold WCh; omega)
                have fr_86 := fr_79.tr (fr_c82.mono (fun k9 j9 h9 => by unfold WCh at h9; unfold WST; omega))
                clear rw_72 f_73 f_74 f_75 f_77 f_78 fr_79
                show WpN (gp g0 wp) CLS p l e R s m args below meth c Q D_272.2.2.1 kc0 ks0 49 [some (.ref 124), some (.int i1)] (hs_c82, kc, ks) [.int rv_c82]
                exact g_retI hEnd (gx gp_272 (w := 0x2f) rfl (by decide) rfl) ⟨rfl, Or.inl ⟨(Or.inr ⟨by omega, by omega, ((hcn_61).resolve_left (by omega)).2⟩), ⟨_, rfl, hv_rv_c82⟩, f_85, fr_86, _, _, hr_c82, ⟨⟨rw_83, f_84, hW_c82⟩, hPa_c82, ⟨_, e6_c82, hp_c82⟩, by omega, (hNW.out (Or.inr ⟨by omega, by omega, ((hcn_61).resolve_left (by omega)).2⟩)), hM.frw fr_86.stR ⟨_, f_85, by have w9 := (show (0 : Int32).toInt = ((0 : Nat) : Int) from by decide); omega, by have w9 := (show (0 : Int32).toInt = ((0 : Nat) : Int) from by decide); omega⟩⟩⟩⟩ hk1 hk2
              · exact absurd hpo.1 (by omega)
          · exact absurd hpo.1 (by omega)
      · simp only [i_eq, i0] at h27
        refine g_constI act (gx gp_272 (w := 0x40000000c00000009000000000f01) rfl (by decide) rfl) (n := 15) (x := (1 : Int32)) (by decide) rfl ?_
        refine g_goto act (gx gp_272 (w := 0x2707) rfl (by decide) rfl) (n := 39) rfl ?_
        refine r_putf act (gx gp_272 (w := 0x9002a13) rfl (by decide) rfl) (n := 42) (ci := 9) (j := 0) (N := 39) rfl rfl rfl rw0.1 (by decide) (Or.inl ⟨rfl, _, rfl⟩) ?_
        have rw_87 := RW.wr (k := 124) (j := 0) (v := .int (1 : Int32)) rw0 (Or.inr (by decide))
        have f_88 := hTo.ne (k := 124) (j := 0) (v := .int (1 : Int32)) (by decide)
        have f_89 := hW.ne (k := 124) (j := 0) (v := .int (1 : Int32)) (by decide)
        have f_90 := hPa.ne (k := 124) (j := 0) (v := .int (1 : Int32)) (by decide)
        have f_92 := (rd_ne hs (k := 124) (j := 0) (.int (1 : Int32)) (Or.inr (by decide))).trans e6
        have f_93 := rd_same (j := 0) (v := .int (1 : Int32)) rw0.1
        have fr_94 := hfr0.wr (k := 124) (j := 0) (.int (1 : Int32)) (by unfold WST; omega)
        have fr_95 := hfr1.wr (k := 124) (j := 0) (.int (1 : Int32)) (by unfold WZ0; omega)
        clear hTo hW hPa e0 e6
        generalize (wr hs 124 0 (.int (1 : Int32))) = hs_96 at *
        refine g_loadA act (gx gp_272 (w := 0x2b03) rfl (by decide) rfl) (a := 0) (n := 43) rfl rfl rfl ?_
        refine g_constI act (gx gp_272 (w := 0x40000013400000131000000002d01) rfl (by decide) rfl) (n := 45) (x := (38 : Int32)) (by decide) rfl ?_
        refine g_loadI act (gx gp_272 (w := 0x1002e02) rfl (by decide) rfl) (a := 1) (n := 46) rfl rfl rfl ?_
        refine n_call tb_pres act hEnd (gx (P := G_call) gp_272 (w := 0xa000000000000c10330000bb00310f) rfl (by decide) rfl) (d' := D_187) rfl (as := [.ref 124, .int (38 : Int32), .int i1]) (rest := []) (br_ch1 rw_87 f_93 (by decide)) (show (3 : Nat) = fb 0xa000000000000c10330000bb00310f % 16 by decide) (by show (3 : Nat) ≤ 4; decide) (fun _ => ⟨_, _, rfl, _, shp_at rw_87.1, Or.inr (show fb 0xa000000000000c10330000bb00310f >>> 68 = 10 by decide)⟩) (by omega) (by show 8 + (4 + 11) + 21 ≤ R.locals; omega) (by show (0 : Nat) ≤ 8; decide) (by show kc + 0 ≤ _; omega) (by show ks + 0 ≤ _; omega) (fun r9 h3 hpo hr9 => ?_) (fun x9 hs9 hx9 hpo => ?_)
        · obtain ⟨-, rfl, rfl⟩ := hpo
          show WpN (gp g0 wp) CLS p l e R s m args below meth c Q D_272.2.2.1 kc0 ks0 49 [some (.ref 124), some (.int i1)] (hs_96, kc, ks) [.int (0 : Int32)]
          exact g_retI hEnd (gx gp_272 (w := 0x2f) rfl (by decide) rfl) ⟨rfl, Or.inr (Or.inl ⟨(by omega), rfl, f_93, fr_95, ⟨⟨rw_87, f_88, f_89⟩, f_90, ⟨_, f_92, hp9⟩, by omega, hNW, hM.frw fr_95.st0.stR ⟨_, f_93, by have w9 := (show (1 : Int32).toInt = ((1 : Nat) : Int) from by decide); omega, by have w9 := (show (1 : Int32).toInt = ((1 : Nat) : Int) from by decide); omega⟩⟩⟩)⟩ hk1 hk2
        · exact absurd hpo.1 (by omega)
    · exact absurd hpo.1 (by omega)

theorem bx_undo {tl wl pv : Nat → Int} {nl n ng nr np : Nat} (hX0 : MXS hs tl wl pv nl n ng nr np) (hPN : PNW tl pv nl n ng nr np) : BodyN SSX TBL g0 CLS bl xs l D_286 0 0 0 0 [.ref 124] hs (fun kd r h2 => kd = 0 ∧ ((np = 0 ∧ SBad hs h2 tl wl pv nl n ng nr np 1 r) ∨ (1 ≤ np ∧ (∃ x : Int32, r = some (.int x) ∧ x.toInt = (np : Int) - 1) ∧ rd h2 124 0 = .int 0 ∧ FrS WST hs h2 ∧ ∃ w2 : Nat → Int, (∀ q, q < 39 → w2 q = pv (39 * (np - 1) + q)) ∧ MXS h2 tl w2 pv nl n ng nr (np - 1)))) := by
  intro wp p e R s m args below meth c Q kc0 ks0 kc ks act hf hl hc hsl hEnd
  have hf : 0 ≤ R.frames := hf
  have hl : 0 ≤ R.locals := hl
  have hk1 : kc ≤ kc + 0 := by omega
  have hk2 : ks ≤ ks + 0 := by omega
  have loopE : ∀ (hA : List CE) (f0 : Nat → Int) (pv : Nat → Int) (p9 : Int32) (np0 : Nat), RW hA → IArr hA 127 39 f0 → IArr hA 129 390 pv → rd hA 124 6 = .int p9 → p9.toInt = (np0 : Int) → np0 ≤ 9 → (∀ (h2 : List CE) (f2 : Nat → Int), FrS Wc127 hA h2 → IArr h2 127 39 f2 → (∀ q, q < 39 → f2 q = pv (39 * np0 + q)) → WpN (gp g0 wp) CLS p l e R s m args below meth c Q D_286.2.2.1 kc0 ks0 69 [some (.ref 124), none] (h2, kc, ks) []) → ∀ k0 : Int32, k0.toInt = ((0 : Nat) : Int) → WpN (gp g0 wp) CLS p l e R s m args below meth c Q D_286.2.2.1 kc0 ks0 37 [some (.ref 124), some (.int k0)] (hA, kc, ks) [] := by
    intro hA f0 pv p9 np0 rwA hFA hS0A e6A hp9e hb9e K k0 hk0
    have go : ∀ (hj : List CE) (fj : Nat → Int) (kj : Int32) (k9 : Nat), RW hj → IArr hj 127 39 fj → IArr hj 129 390 pv → rd hj 124 6 = .int p9 → kj.toInt = (k9 : Int) → k9 ≤ 39 → FrS Wc127 hA hj → (∀ q, q < k9 → fj q = pv (39 * np0 + q)) → WpN (gp g0 wp) CLS p l e R s m args below meth c Q D_286.2.2.1 kc0 ks0 37 [some (.ref 124), some (.int kj)] (hj, kc, ks) [] := by
      intro hj fj kj k9 rwj hFj hS0j e6j hkj hkN hfr hI
      generalize hm : 39 - k9 = m9
      induction m9 using Nat.strongRecOn generalizing hj fj kj k9 with
      | _ m9 ih =>
      subst hm
      refine g_loadI act (gx gp_286 (w := 0x1002602) rfl (by decide) rfl) (a := 1) (n := 38) rfl rfl rfl ?_
      refine g_constI act (gx gp_286 (w := 0x40000013c00000139000000002801) rfl (by decide) rfl) (n := 40) (x := (39 : Int32)) (by decide) rfl ?_
      refine g_icmpGe act (gx gp_286 (w := 0x45002b08) rfl (by decide) rfl) (tgt := 69) (n := 43) rfl rfl (fun h3 => ?_) (fun h3 => ?_)
      · simp only [i_le, show (39 : Int32).toInt = 39 from by decide] at h3
        exact n_forget (d := D_286) (L2 := [some (.ref 124), none]) (fun i v hi => by
          match i, hi with
          | 0, hi => exact hi
          | 1, hi => cases hi
          | i + 2, hi => cases hi) (K _ _ hfr hFj (fun q hq => hI q (by omega)))
      · simp only [i_le, show (39 : Int32).toInt = 39 from by decide] at h3
        refine g_loadA act (gx gp_286 (w := 0x2c03) rfl (by decide) rfl) (a := 0) (n := 44) rfl rfl rfl ?_
        refine r_getf act (gx gp_286 (w := 0x30000c9002f04) rfl (by decide) rfl) (n := 47) (ci := 9) (j := 3) (N := 39) rfl rfl rfl rwj.1 (by decide) (rwj.2 (3, 127, 32, 39) (by decide)).1 ?_
        refine g_loadI act (gx gp_286 (w := 0x1003002) rfl (by decide) rfl) (a := 1) (n := 48) rfl rfl rfl ?_
        refine g_loadA act (gx gp_286 (w := 0x3103) rfl (by decide) rfl) (a := 0) (n := 49) rfl rfl rfl ?_
        refine r_getf act (gx gp_286 (w := 0x3000149003404) rfl (by decide) rfl) (n := 52) (ci := 9) (j := 5) (N := 39) rfl rfl rfl rwj.1 (by decide) (rwj.2 (5, 129, 32, 390) (by decide)).1 ?_
        refine g_constI act (gx gp_286 (w := 0x40000013c00000139000000003601) rfl (by decide) rfl) (n := 54) (x := (39 : Int32)) (by decide) rfl ?_
        refine g_loadA act (gx gp_286 (w := 0x3703) rfl (by decide) rfl) (a := 0) (n := 55) rfl rfl rfl ?_
        refine r_getf act (gx gp_286 (w := 0x189003a04) rfl (by decide) rfl) (n := 58) (ci := 9) (j := 6) (N := 39) rfl rfl rfl rwj.1 (by decide) (v := .int p9) e6j ?_
        refine g_imul act (gx gp_286 (w := 0x3b11) rfl (by decide) rfl) (n := 59) rfl ?_
        have v_1 := iv_mulN (show (39 : Int32).toInt = ((39 : Nat) : Int) from by decide) hp9e (show (39 * np0) < 2147483648 by omega)
        refine g_loadI act (gx gp_286 (w := 0x1003c02) rfl (by decide) rfl) (a := 1) (n := 60) rfl rfl rfl ?_
        refine g_iadd act (gx gp_286 (w := 0x3d0a) rfl (by decide) rfl) (n := 61) rfl ?_
        have v_2 := iv_addN v_1 hkj (show ((39 * np0) + k9) < 2147483648 by omega)
        obtain ⟨x_3, e_4, hx_5⟩ := hS0j ((39 * np0) + k9) (by omega)
        refine r_iald act (gx gp_286 (w := 0x3e1a) rfl (by decide) rfl) (n := 62) (j := ((39 * np0) + k9)) rfl (rwj.2 (5, 129, 32, 390) (by decide)).2 v_2 (show ((39 * np0) + k9) < 390 by omega) (v := .int x_3) e_4 ?_
        refine r_iast act (gx gp_286 (w := 0x3f24) rfl (by decide) rfl) (n := 63) (j := k9) rfl (rwj.2 (3, 127, 32, 39) (by decide)).2 hkj (show k9 < 39 by omega) ?_
        have rw_6 := RW.wr (k := 127) (j := k9) (v := .int x_3) rwj (Or.inl (by decide))
        have f_7 := hFj.put (j := k9) (rwj.2 (3, 127, 32, 39) (by decide)).2 hx_5
        have f_8 := hS0j.ne (k := 127) (j := k9) (v := .int x_3) (by decide)
        have f_9 := (rd_ne hj (k := 127) (j := k9) (.int x_3) (Or.inl (by decide))).trans e6j
        have fr_10 := hfr.wr (k := 127) (j := k9) (.int x_3) (by unfold Wc127; omega)
        clear rwj hfr hFj hS0j e6j
        generalize (wr hj 127 k9 (.int x_3)) = hs_11 at *
        refine g_iinc act (gx gp_286 (w := 0x80000001000001004209) rfl (by decide) rfl) (a := 1) (i := (1 : Int32)) (n := 66) rfl (by decide) rfl rfl (L2 := [some (.ref 124), some (.int (kj + (1 : Int32)))]) rfl ?_
        have v_12 := iv_addN hkj (show (1 : Int32).toInt = ((1 : Nat) : Int) from by decide) (show (k9 + 1) < 2147483648 by omega)
        refine g_goto act (gx gp_286 (w := 0x2507) rfl (by decide) rfl) (n := 37) rfl ?_
        exact ih _ (by omega) _ (upI fj k9 (pv ((39 * np0) + k9))) _ (k9 + 1) rw_6 f_7 f_8 f_9 v_12 (by omega) fr_10 (fun q hq => by
          by_cases e9 : q = k9
          · subst e9; simp only [upI, ↓reduceIte]; all_goals rfl
          · have w9 := hI q (by omega); simp only [upI]; omega) rfl
    exact go hA f0 k0 0 rwA hFA hS0A e6A hk0 (Nat.zero_le _) (FrS.rf _ _) (fun q hq => absurd hq (Nat.not_lt_zero _))
  obtain ⟨⟨rw0, hTo, hW⟩, hPa, ⟨p9, e6, hp9⟩, hp10, hNW, hM⟩ := hX0
  obtain ⟨⟨x0, e0, hx0⟩, -⟩ := id hM
  have hN9 := hNW.1
  obtain ⟨n0, n1, n2, n3, n4, n5, n6, n7, n8, hG0, nL, nC, nP, nD⟩ := hN9
  have hGn := hG0.1
  have hGn3 := hG0.2.1
  have hGl := hG0.2.2.1
  have hfr0 := FrS.rf WST hs
  have hfr1 := FrS.rf WZ0 hs
  show WpN (gp g0 wp) CLS p l e R s m args below meth c Q D_286.2.2.1 kc0 ks0 0 [some (.ref 124), none] (hs, kc, ks) []
  refine g_loadA act (gx gp_286 (w := 0x103) rfl (by decide) rfl) (a := 0) (n := 1) rfl rfl rfl ?_
  refine g_loadA act (gx gp_286 (w := 0x203) rfl (by decide) rfl) (a := 0) (n := 2) rfl rfl rfl ?_
  refine r_getf act (gx gp_286 (w := 0x189000504) rfl (by decide) rfl) (n := 5) (ci := 9) (j := 6) (N := 39) rfl rfl rfl rw0.1 (by decide) (v := .int p9) e6 ?_
  refine g_ifNe act (gx gp_286 (w := 0xc00081d) rfl (by decide) rfl) (tgt := 12) (n := 8) rfl rfl (fun h3 => ?_) (fun h3 => ?_)
  · simp only [i_eq, i0] at h3
    refine g_constI act (gx gp_286 (w := 0x40000000400000001000000000d01) rfl (by decide) rfl) (n := 13) (x := (0 : Int32)) (by decide) rfl ?_
    refine r_putf act (gx gp_286 (w := 0x9001013) rfl (by decide) rfl) (n := 16) (ci := 9) (j := 0) (N := 39) rfl rfl rfl rw0.1 (by decide) (Or.inl ⟨rfl, _, rfl⟩) ?_
    have rw_1 := RW.wr (k := 124) (j := 0) (v := .int (0 : Int32)) rw0 (Or.inr (by decide))
    have f_2 := hTo.ne (k := 124) (j := 0) (v := .int (0 : Int32)) (by decide)
    have f_3 := hW.ne (k := 124) (j := 0) (v := .int (0 : Int32)) (by decide)
    have f_4 := hPa.ne (k := 124) (j := 0) (v := .int (0 : Int32)) (by decide)
    have f_6 := (rd_ne hs (k := 124) (j := 0) (.int (0 : Int32)) (Or.inr (by decide))).trans e6
    have f_7 := rd_same (j := 0) (v := .int (0 : Int32)) rw0.1
    have fr_8 := hfr0.wr (k := 124) (j := 0) (.int (0 : Int32)) (by unfold WST; omega)
    have fr_9 := hfr1.wr (k := 124) (j := 0) (.int (0 : Int32)) (by unfold WZ0; omega)
    clear hTo hW hPa e0 e6
    generalize (wr hs 124 0 (.int (0 : Int32))) = hs_10 at *
    refine g_loadA act (gx gp_286 (w := 0x1103) rfl (by decide) rfl) (a := 0) (n := 17) rfl rfl rfl ?_
    refine r_getf act (gx gp_286 (w := 0x9001404) rfl (by decide) rfl) (n := 20) (ci := 9) (j := 0) (N := 39) rfl rfl rfl rw_1.1 (by decide) (v := .int (0 : Int32)) f_7 ?_
    refine g_ifLe act (gx gp_286 (w := 0x1900173d) rfl (by decide) rfl) (tgt := 25) (n := 23) rfl rfl (fun _ => ?_) (fun q => absurd (by decide) q)
    refine g_loadA act (gx gp_286 (w := 0x1a03) rfl (by decide) rfl) (a := 0) (n := 26) rfl rfl rfl ?_
    refine g_dup act (gx gp_286 (w := 0x1b22) rfl (by decide) rfl) (n := 27) rfl rfl ?_
    refine r_getf act (gx gp_286 (w := 0x189001e04) rfl (by decide) rfl) (n := 30) (ci := 9) (j := 6) (N := 39) rfl rfl rfl rw_1.1 (by decide) (v := .int p9) f_6 ?_
    refine g_constI act (gx gp_286 (w := 0x40000000c00000009000000001f01) rfl (by decide) rfl) (n := 31) (x := (1 : Int32)) (by decide) rfl ?_
    refine g_isub act (gx gp_286 (w := 0x2026) rfl (by decide) rfl) (n := 32) rfl ?_
    have v_11 := iv_subN hp9 (show (1 : Int32).toInt = ((1 : Nat) : Int) from by decide) (show 1 ≤ np by omega)
    refine r_putf act (gx gp_286 (w := 0x189002313) rfl (by decide) rfl) (n := 35) (ci := 9) (j := 6) (N := 39) rfl rfl rfl rw_1.1 (by decide) (Or.inl ⟨rfl, _, rfl⟩) ?_
    have rw_12 := RW.wr (k := 124) (j := 6) (v := .int (p9 - (1 : Int32))) rw_1 (Or.inr (by decide))
    have f_13 := f_2.ne (k := 124) (j := 6) (v := .int (p9 - (1 : Int32))) (by decide)
    have f_14 := f_3.ne (k := 124) (j := 6) (v := .int (p9 - (1 : Int32))) (by decide)
    have f_15 := f_4.ne (k := 124) (j := 6) (v := .int (p9 - (1 : Int32))) (by decide)
    have f_17 := (rd_ne hs_10 (k := 124) (j := 6) (.int (p9 - (1 : Int32))) (Or.inr (by decide))).trans f_7
    have f_18 := rd_same (j := 6) (v := .int (p9 - (1 : Int32))) rw_1.1
    have fr_19 := fr_8.wr (k := 124) (j := 6) (.int (p9 - (1 : Int32))) (by unfold WST; omega)
    clear rw_1 fr_8 f_2 f_3 f_4 f_6 f_7
    generalize (wr hs_10 124 6 (.int (p9 - (1 : Int32)))) = hs_20 at *
    refine g_constI act (gx gp_286 (w := 0x40000000400000001000000002401) rfl (by decide) rfl) (n := 36) (x := (0 : Int32)) (by decide) rfl ?_
    refine g_storeI act (gx gp_286 (w := 0x1002510) rfl (by decide) rfl) (a := 1) (n := 37) rfl rfl (L2 := [some (.ref 124), some (.int (0 : Int32))]) rfl ?_
    refine loopE _ _ _ _ _ rw_12 f_14 f_15 f_18 v_11 (by omega) (fun hs_c21 f2_c21 fr_c21 hFa_c21 hz_c21 => ?_) _ (show (0 : Int32).toInt = ((0 : Nat) : Int) from by decide)
    have rw_22 := rw_12.fr fr_c21 Wc127_rw
    have f_23 := f_13.fr (fun j9 _ => fr_c21.2.2 125 j9 (by unfold Wc127; omega))
    have f_24 := f_15.fr (fun j9 _ => fr_c21.2.2 129 j9 (by unfold Wc127; omega))
    have f_25 := rd_fr fr_c21 f_17 (by unfold Wc127; omega)
    have f_26 := rd_fr fr_c21 f_18 (by unfold Wc127; omega)
    have fr_27 := fr_19.tr (fr_c21.mono (fun k9 j9 h9 => by unfold Wc127 at h9; unfold WST; omega))
    have hF_c21 := hFa_c21
    clear rw_12 f_13 f_14 f_15 f_17 f_18 fr_19
    refine g_loadA act (gx gp_286 (w := 0x4603) rfl (by decide) rfl) (a := 0) (n := 70) rfl rfl rfl ?_
    refine r_getf act (gx gp_286 (w := 0x189004904) rfl (by decide) rfl) (n := 73) (ci := 9) (j := 6) (N := 39) rfl rfl rfl rw_22.1 (by decide) (v := .int (p9 - (1 : Int32))) f_26 ?_
    exact g_retI hEnd (gx gp_286 (w := 0x2f) rfl (by decide) rfl) ⟨rfl, Or.inr ⟨by omega, ⟨_, rfl, (v_11).trans (by omega)⟩, f_25, fr_27, _, (fun q hq => hz_c21 q hq), ⟨⟨rw_22, f_23, hF_c21⟩, f_24, ⟨_, f_26, v_11⟩, by omega, ((hPN (np - 1) (by omega)).cong (fun q hq => hz_c21 q hq)), hM.frw fr_27.stR ⟨_, f_25, by have w9 := (show (0 : Int32).toInt = ((0 : Nat) : Int) from by decide); omega, by have w9 := (show (0 : Int32).toInt = ((0 : Nat) : Int) from by decide); omega⟩⟩⟩⟩ hk1 hk2
  · simp only [i_eq, i0] at h3
    refine g_constI act (gx gp_286 (w := 0x40000000c00000009000000000901) rfl (by decide) rfl) (n := 9) (x := (1 : Int32)) (by decide) rfl ?_
    refine g_goto act (gx gp_286 (w := 0xd07) rfl (by decide) rfl) (n := 13) rfl ?_
    refine r_putf act (gx gp_286 (w := 0x9001013) rfl (by decide) rfl) (n := 16) (ci := 9) (j := 0) (N := 39) rfl rfl rfl rw0.1 (by decide) (Or.inl ⟨rfl, _, rfl⟩) ?_
    have rw_28 := RW.wr (k := 124) (j := 0) (v := .int (1 : Int32)) rw0 (Or.inr (by decide))
    have f_29 := hTo.ne (k := 124) (j := 0) (v := .int (1 : Int32)) (by decide)
    have f_30 := hW.ne (k := 124) (j := 0) (v := .int (1 : Int32)) (by decide)
    have f_31 := hPa.ne (k := 124) (j := 0) (v := .int (1 : Int32)) (by decide)
    have f_33 := (rd_ne hs (k := 124) (j := 0) (.int (1 : Int32)) (Or.inr (by decide))).trans e6
    have f_34 := rd_same (j := 0) (v := .int (1 : Int32)) rw0.1
    have fr_35 := hfr0.wr (k := 124) (j := 0) (.int (1 : Int32)) (by unfold WST; omega)
    have fr_36 := hfr1.wr (k := 124) (j := 0) (.int (1 : Int32)) (by unfold WZ0; omega)
    clear hTo hW hPa e0 e6
    generalize (wr hs 124 0 (.int (1 : Int32))) = hs_37 at *
    refine g_loadA act (gx gp_286 (w := 0x1103) rfl (by decide) rfl) (a := 0) (n := 17) rfl rfl rfl ?_
    refine r_getf act (gx gp_286 (w := 0x9001404) rfl (by decide) rfl) (n := 20) (ci := 9) (j := 0) (N := 39) rfl rfl rfl rw_28.1 (by decide) (v := .int (1 : Int32)) f_34 ?_
    refine g_ifLe act (gx gp_286 (w := 0x1900173d) rfl (by decide) rfl) (tgt := 25) (n := 23) rfl rfl (fun q => absurd q (by decide)) (fun _ => ?_)
    refine g_constI act (gx gp_286 (w := 0x40000000400000001000000001801) rfl (by decide) rfl) (n := 24) (x := (0 : Int32)) (by decide) rfl ?_
    exact g_retI hEnd (gx gp_286 (w := 0x2f) rfl (by decide) rfl) ⟨rfl, Or.inl ⟨by omega, rfl, f_34, fr_36, ⟨⟨rw_28, f_29, f_30⟩, f_31, ⟨_, f_33, hp9⟩, by omega, hNW, hM.frw fr_36.st0.stR ⟨_, f_34, by have w9 := (show (1 : Int32).toInt = ((1 : Nat) : Int) from by decide); omega, by have w9 := (show (1 : Int32).toInt = ((1 : Nat) : Int) from by decide); omega⟩⟩⟩⟩ hk1 hk2

end PUBX

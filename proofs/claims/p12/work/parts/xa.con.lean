/-! Trees and cuts; isConnected. -/
theorem kcn_0 {fv : Nat → Int} {z x y : Int} {nl n : Nat} (hy : (n : Int) < y) (hr : ∀ l, l < nl → 0 ≤ fv (5 + l) ∧ fv (5 + l) ≤ (n : Int) ∧ 0 ≤ fv (11 + l) ∧ fv (11 + l) ≤ (n : Int) ∧ fv (5 + l) ≠ fv (11 + l)) : kcn fv z x y nl = 0 := by
  rcases Nat.eq_zero_or_pos (kcn fv z x y nl) with h | h
  · exact h
  · exfalso
    obtain ⟨l, l1, -, l3⟩ := kcn_pos.mp h
    obtain ⟨r1, r2, r3, r4, -⟩ := hr l l1
    omega
theorem conn_iff {fv : Nat → Int} {z : Int} {nl n : Nat} (hn1 : 1 ≤ n) (hn3 : n ≤ 3) (h0 : fv 0 = (n : Int) + 1) (hl6 : nl ≤ 6) (hr : ∀ l, l < nl → 0 ≤ fv (5 + l) ∧ fv (5 + l) ≤ fv 0 - 1 ∧ 0 ≤ fv (11 + l) ∧ fv (11 + l) ≤ fv 0 - 1 ∧ fv (5 + l) ≠ fv (11 + l)) : 0 < det3 (mT fv (fv 0) z nl) ↔ CutOK fv nl z n := by
  have hr2 : ∀ l, l < nl → 0 ≤ fv (5 + l) ∧ fv (5 + l) ≤ (n : Int) ∧ 0 ≤ fv (11 + l) ∧ fv (11 + l) ≤ (n : Int) ∧ fv (5 + l) ≠ fv (11 + l) := fun l hl => by
    have := hr l hl
    omega
  rw [h0, det3_cong (mT_mK (z := z) hn1 hn3 nl hr2), cut_con hn3 (fun l hl => by have := hr2 l hl; omega)]
  refine kir hn1 hn3 (Nat.le_trans (kcn_sum nl) hl6) (fun q => ⟨kcn_0 (n := n) (by omega) hr2, kcn_0 (n := n) (by omega) hr2⟩) (fun q => ⟨kcn_0 (n := n) (by omega) hr2, kcn_0 (n := n) (by omega) hr2, kcn_0 (n := n) (by omega) hr2⟩)
theorem FLS.frK {hs h2 : List CE} {g : Nat} (h : FLS hs 56) (hg : g = 37 ∨ 148 ≤ g) (f : FrS (WKG g) hs h2) : FLS h2 56 := h.fr f (fun k j z => by
  rcases z with z | z
  · unfold WKr at z; omega
  · unfold WGr at z; omega)
theorem FLS.frW {hs h2 : List CE} (h : FLS hs 56) (f : FrS WKr hs h2) : FLS h2 56 := h.fr f (fun k j z => by unfold WKr at z; omega)
theorem GIM.frC {hs h2 : List CE} {g : Nat} {F : Nat → Nat → Int32} (h : GIM hs g F) (f : FrS (WFr 56) hs h2) : GIM h2 g F := by
  have h0 := h.1.1
  exact h.frF f (fun k j z => by unfold WFr at z; omega)
/-- what the reader's steps write: its own ints, the grid's, the factors' -/
def WKF (g : Nat) (k j : Nat) : Prop := WKG g k j ∨ WFr 56 k j

theorem sOut_no {tx : Nat → Int} {L s : Int} {nl n : Nat} {d : GD} (hw : wrd tx L s ≠ wOUTAGE) : sOut tx L s nl n d = (0, s, d.1, upI d.2 38 (-1)) := if_neg hw
theorem sOut_e1 {tx : Nat → Int} {L s : Int} {nl n : Nat} {d : GD} (hw : wrd tx L s = wOUTAGE) (hn : (sNum tx L 0 (d.1 2 - 1) (nxs tx L s)).1 ≠ 0) : (sOut tx L s nl n d).1 = (sNum tx L 0 (d.1 2 - 1) (nxs tx L s)).1 ∧ (sOut tx L s nl n d).2.1 = (sNum tx L 0 (d.1 2 - 1) (nxs tx L s)).2.1 := by
  unfold sOut
  rw [if_pos hw]
  simp only [hn, ne_eq, not_false_eq_true, ↓reduceIte, and_self]
theorem sOut_e2 {tx : Nat → Int} {L s : Int} {nl n : Nat} {d : GD} {a : Int} (hw : wrd tx L s = wOUTAGE) (h1 : (sNum tx L 0 (d.1 2 - 1) (nxs tx L s)).1 = 0) (v1 : a = (sNum tx L 0 (d.1 2 - 1) (nxs tx L s)).2.2) (hc : ¬ CutOK d.1 nl a n) : sOut tx L s nl n d = (5, nxs tx L s, d) := by
  have hb : conB d.1 nl a n = false := by
    cases q : conB d.1 nl a n with
    | false => rfl
    | true => exact absurd (conB_t.mp q) hc
  subst v1
  unfold sOut
  rw [if_pos hw]
  simp only [h1, hb, ne_eq, not_true_eq_false, ↓reduceIte]
theorem sOut_e3 {tx : Nat → Int} {L s : Int} {nl n : Nat} {d : GD} {a s2 : Int} (hw : wrd tx L s = wOUTAGE) (h1 : (sNum tx L 0 (d.1 2 - 1) (nxs tx L s)).1 = 0) (e1 : s2 = (sNum tx L 0 (d.1 2 - 1) (nxs tx L s)).2.1) (v1 : a = (sNum tx L 0 (d.1 2 - 1) (nxs tx L s)).2.2) (hc : CutOK d.1 nl a n) (hn : (sSem tx L s2).1 ≠ 0) : (sOut tx L s nl n d).1 = (sSem tx L s2).1 ∧ (sOut tx L s nl n d).2.1 = (sSem tx L s2).2 := by
  have hb := conB_t.mpr hc
  subst v1
  subst e1
  unfold sOut
  rw [if_pos hw]
  simp only [h1, hb, hn, ne_eq, not_true_eq_false, not_false_eq_true, ↓reduceIte, Bool.true_eq_false, and_self]
theorem sOut_ok {tx : Nat → Int} {L s : Int} {nl n : Nat} {d : GD} {a s2 s3 : Int} (hw : wrd tx L s = wOUTAGE) (h1 : (sNum tx L 0 (d.1 2 - 1) (nxs tx L s)).1 = 0) (e1 : s2 = (sNum tx L 0 (d.1 2 - 1) (nxs tx L s)).2.1) (v1 : a = (sNum tx L 0 (d.1 2 - 1) (nxs tx L s)).2.2) (hc : CutOK d.1 nl a n) (h2 : (sSem tx L s2).1 = 0) (e2 : s3 = (sSem tx L s2).2) : sOut tx L s nl n d = (0, s3, d.1, upI d.2 38 a) := by
  have hb := conB_t.mpr hc
  subst v1
  subst e1
  subst e2
  unfold sOut
  rw [if_pos hw]
  simp only [h1, hb, h2, ne_eq, not_true_eq_false, ↓reduceIte, Bool.true_eq_false]
section CRDK
variable {g0 : GG} {bl : Nat} {xs : Nat → Int32} {l : Launch} {hs : List CE} {tx : Nat → Int} {g nl n9 : Nat} {F : Nat → Nat → Int32} {fv gv : Nat → Int} {o L s P ec ep z : Int} {z9 : Int32}

theorem cx_conn (rw0 : RWC hs g) (hF : FLS hs 56) (hG : GIM hs g F) (hR : REL F fv gv o) (hnl2 : fv 2 = (nl : Int)) (hl6 : nl ≤ 6) (h0 : fv 0 = (n9 : Int) + 1) (hn1 : 1 ≤ n9) (hn3 : n9 ≤ 3) (hr : LRG fv nl) (hz : z9.toInt = z) : BodyN SSX TBL g0 CLS bl xs l D_122 3 74 0 0 [.ref 54, .ref g, .int z9] hs (fun kd r h2 => kd = 0 ∧ ∃ x : Int32, r = some (.int x) ∧ ((x.toInt = 1 ∧ CutOK fv nl z n9) ∨ (x.toInt = 0 ∧ ¬ CutOK fv nl z n9)) ∧ FLS h2 56 ∧ FrS (WFr 56) hs h2) := by
  intro wp p e R sW m args below meth cW Q kc0 ks0 kc ks act hf hl hc hsl hEnd
  have hf : 3 ≤ R.frames := hf
  have hl : 74 ≤ R.locals := hl
  have hg0 := hG.1.1
  show WpN (gp g0 wp) CLS p l e R sW m args below meth cW Q D_122.2.2.1 kc0 ks0 0 [some (.ref 54), some (.ref g), some (.int z9)] (hs, kc, ks) []
  refine g_loadA act (gx gp_122 (w := 0x103) rfl (by decide) rfl) (a := 0) (n := 1) rfl rfl rfl ?_
  refine r_getf act (gx gp_122 (w := 0x3000105000404) rfl (by decide) rfl) (n := 4) (ci := 5) (j := 4) (N := 11) rfl rfl rfl rw0.1 (by decide) (v := .ref 56) rw0.2.2.2.1 ?_
  refine g_loadA act (gx gp_122 (w := 0x1000503) rfl (by decide) rfl) (a := 1) (n := 5) rfl rfl rfl ?_
  refine g_loadI act (gx gp_122 (w := 0x2000602) rfl (by decide) rfl) (a := 2) (n := 6) rfl rfl rfl ?_
  refine n_call tb_pres act hEnd (gx (P := G_call) gp_122 (w := 0x200000000000081c3300004b00090f) rfl (by decide) rfl) (d' := D_75) rfl (f' := 2) (lam' := 48) (mc := 0) (ms := 0) (as := [.ref 56, .ref g, .int z9]) (rest := []) (cx_cmp (b := 56) (nl := nl) (fv := fv) (gv := gv) (o := o) (z := z) hF hG hR (by omega) hz hnl2 hl6 (by omega) (by omega) hr) (show (3 : Nat) = fb 0x200000000000081c3300004b00090f % 16 by decide) (by show (3 : Nat) ≤ 7; decide) (fun _ => ⟨_, _, rfl, _, shp_at hF.2.1, Or.inr (show fb 0x200000000000081c3300004b00090f >>> 68 = 2 by decide)⟩) (by omega) (by show 8 + (7 + 11) + 48 ≤ R.locals; omega) (by show (0 : Nat) ≤ 8; decide) (by show kc + 0 ≤ _; omega) (by show ks + 0 ≤ _; omega) (fun r9 h3 hpo hr9 => ?_) (fun x9 hs9 hx9 hpo => ?_)
  · obtain rfl : r9 = none := hr9.elim (fun q => q.2) (fun q => absurd rfl q.1)
    obtain ⟨-, -, hF3, ⟨t9, hT3, ht9⟩, fr3⟩ := hpo
    have rw3 := rw0.fr fr3 (fun j9 _ _ => by unfold WFr; omega)
    have hci := conn_iff (z := z) hn1 hn3 h0 hl6 hr
    rw [← ht9] at hci
    show WpN (gp g0 wp) CLS p l e R sW m args below meth cW Q D_122.2.2.1 kc0 ks0 9 [some (.ref 54), some (.ref g), some (.int z9)] (h3, kc, ks) []
    refine g_loadA act (gx gp_122 (w := 0xa03) rfl (by decide) rfl) (a := 0) (n := 10) rfl rfl rfl ?_
    refine r_getf act (gx gp_122 (w := 0x3000105000d04) rfl (by decide) rfl) (n := 13) (ci := 5) (j := 4) (N := 11) rfl rfl rfl rw3.1 (by decide) (v := .ref 56) rw3.2.2.2.1 ?_
    refine r_getf act (gx gp_122 (w := 0x2000001001004) rfl (by decide) rfl) (n := 16) (ci := 1) (j := 0) (N := 4) rfl rfl rfl hF3.2.1 (by decide) (v := .long t9) hT3 ?_
    refine g_constL act (gx gp_122 (w := 0x40000000000000002000000001101) rfl (by decide) rfl) (n := 17) (x := 0) (by decide) rfl ?_
    refine g_lcmp act (gx gp_122 (w := 0x120c) rfl (by decide) rfl) (n := 18) rfl ?_
    refine g_ifLe act (gx gp_122 (w := 0x1900153d) rfl (by decide) rfl) (tgt := 25) (n := 21) rfl rfl (fun h7 => ?_) (fun h7 => ?_)
    · simp only [cmpLe, show (0 : Int64).toInt = 0 from by decide] at h7
      refine g_constI act (gx gp_122 (w := 0x40000000400000001000000001a01) rfl (by decide) rfl) (n := 26) (x := (0 : Int32)) (by decide) rfl ?_
      exact g_retZ hEnd (gx gp_122 (w := 0x23) rfl (by decide) rfl) (Or.inl rfl) ⟨rfl, _, rfl, Or.inr ⟨by decide, fun q => by have := hci.mpr q; omega⟩, hF3, fr3⟩ (by show kc ≤ kc + 0; omega) (by show ks ≤ ks + 0; omega)
    · simp only [cmpLe, show (0 : Int64).toInt = 0 from by decide] at h7
      refine g_constI act (gx gp_122 (w := 0x40000000c00000009000000001601) rfl (by decide) rfl) (n := 22) (x := (1 : Int32)) (by decide) rfl ?_
      refine g_goto act (gx gp_122 (w := 0x1a07) rfl (by decide) rfl) (n := 26) rfl ?_
      exact g_retZ hEnd (gx gp_122 (w := 0x23) rfl (by decide) rfl) (Or.inr rfl) ⟨rfl, _, rfl, Or.inl ⟨by decide, hci.mp (by omega)⟩, hF3, fr3⟩ (by show kc ≤ kc + 0; omega) (by show ks ≤ ks + 0; omega)
  · exact absurd hpo.1 (by omega)

theorem cx_checkCon (hF : FLS hs 56) (hG : GIM hs g F) (hR : REL F fv gv o) (hnl2 : fv 2 = (nl : Int)) (hl6 : nl ≤ 6) (h0 : fv 0 = (n9 : Int) + 1) (hn1 : 1 ≤ n9) (hn3 : n9 ≤ 3) (hr : LRG fv nl) (hC : CT hs tx g L s P ec ep) : BodyN SSX TBL g0 CLS bl xs l D_120 9 142 2 22 [.ref 54] hs (fun kd r h2 => (kd = 0 ∧ r = none ∧ sBeh tx L s ∧ CutOK fv nl (-1) n9 ∧ CT h2 tx g L s P ec ep ∧ GIM h2 g F ∧ FLS h2 56 ∧ FrS (WKF g) hs h2) ∨ (kd = 3 ∧ r = none ∧ ((¬ sBeh tx L s ∧ ER h2 tx g L 1 s) ∨ (sBeh tx L s ∧ ¬ CutOK fv nl (-1) n9 ∧ ER h2 tx g L 4 s)) ∧ FrS (WKF g) hs h2)) := by
  intro wp p e R sW m args below meth cW Q kc0 ks0 kc ks act hf hl hc hsl hEnd
  have hf : 9 ≤ R.frames := hf
  have hl : 142 ≤ R.locals := hl
  have hfr0 := FrS.rf (WKF g) hs
  have hg0 := hG.1.1
  obtain ⟨hP_t1, qt_1, qu_1⟩ := hC
  have qv_1 := tkE_le (T := tx) (L := L) (s := s) (by omega)
  obtain ⟨rw_2, hT_2, ⟨x1_2, e1_2, a1_2⟩, ⟨x2_2, e2_2, a2_2⟩, ⟨x6_2, e6_2, a6_2⟩, ⟨x7_2, e7_2, a7_2⟩, ⟨x8_2, e8_2, a8_2⟩, ⟨x9_2, e9_2, a9_2⟩, ⟨x10_2, e10_2, a10_2⟩, q1_2, q2_2, q3_2, q4_2⟩ := hP_t1
  show WpN (gp g0 wp) CLS p l e R sW m args below meth cW Q D_120.2.2.1 kc0 ks0 0 [some (.ref 54), none] (hs, kc, ks) []
  refine g_loadA act (gx gp_120 (w := 0x103) rfl (by decide) rfl) (a := 0) (n := 1) rfl rfl rfl ?_
  refine r_getf act (gx gp_120 (w := 0x1c5000404) rfl (by decide) rfl) (n := 4) (ci := 5) (j := 7) (N := 11) rfl rfl rfl rw_2.1 (by decide) (v := .int x7_2) e7_2 ?_
  refine g_constI act (gx gp_120 (w := 0x40000001c00000019000000000501) rfl (by decide) rfl) (n := 5) (x := (3 : Int32)) (by decide) rfl ?_
  refine g_icmpEq act (gx gp_120 (w := 0x2c00082e) rfl (by decide) rfl) (tgt := 44) (n := 8) rfl rfl (fun h3 => ?_) (fun h3 => ?_)
  · simp only [i_eq, show (3 : Int32).toInt = 3 from by decide] at h3
    refine g_constI act (gx gp_120 (w := 0x40000000c00000009000000002d01) rfl (by decide) rfl) (n := 45) (x := (1 : Int32)) (by decide) rfl ?_
    refine g_goto act (gx gp_120 (w := 0x3107) rfl (by decide) rfl) (n := 49) rfl ?_
    refine g_storeI act (gx gp_120 (w := 0x1003210) rfl (by decide) rfl) (a := 1) (n := 50) rfl rfl (L2 := [some (.ref 54), some (.int (1 : Int32))]) rfl ?_
    refine g_loadI act (gx gp_120 (w := 0x1003302) rfl (by decide) rfl) (a := 1) (n := 51) rfl rfl rfl ?_
    refine g_ifNe act (gx gp_120 (w := 0x3f00361d) rfl (by decide) rfl) (tgt := 63) (n := 54) rfl rfl (fun _ => ?_) (fun q => absurd (by decide) q)
    have hbe : sBeh tx L s := by unfold sBeh; omega
    refine g_loadA act (gx gp_120 (w := 0x4003) rfl (by decide) rfl) (a := 0) (n := 64) rfl rfl rfl ?_
    refine g_loadA act (gx gp_120 (w := 0x4103) rfl (by decide) rfl) (a := 0) (n := 65) rfl rfl rfl ?_
    refine r_getf act (gx gp_120 (w := 0x3000145004404) rfl (by decide) rfl) (n := 68) (ci := 5) (j := 5) (N := 11) rfl rfl rfl rw_2.1 (by decide) (v := .ref g) rw_2.2.2.2.2 ?_
    refine g_constI act (gx gp_120 (w := 0x3fffffffbfffffff9000000004501) rfl (by decide) rfl) (n := 69) (x := (-1 : Int32)) (by decide) rfl ?_
    refine n_call tb_pres act hEnd (gx (P := G_call) gp_120 (w := 0x6000000000000c0c3300007a00480f) rfl (by decide) rfl) (d' := D_122) rfl (f' := 3) (lam' := 74) (mc := 0) (ms := 0) (as := [.ref 54, .ref g, .int (-1 : Int32)]) (rest := []) (cx_conn (z := (-1)) rw_2 hF hG hR hnl2 hl6 h0 hn1 hn3 hr (by have q9 := (show (-1 : Int32).toInt = (-1 : Int) from by decide); omega)) (show (3 : Nat) = fb 0x6000000000000c0c3300007a00480f % 16 by decide) (by show (3 : Nat) ≤ 3; decide) (fun _ => ⟨_, _, rfl, _, shp_at rw_2.1, Or.inr (show fb 0x6000000000000c0c3300007a00480f >>> 68 = 6 by decide)⟩) (by omega) (by show 8 + (3 + 11) + 74 ≤ R.locals; omega) (by show (0 : Nat) ≤ 8; decide) (by show kc + 0 ≤ _; omega) (by show ks + 0 ≤ _; omega) (fun r9 hs_c3 hpo hr9 => ?_) (fun x9 hs9 hx9 hpo => ?_)
    · obtain ⟨-, xv_c3, rfl, hq_c3, hF_c3, fr_c3⟩ := hpo
      have rw_c3 := rw_2.fr fr_c3 (fun j9 _ _ => by unfold WFr; omega)
      have f_4 := hT_2.fr fr_c3 (fun j9 => by unfold WFr; omega)
      have f_5 := (fr_c3.2.2 54 1 (by unfold WFr; omega)).trans e1_2
      have f_6 := (fr_c3.2.2 54 2 (by unfold WFr; omega)).trans e2_2
      have f_7 := (fr_c3.2.2 54 6 (by unfold WFr; omega)).trans e6_2
      have f_8 := (fr_c3.2.2 54 7 (by unfold WFr; omega)).trans e7_2
      have f_9 := (fr_c3.2.2 54 8 (by unfold WFr; omega)).trans e8_2
      have f_10 := (fr_c3.2.2 54 9 (by unfold WFr; omega)).trans e9_2
      have f_11 := (fr_c3.2.2 54 10 (by unfold WFr; omega)).trans e10_2
      have f_12 := hG.frC fr_c3
      have fr_14 := hfr0.tr (fr_c3.mono (fun _ _ h9 => Or.inr h9))
      clear rw_2 hT_2 e1_2 e2_2 e6_2 e7_2 e8_2 e9_2 e10_2 hG hF hfr0
      show WpN (gp g0 wp) CLS p l e R sW m args below meth cW Q D_120.2.2.1 kc0 ks0 72 [some (.ref 54), some (.int (1 : Int32))] (hs_c3, kc, ks) [.int xv_c3]
      refine g_ifNe act (gx gp_120 (w := 0x54004b1d) rfl (by decide) rfl) (tgt := 84) (n := 75) rfl rfl (fun h11 => ?_) (fun h11 => ?_)
      · simp only [i_eq, i0] at h11
        exact g_retV hEnd (gx gp_120 (w := 0x18) rfl (by decide) rfl) (Or.inl ⟨rfl, rfl, hbe, (hq_c3.resolve_right (fun q9 => by omega)).2, (show CT hs_c3 tx g L s P ec ep from ⟨(show CRD hs_c3 tx g L (tkK tx L s) s (tkE tx L s) P ec ep from ⟨rw_c3, f_4, ⟨_, f_5, (by have q9 := a1_2; omega)⟩, ⟨_, f_6, (by have q9 := a2_2; omega)⟩, ⟨_, f_7, (by have q9 := a6_2; omega)⟩, ⟨_, f_8, (by have q9 := a7_2; omega)⟩, ⟨_, f_9, (by have q9 := a8_2; omega)⟩, ⟨_, f_10, (by have q9 := a9_2; omega)⟩, ⟨_, f_11, (by have q9 := a10_2; omega)⟩, by omega, by omega, by omega, by omega⟩), by omega, by omega⟩), f_12, hF_c3, fr_14⟩) (by show kc ≤ kc + 2; omega) (by show ks ≤ ks + 22; omega)
      · simp only [i_eq, i0] at h11
        refine g_loadA act (gx gp_120 (w := 0x4c03) rfl (by decide) rfl) (a := 0) (n := 76) rfl rfl rfl ?_
        refine g_constI act (gx gp_120 (w := 0x40000002400000021000000004d01) rfl (by decide) rfl) (n := 77) (x := (4 : Int32)) (by decide) rfl ?_
        refine g_loadA act (gx gp_120 (w := 0x4e03) rfl (by decide) rfl) (a := 0) (n := 78) rfl rfl rfl ?_
        refine r_getf act (gx gp_120 (w := 0x205005104) rfl (by decide) rfl) (n := 81) (ci := 5) (j := 8) (N := 11) rfl rfl rfl rw_c3.1 (by decide) (v := .int x8_2) f_9 ?_
        refine n_call tb_pres act hEnd (gx (P := G_call) gp_120 (w := 0x600000000000080c3300008800540f) rfl (by decide) rfl) (d' := D_136) rfl (f' := 8) (lam' := 120) (mc := 1) (ms := 11) (as := [.ref 54, .int (4 : Int32), .int x8_2]) (rest := []) (cx_refuse (c1 := (4 : Int32)) (c2 := x8_2) (show CRD hs_c3 tx g L (tkK tx L s) s (tkE tx L s) P ec ep from ⟨rw_c3, f_4, ⟨_, f_5, a1_2⟩, ⟨_, f_6, a2_2⟩, ⟨_, f_7, a6_2⟩, ⟨_, f_8, a7_2⟩, ⟨_, f_9, a8_2⟩, ⟨_, f_10, a9_2⟩, ⟨_, f_11, a10_2⟩, by omega, by omega, by omega, by omega⟩)) (show (3 : Nat) = fb 0x600000000000080c3300008800540f % 16 by decide) (by show (3 : Nat) ≤ 3; decide) (fun _ => ⟨_, _, rfl, _, shp_at rw_c3.1, Or.inr (show fb 0x600000000000080c3300008800540f >>> 68 = 6 by decide)⟩) (by omega) (by show 8 + (3 + 11) + 120 ≤ R.locals; omega) (by show (0 : Nat) ≤ 8; decide) (by show kc + 1 ≤ _; omega) (by show ks + 11 ≤ _; omega) (fun r9 h3 hpo hr9 => ?_) (fun x9 hs9 hx9 hpo => ?_)
        · obtain rfl : r9 = none := hr9.elim (fun q => q.2) (fun q => absurd rfl q.1)
          exact absurd hpo.1 (by decide)
        · obtain ⟨hk_c15, -, hD_c15, fr_c15⟩ := hpo
          rw [(show (4 : Int32).toInt = ((4 : Nat) : Int) from by decide), a8_2] at hD_c15
          have hE_c15 : ER hs9 tx g L ((4 : Nat) : Int) s := ⟨_, _, _, _, hD_c15⟩
          have ft_c15 := fr_14.tr (fr_c15.mono (fun _ _ h9 => Or.inl (Or.inl h9)))
          refine Or.inr ⟨rfl, Or.inr ⟨by omega, rfl, Or.inr ⟨hbe, hq_c3.resolve_left (fun q9 => by omega) |>.2, hE_c15⟩, ft_c15⟩, by show kc + 1 ≤ kc + 2; omega, by show ks + 11 ≤ ks + 22; omega⟩
    · exact absurd hpo.1 (by omega)
  · simp only [i_eq, show (3 : Int32).toInt = 3 from by decide] at h3
    refine g_loadA act (gx gp_120 (w := 0x903) rfl (by decide) rfl) (a := 0) (n := 9) rfl rfl rfl ?_
    refine g_str act (gx gp_120 (w := 0x7000000000b01) rfl (by decide) rfl) (n := 11) (by decide) rfl (fun i_16 k_16 t_16 hd_16 hk_16 => ?_)
    obtain rfl : i_16 = 138 := by
      have q9 := (show decode D_120.2.1 9 = .ok (.ldc 138, 2) from by decide +kernel).symm.trans hd_16
      cases q9
      rfl
    obtain rfl : k_16 = 12 := (lit_ix _ _ _ hk_16).1 rfl
    refine n_call tb_pres act hEnd (gx (P := G_call) gp_120 (w := 0x6000000000000c0c2200007b000e0f) rfl (by decide) rfl) (d' := D_123) rfl (f' := 4) (lam' := 100) (mc := 0) (ms := 0) (as := [.ref 54, .ref (litK 12)]) (rest := []) (cx_isw (i := 12) (by decide) (by decide) (show CT hs tx g L s P ec ep from ⟨(show CRD hs tx g L (tkK tx L s) s (tkE tx L s) P ec ep from ⟨rw_2, hT_2, ⟨_, e1_2, (by have q9 := a1_2; omega)⟩, ⟨_, e2_2, (by have q9 := a2_2; omega)⟩, ⟨_, e6_2, (by have q9 := a6_2; omega)⟩, ⟨_, e7_2, (by have q9 := a7_2; omega)⟩, ⟨_, e8_2, (by have q9 := a8_2; omega)⟩, ⟨_, e9_2, (by have q9 := a9_2; omega)⟩, ⟨_, e10_2, (by have q9 := a10_2; omega)⟩, by omega, by omega, by omega, by omega⟩), by omega, by omega⟩)) (show (2 : Nat) = fb 0x6000000000000c0c2200007b000e0f % 16 by decide) (by show (2 : Nat) ≤ 3; decide) (fun _ => ⟨_, _, rfl, _, shp_at rw_2.1, Or.inr (show fb 0x6000000000000c0c2200007b000e0f >>> 68 = 6 by decide)⟩) (by omega) (by show 8 + (3 + 11) + 100 ≤ R.locals; omega) (by show (0 : Nat) ≤ 8; decide) (by show kc + 0 ≤ _; omega) (by show ks + 0 ≤ _; omega) (fun r9 h3 hpo hr9 => ?_) (fun x9 hs9 hx9 hpo => ?_)
    · obtain ⟨-, rfl, xv_c17, rfl, hw_c17⟩ := hpo
      rw [show lwd 12 = wGENERATOR from lwd_all.1] at hw_c17
      show WpN (gp g0 wp) CLS p l e R sW m args below meth cW Q D_120.2.2.1 kc0 ks0 14 [some (.ref 54), none] (hs, kc, ks) [.int xv_c17]
      refine g_ifNe act (gx gp_120 (w := 0x2c00111d) rfl (by decide) rfl) (tgt := 44) (n := 17) rfl rfl (fun h16 => ?_) (fun h16 => ?_)
      · simp only [i_eq, i0] at h16
        refine g_constI act (gx gp_120 (w := 0x40000000c00000009000000002d01) rfl (by decide) rfl) (n := 45) (x := (1 : Int32)) (by decide) rfl ?_
        refine g_goto act (gx gp_120 (w := 0x3107) rfl (by decide) rfl) (n := 49) rfl ?_
        refine g_storeI act (gx gp_120 (w := 0x1003210) rfl (by decide) rfl) (a := 1) (n := 50) rfl rfl (L2 := [some (.ref 54), some (.int (1 : Int32))]) rfl ?_
        refine g_loadI act (gx gp_120 (w := 0x1003302) rfl (by decide) rfl) (a := 1) (n := 51) rfl rfl rfl ?_
        refine g_ifNe act (gx gp_120 (w := 0x3f00361d) rfl (by decide) rfl) (tgt := 63) (n := 54) rfl rfl (fun _ => ?_) (fun q => absurd (by decide) q)
        have hbe : sBeh tx L s := by unfold sBeh; omega
        refine g_loadA act (gx gp_120 (w := 0x4003) rfl (by decide) rfl) (a := 0) (n := 64) rfl rfl rfl ?_
        refine g_loadA act (gx gp_120 (w := 0x4103) rfl (by decide) rfl) (a := 0) (n := 65) rfl rfl rfl ?_
        refine r_getf act (gx gp_120 (w := 0x3000145004404) rfl (by decide) rfl) (n := 68) (ci := 5) (j := 5) (N := 11) rfl rfl rfl rw_2.1 (by decide) (v := .ref g) rw_2.2.2.2.2 ?_
        refine g_constI act (gx gp_120 (w := 0x3fffffffbfffffff9000000004501) rfl (by decide) rfl) (n := 69) (x := (-1 : Int32)) (by decide) rfl ?_
        refine n_call tb_pres act hEnd (gx (P := G_call) gp_120 (w := 0x6000000000000c0c3300007a00480f) rfl (by decide) rfl) (d' := D_122) rfl (f' := 3) (lam' := 74) (mc := 0) (ms := 0) (as := [.ref 54, .ref g, .int (-1 : Int32)]) (rest := []) (cx_conn (z := (-1)) rw_2 hF hG hR hnl2 hl6 h0 hn1 hn3 hr (by have q9 := (show (-1 : Int32).toInt = (-1 : Int) from by decide); omega)) (show (3 : Nat) = fb 0x6000000000000c0c3300007a00480f % 16 by decide) (by show (3 : Nat) ≤ 3; decide) (fun _ => ⟨_, _, rfl, _, shp_at rw_2.1, Or.inr (show fb 0x6000000000000c0c3300007a00480f >>> 68 = 6 by decide)⟩) (by omega) (by show 8 + (3 + 11) + 74 ≤ R.locals; omega) (by show (0 : Nat) ≤ 8; decide) (by show kc + 0 ≤ _; omega) (by show ks + 0 ≤ _; omega) (fun r9 hs_c18 hpo hr9 => ?_) (fun x9 hs9 hx9 hpo => ?_)
        · obtain ⟨-, xv_c18, rfl, hq_c18, hF_c18, fr_c18⟩ := hpo
          have rw_c18 := rw_2.fr fr_c18 (fun j9 _ _ => by unfold WFr; omega)
          have f_19 := hT_2.fr fr_c18 (fun j9 => by unfold WFr; omega)
          have f_20 := (fr_c18.2.2 54 1 (by unfold WFr; omega)).trans e1_2
          have f_21 := (fr_c18.2.2 54 2 (by unfold WFr; omega)).trans e2_2
          have f_22 := (fr_c18.2.2 54 6 (by unfold WFr; omega)).trans e6_2
          have f_23 := (fr_c18.2.2 54 7 (by unfold WFr; omega)).trans e7_2
          have f_24 := (fr_c18.2.2 54 8 (by unfold WFr; omega)).trans e8_2
          have f_25 := (fr_c18.2.2 54 9 (by unfold WFr; omega)).trans e9_2
          have f_26 := (fr_c18.2.2 54 10 (by unfold WFr; omega)).trans e10_2
          have f_27 := hG.frC fr_c18
          have fr_29 := hfr0.tr (fr_c18.mono (fun _ _ h9 => Or.inr h9))
          clear rw_2 hT_2 e1_2 e2_2 e6_2 e7_2 e8_2 e9_2 e10_2 hG hF hfr0
          show WpN (gp g0 wp) CLS p l e R sW m args below meth cW Q D_120.2.2.1 kc0 ks0 72 [some (.ref 54), some (.int (1 : Int32))] (hs_c18, kc, ks) [.int xv_c18]
          refine g_ifNe act (gx gp_120 (w := 0x54004b1d) rfl (by decide) rfl) (tgt := 84) (n := 75) rfl rfl (fun h24 => ?_) (fun h24 => ?_)
          · simp only [i_eq, i0] at h24
            exact g_retV hEnd (gx gp_120 (w := 0x18) rfl (by decide) rfl) (Or.inl ⟨rfl, rfl, hbe, (hq_c18.resolve_right (fun q9 => by omega)).2, (show CT hs_c18 tx g L s P ec ep from ⟨(show CRD hs_c18 tx g L (tkK tx L s) s (tkE tx L s) P ec ep from ⟨rw_c18, f_19, ⟨_, f_20, (by have q9 := a1_2; omega)⟩, ⟨_, f_21, (by have q9 := a2_2; omega)⟩, ⟨_, f_22, (by have q9 := a6_2; omega)⟩, ⟨_, f_23, (by have q9 := a7_2; omega)⟩, ⟨_, f_24, (by have q9 := a8_2; omega)⟩, ⟨_, f_25, (by have q9 := a9_2; omega)⟩, ⟨_, f_26, (by have q9 := a10_2; omega)⟩, by omega, by omega, by omega, by omega⟩), by omega, by omega⟩), f_27, hF_c18, fr_29⟩) (by show kc ≤ kc + 2; omega) (by show ks ≤ ks + 22; omega)
          · simp only [i_eq, i0] at h24
            refine g_loadA act (gx gp_120 (w := 0x4c03) rfl (by decide) rfl) (a := 0) (n := 76) rfl rfl rfl ?_
            refine g_constI act (gx gp_120 (w := 0x40000002400000021000000004d01) rfl (by decide) rfl) (n := 77) (x := (4 : Int32)) (by decide) rfl ?_
            refine g_loadA act (gx gp_120 (w := 0x4e03) rfl (by decide) rfl) (a := 0) (n := 78) rfl rfl rfl ?_
            refine r_getf act (gx gp_120 (w := 0x205005104) rfl (by decide) rfl) (n := 81) (ci := 5) (j := 8) (N := 11) rfl rfl rfl rw_c18.1 (by decide) (v := .int x8_2) f_24 ?_
            refine n_call tb_pres act hEnd (gx (P := G_call) gp_120 (w := 0x600000000000080c3300008800540f) rfl (by decide) rfl) (d' := D_136) rfl (f' := 8) (lam' := 120) (mc := 1) (ms := 11) (as := [.ref 54, .int (4 : Int32), .int x8_2]) (rest := []) (cx_refuse (c1 := (4 : Int32)) (c2 := x8_2) (show CRD hs_c18 tx g L (tkK tx L s) s (tkE tx L s) P ec ep from ⟨rw_c18, f_19, ⟨_, f_20, a1_2⟩, ⟨_, f_21, a2_2⟩, ⟨_, f_22, a6_2⟩, ⟨_, f_23, a7_2⟩, ⟨_, f_24, a8_2⟩, ⟨_, f_25, a9_2⟩, ⟨_, f_26, a10_2⟩, by omega, by omega, by omega, by omega⟩)) (show (3 : Nat) = fb 0x600000000000080c3300008800540f % 16 by decide) (by show (3 : Nat) ≤ 3; decide) (fun _ => ⟨_, _, rfl, _, shp_at rw_c18.1, Or.inr (show fb 0x600000000000080c3300008800540f >>> 68 = 6 by decide)⟩) (by omega) (by show 8 + (3 + 11) + 120 ≤ R.locals; omega) (by show (0 : Nat) ≤ 8; decide) (by show kc + 1 ≤ _; omega) (by show ks + 11 ≤ _; omega) (fun r9 h3 hpo hr9 => ?_) (fun x9 hs9 hx9 hpo => ?_)
            · obtain rfl : r9 = none := hr9.elim (fun q => q.2) (fun q => absurd rfl q.1)
              exact absurd hpo.1 (by decide)
            · obtain ⟨hk_c30, -, hD_c30, fr_c30⟩ := hpo
              rw [(show (4 : Int32).toInt = ((4 : Nat) : Int) from by decide), a8_2] at hD_c30
              have hE_c30 : ER hs9 tx g L ((4 : Nat) : Int) s := ⟨_, _, _, _, hD_c30⟩
              have ft_c30 := fr_29.tr (fr_c30.mono (fun _ _ h9 => Or.inl (Or.inl h9)))
              refine Or.inr ⟨rfl, Or.inr ⟨by omega, rfl, Or.inr ⟨hbe, hq_c18.resolve_left (fun q9 => by omega) |>.2, hE_c30⟩, ft_c30⟩, by show kc + 1 ≤ kc + 2; omega, by show ks + 11 ≤ ks + 22; omega⟩
        · exact absurd hpo.1 (by omega)
      · simp only [i_eq, i0] at h16
        refine g_loadA act (gx gp_120 (w := 0x1203) rfl (by decide) rfl) (a := 0) (n := 18) rfl rfl rfl ?_
        refine g_str act (gx gp_120 (w := 0x7000000001401) rfl (by decide) rfl) (n := 20) (by decide) rfl (fun i_31 k_31 t_31 hd_31 hk_31 => ?_)
        obtain rfl : i_31 = 140 := by
          have q9 := (show decode D_120.2.1 18 = .ok (.ldc 140, 2) from by decide +kernel).symm.trans hd_31
          cases q9
          rfl
        obtain rfl : k_31 = 13 := (lit_ix _ _ _ hk_31).2.1 rfl
        refine n_call tb_pres act hEnd (gx (P := G_call) gp_120 (w := 0x6000000000000c0c2200007b00170f) rfl (by decide) rfl) (d' := D_123) rfl (f' := 4) (lam' := 100) (mc := 0) (ms := 0) (as := [.ref 54, .ref (litK 13)]) (rest := []) (cx_isw (i := 13) (by decide) (by decide) (show CT hs tx g L s P ec ep from ⟨(show CRD hs tx g L (tkK tx L s) s (tkE tx L s) P ec ep from ⟨rw_2, hT_2, ⟨_, e1_2, (by have q9 := a1_2; omega)⟩, ⟨_, e2_2, (by have q9 := a2_2; omega)⟩, ⟨_, e6_2, (by have q9 := a6_2; omega)⟩, ⟨_, e7_2, (by have q9 := a7_2; omega)⟩, ⟨_, e8_2, (by have q9 := a8_2; omega)⟩, ⟨_, e9_2, (by have q9 := a9_2; omega)⟩, ⟨_, e10_2, (by have q9 := a10_2; omega)⟩, by omega, by omega, by omega, by omega⟩), by omega, by omega⟩)) (show (2 : Nat) = fb 0x6000000000000c0c2200007b00170f % 16 by decide) (by show (2 : Nat) ≤ 3; decide) (fun _ => ⟨_, _, rfl, _, shp_at rw_2.1, Or.inr (show fb 0x6000000000000c0c2200007b00170f >>> 68 = 6 by decide)⟩) (by omega) (by show 8 + (3 + 11) + 100 ≤ R.locals; omega) (by show (0 : Nat) ≤ 8; decide) (by show kc + 0 ≤ _; omega) (by show ks + 0 ≤ _; omega) (fun r9 h3 hpo hr9 => ?_) (fun x9 hs9 hx9 hpo => ?_)
        · obtain ⟨-, rfl, xv_c32, rfl, hw_c32⟩ := hpo
          rw [show lwd 13 = wDEMAND from lwd_all.2.1] at hw_c32
          show WpN (gp g0 wp) CLS p l e R sW m args below meth cW Q D_120.2.2.1 kc0 ks0 23 [some (.ref 54), none] (hs, kc, ks) [.int xv_c32]
          refine g_ifNe act (gx gp_120 (w := 0x2c001a1d) rfl (by decide) rfl) (tgt := 44) (n := 26) rfl rfl (fun h29 => ?_) (fun h29 => ?_)
          · simp only [i_eq, i0] at h29
            refine g_constI act (gx gp_120 (w := 0x40000000c00000009000000002d01) rfl (by decide) rfl) (n := 45) (x := (1 : Int32)) (by decide) rfl ?_
            refine g_goto act (gx gp_120 (w := 0x3107) rfl (by decide) rfl) (n := 49) rfl ?_
            refine g_storeI act (gx gp_120 (w := 0x1003210) rfl (by decide) rfl) (a := 1) (n := 50) rfl rfl (L2 := [some (.ref 54), some (.int (1 : Int32))]) rfl ?_
            refine g_loadI act (gx gp_120 (w := 0x1003302) rfl (by decide) rfl) (a := 1) (n := 51) rfl rfl rfl ?_
            refine g_ifNe act (gx gp_120 (w := 0x3f00361d) rfl (by decide) rfl) (tgt := 63) (n := 54) rfl rfl (fun _ => ?_) (fun q => absurd (by decide) q)
            have hbe : sBeh tx L s := by unfold sBeh; omega
            refine g_loadA act (gx gp_120 (w := 0x4003) rfl (by decide) rfl) (a := 0) (n := 64) rfl rfl rfl ?_
            refine g_loadA act (gx gp_120 (w := 0x4103) rfl (by decide) rfl) (a := 0) (n := 65) rfl rfl rfl ?_
            refine r_getf act (gx gp_120 (w := 0x3000145004404) rfl (by decide) rfl) (n := 68) (ci := 5) (j := 5) (N := 11) rfl rfl rfl rw_2.1 (by decide) (v := .ref g) rw_2.2.2.2.2 ?_
            refine g_constI act (gx gp_120 (w := 0x3fffffffbfffffff9000000004501) rfl (by decide) rfl) (n := 69) (x := (-1 : Int32)) (by decide) rfl ?_
            refine n_call tb_pres act hEnd (gx (P := G_call) gp_120 (w := 0x6000000000000c0c3300007a00480f) rfl (by decide) rfl) (d' := D_122) rfl (f' := 3) (lam' := 74) (mc := 0) (ms := 0) (as := [.ref 54, .ref g, .int (-1 : Int32)]) (rest := []) (cx_conn (z := (-1)) rw_2 hF hG hR hnl2 hl6 h0 hn1 hn3 hr (by have q9 := (show (-1 : Int32).toInt = (-1 : Int) from by decide); omega)) (show (3 : Nat) = fb 0x6000000000000c0c3300007a00480f % 16 by decide) (by show (3 : Nat) ≤ 3; decide) (fun _ => ⟨_, _, rfl, _, shp_at rw_2.1, Or.inr (show fb 0x6000000000000c0c3300007a00480f >>> 68 = 6 by decide)⟩) (by omega) (by show 8 + (3 + 11) + 74 ≤ R.locals; omega) (by show (0 : Nat) ≤ 8; decide) (by show kc + 0 ≤ _; omega) (by show ks + 0 ≤ _; omega) (fun r9 hs_c33 hpo hr9 => ?_) (fun x9 hs9 hx9 hpo => ?_)
            · obtain ⟨-, xv_c33, rfl, hq_c33, hF_c33, fr_c33⟩ := hpo
              have rw_c33 := rw_2.fr fr_c33 (fun j9 _ _ => by unfold WFr; omega)
              have f_34 := hT_2.fr fr_c33 (fun j9 => by unfold WFr; omega)
              have f_35 := (fr_c33.2.2 54 1 (by unfold WFr; omega)).trans e1_2
              have f_36 := (fr_c33.2.2 54 2 (by unfold WFr; omega)).trans e2_2
              have f_37 := (fr_c33.2.2 54 6 (by unfold WFr; omega)).trans e6_2
              have f_38 := (fr_c33.2.2 54 7 (by unfold WFr; omega)).trans e7_2
              have f_39 := (fr_c33.2.2 54 8 (by unfold WFr; omega)).trans e8_2
              have f_40 := (fr_c33.2.2 54 9 (by unfold WFr; omega)).trans e9_2
              have f_41 := (fr_c33.2.2 54 10 (by unfold WFr; omega)).trans e10_2
              have f_42 := hG.frC fr_c33
              have fr_44 := hfr0.tr (fr_c33.mono (fun _ _ h9 => Or.inr h9))
              clear rw_2 hT_2 e1_2 e2_2 e6_2 e7_2 e8_2 e9_2 e10_2 hG hF hfr0
              show WpN (gp g0 wp) CLS p l e R sW m args below meth cW Q D_120.2.2.1 kc0 ks0 72 [some (.ref 54), some (.int (1 : Int32))] (hs_c33, kc, ks) [.int xv_c33]
              refine g_ifNe act (gx gp_120 (w := 0x54004b1d) rfl (by decide) rfl) (tgt := 84) (n := 75) rfl rfl (fun h37 => ?_) (fun h37 => ?_)
              · simp only [i_eq, i0] at h37
                exact g_retV hEnd (gx gp_120 (w := 0x18) rfl (by decide) rfl) (Or.inl ⟨rfl, rfl, hbe, (hq_c33.resolve_right (fun q9 => by omega)).2, (show CT hs_c33 tx g L s P ec ep from ⟨(show CRD hs_c33 tx g L (tkK tx L s) s (tkE tx L s) P ec ep from ⟨rw_c33, f_34, ⟨_, f_35, (by have q9 := a1_2; omega)⟩, ⟨_, f_36, (by have q9 := a2_2; omega)⟩, ⟨_, f_37, (by have q9 := a6_2; omega)⟩, ⟨_, f_38, (by have q9 := a7_2; omega)⟩, ⟨_, f_39, (by have q9 := a8_2; omega)⟩, ⟨_, f_40, (by have q9 := a9_2; omega)⟩, ⟨_, f_41, (by have q9 := a10_2; omega)⟩, by omega, by omega, by omega, by omega⟩), by omega, by omega⟩), f_42, hF_c33, fr_44⟩) (by show kc ≤ kc + 2; omega) (by show ks ≤ ks + 22; omega)
              · simp only [i_eq, i0] at h37
                refine g_loadA act (gx gp_120 (w := 0x4c03) rfl (by decide) rfl) (a := 0) (n := 76) rfl rfl rfl ?_
                refine g_constI act (gx gp_120 (w := 0x40000002400000021000000004d01) rfl (by decide) rfl) (n := 77) (x := (4 : Int32)) (by decide) rfl ?_
                refine g_loadA act (gx gp_120 (w := 0x4e03) rfl (by decide) rfl) (a := 0) (n := 78) rfl rfl rfl ?_
                refine r_getf act (gx gp_120 (w := 0x205005104) rfl (by decide) rfl) (n := 81) (ci := 5) (j := 8) (N := 11) rfl rfl rfl rw_c33.1 (by decide) (v := .int x8_2) f_39 ?_
                refine n_call tb_pres act hEnd (gx (P := G_call) gp_120 (w := 0x600000000000080c3300008800540f) rfl (by decide) rfl) (d' := D_136) rfl (f' := 8) (lam' := 120) (mc := 1) (ms := 11) (as := [.ref 54, .int (4 : Int32), .int x8_2]) (rest := []) (cx_refuse (c1 := (4 : Int32)) (c2 := x8_2) (show CRD hs_c33 tx g L (tkK tx L s) s (tkE tx L s) P ec ep from ⟨rw_c33, f_34, ⟨_, f_35, a1_2⟩, ⟨_, f_36, a2_2⟩, ⟨_, f_37, a6_2⟩, ⟨_, f_38, a7_2⟩, ⟨_, f_39, a8_2⟩, ⟨_, f_40, a9_2⟩, ⟨_, f_41, a10_2⟩, by omega, by omega, by omega, by omega⟩)) (show (3 : Nat) = fb 0x600000000000080c3300008800540f % 16 by decide) (by show (3 : Nat) ≤ 3; decide) (fun _ => ⟨_, _, rfl, _, shp_at rw_c33.1, Or.inr (show fb 0x600000000000080c3300008800540f >>> 68 = 6 by decide)⟩) (by omega) (by show 8 + (3 + 11) + 120 ≤ R.locals; omega) (by show (0 : Nat) ≤ 8; decide) (by show kc + 1 ≤ _; omega) (by show ks + 11 ≤ _; omega) (fun r9 h3 hpo hr9 => ?_) (fun x9 hs9 hx9 hpo => ?_)
                · obtain rfl : r9 = none := hr9.elim (fun q => q.2) (fun q => absurd rfl q.1)
                  exact absurd hpo.1 (by decide)
                · obtain ⟨hk_c45, -, hD_c45, fr_c45⟩ := hpo
                  rw [(show (4 : Int32).toInt = ((4 : Nat) : Int) from by decide), a8_2] at hD_c45
                  have hE_c45 : ER hs9 tx g L ((4 : Nat) : Int) s := ⟨_, _, _, _, hD_c45⟩
                  have ft_c45 := fr_44.tr (fr_c45.mono (fun _ _ h9 => Or.inl (Or.inl h9)))
                  refine Or.inr ⟨rfl, Or.inr ⟨by omega, rfl, Or.inr ⟨hbe, hq_c33.resolve_left (fun q9 => by omega) |>.2, hE_c45⟩, ft_c45⟩, by show kc + 1 ≤ kc + 2; omega, by show ks + 11 ≤ ks + 22; omega⟩
            · exact absurd hpo.1 (by omega)
          · simp only [i_eq, i0] at h29
            refine g_loadA act (gx gp_120 (w := 0x1b03) rfl (by decide) rfl) (a := 0) (n := 27) rfl rfl rfl ?_
            refine g_str act (gx gp_120 (w := 0x7000000001d01) rfl (by decide) rfl) (n := 29) (by decide) rfl (fun i_46 k_46 t_46 hd_46 hk_46 => ?_)
            obtain rfl : i_46 = 142 := by
              have q9 := (show decode D_120.2.1 27 = .ok (.ldc 142, 2) from by decide +kernel).symm.trans hd_46
              cases q9
              rfl
            obtain rfl : k_46 = 14 := (lit_ix _ _ _ hk_46).2.2.1 rfl
            refine n_call tb_pres act hEnd (gx (P := G_call) gp_120 (w := 0x6000000000000c0c2200007b00200f) rfl (by decide) rfl) (d' := D_123) rfl (f' := 4) (lam' := 100) (mc := 0) (ms := 0) (as := [.ref 54, .ref (litK 14)]) (rest := []) (cx_isw (i := 14) (by decide) (by decide) (show CT hs tx g L s P ec ep from ⟨(show CRD hs tx g L (tkK tx L s) s (tkE tx L s) P ec ep from ⟨rw_2, hT_2, ⟨_, e1_2, (by have q9 := a1_2; omega)⟩, ⟨_, e2_2, (by have q9 := a2_2; omega)⟩, ⟨_, e6_2, (by have q9 := a6_2; omega)⟩, ⟨_, e7_2, (by have q9 := a7_2; omega)⟩, ⟨_, e8_2, (by have q9 := a8_2; omega)⟩, ⟨_, e9_2, (by have q9 := a9_2; omega)⟩, ⟨_, e10_2, (by have q9 := a10_2; omega)⟩, by omega, by omega, by omega, by omega⟩), by omega, by omega⟩)) (show (2 : Nat) = fb 0x6000000000000c0c2200007b00200f % 16 by decide) (by show (2 : Nat) ≤ 3; decide) (fun _ => ⟨_, _, rfl, _, shp_at rw_2.1, Or.inr (show fb 0x6000000000000c0c2200007b00200f >>> 68 = 6 by decide)⟩) (by omega) (by show 8 + (3 + 11) + 100 ≤ R.locals; omega) (by show (0 : Nat) ≤ 8; decide) (by show kc + 0 ≤ _; omega) (by show ks + 0 ≤ _; omega) (fun r9 h3 hpo hr9 => ?_) (fun x9 hs9 hx9 hpo => ?_)
            · obtain ⟨-, rfl, xv_c47, rfl, hw_c47⟩ := hpo
              rw [show lwd 14 = wRIGHT from lwd_all.2.2.1] at hw_c47
              show WpN (gp g0 wp) CLS p l e R sW m args below meth cW Q D_120.2.2.1 kc0 ks0 32 [some (.ref 54), none] (hs, kc, ks) [.int xv_c47]
              refine g_ifNe act (gx gp_120 (w := 0x2c00231d) rfl (by decide) rfl) (tgt := 44) (n := 35) rfl rfl (fun h42 => ?_) (fun h42 => ?_)
              · simp only [i_eq, i0] at h42
                refine g_constI act (gx gp_120 (w := 0x40000000c00000009000000002d01) rfl (by decide) rfl) (n := 45) (x := (1 : Int32)) (by decide) rfl ?_
                refine g_goto act (gx gp_120 (w := 0x3107) rfl (by decide) rfl) (n := 49) rfl ?_
                refine g_storeI act (gx gp_120 (w := 0x1003210) rfl (by decide) rfl) (a := 1) (n := 50) rfl rfl (L2 := [some (.ref 54), some (.int (1 : Int32))]) rfl ?_
                refine g_loadI act (gx gp_120 (w := 0x1003302) rfl (by decide) rfl) (a := 1) (n := 51) rfl rfl rfl ?_
                refine g_ifNe act (gx gp_120 (w := 0x3f00361d) rfl (by decide) rfl) (tgt := 63) (n := 54) rfl rfl (fun _ => ?_) (fun q => absurd (by decide) q)
                have hbe : sBeh tx L s := by unfold sBeh; omega
                refine g_loadA act (gx gp_120 (w := 0x4003) rfl (by decide) rfl) (a := 0) (n := 64) rfl rfl rfl ?_
                refine g_loadA act (gx gp_120 (w := 0x4103) rfl (by decide) rfl) (a := 0) (n := 65) rfl rfl rfl ?_
                refine r_getf act (gx gp_120 (w := 0x3000145004404) rfl (by decide) rfl) (n := 68) (ci := 5) (j := 5) (N := 11) rfl rfl rfl rw_2.1 (by decide) (v := .ref g) rw_2.2.2.2.2 ?_
                refine g_constI act (gx gp_120 (w := 0x3fffffffbfffffff9000000004501) rfl (by decide) rfl) (n := 69) (x := (-1 : Int32)) (by decide) rfl ?_
                refine n_call tb_pres act hEnd (gx (P := G_call) gp_120 (w := 0x6000000000000c0c3300007a00480f) rfl (by decide) rfl) (d' := D_122) rfl (f' := 3) (lam' := 74) (mc := 0) (ms := 0) (as := [.ref 54, .ref g, .int (-1 : Int32)]) (rest := []) (cx_conn (z := (-1)) rw_2 hF hG hR hnl2 hl6 h0 hn1 hn3 hr (by have q9 := (show (-1 : Int32).toInt = (-1 : Int) from by decide); omega)) (show (3 : Nat) = fb 0x6000000000000c0c3300007a00480f % 16 by decide) (by show (3 : Nat) ≤ 3; decide) (fun _ => ⟨_, _, rfl, _, shp_at rw_2.1, Or.inr (show fb 0x6000000000000c0c3300007a00480f >>> 68 = 6 by decide)⟩) (by omega) (by show 8 + (3 + 11) + 74 ≤ R.locals; omega) (by show (0 : Nat) ≤ 8; decide) (by show kc + 0 ≤ _; omega) (by show ks + 0 ≤ _; omega) (fun r9 hs_c48 hpo hr9 => ?_) (fun x9 hs9 hx9 hpo => ?_)
                · obtain ⟨-, xv_c48, rfl, hq_c48, hF_c48, fr_c48⟩ := hpo
                  have rw_c48 := rw_2.fr fr_c48 (fun j9 _ _ => by unfold WFr; omega)
                  have f_49 := hT_2.fr fr_c48 (fun j9 => by unfold WFr; omega)
                  have f_50 := (fr_c48.2.2 54 1 (by unfold WFr; omega)).trans e1_2
                  have f_51 := (fr_c48.2.2 54 2 (by unfold WFr; omega)).trans e2_2
                  have f_52 := (fr_c48.2.2 54 6 (by unfold WFr; omega)).trans e6_2
                  have f_53 := (fr_c48.2.2 54 7 (by unfold WFr; omega)).trans e7_2
                  have f_54 := (fr_c48.2.2 54 8 (by unfold WFr; omega)).trans e8_2
                  have f_55 := (fr_c48.2.2 54 9 (by unfold WFr; omega)).trans e9_2
                  have f_56 := (fr_c48.2.2 54 10 (by unfold WFr; omega)).trans e10_2
                  have f_57 := hG.frC fr_c48
                  have fr_59 := hfr0.tr (fr_c48.mono (fun _ _ h9 => Or.inr h9))
                  clear rw_2 hT_2 e1_2 e2_2 e6_2 e7_2 e8_2 e9_2 e10_2 hG hF hfr0
                  show WpN (gp g0 wp) CLS p l e R sW m args below meth cW Q D_120.2.2.1 kc0 ks0 72 [some (.ref 54), some (.int (1 : Int32))] (hs_c48, kc, ks) [.int xv_c48]
                  refine g_ifNe act (gx gp_120 (w := 0x54004b1d) rfl (by decide) rfl) (tgt := 84) (n := 75) rfl rfl (fun h50 => ?_) (fun h50 => ?_)
                  · simp only [i_eq, i0] at h50
                    exact g_retV hEnd (gx gp_120 (w := 0x18) rfl (by decide) rfl) (Or.inl ⟨rfl, rfl, hbe, (hq_c48.resolve_right (fun q9 => by omega)).2, (show CT hs_c48 tx g L s P ec ep from ⟨(show CRD hs_c48 tx g L (tkK tx L s) s (tkE tx L s) P ec ep from ⟨rw_c48, f_49, ⟨_, f_50, (by have q9 := a1_2; omega)⟩, ⟨_, f_51, (by have q9 := a2_2; omega)⟩, ⟨_, f_52, (by have q9 := a6_2; omega)⟩, ⟨_, f_53, (by have q9 := a7_2; omega)⟩, ⟨_, f_54, (by have q9 := a8_2; omega)⟩, ⟨_, f_55, (by have q9 := a9_2; omega)⟩, ⟨_, f_56, (by have q9 := a10_2; omega)⟩, by omega, by omega, by omega, by omega⟩), by omega, by omega⟩), f_57, hF_c48, fr_59⟩) (by show kc ≤ kc + 2; omega) (by show ks ≤ ks + 22; omega)
                  · simp only [i_eq, i0] at h50
                    refine g_loadA act (gx gp_120 (w := 0x4c03) rfl (by decide) rfl) (a := 0) (n := 76) rfl rfl rfl ?_
                    refine g_constI act (gx gp_120 (w := 0x40000002400000021000000004d01) rfl (by decide) rfl) (n := 77) (x := (4 : Int32)) (by decide) rfl ?_
                    refine g_loadA act (gx gp_120 (w := 0x4e03) rfl (by decide) rfl) (a := 0) (n := 78) rfl rfl rfl ?_
                    refine r_getf act (gx gp_120 (w := 0x205005104) rfl (by decide) rfl) (n := 81) (ci := 5) (j := 8) (N := 11) rfl rfl rfl rw_c48.1 (by decide) (v := .int x8_2) f_54 ?_
                    refine n_call tb_pres act hEnd (gx (P := G_call) gp_120 (w := 0x600000000000080c3300008800540f) rfl (by decide) rfl) (d' := D_136) rfl (f' := 8) (lam' := 120) (mc := 1) (ms := 11) (as := [.ref 54, .int (4 : Int32), .int x8_2]) (rest := []) (cx_refuse (c1 := (4 : Int32)) (c2 := x8_2) (show CRD hs_c48 tx g L (tkK tx L s) s (tkE tx L s) P ec ep from ⟨rw_c48, f_49, ⟨_, f_50, a1_2⟩, ⟨_, f_51, a2_2⟩, ⟨_, f_52, a6_2⟩, ⟨_, f_53, a7_2⟩, ⟨_, f_54, a8_2⟩, ⟨_, f_55, a9_2⟩, ⟨_, f_56, a10_2⟩, by omega, by omega, by omega, by omega⟩)) (show (3 : Nat) = fb 0x600000000000080c3300008800540f % 16 by decide) (by show (3 : Nat) ≤ 3; decide) (fun _ => ⟨_, _, rfl, _, shp_at rw_c48.1, Or.inr (show fb 0x600000000000080c3300008800540f >>> 68 = 6 by decide)⟩) (by omega) (by show 8 + (3 + 11) + 120 ≤ R.locals; omega) (by show (0 : Nat) ≤ 8; decide) (by show kc + 1 ≤ _; omega) (by show ks + 11 ≤ _; omega) (fun r9 h3 hpo hr9 => ?_) (fun x9 hs9 hx9 hpo => ?_)
                    · obtain rfl : r9 = none := hr9.elim (fun q => q.2) (fun q => absurd rfl q.1)
                      exact absurd hpo.1 (by decide)
                    · obtain ⟨hk_c60, -, hD_c60, fr_c60⟩ := hpo
                      rw [(show (4 : Int32).toInt = ((4 : Nat) : Int) from by decide), a8_2] at hD_c60
                      have hE_c60 : ER hs9 tx g L ((4 : Nat) : Int) s := ⟨_, _, _, _, hD_c60⟩
                      have ft_c60 := fr_59.tr (fr_c60.mono (fun _ _ h9 => Or.inl (Or.inl h9)))
                      refine Or.inr ⟨rfl, Or.inr ⟨by omega, rfl, Or.inr ⟨hbe, hq_c48.resolve_left (fun q9 => by omega) |>.2, hE_c60⟩, ft_c60⟩, by show kc + 1 ≤ kc + 2; omega, by show ks + 11 ≤ ks + 22; omega⟩
                · exact absurd hpo.1 (by omega)
              · simp only [i_eq, i0] at h42
                refine g_loadA act (gx gp_120 (w := 0x2403) rfl (by decide) rfl) (a := 0) (n := 36) rfl rfl rfl ?_
                refine g_str act (gx gp_120 (w := 0x7000000002601) rfl (by decide) rfl) (n := 38) (by decide) rfl (fun i_61 k_61 t_61 hd_61 hk_61 => ?_)
                obtain rfl : i_61 = 144 := by
                  have q9 := (show decode D_120.2.1 36 = .ok (.ldc 144, 2) from by decide +kernel).symm.trans hd_61
                  cases q9
                  rfl
                obtain rfl : k_61 = 15 := (lit_ix _ _ _ hk_61).2.2.2.1 rfl
                refine n_call tb_pres act hEnd (gx (P := G_call) gp_120 (w := 0x6000000000000c0c2200007b00290f) rfl (by decide) rfl) (d' := D_123) rfl (f' := 4) (lam' := 100) (mc := 0) (ms := 0) (as := [.ref 54, .ref (litK 15)]) (rest := []) (cx_isw (i := 15) (by decide) (by decide) (show CT hs tx g L s P ec ep from ⟨(show CRD hs tx g L (tkK tx L s) s (tkE tx L s) P ec ep from ⟨rw_2, hT_2, ⟨_, e1_2, (by have q9 := a1_2; omega)⟩, ⟨_, e2_2, (by have q9 := a2_2; omega)⟩, ⟨_, e6_2, (by have q9 := a6_2; omega)⟩, ⟨_, e7_2, (by have q9 := a7_2; omega)⟩, ⟨_, e8_2, (by have q9 := a8_2; omega)⟩, ⟨_, e9_2, (by have q9 := a9_2; omega)⟩, ⟨_, e10_2, (by have q9 := a10_2; omega)⟩, by omega, by omega, by omega, by omega⟩), by omega, by omega⟩)) (show (2 : Nat) = fb 0x6000000000000c0c2200007b00290f % 16 by decide) (by show (2 : Nat) ≤ 3; decide) (fun _ => ⟨_, _, rfl, _, shp_at rw_2.1, Or.inr (show fb 0x6000000000000c0c2200007b00290f >>> 68 = 6 by decide)⟩) (by omega) (by show 8 + (3 + 11) + 100 ≤ R.locals; omega) (by show (0 : Nat) ≤ 8; decide) (by show kc + 0 ≤ _; omega) (by show ks + 0 ≤ _; omega) (fun r9 h3 hpo hr9 => ?_) (fun x9 hs9 hx9 hpo => ?_)
                · obtain ⟨-, rfl, xv_c62, rfl, hw_c62⟩ := hpo
                  rw [show lwd 15 = wOUTAGE from lwd_all.2.2.2.1] at hw_c62
                  show WpN (gp g0 wp) CLS p l e R sW m args below meth cW Q D_120.2.2.1 kc0 ks0 41 [some (.ref 54), none] (hs, kc, ks) [.int xv_c62]
                  refine g_ifEq act (gx gp_120 (w := 0x30002c0e) rfl (by decide) rfl) (tgt := 48) (n := 44) rfl rfl (fun h55 => ?_) (fun h55 => ?_)
                  · simp only [i_eq, i0] at h55
                    refine g_constI act (gx gp_120 (w := 0x40000000400000001000000003101) rfl (by decide) rfl) (n := 49) (x := (0 : Int32)) (by decide) rfl ?_
                    refine g_storeI act (gx gp_120 (w := 0x1003210) rfl (by decide) rfl) (a := 1) (n := 50) rfl rfl (L2 := [some (.ref 54), some (.int (0 : Int32))]) rfl ?_
                    refine g_loadI act (gx gp_120 (w := 0x1003302) rfl (by decide) rfl) (a := 1) (n := 51) rfl rfl rfl ?_
                    refine g_ifNe act (gx gp_120 (w := 0x3f00361d) rfl (by decide) rfl) (tgt := 63) (n := 54) rfl rfl (fun q => absurd q (by decide)) (fun _ => ?_)
                    refine g_loadA act (gx gp_120 (w := 0x3703) rfl (by decide) rfl) (a := 0) (n := 55) rfl rfl rfl ?_
                    refine g_constI act (gx gp_120 (w := 0x40000000c00000009000000003801) rfl (by decide) rfl) (n := 56) (x := (1 : Int32)) (by decide) rfl ?_
                    refine g_loadA act (gx gp_120 (w := 0x3903) rfl (by decide) rfl) (a := 0) (n := 57) rfl rfl rfl ?_
                    refine r_getf act (gx gp_120 (w := 0x205003c04) rfl (by decide) rfl) (n := 60) (ci := 5) (j := 8) (N := 11) rfl rfl rfl rw_2.1 (by decide) (v := .int x8_2) e8_2 ?_
                    refine n_call tb_pres act hEnd (gx (P := G_call) gp_120 (w := 0x600000000000080c33000088003f0f) rfl (by decide) rfl) (d' := D_136) rfl (f' := 8) (lam' := 120) (mc := 1) (ms := 11) (as := [.ref 54, .int (1 : Int32), .int x8_2]) (rest := []) (cx_refuse (c1 := (1 : Int32)) (c2 := x8_2) (show CRD hs tx g L (tkK tx L s) s (tkE tx L s) P ec ep from ⟨rw_2, hT_2, ⟨_, e1_2, a1_2⟩, ⟨_, e2_2, a2_2⟩, ⟨_, e6_2, a6_2⟩, ⟨_, e7_2, a7_2⟩, ⟨_, e8_2, a8_2⟩, ⟨_, e9_2, a9_2⟩, ⟨_, e10_2, a10_2⟩, by omega, by omega, by omega, by omega⟩)) (show (3 : Nat) = fb 0x600000000000080c33000088003f0f % 16 by decide) (by show (3 : Nat) ≤ 3; decide) (fun _ => ⟨_, _, rfl, _, shp_at rw_2.1, Or.inr (show fb 0x600000000000080c33000088003f0f >>> 68 = 6 by decide)⟩) (by omega) (by show 8 + (3 + 11) + 120 ≤ R.locals; omega) (by show (0 : Nat) ≤ 8; decide) (by show kc + 1 ≤ _; omega) (by show ks + 11 ≤ _; omega) (fun r9 h3 hpo hr9 => ?_) (fun x9 hs9 hx9 hpo => ?_)
                    · obtain rfl : r9 = none := hr9.elim (fun q => q.2) (fun q => absurd rfl q.1)
                      exact absurd hpo.1 (by decide)
                    · obtain ⟨hk_c63, -, hD_c63, fr_c63⟩ := hpo
                      rw [(show (1 : Int32).toInt = ((1 : Nat) : Int) from by decide), a8_2] at hD_c63
                      have hE_c63 : ER hs9 tx g L ((1 : Nat) : Int) s := ⟨_, _, _, _, hD_c63⟩
                      have ft_c63 := hfr0.tr (fr_c63.mono (fun _ _ h9 => Or.inl (Or.inl h9)))
                      refine Or.inr ⟨rfl, Or.inr ⟨by omega, rfl, Or.inl ⟨fun q9 => by unfold sBeh at q9; omega, hE_c63⟩, ft_c63⟩, by show kc + 1 ≤ kc + 2; omega, by show ks + 11 ≤ ks + 22; omega⟩
                  · simp only [i_eq, i0] at h55
                    refine g_constI act (gx gp_120 (w := 0x40000000c00000009000000002d01) rfl (by decide) rfl) (n := 45) (x := (1 : Int32)) (by decide) rfl ?_
                    refine g_goto act (gx gp_120 (w := 0x3107) rfl (by decide) rfl) (n := 49) rfl ?_
                    refine g_storeI act (gx gp_120 (w := 0x1003210) rfl (by decide) rfl) (a := 1) (n := 50) rfl rfl (L2 := [some (.ref 54), some (.int (1 : Int32))]) rfl ?_
                    refine g_loadI act (gx gp_120 (w := 0x1003302) rfl (by decide) rfl) (a := 1) (n := 51) rfl rfl rfl ?_
                    refine g_ifNe act (gx gp_120 (w := 0x3f00361d) rfl (by decide) rfl) (tgt := 63) (n := 54) rfl rfl (fun _ => ?_) (fun q => absurd (by decide) q)
                    have hbe : sBeh tx L s := by unfold sBeh; omega
                    refine g_loadA act (gx gp_120 (w := 0x4003) rfl (by decide) rfl) (a := 0) (n := 64) rfl rfl rfl ?_
                    refine g_loadA act (gx gp_120 (w := 0x4103) rfl (by decide) rfl) (a := 0) (n := 65) rfl rfl rfl ?_
                    refine r_getf act (gx gp_120 (w := 0x3000145004404) rfl (by decide) rfl) (n := 68) (ci := 5) (j := 5) (N := 11) rfl rfl rfl rw_2.1 (by decide) (v := .ref g) rw_2.2.2.2.2 ?_
                    refine g_constI act (gx gp_120 (w := 0x3fffffffbfffffff9000000004501) rfl (by decide) rfl) (n := 69) (x := (-1 : Int32)) (by decide) rfl ?_
                    refine n_call tb_pres act hEnd (gx (P := G_call) gp_120 (w := 0x6000000000000c0c3300007a00480f) rfl (by decide) rfl) (d' := D_122) rfl (f' := 3) (lam' := 74) (mc := 0) (ms := 0) (as := [.ref 54, .ref g, .int (-1 : Int32)]) (rest := []) (cx_conn (z := (-1)) rw_2 hF hG hR hnl2 hl6 h0 hn1 hn3 hr (by have q9 := (show (-1 : Int32).toInt = (-1 : Int) from by decide); omega)) (show (3 : Nat) = fb 0x6000000000000c0c3300007a00480f % 16 by decide) (by show (3 : Nat) ≤ 3; decide) (fun _ => ⟨_, _, rfl, _, shp_at rw_2.1, Or.inr (show fb 0x6000000000000c0c3300007a00480f >>> 68 = 6 by decide)⟩) (by omega) (by show 8 + (3 + 11) + 74 ≤ R.locals; omega) (by show (0 : Nat) ≤ 8; decide) (by show kc + 0 ≤ _; omega) (by show ks + 0 ≤ _; omega) (fun r9 hs_c64 hpo hr9 => ?_) (fun x9 hs9 hx9 hpo => ?_)
                    · obtain ⟨-, xv_c64, rfl, hq_c64, hF_c64, fr_c64⟩ := hpo
                      have rw_c64 := rw_2.fr fr_c64 (fun j9 _ _ => by unfold WFr; omega)
                      have f_65 := hT_2.fr fr_c64 (fun j9 => by unfold WFr; omega)
                      have f_66 := (fr_c64.2.2 54 1 (by unfold WFr; omega)).trans e1_2
                      have f_67 := (fr_c64.2.2 54 2 (by unfold WFr; omega)).trans e2_2
                      have f_68 := (fr_c64.2.2 54 6 (by unfold WFr; omega)).trans e6_2
                      have f_69 := (fr_c64.2.2 54 7 (by unfold WFr; omega)).trans e7_2
                      have f_70 := (fr_c64.2.2 54 8 (by unfold WFr; omega)).trans e8_2
                      have f_71 := (fr_c64.2.2 54 9 (by unfold WFr; omega)).trans e9_2
                      have f_72 := (fr_c64.2.2 54 10 (by unfold WFr; omega)).trans e10_2
                      have f_73 := hG.frC fr_c64
                      have fr_75 := hfr0.tr (fr_c64.mono (fun _ _ h9 => Or.inr h9))
                      clear rw_2 hT_2 e1_2 e2_2 e6_2 e7_2 e8_2 e9_2 e10_2 hG hF hfr0
                      show WpN (gp g0 wp) CLS p l e R sW m args below meth cW Q D_120.2.2.1 kc0 ks0 72 [some (.ref 54), some (.int (1 : Int32))] (hs_c64, kc, ks) [.int xv_c64]
                      refine g_ifNe act (gx gp_120 (w := 0x54004b1d) rfl (by decide) rfl) (tgt := 84) (n := 75) rfl rfl (fun h70 => ?_) (fun h70 => ?_)
                      · simp only [i_eq, i0] at h70
                        exact g_retV hEnd (gx gp_120 (w := 0x18) rfl (by decide) rfl) (Or.inl ⟨rfl, rfl, hbe, (hq_c64.resolve_right (fun q9 => by omega)).2, (show CT hs_c64 tx g L s P ec ep from ⟨(show CRD hs_c64 tx g L (tkK tx L s) s (tkE tx L s) P ec ep from ⟨rw_c64, f_65, ⟨_, f_66, (by have q9 := a1_2; omega)⟩, ⟨_, f_67, (by have q9 := a2_2; omega)⟩, ⟨_, f_68, (by have q9 := a6_2; omega)⟩, ⟨_, f_69, (by have q9 := a7_2; omega)⟩, ⟨_, f_70, (by have q9 := a8_2; omega)⟩, ⟨_, f_71, (by have q9 := a9_2; omega)⟩, ⟨_, f_72, (by have q9 := a10_2; omega)⟩, by omega, by omega, by omega, by omega⟩), by omega, by omega⟩), f_73, hF_c64, fr_75⟩) (by show kc ≤ kc + 2; omega) (by show ks ≤ ks + 22; omega)
                      · simp only [i_eq, i0] at h70
                        refine g_loadA act (gx gp_120 (w := 0x4c03) rfl (by decide) rfl) (a := 0) (n := 76) rfl rfl rfl ?_
                        refine g_constI act (gx gp_120 (w := 0x40000002400000021000000004d01) rfl (by decide) rfl) (n := 77) (x := (4 : Int32)) (by decide) rfl ?_
                        refine g_loadA act (gx gp_120 (w := 0x4e03) rfl (by decide) rfl) (a := 0) (n := 78) rfl rfl rfl ?_
                        refine r_getf act (gx gp_120 (w := 0x205005104) rfl (by decide) rfl) (n := 81) (ci := 5) (j := 8) (N := 11) rfl rfl rfl rw_c64.1 (by decide) (v := .int x8_2) f_70 ?_
                        refine n_call tb_pres act hEnd (gx (P := G_call) gp_120 (w := 0x600000000000080c3300008800540f) rfl (by decide) rfl) (d' := D_136) rfl (f' := 8) (lam' := 120) (mc := 1) (ms := 11) (as := [.ref 54, .int (4 : Int32), .int x8_2]) (rest := []) (cx_refuse (c1 := (4 : Int32)) (c2 := x8_2) (show CRD hs_c64 tx g L (tkK tx L s) s (tkE tx L s) P ec ep from ⟨rw_c64, f_65, ⟨_, f_66, a1_2⟩, ⟨_, f_67, a2_2⟩, ⟨_, f_68, a6_2⟩, ⟨_, f_69, a7_2⟩, ⟨_, f_70, a8_2⟩, ⟨_, f_71, a9_2⟩, ⟨_, f_72, a10_2⟩, by omega, by omega, by omega, by omega⟩)) (show (3 : Nat) = fb 0x600000000000080c3300008800540f % 16 by decide) (by show (3 : Nat) ≤ 3; decide) (fun _ => ⟨_, _, rfl, _, shp_at rw_c64.1, Or.inr (show fb 0x600000000000080c3300008800540f >>> 68 = 6 by decide)⟩) (by omega) (by show 8 + (3 + 11) + 120 ≤ R.locals; omega) (by show (0 : Nat) ≤ 8; decide) (by show kc + 1 ≤ _; omega) (by show ks + 11 ≤ _; omega) (fun r9 h3 hpo hr9 => ?_) (fun x9 hs9 hx9 hpo => ?_)
                        · obtain rfl : r9 = none := hr9.elim (fun q => q.2) (fun q => absurd rfl q.1)
                          exact absurd hpo.1 (by decide)
                        · obtain ⟨hk_c76, -, hD_c76, fr_c76⟩ := hpo
                          rw [(show (4 : Int32).toInt = ((4 : Nat) : Int) from by decide), a8_2] at hD_c76
                          have hE_c76 : ER hs9 tx g L ((4 : Nat) : Int) s := ⟨_, _, _, _, hD_c76⟩
                          have ft_c76 := fr_75.tr (fr_c76.mono (fun _ _ h9 => Or.inl (Or.inl h9)))
                          refine Or.inr ⟨rfl, Or.inr ⟨by omega, rfl, Or.inr ⟨hbe, hq_c64.resolve_left (fun q9 => by omega) |>.2, hE_c76⟩, ft_c76⟩, by show kc + 1 ≤ kc + 2; omega, by show ks + 11 ≤ ks + 22; omega⟩
                    · exact absurd hpo.1 (by omega)
                · exact absurd hpo.1 (by omega)
            · exact absurd hpo.1 (by omega)
        · exact absurd hpo.1 (by omega)
    · exact absurd hpo.1 (by omega)

theorem cx_readOut (hF : FLS hs 56) (hG : GIM hs g F) (hR : REL F fv gv o) (hnl2 : fv 2 = (nl : Int)) (hl6 : nl ≤ 6) (h0 : fv 0 = (n9 : Int) + 1) (hn1 : 1 ≤ n9) (hn3 : n9 ≤ 3) (hr : LRG fv nl) (ho : o = -1) (hl1 : 1 ≤ nl) (hC : CT hs tx g L s P ec ep) : BodyN SSX TBL g0 CLS bl xs l D_130 10 165 3 33 [.ref 54] hs (fun kd r h2 => (kd = 0 ∧ r = none ∧ ∃ (s2 P2 o2 : Int) (F2 : Nat → Nat → Int32), sOut tx L s nl n9 (fv, gv) = (0, s2, fv, upI gv 38 o2) ∧ CT h2 tx g L s2 P2 ec ep ∧ GIM h2 g F2 ∧ REL F2 fv gv o2 ∧ (o2 = o ∨ (0 ≤ o2 ∧ o2 ≤ (nl : Int) - 1)) ∧ FLS h2 56 ∧ FrS (WKF g) hs h2) ∨ (kd = 3 ∧ r = none ∧ (sOut tx L s nl n9 (fv, gv)).1 ≠ 0 ∧ ER h2 tx g L (sOut tx L s nl n9 (fv, gv)).1 (sOut tx L s nl n9 (fv, gv)).2.1 ∧ FrS (WKF g) hs h2)) := by
  intro wp p e R sW m args below meth cW Q kc0 ks0 kc ks act hf hl hc hsl hEnd
  have hf : 10 ≤ R.frames := hf
  have hl : 165 ≤ R.locals := hl
  have hfr0 := FrS.rf (WKF g) hs
  have hg0 := hG.1.1
  obtain ⟨hP_t1, qt_1, qu_1⟩ := hC
  have qv_1 := tkE_le (T := tx) (L := L) (s := s) (by omega)
  obtain ⟨rw_2, hT_2, ⟨x1_2, e1_2, a1_2⟩, ⟨x2_2, e2_2, a2_2⟩, ⟨x6_2, e6_2, a6_2⟩, ⟨x7_2, e7_2, a7_2⟩, ⟨x8_2, e8_2, a8_2⟩, ⟨x9_2, e9_2, a9_2⟩, ⟨x10_2, e10_2, a10_2⟩, q1_2, q2_2, q3_2, q4_2⟩ := hP_t1
  show WpN (gp g0 wp) CLS p l e R sW m args below meth cW Q D_130.2.2.1 kc0 ks0 0 [some (.ref 54)] (hs, kc, ks) []
  refine g_loadA act (gx gp_130 (w := 0x103) rfl (by decide) rfl) (a := 0) (n := 1) rfl rfl rfl ?_
  refine g_str act (gx gp_130 (w := 0x7000000000301) rfl (by decide) rfl) (n := 3) (by decide) rfl (fun i_3 k_3 t_3 hd_3 hk_3 => ?_)
  obtain rfl : i_3 = 144 := by
    have q9 := (show decode D_130.2.1 1 = .ok (.ldc 144, 2) from by decide +kernel).symm.trans hd_3
    cases q9
    rfl
  obtain rfl : k_3 = 15 := (lit_ix _ _ _ hk_3).2.2.2.1 rfl
  refine n_call tb_pres act hEnd (gx (P := G_call) gp_130 (w := 0x6000000000000c0c2200007b00060f) rfl (by decide) rfl) (d' := D_123) rfl (f' := 4) (lam' := 100) (mc := 0) (ms := 0) (as := [.ref 54, .ref (litK 15)]) (rest := []) (cx_isw (i := 15) (by decide) (by decide) (show CT hs tx g L s P ec ep from ⟨(show CRD hs tx g L (tkK tx L s) s (tkE tx L s) P ec ep from ⟨rw_2, hT_2, ⟨_, e1_2, (by have q9 := a1_2; omega)⟩, ⟨_, e2_2, (by have q9 := a2_2; omega)⟩, ⟨_, e6_2, (by have q9 := a6_2; omega)⟩, ⟨_, e7_2, (by have q9 := a7_2; omega)⟩, ⟨_, e8_2, (by have q9 := a8_2; omega)⟩, ⟨_, e9_2, (by have q9 := a9_2; omega)⟩, ⟨_, e10_2, (by have q9 := a10_2; omega)⟩, by omega, by omega, by omega, by omega⟩), by omega, by omega⟩)) (show (2 : Nat) = fb 0x6000000000000c0c2200007b00060f % 16 by decide) (by show (2 : Nat) ≤ 3; decide) (fun _ => ⟨_, _, rfl, _, shp_at rw_2.1, Or.inr (show fb 0x6000000000000c0c2200007b00060f >>> 68 = 6 by decide)⟩) (by omega) (by show 8 + (3 + 11) + 100 ≤ R.locals; omega) (by show (0 : Nat) ≤ 8; decide) (by show kc + 0 ≤ _; omega) (by show ks + 0 ≤ _; omega) (fun r9 h3 hpo hr9 => ?_) (fun x9 hs9 hx9 hpo => ?_)
  · obtain ⟨-, rfl, xv_c4, rfl, hw_c4⟩ := hpo
    rw [show lwd 15 = wOUTAGE from lwd_all.2.2.2.1] at hw_c4
    show WpN (gp g0 wp) CLS p l e R sW m args below meth cW Q D_130.2.2.1 kc0 ks0 6 [some (.ref 54)] (hs, kc, ks) [.int xv_c4]
    refine g_ifEq act (gx gp_130 (w := 0x4100090e) rfl (by decide) rfl) (tgt := 65) (n := 9) rfl rfl (fun hw6 => ?_) (fun hw6 => ?_)
    · simp only [i_eq, i0] at hw6
      have hno := sOut_no (nl := nl) (n := n9) (d := (fv, gv)) (show wrd tx L s ≠ wOUTAGE by omega)
      exact g_retV hEnd (gx gp_130 (w := 0x18) rfl (by decide) rfl) (Or.inl ⟨rfl, rfl, _, _, -1, _, hno, (show CT hs tx g L s P ec ep from ⟨(show CRD hs tx g L (tkK tx L s) s (tkE tx L s) P ec ep from ⟨rw_2, hT_2, ⟨_, e1_2, (by have q9 := a1_2; omega)⟩, ⟨_, e2_2, (by have q9 := a2_2; omega)⟩, ⟨_, e6_2, (by have q9 := a6_2; omega)⟩, ⟨_, e7_2, (by have q9 := a7_2; omega)⟩, ⟨_, e8_2, (by have q9 := a8_2; omega)⟩, ⟨_, e9_2, (by have q9 := a9_2; omega)⟩, ⟨_, e10_2, (by have q9 := a10_2; omega)⟩, by omega, by omega, by omega, by omega⟩), by omega, by omega⟩), hG, ho ▸ hR, Or.inl ho.symm, hF, hfr0⟩) (by show kc ≤ kc + 3; omega) (by show ks ≤ ks + 33; omega)
    · simp only [i_eq, i0] at hw6
      have hwj : wrd tx L s = wOUTAGE := by omega
      refine g_loadA act (gx gp_130 (w := 0xa03) rfl (by decide) rfl) (a := 0) (n := 10) rfl rfl rfl ?_
      refine n_call tb_pres act hEnd (gx (P := G_call) gp_130 (w := 0x600000000000080811000077000d0f) rfl (by decide) rfl) (d' := D_119) rfl (f' := 1) (lam' := 22) (mc := 0) (ms := 0) (as := [.ref 54]) (rest := []) (cx_advance (show CRD hs tx g L (tkK tx L s) s (tkE tx L s) P ec ep from ⟨rw_2, hT_2, ⟨_, e1_2, a1_2⟩, ⟨_, e2_2, a2_2⟩, ⟨_, e6_2, a6_2⟩, ⟨_, e7_2, a7_2⟩, ⟨_, e8_2, a8_2⟩, ⟨_, e9_2, a9_2⟩, ⟨_, e10_2, a10_2⟩, by omega, by omega, by omega, by omega⟩)) (show (1 : Nat) = fb 0x600000000000080811000077000d0f % 16 by decide) (by show (1 : Nat) ≤ 2; decide) (fun _ => ⟨_, _, rfl, _, shp_at rw_2.1, Or.inr (show fb 0x600000000000080811000077000d0f >>> 68 = 6 by decide)⟩) (by omega) (by show 8 + (2 + 11) + 22 ≤ R.locals; omega) (by show (0 : Nat) ≤ 8; decide) (by show kc + 0 ≤ _; omega) (by show ks + 0 ≤ _; omega) (fun r9 hs_c5 hpo hr9 => ?_) (fun x9 hs9 hx9 hpo => ?_)
      · obtain rfl : r9 = none := hr9.elim (fun q => q.2) (fun q => absurd rfl q.1)
        obtain ⟨-, -, hD_c5, fr_c5⟩ := hpo
        obtain ⟨s_c5, es_c5, hC_c5⟩ : ∃ z : Int, z = nxs tx L s ∧ CT hs_c5 tx g L z s ec ep := ⟨_, rfl, hD_c5⟩
        obtain ⟨⟨-, -, ⟨x1_c5, e1_c5, a1_c5⟩, ⟨x2_c5, e2_c5, a2_c5⟩, ⟨x6_c5, e6_c5, a6_c5⟩, ⟨x7_c5, e7_c5, a7_c5⟩, ⟨x8_c5, e8_c5, a8_c5⟩, ⟨x9_c5, e9_c5, a9_c5⟩, ⟨x10_c5, e10_c5, a10_c5⟩, q1_c5, q2_c5, q3_c5, q4_c5⟩, qs_c5, qt_c5⟩ := hC_c5
        have rw_6 := rw_2.fr fr_c5 (fun j9 _ _ => by unfold WKr; omega)
        have f_7 := hT_2.fr fr_c5 (fun j9 => by unfold WKr; omega)
        have f_15 := hG.frW fr_c5 (fun k9 j9 h9 => by unfold WKr at h9; omega)
        have fr_16 := hfr0.tr (fr_c5.mono (fun _ _ h9 => Or.inl (Or.inl h9)))
        have f_17 := hF.frW fr_c5
        clear rw_2 hT_2 e1_2 e2_2 e6_2 e7_2 e8_2 e9_2 e10_2 hG hfr0 hF
        show WpN (gp g0 wp) CLS p l e R sW m args below meth cW Q D_130.2.2.1 kc0 ks0 13 [some (.ref 54)] (hs_c5, kc, ks) []
        refine g_loadA act (gx gp_130 (w := 0xe03) rfl (by decide) rfl) (a := 0) (n := 14) rfl rfl rfl ?_
        refine r_getf act (gx gp_130 (w := 0x3000145001104) rfl (by decide) rfl) (n := 17) (ci := 5) (j := 5) (N := 11) rfl rfl rfl rw_6.1 (by decide) (v := .ref g) rw_6.2.2.2.2 ?_
        refine g_loadA act (gx gp_130 (w := 0x1203) rfl (by decide) rfl) (a := 0) (n := 18) rfl rfl rfl ?_
        refine g_constI act (gx gp_130 (w := 0x40000000400000001000000001301) rfl (by decide) rfl) (n := 19) (x := (0 : Int32)) (by decide) rfl ?_
        refine g_loadA act (gx gp_130 (w := 0x1403) rfl (by decide) rfl) (a := 0) (n := 20) rfl rfl rfl ?_
        refine r_getf act (gx gp_130 (w := 0x3000145001704) rfl (by decide) rfl) (n := 23) (ci := 5) (j := 5) (N := 11) rfl rfl rfl rw_6.1 (by decide) (v := .ref g) rw_6.2.2.2.2 ?_
        refine r_getf act (gx gp_130 (w := 0x84001a04) rfl (by decide) rfl) (n := 26) (ci := 4) (j := 2) (N := 18) rfl rfl rfl f_15.1.2.1 (by decide) (v := .int (F 0 2)) (f_15.2 0 2 (Or.inl ⟨rfl, by decide⟩)) ?_
        refine g_constI act (gx gp_130 (w := 0x40000000c00000009000000001b01) rfl (by decide) rfl) (n := 27) (x := (1 : Int32)) (by decide) rfl ?_
        refine g_isub act (gx gp_130 (w := 0x1c26) rfl (by decide) rfl) (n := 28) rfl ?_
        have v_18 := iv_sub hR.2.2.1 (show (1 : Int32).toInt = ((1 : Nat) : Int) from by decide) (show -2147483648 ≤ ((fv 2) - ((1 : Nat) : Int)) by omega) (show ((fv 2) - ((1 : Nat) : Int)) < 2147483648 by omega)
        refine n_call tb_pres act hEnd (gx (P := G_call) gp_130 (w := 0x6000000000000c1033000080001f0f) rfl (by decide) rfl) (d' := D_128) rfl (f' := 9) (lam' := 142) (mc := 1) (ms := 11) (as := [.ref 54, .int (0 : Int32), .int ((F 0 2) - (1 : Int32))]) (rest := [.ref g]) (cx_number (lo := 0) (hi := fv 2 - 1) (by decide) (by have q9 := v_18; omega) (show CT hs_c5 tx g L s_c5 s ec ep from ⟨(show CRD hs_c5 tx g L (tkK tx L s_c5) s_c5 (tkE tx L s_c5) s ec ep from ⟨rw_6, f_7, ⟨_, e1_c5, (by have q9 := a1_c5; omega)⟩, ⟨_, e2_c5, (by have q9 := a2_c5; omega)⟩, ⟨_, e6_c5, (by have q9 := a6_c5; omega)⟩, ⟨_, e7_c5, (by have q9 := a7_c5; omega)⟩, ⟨_, e8_c5, (by have q9 := a8_c5; omega)⟩, ⟨_, e9_c5, (by have q9 := a9_c5; omega)⟩, ⟨_, e10_c5, (by have q9 := a10_c5; omega)⟩, by omega, by omega, by omega, by omega⟩), by omega, by omega⟩)) (show (3 : Nat) = fb 0x6000000000000c1033000080001f0f % 16 by decide) (by show (3 : Nat) ≤ 4; decide) (fun _ => ⟨_, _, rfl, _, shp_at rw_6.1, Or.inr (show fb 0x6000000000000c1033000080001f0f >>> 68 = 6 by decide)⟩) (by omega) (by show 8 + (4 + 11) + 142 ≤ R.locals; omega) (by show (1 : Nat) ≤ 8; decide) (by show kc + 1 ≤ _; omega) (by show ks + 11 ≤ _; omega) (fun r9 hs_c19 hpo hr9 => ?_) (fun x9 hs9 hx9 hpo => ?_)
        · obtain ⟨-, hr_c19, ⟨xv_c19, rfl, hv_c19⟩, hD_c19, fr_c19⟩ := hpo.resolve_right (fun z => absurd z.1 (by decide))
          obtain ⟨s_c19, es_c19, hC_c19⟩ : ∃ z : Int, z = ((sNum tx L 0 (fv 2 - 1) s_c5)).2.1 ∧ CT hs_c19 tx g L z s_c5 ec ep := ⟨_, rfl, hD_c19⟩
          obtain ⟨⟨-, -, ⟨x1_c19, e1_c19, a1_c19⟩, ⟨x2_c19, e2_c19, a2_c19⟩, ⟨x6_c19, e6_c19, a6_c19⟩, ⟨x7_c19, e7_c19, a7_c19⟩, ⟨x8_c19, e8_c19, a8_c19⟩, ⟨x9_c19, e9_c19, a9_c19⟩, ⟨x10_c19, e10_c19, a10_c19⟩, q1_c19, q2_c19, q3_c19, q4_c19⟩, qs_c19, qt_c19⟩ := hC_c19
          have rw_20 := rw_6.fr fr_c19 (fun j9 _ _ => by unfold WKr; omega)
          have f_21 := f_7.fr fr_c19 (fun j9 => by unfold WKr; omega)
          have f_22 := f_15.frW fr_c19 (fun k9 j9 h9 => by unfold WKr at h9; omega)
          have fr_30 := fr_16.tr (fr_c19.mono (fun _ _ h9 => Or.inl (Or.inl h9)))
          have f_31 := f_17.frW fr_c19
          clear rw_6 f_7 f_15 e1_c5 e2_c5 e6_c5 e7_c5 e8_c5 e9_c5 e10_c5 fr_16 f_17
          have hg_c19 := sNum_gt hr_c19
          show WpN (gp g0 wp) CLS p l e R sW m args below meth cW Q D_130.2.2.1 kc0 ks0 31 [some (.ref 54)] (hs_c19, kc + 1, ks + 11) [.int xv_c19, .ref g]
          refine r_putf act (gx gp_130 (w := 0x144002213) rfl (by decide) rfl) (n := 34) (ci := 4) (j := 5) (N := 18) rfl rfl rfl f_22.1.2.1 (by decide) (Or.inl ⟨rfl, _, rfl⟩) ?_
          have f_33 := f_21.ne (k := g) (j := 5) (v := .int xv_c19) (by omega)
          have f_34 := f_22.put0 (j := 5) (x := xv_c19) (by omega)
          have f_35 := (rd_ne hs_c19 (k := g) (j := 5) (.int xv_c19) (Or.inl (by omega))).trans e1_c19
          have f_36 := (rd_ne hs_c19 (k := g) (j := 5) (.int xv_c19) (Or.inl (by omega))).trans e2_c19
          have f_37 := (rd_ne hs_c19 (k := g) (j := 5) (.int xv_c19) (Or.inl (by omega))).trans e6_c19
          have f_38 := (rd_ne hs_c19 (k := g) (j := 5) (.int xv_c19) (Or.inl (by omega))).trans e7_c19
          have f_39 := (rd_ne hs_c19 (k := g) (j := 5) (.int xv_c19) (Or.inl (by omega))).trans e8_c19
          have f_40 := (rd_ne hs_c19 (k := g) (j := 5) (.int xv_c19) (Or.inl (by omega))).trans e9_c19
          have f_41 := (rd_ne hs_c19 (k := g) (j := 5) (.int xv_c19) (Or.inl (by omega))).trans e10_c19
          have rw_42 := RWC.wrG (k := g) (j := 5) (v := .int xv_c19) rw_20 (by omega)
          have fr_43 := fr_30.wr (k := g) (j := 5) (.int xv_c19) (Or.inl (Or.inr (by unfold WGr; omega)))
          have f_32 := f_31.frK hg0 ((FrS.rf (WKG g) _).wr (k := g) (j := 5) (.int xv_c19) (Or.inr (by unfold WGr; omega)))
          clear f_21 f_22 e1_c19 e2_c19 e6_c19 e7_c19 e8_c19 e9_c19 e10_c19 rw_20 fr_30
          generalize (wr hs_c19 g 5 (.int xv_c19)) = hs_44 at *
          refine g_loadA act (gx gp_130 (w := 0x2303) rfl (by decide) rfl) (a := 0) (n := 35) rfl rfl rfl ?_
          refine g_loadA act (gx gp_130 (w := 0x2403) rfl (by decide) rfl) (a := 0) (n := 36) rfl rfl rfl ?_
          refine r_getf act (gx gp_130 (w := 0x3000145002704) rfl (by decide) rfl) (n := 39) (ci := 5) (j := 5) (N := 11) rfl rfl rfl rw_42.1 (by decide) (v := .ref g) rw_42.2.2.2.2 ?_
          refine g_loadA act (gx gp_130 (w := 0x2803) rfl (by decide) rfl) (a := 0) (n := 40) rfl rfl rfl ?_
          refine r_getf act (gx gp_130 (w := 0x3000145002b04) rfl (by decide) rfl) (n := 43) (ci := 5) (j := 5) (N := 11) rfl rfl rfl rw_42.1 (by decide) (v := .ref g) rw_42.2.2.2.2 ?_
          refine r_getf act (gx gp_130 (w := 0x144002e04) rfl (by decide) rfl) (n := 46) (ci := 4) (j := 5) (N := 18) rfl rfl rfl f_34.1.2.1 (by decide) (v := .int xv_c19) (f_34.2 0 5 (Or.inl ⟨rfl, by decide⟩)) ?_
          refine n_call tb_pres act hEnd (gx (P := G_call) gp_130 (w := 0x6000000000000c0c3300007a00310f) rfl (by decide) rfl) (d' := D_122) rfl (f' := 3) (lam' := 74) (mc := 0) (ms := 0) (as := [.ref 54, .ref g, .int xv_c19]) (rest := []) (cx_conn (z := (Int32.toInt xv_c19)) rw_42 f_32 f_34 (hR.out (rfl : Int32.toInt _ = _)) hnl2 hl6 h0 hn1 hn3 hr (by have q9 := (rfl : Int32.toInt xv_c19 = _); omega)) (show (3 : Nat) = fb 0x6000000000000c0c3300007a00310f % 16 by decide) (by show (3 : Nat) ≤ 3; decide) (fun _ => ⟨_, _, rfl, _, shp_at rw_42.1, Or.inr (show fb 0x6000000000000c0c3300007a00310f >>> 68 = 6 by decide)⟩) (by omega) (by show 8 + (3 + 11) + 74 ≤ R.locals; omega) (by show (0 : Nat) ≤ 8; decide) (by show kc + 1 + 0 ≤ _; omega) (by show ks + 11 + 0 ≤ _; omega) (fun r9 hs_c45 hpo hr9 => ?_) (fun x9 hs9 hx9 hpo => ?_)
          · obtain ⟨-, xv_c45, rfl, hq_c45, hF_c45, fr_c45⟩ := hpo
            have rw_c45 := rw_42.fr fr_c45 (fun j9 _ _ => by unfold WFr; omega)
            have f_46 := f_33.fr fr_c45 (fun j9 => by unfold WFr; omega)
            have f_47 := f_34.frC fr_c45
            have f_48 := (fr_c45.2.2 54 1 (by unfold WFr; omega)).trans f_35
            have f_49 := (fr_c45.2.2 54 2 (by unfold WFr; omega)).trans f_36
            have f_50 := (fr_c45.2.2 54 6 (by unfold WFr; omega)).trans f_37
            have f_51 := (fr_c45.2.2 54 7 (by unfold WFr; omega)).trans f_38
            have f_52 := (fr_c45.2.2 54 8 (by unfold WFr; omega)).trans f_39
            have f_53 := (fr_c45.2.2 54 9 (by unfold WFr; omega)).trans f_40
            have f_54 := (fr_c45.2.2 54 10 (by unfold WFr; omega)).trans f_41
            have fr_56 := fr_43.tr (fr_c45.mono (fun _ _ h9 => Or.inr h9))
            clear rw_42 f_33 f_34 f_35 f_36 f_37 f_38 f_39 f_40 f_41 f_32 fr_43
            show WpN (gp g0 wp) CLS p l e R sW m args below meth cW Q D_130.2.2.1 kc0 ks0 49 [some (.ref 54)] (hs_c45, kc + 1, ks + 11) [.int xv_c45]
            refine g_ifNe act (gx gp_130 (w := 0x3d00341d) rfl (by decide) rfl) (tgt := 61) (n := 52) rfl rfl (fun h11 => ?_) (fun h11 => ?_)
            · simp only [i_eq, i0] at h11
              refine g_loadA act (gx gp_130 (w := 0x3e03) rfl (by decide) rfl) (a := 0) (n := 62) rfl rfl rfl ?_
              refine n_call tb_pres act hEnd (gx (P := G_call) gp_130 (w := 0x60000000000008041100008400410f) rfl (by decide) rfl) (d' := D_132) rfl (f' := 9) (lam' := 142) (mc := 1) (ms := 11) (as := [.ref 54]) (rest := []) (cx_semi (show CT hs_c45 tx g L s_c19 s_c5 ec ep from ⟨(show CRD hs_c45 tx g L (tkK tx L s_c19) s_c19 (tkE tx L s_c19) s_c5 ec ep from ⟨rw_c45, f_46, ⟨_, f_48, (by have q9 := a1_c19; omega)⟩, ⟨_, f_49, (by have q9 := a2_c19; omega)⟩, ⟨_, f_50, (by have q9 := a6_c19; omega)⟩, ⟨_, f_51, (by have q9 := a7_c19; omega)⟩, ⟨_, f_52, (by have q9 := a8_c19; omega)⟩, ⟨_, f_53, (by have q9 := a9_c19; omega)⟩, ⟨_, f_54, (by have q9 := a10_c19; omega)⟩, by omega, by omega, by omega, by omega⟩), by omega, by omega⟩)) (show (1 : Nat) = fb 0x60000000000008041100008400410f % 16 by decide) (by show (1 : Nat) ≤ 1; decide) (fun _ => ⟨_, _, rfl, _, shp_at rw_c45.1, Or.inr (show fb 0x60000000000008041100008400410f >>> 68 = 6 by decide)⟩) (by omega) (by show 8 + (1 + 11) + 142 ≤ R.locals; omega) (by show (0 : Nat) ≤ 8; decide) (by show kc + 1 + 1 ≤ _; omega) (by show ks + 11 + 11 ≤ _; omega) (fun r9 hs_c57 hpo hr9 => ?_) (fun x9 hs9 hx9 hpo => ?_)
              · obtain rfl : r9 = none := hr9.elim (fun q => q.2) (fun q => absurd rfl q.1)
                obtain ⟨-, hr_c57, -, hD_c57, fr_c57⟩ := hpo.resolve_right (fun z => absurd z.1 (by decide))
                obtain ⟨s_c57, es_c57, hC_c57⟩ : ∃ z : Int, z = ((sSem tx L s_c19)).2 ∧ CT hs_c57 tx g L z s_c19 ec ep := ⟨_, rfl, hD_c57⟩
                obtain ⟨⟨-, -, ⟨x1_c57, e1_c57, a1_c57⟩, ⟨x2_c57, e2_c57, a2_c57⟩, ⟨x6_c57, e6_c57, a6_c57⟩, ⟨x7_c57, e7_c57, a7_c57⟩, ⟨x8_c57, e8_c57, a8_c57⟩, ⟨x9_c57, e9_c57, a9_c57⟩, ⟨x10_c57, e10_c57, a10_c57⟩, q1_c57, q2_c57, q3_c57, q4_c57⟩, qs_c57, qt_c57⟩ := hC_c57
                have rw_58 := rw_c45.fr fr_c57 (fun j9 _ _ => by unfold WKr; omega)
                have f_59 := f_46.fr fr_c57 (fun j9 => by unfold WKr; omega)
                have f_60 := f_47.frW fr_c57 (fun k9 j9 h9 => by unfold WKr at h9; omega)
                have fr_68 := fr_56.tr (fr_c57.mono (fun _ _ h9 => Or.inl (Or.inl h9)))
                have f_69 := hF_c45.frW fr_c57
                clear rw_c45 f_46 f_47 f_48 f_49 f_50 f_51 f_52 f_53 f_54 fr_56 hF_c45
                show WpN (gp g0 wp) CLS p l e R sW m args below meth cW Q D_130.2.2.1 kc0 ks0 65 [some (.ref 54)] (hs_c57, kc + 1 + 1, ks + 11 + 11) []
                have hok := sOut_ok (nl := nl) (n := n9) (d := (fv, gv)) hwj (by rw [← es_c5]; exact hr_c19) (by rw [← es_c5]; exact es_c19) (by rw [← es_c5]; exact hv_c19) (hq_c45.resolve_right (fun q9 => by omega)).2 hr_c57 es_c57
                exact g_retV hEnd (gx gp_130 (w := 0x18) rfl (by decide) rfl) (Or.inl ⟨rfl, rfl, _, _, _, _, hok, (show CT hs_c57 tx g L s_c57 s_c19 ec ep from ⟨(show CRD hs_c57 tx g L (tkK tx L s_c57) s_c57 (tkE tx L s_c57) s_c19 ec ep from ⟨rw_58, f_59, ⟨_, e1_c57, (by have q9 := a1_c57; omega)⟩, ⟨_, e2_c57, (by have q9 := a2_c57; omega)⟩, ⟨_, e6_c57, (by have q9 := a6_c57; omega)⟩, ⟨_, e7_c57, (by have q9 := a7_c57; omega)⟩, ⟨_, e8_c57, (by have q9 := a8_c57; omega)⟩, ⟨_, e9_c57, (by have q9 := a9_c57; omega)⟩, ⟨_, e10_c57, (by have q9 := a10_c57; omega)⟩, by omega, by omega, by omega, by omega⟩), by omega, by omega⟩), f_60, hR.out (rfl : Int32.toInt xv_c19 = _), Or.inr ⟨by omega, by omega⟩, f_69, fr_68⟩) (by show kc + 1 + 1 ≤ kc + 3; omega) (by show ks + 11 + 11 ≤ ks + 33; omega)
              · obtain ⟨hk_c57, -, hn_c57, hE_c57, fr_c57⟩ := hpo.resolve_left (fun z => absurd z.1 (by omega))
                have ft_c57 := fr_56.tr (fr_c57.mono (fun _ _ h9 => Or.inl (Or.inl h9)))
                obtain ⟨y1, y2⟩ := sOut_e3 (nl := nl) (n := n9) (d := (fv, gv)) hwj (by rw [← es_c5]; exact hr_c19) (by rw [← es_c5]; exact es_c19) (by rw [← es_c5]; exact hv_c19) (hq_c45.resolve_right (fun q9 => by omega)).2 hn_c57
                refine Or.inr ⟨rfl, Or.inr ⟨by omega, rfl, by rw [y1]; exact hn_c57, by rw [y1, y2]; exact hE_c57, ft_c57⟩, by show kc + 1 + 1 ≤ kc + 3; omega, by show ks + 11 + 11 ≤ ks + 33; omega⟩
            · simp only [i_eq, i0] at h11
              refine g_loadA act (gx gp_130 (w := 0x3503) rfl (by decide) rfl) (a := 0) (n := 53) rfl rfl rfl ?_
              refine g_constI act (gx gp_130 (w := 0x40000002c00000029000000003601) rfl (by decide) rfl) (n := 54) (x := (5 : Int32)) (by decide) rfl ?_
              refine g_loadA act (gx gp_130 (w := 0x3703) rfl (by decide) rfl) (a := 0) (n := 55) rfl rfl rfl ?_
              refine r_getf act (gx gp_130 (w := 0x285003a04) rfl (by decide) rfl) (n := 58) (ci := 5) (j := 10) (N := 11) rfl rfl rfl rw_c45.1 (by decide) (v := .int x10_c19) f_54 ?_
              refine n_call tb_pres act hEnd (gx (P := G_call) gp_130 (w := 0x600000000000080c33000088003d0f) rfl (by decide) rfl) (d' := D_136) rfl (f' := 8) (lam' := 120) (mc := 1) (ms := 11) (as := [.ref 54, .int (5 : Int32), .int x10_c19]) (rest := []) (cx_refuse (c1 := (5 : Int32)) (c2 := x10_c19) (show CRD hs_c45 tx g L (tkK tx L s_c19) s_c19 (tkE tx L s_c19) s_c5 ec ep from ⟨rw_c45, f_46, ⟨_, f_48, a1_c19⟩, ⟨_, f_49, a2_c19⟩, ⟨_, f_50, a6_c19⟩, ⟨_, f_51, a7_c19⟩, ⟨_, f_52, a8_c19⟩, ⟨_, f_53, a9_c19⟩, ⟨_, f_54, a10_c19⟩, by omega, by omega, by omega, by omega⟩)) (show (3 : Nat) = fb 0x600000000000080c33000088003d0f % 16 by decide) (by show (3 : Nat) ≤ 3; decide) (fun _ => ⟨_, _, rfl, _, shp_at rw_c45.1, Or.inr (show fb 0x600000000000080c33000088003d0f >>> 68 = 6 by decide)⟩) (by omega) (by show 8 + (3 + 11) + 120 ≤ R.locals; omega) (by show (0 : Nat) ≤ 8; decide) (by show kc + 1 + 1 ≤ _; omega) (by show ks + 11 + 11 ≤ _; omega) (fun r9 h3 hpo hr9 => ?_) (fun x9 hs9 hx9 hpo => ?_)
              · obtain rfl : r9 = none := hr9.elim (fun q => q.2) (fun q => absurd rfl q.1)
                exact absurd hpo.1 (by decide)
              · obtain ⟨hk_c70, -, hD_c70, fr_c70⟩ := hpo
                rw [(show (5 : Int32).toInt = ((5 : Nat) : Int) from by decide), a10_c19] at hD_c70
                have hE_c70 : ER hs9 tx g L ((5 : Nat) : Int) s_c5 := ⟨_, _, _, _, hD_c70⟩
                have ft_c70 := fr_56.tr (fr_c70.mono (fun _ _ h9 => Or.inl (Or.inl h9)))
                have y1 := sOut_e2 (nl := nl) (n := n9) (d := (fv, gv)) hwj (by rw [← es_c5]; exact hr_c19) (by rw [← es_c5]; exact hv_c19) (hq_c45.resolve_left (fun q9 => by omega)).2
                refine Or.inr ⟨rfl, Or.inr ⟨by omega, rfl, by rw [y1]; show (5 : Int) ≠ 0; decide, by rw [y1, ← es_c5]; exact hE_c70, ft_c70⟩, by show kc + 1 + 1 ≤ kc + 3; omega, by show ks + 11 + 11 ≤ ks + 33; omega⟩
          · exact absurd hpo.1 (by omega)
        · obtain ⟨hk_c19, -, hn_c19, hE_c19, fr_c19⟩ := hpo.resolve_left (fun z => absurd z.1 (by omega))
          have ft_c19 := fr_16.tr (fr_c19.mono (fun _ _ h9 => Or.inl (Or.inl h9)))
          rw [es_c5] at hn_c19 hE_c19
          obtain ⟨y1, y2⟩ := sOut_e1 (nl := nl) (n := n9) (d := (fv, gv)) hwj hn_c19
          refine Or.inr ⟨rfl, Or.inr ⟨by omega, rfl, by rw [y1]; exact hn_c19, by rw [y1, y2]; exact hE_c19, ft_c19⟩, by show kc + 1 ≤ kc + 3; omega, by show ks + 11 ≤ ks + 33; omega⟩
      · exact absurd hpo.1 (by omega)
  · exact absurd hpo.1 (by omega)

end CRDK

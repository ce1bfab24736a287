/-! The class reads demands and sizes, exactly. -/
theorem sHead_e1 {tx : Nat → Int} {L s : Int}  (hn : (sWrd tx L wNODES s).1 ≠ 0) : (sHead tx L s).1 = (sWrd tx L wNODES s).1 ∧ (sHead tx L s).2.1 = (sWrd tx L wNODES s).2 := by
  unfold sHead
  simp only [hn, ne_eq, not_true_eq_false, not_false_eq_true, ↓reduceIte, and_self, Bool.true_eq_false, Bool.false_eq_true]
theorem sHead_e2 {tx : Nat → Int} {L s : Int}  {s2 : Int} (h1 : (sWrd tx L wNODES s).1 = 0) (e1 : s2 = (sWrd tx L wNODES s).2) (hn : (sNum tx L 2 4 s2).1 ≠ 0) : (sHead tx L s).1 = (sNum tx L 2 4 s2).1 ∧ (sHead tx L s).2.1 = (sNum tx L 2 4 s2).2.1 := by
  subst e1
  unfold sHead
  simp only [h1, hn, ne_eq, not_true_eq_false, not_false_eq_true, ↓reduceIte, and_self, Bool.true_eq_false, Bool.false_eq_true]
theorem sHead_e3 {tx : Nat → Int} {L s : Int}  {s2 : Int} {a2 s3 : Int} (h1 : (sWrd tx L wNODES s).1 = 0) (e1 : s2 = (sWrd tx L wNODES s).2) (h2 : (sNum tx L 2 4 s2).1 = 0) (e2 : s3 = (sNum tx L 2 4 s2).2.1) (v2 : a2 = (sNum tx L 2 4 s2).2.2) (hn : (sWrd tx L wINTERVALS s3).1 ≠ 0) : (sHead tx L s).1 = (sWrd tx L wINTERVALS s3).1 ∧ (sHead tx L s).2.1 = (sWrd tx L wINTERVALS s3).2 := by
  subst e1
  subst e2
  subst v2
  unfold sHead
  simp only [h1, h2, hn, ne_eq, not_true_eq_false, not_false_eq_true, ↓reduceIte, and_self, Bool.true_eq_false, Bool.false_eq_true]
theorem sHead_e4 {tx : Nat → Int} {L s : Int}  {s2 : Int} {a2 s3 : Int} {s4 : Int} (h1 : (sWrd tx L wNODES s).1 = 0) (e1 : s2 = (sWrd tx L wNODES s).2) (h2 : (sNum tx L 2 4 s2).1 = 0) (e2 : s3 = (sNum tx L 2 4 s2).2.1) (v2 : a2 = (sNum tx L 2 4 s2).2.2) (h3 : (sWrd tx L wINTERVALS s3).1 = 0) (e3 : s4 = (sWrd tx L wINTERVALS s3).2) (hn : (sNum tx L 1 4 s4).1 ≠ 0) : (sHead tx L s).1 = (sNum tx L 1 4 s4).1 ∧ (sHead tx L s).2.1 = (sNum tx L 1 4 s4).2.1 := by
  subst e1
  subst e2
  subst v2
  subst e3
  unfold sHead
  simp only [h1, h2, h3, hn, ne_eq, not_true_eq_false, not_false_eq_true, ↓reduceIte, and_self, Bool.true_eq_false, Bool.false_eq_true]
theorem sHead_e5 {tx : Nat → Int} {L s : Int}  {s2 : Int} {a2 s3 : Int} {s4 : Int} {a4 s5 : Int} (h1 : (sWrd tx L wNODES s).1 = 0) (e1 : s2 = (sWrd tx L wNODES s).2) (h2 : (sNum tx L 2 4 s2).1 = 0) (e2 : s3 = (sNum tx L 2 4 s2).2.1) (v2 : a2 = (sNum tx L 2 4 s2).2.2) (h3 : (sWrd tx L wINTERVALS s3).1 = 0) (e3 : s4 = (sWrd tx L wINTERVALS s3).2) (h4 : (sNum tx L 1 4 s4).1 = 0) (e4 : s5 = (sNum tx L 1 4 s4).2.1) (v4 : a4 = (sNum tx L 1 4 s4).2.2) (hn : (sSem tx L s5).1 ≠ 0) : (sHead tx L s).1 = (sSem tx L s5).1 ∧ (sHead tx L s).2.1 = (sSem tx L s5).2 := by
  subst e1
  subst e2
  subst v2
  subst e3
  subst e4
  subst v4
  unfold sHead
  simp only [h1, h2, h3, h4, hn, ne_eq, not_true_eq_false, not_false_eq_true, ↓reduceIte, and_self, Bool.true_eq_false, Bool.false_eq_true]
theorem sHead_ok {tx : Nat → Int} {L s : Int}  {s2 : Int} {a2 s3 : Int} {s4 : Int} {a4 s5 : Int} {s6 : Int} (h1 : (sWrd tx L wNODES s).1 = 0) (e1 : s2 = (sWrd tx L wNODES s).2) (h2 : (sNum tx L 2 4 s2).1 = 0) (e2 : s3 = (sNum tx L 2 4 s2).2.1) (v2 : a2 = (sNum tx L 2 4 s2).2.2) (h3 : (sWrd tx L wINTERVALS s3).1 = 0) (e3 : s4 = (sWrd tx L wINTERVALS s3).2) (h4 : (sNum tx L 1 4 s4).1 = 0) (e4 : s5 = (sNum tx L 1 4 s4).2.1) (v4 : a4 = (sNum tx L 1 4 s4).2.2) (h5 : (sSem tx L s5).1 = 0) (e5 : s6 = (sSem tx L s5).2) : sHead tx L s = (0, s6, a2, a4) := by
  subst e1
  subst e2
  subst v2
  subst e3
  subst e4
  subst v4
  subst e5
  unfold sHead
  simp only [h1, h2, h3, h4, h5, ne_eq, not_true_eq_false, not_false_eq_true, ↓reduceIte, and_self, Bool.true_eq_false, Bool.false_eq_true]
section CRDD
variable {g0 : GG} {bl : Nat} {xs : Nat → Int32} {l : Launch} {hs : List CE} {tx : Nat → Int} {g : Nat} {L k s A P ec ep : Int}
theorem cx_readDems {P : Int} {F : Nat → Nat → Int32} {fv gv : Nat → Int} {o : Int} (hn1 : 1 ≤ fv 0) (hn2 : fv 0 ≤ 4) (hi1 : 1 ≤ fv 1) (hi2 : fv 1 ≤ 4) (hG : GIM hs g F) (hR : REL F fv gv o) (hC : CT hs tx g L s P ec ep) : BodyN SSX TBL g0 CLS bl xs l D_124 11 185 570 6270 [.ref 54] hs (fun kd r h2 => (kd = 0 ∧ r = none ∧ ∃ (s2 P2 : Int) (F2 : Nat → Nat → Int32) (gv2 : Nat → Int), sDems tx L 700 s (fv, gv) = (0, s2, (fv, gv2)) ∧ CT h2 tx g L s2 P2 ec ep ∧ GIM h2 g F2 ∧ REL F2 fv gv2 o ∧ FrS (WKG g) hs h2) ∨ (kd = 3 ∧ r = none ∧ (sDems tx L 700 s (fv, gv)).1 ≠ 0 ∧ ER h2 tx g L (sDems tx L 700 s (fv, gv)).1 (sDems tx L 700 s (fv, gv)).2.1 ∧ FrS (WKG g) hs h2)) := by
  intro wp p e R sW m args below meth c Q kc0 ks0 kc ks act hf hl hc hsl hEnd
  have hf : 11 ≤ R.frames := hf
  have hl : 185 ≤ R.locals := hl
  have loop : ∀ (hj : List CE) (n : Nat) (cn : Int32) (v2 v3 : Option Value) (sj Pj : Int) (Fj : Nat → Nat → Int32) (gvj : Nat → Int) (kcj ksj : Nat), CT hj tx g L sj Pj ec ep → GIM hj g Fj → REL Fj fv gvj o → cn.toInt = (n : Int) → 5 * (n : Int) ≤ sj → sDems tx L 700 s (fv, gv) = sDems tx L (700 - n) sj (fv, gvj) → FrS (WKG g) hs hj → kcj ≤ kc + 4 * n → ksj ≤ ks + 44 * n → WpN (gp g0 wp) CLS p l e R sW m args below meth c Q D_124.2.2.1 kc0 ks0 2 [some (.ref 54), some (.int cn), v2, v3] (hj, kcj, ksj) [] := by
    intro hj n cn v2 v3 sj Pj Fj gvj kcj ksj hCj hGj hRj hcn h5 hsp hfr hkc hks
    generalize hm : 1000 - n = m9
    induction m9 using Nat.strongRecOn generalizing hj n cn v2 v3 sj Pj Fj gvj kcj ksj with
    | _ m9 ih =>
    have hg0 := hGj.1.1
    subst hm
    obtain ⟨hP_t1, qt_1, qu_1⟩ := hCj
    have qv_1 := tkE_le (T := tx) (L := L) (s := sj) (by omega)
    obtain ⟨rw_2, hT_2, ⟨x1_2, e1_2, a1_2⟩, ⟨x2_2, e2_2, a2_2⟩, ⟨x6_2, e6_2, a6_2⟩, ⟨x7_2, e7_2, a7_2⟩, ⟨x8_2, e8_2, a8_2⟩, ⟨x9_2, e9_2, a9_2⟩, ⟨x10_2, e10_2, a10_2⟩, q1_2, q2_2, q3_2, q4_2⟩ := hP_t1
    refine g_loadI act (gx gp_124 (w := 0x1000302) rfl (by decide) rfl) (a := 1) (n := 3) rfl rfl rfl ?_
    refine g_constI act (gx gp_124 (w := 0x4000015e4000015e1000000000601) rfl (by decide) rfl) (n := 6) (x := (700 : Int32)) (by decide) rfl ?_
    refine g_icmpGe act (gx gp_124 (w := 0x47000908) rfl (by decide) rfl) (tgt := 71) (n := 9) rfl rfl (fun h3 => ?_) (fun h3 => ?_)
    · simp only [i_le, show (700 : Int32).toInt = 700 from by decide] at h3
      exfalso; omega
    · simp only [i_le, show (700 : Int32).toInt = 700 from by decide] at h3
      refine g_loadA act (gx gp_124 (w := 0xa03) rfl (by decide) rfl) (a := 0) (n := 10) rfl rfl rfl ?_
      refine g_str act (gx gp_124 (w := 0x7000000000c01) rfl (by decide) rfl) (n := 12) (by decide) rfl (fun i_3 k_3 t_3 hd_3 hk_3 => ?_)
      obtain rfl : i_3 = 140 := by
        have q9 := (show decode D_124.2.1 10 = .ok (.ldc 140, 2) from by decide +kernel).symm.trans hd_3
        cases q9
        rfl
      obtain rfl : k_3 = 13 := (lit_ix _ _ _ hk_3).2.1 rfl
      refine n_call tb_pres act hEnd (gx (P := G_call) gp_124 (w := 0x6000000000000c0c2200007b000f0f) rfl (by decide) rfl) (d' := D_123) rfl (f' := 4) (lam' := 100) (mc := 0) (ms := 0) (as := [.ref 54, .ref (litK 13)]) (rest := []) (cx_isw (i := 13) (by decide) (by decide) (show CT hj tx g L sj Pj ec ep from ⟨(show CRD hj tx g L (tkK tx L sj) sj (tkE tx L sj) Pj ec ep from ⟨rw_2, hT_2, ⟨_, e1_2, (by have q9 := a1_2; omega)⟩, ⟨_, e2_2, (by have q9 := a2_2; omega)⟩, ⟨_, e6_2, (by have q9 := a6_2; omega)⟩, ⟨_, e7_2, (by have q9 := a7_2; omega)⟩, ⟨_, e8_2, (by have q9 := a8_2; omega)⟩, ⟨_, e9_2, (by have q9 := a9_2; omega)⟩, ⟨_, e10_2, (by have q9 := a10_2; omega)⟩, by omega, by omega, by omega, by omega⟩), by omega, by omega⟩)) (show (2 : Nat) = fb 0x6000000000000c0c2200007b000f0f % 16 by decide) (by show (2 : Nat) ≤ 3; decide) (fun _ => ⟨_, _, rfl, _, shp_at rw_2.1, Or.inr (show fb 0x6000000000000c0c2200007b000f0f >>> 68 = 6 by decide)⟩) (by omega) (by show 8 + (3 + 11) + 100 ≤ R.locals; omega) (by show (0 : Nat) ≤ 8; decide) (by show kcj + 0 ≤ _; omega) (by show ksj + 0 ≤ _; omega) (fun r9 h3 hpo hr9 => ?_) (fun x9 hs9 hx9 hpo => ?_)
      · obtain ⟨-, rfl, xv_c4, rfl, hw_c4⟩ := hpo
        rw [show lwd 13 = wDEMAND from lwd_all.2.1] at hw_c4
        show WpN (gp g0 wp) CLS p l e R sW m args below meth c Q D_124.2.2.1 kc0 ks0 15 [some (.ref 54), some (.int cn), v2, v3] (hj, kcj, ksj) [.int xv_c4]
        refine g_ifEq act (gx gp_124 (w := 0x4700120e) rfl (by decide) rfl) (tgt := 71) (n := 18) rfl rfl (fun hw15 => ?_) (fun hw15 => ?_)
        · simp only [i_eq, i0] at hw15
          have hno := sDems_no (tx := tx) (L := L) (s := sj) (f := 700 - n) (d := (fv, gvj)) (by omega)
          exact g_retV hEnd (gx gp_124 (w := 0x18) rfl (by decide) rfl) (Or.inl ⟨rfl, rfl, sj, Pj, Fj, gvj, hsp.trans hno, (show CT hj tx g L sj Pj ec ep from ⟨(show CRD hj tx g L (tkK tx L sj) sj (tkE tx L sj) Pj ec ep from ⟨rw_2, hT_2, ⟨_, e1_2, (by have q9 := a1_2; omega)⟩, ⟨_, e2_2, (by have q9 := a2_2; omega)⟩, ⟨_, e6_2, (by have q9 := a6_2; omega)⟩, ⟨_, e7_2, (by have q9 := a7_2; omega)⟩, ⟨_, e8_2, (by have q9 := a8_2; omega)⟩, ⟨_, e9_2, (by have q9 := a9_2; omega)⟩, ⟨_, e10_2, (by have q9 := a10_2; omega)⟩, by omega, by omega, by omega, by omega⟩), by omega, by omega⟩), hGj, hRj, hfr⟩) (by show kcj ≤ kc + 570; omega) (by show ksj ≤ ks + 6270; omega)
        · simp only [i_eq, i0] at hw15
          have hwj : wrd tx L sj = wDEMAND := by omega
          have hwl := nxs_gt (tx := tx) (wrd_word (T := tx) (L := L) (s := sj) (by rw [hwj]; decide)).1
          obtain ⟨f, hf9⟩ : ∃ f, 700 - n = f + 1 := ⟨699 - n, by omega⟩
          rw [hf9] at hsp
          refine g_loadA act (gx gp_124 (w := 0x1303) rfl (by decide) rfl) (a := 0) (n := 19) rfl rfl rfl ?_
          refine n_call tb_pres act hEnd (gx (P := G_call) gp_124 (w := 0x60000000000008081100007700160f) rfl (by decide) rfl) (d' := D_119) rfl (f' := 1) (lam' := 22) (mc := 0) (ms := 0) (as := [.ref 54]) (rest := []) (cx_advance (show CRD hj tx g L (tkK tx L sj) sj (tkE tx L sj) Pj ec ep from ⟨rw_2, hT_2, ⟨_, e1_2, a1_2⟩, ⟨_, e2_2, a2_2⟩, ⟨_, e6_2, a6_2⟩, ⟨_, e7_2, a7_2⟩, ⟨_, e8_2, a8_2⟩, ⟨_, e9_2, a9_2⟩, ⟨_, e10_2, a10_2⟩, by omega, by omega, by omega, by omega⟩)) (show (1 : Nat) = fb 0x60000000000008081100007700160f % 16 by decide) (by show (1 : Nat) ≤ 2; decide) (fun _ => ⟨_, _, rfl, _, shp_at rw_2.1, Or.inr (show fb 0x60000000000008081100007700160f >>> 68 = 6 by decide)⟩) (by omega) (by show 8 + (2 + 11) + 22 ≤ R.locals; omega) (by show (0 : Nat) ≤ 8; decide) (by show kcj + 0 ≤ _; omega) (by show ksj + 0 ≤ _; omega) (fun r9 hs_c5 hpo hr9 => ?_) (fun x9 hs9 hx9 hpo => ?_)
          · obtain rfl : r9 = none := hr9.elim (fun q => q.2) (fun q => absurd rfl q.1)
            obtain ⟨-, -, hD_c5, fr_c5⟩ := hpo
            obtain ⟨s_c5, es_c5, hC_c5⟩ : ∃ z : Int, z = nxs tx L sj ∧ CT hs_c5 tx g L z sj ec ep := ⟨_, rfl, hD_c5⟩
            obtain ⟨⟨-, -, ⟨x1_c5, e1_c5, a1_c5⟩, ⟨x2_c5, e2_c5, a2_c5⟩, ⟨x6_c5, e6_c5, a6_c5⟩, ⟨x7_c5, e7_c5, a7_c5⟩, ⟨x8_c5, e8_c5, a8_c5⟩, ⟨x9_c5, e9_c5, a9_c5⟩, ⟨x10_c5, e10_c5, a10_c5⟩, q1_c5, q2_c5, q3_c5, q4_c5⟩, qs_c5, qt_c5⟩ := hC_c5
            have rw_6 := rw_2.fr fr_c5 (fun j9 _ _ => by unfold WKr; omega)
            have f_7 := hT_2.fr fr_c5 (fun j9 => by unfold WKr; omega)
            have f_15 := hGj.frW fr_c5 (fun k9 j9 h9 => by unfold WKr at h9; omega)
            have fr_16 := hfr.tr (fr_c5.mono (fun _ _ h9 => Or.inl h9))
            clear rw_2 hT_2 e1_2 e2_2 e6_2 e7_2 e8_2 e9_2 e10_2 hGj hfr
            show WpN (gp g0 wp) CLS p l e R sW m args below meth c Q D_124.2.2.1 kc0 ks0 22 [some (.ref 54), some (.int cn), v2, v3] (hs_c5, kcj, ksj) []
            refine g_loadA act (gx gp_124 (w := 0x1703) rfl (by decide) rfl) (a := 0) (n := 23) rfl rfl rfl ?_
            refine g_constI act (gx gp_124 (w := 0x40000000400000001000000001801) rfl (by decide) rfl) (n := 24) (x := (0 : Int32)) (by decide) rfl ?_
            refine g_loadA act (gx gp_124 (w := 0x1903) rfl (by decide) rfl) (a := 0) (n := 25) rfl rfl rfl ?_
            refine r_getf act (gx gp_124 (w := 0x3000145001c04) rfl (by decide) rfl) (n := 28) (ci := 5) (j := 5) (N := 11) rfl rfl rfl rw_6.1 (by decide) (v := .ref g) rw_6.2.2.2.2 ?_
            refine r_getf act (gx gp_124 (w := 0x44001f04) rfl (by decide) rfl) (n := 31) (ci := 4) (j := 1) (N := 18) rfl rfl rfl f_15.1.2.1 (by decide) (v := .int (Fj 0 1)) (f_15.2 0 1 (Or.inl ⟨rfl, by decide⟩)) ?_
            refine g_constI act (gx gp_124 (w := 0x40000000c00000009000000002001) rfl (by decide) rfl) (n := 32) (x := (1 : Int32)) (by decide) rfl ?_
            refine g_isub act (gx gp_124 (w := 0x2126) rfl (by decide) rfl) (n := 33) rfl ?_
            have v_17 := iv_sub hRj.2.1 (show (1 : Int32).toInt = ((1 : Nat) : Int) from by decide) (show -2147483648 ≤ ((fv 1) - ((1 : Nat) : Int)) by omega) (show ((fv 1) - ((1 : Nat) : Int)) < 2147483648 by omega)
            refine n_call tb_pres act hEnd (gx (P := G_call) gp_124 (w := 0x6000000000000c103300008000240f) rfl (by decide) rfl) (d' := D_128) rfl (f' := 9) (lam' := 142) (mc := 1) (ms := 11) (as := [.ref 54, .int (0 : Int32), .int ((Fj 0 1) - (1 : Int32))]) (rest := []) (cx_number (lo := 0) (hi := fv 1 - 1) (by decide) (by have q9 := v_17; omega) (show CT hs_c5 tx g L s_c5 sj ec ep from ⟨(show CRD hs_c5 tx g L (tkK tx L s_c5) s_c5 (tkE tx L s_c5) sj ec ep from ⟨rw_6, f_7, ⟨_, e1_c5, (by have q9 := a1_c5; omega)⟩, ⟨_, e2_c5, (by have q9 := a2_c5; omega)⟩, ⟨_, e6_c5, (by have q9 := a6_c5; omega)⟩, ⟨_, e7_c5, (by have q9 := a7_c5; omega)⟩, ⟨_, e8_c5, (by have q9 := a8_c5; omega)⟩, ⟨_, e9_c5, (by have q9 := a9_c5; omega)⟩, ⟨_, e10_c5, (by have q9 := a10_c5; omega)⟩, by omega, by omega, by omega, by omega⟩), by omega, by omega⟩)) (show (3 : Nat) = fb 0x6000000000000c103300008000240f % 16 by decide) (by show (3 : Nat) ≤ 4; decide) (fun _ => ⟨_, _, rfl, _, shp_at rw_6.1, Or.inr (show fb 0x6000000000000c103300008000240f >>> 68 = 6 by decide)⟩) (by omega) (by show 8 + (4 + 11) + 142 ≤ R.locals; omega) (by show (0 : Nat) ≤ 8; decide) (by show kcj + 1 ≤ _; omega) (by show ksj + 11 ≤ _; omega) (fun r9 hs_c18 hpo hr9 => ?_) (fun x9 hs9 hx9 hpo => ?_)
            · obtain ⟨-, hr_c18, ⟨xv_c18, rfl, hv_c18⟩, hD_c18, fr_c18⟩ := hpo.resolve_right (fun z => absurd z.1 (by decide))
              obtain ⟨s_c18, es_c18, hC_c18⟩ : ∃ z : Int, z = ((sNum tx L 0 (fv 1 - 1) s_c5)).2.1 ∧ CT hs_c18 tx g L z s_c5 ec ep := ⟨_, rfl, hD_c18⟩
              obtain ⟨⟨-, -, ⟨x1_c18, e1_c18, a1_c18⟩, ⟨x2_c18, e2_c18, a2_c18⟩, ⟨x6_c18, e6_c18, a6_c18⟩, ⟨x7_c18, e7_c18, a7_c18⟩, ⟨x8_c18, e8_c18, a8_c18⟩, ⟨x9_c18, e9_c18, a9_c18⟩, ⟨x10_c18, e10_c18, a10_c18⟩, q1_c18, q2_c18, q3_c18, q4_c18⟩, qs_c18, qt_c18⟩ := hC_c18
              have rw_19 := rw_6.fr fr_c18 (fun j9 _ _ => by unfold WKr; omega)
              have f_20 := f_7.fr fr_c18 (fun j9 => by unfold WKr; omega)
              have f_21 := f_15.frW fr_c18 (fun k9 j9 h9 => by unfold WKr at h9; omega)
              have fr_29 := fr_16.tr (fr_c18.mono (fun _ _ h9 => Or.inl h9))
              clear rw_6 f_7 f_15 e1_c5 e2_c5 e6_c5 e7_c5 e8_c5 e9_c5 e10_c5 fr_16
              have hg_c18 := sNum_gt hr_c18
              show WpN (gp g0 wp) CLS p l e R sW m args below meth c Q D_124.2.2.1 kc0 ks0 36 [some (.ref 54), some (.int cn), v2, v3] (hs_c18, kcj + 1, ksj + 11) [.int xv_c18]
              refine g_storeI act (gx gp_124 (w := 0x2002510) rfl (by decide) rfl) (a := 2) (n := 37) rfl rfl (L2 := [some (.ref 54), some (.int cn), some (.int xv_c18), v3]) rfl ?_
              refine g_loadA act (gx gp_124 (w := 0x2603) rfl (by decide) rfl) (a := 0) (n := 38) rfl rfl rfl ?_
              refine n_call tb_pres act hEnd (gx (P := G_call) gp_124 (w := 0x6000000000000c041100007f00290f) rfl (by decide) rfl) (d' := D_127) rfl (f' := 10) (lam' := 165) (mc := 1) (ms := 11) (as := [.ref 54]) (rest := []) (cx_node (n0 := fv 0) f_21 hRj.1 (by omega) (by omega) (show CT hs_c18 tx g L s_c18 s_c5 ec ep from ⟨(show CRD hs_c18 tx g L (tkK tx L s_c18) s_c18 (tkE tx L s_c18) s_c5 ec ep from ⟨rw_19, f_20, ⟨_, e1_c18, (by have q9 := a1_c18; omega)⟩, ⟨_, e2_c18, (by have q9 := a2_c18; omega)⟩, ⟨_, e6_c18, (by have q9 := a6_c18; omega)⟩, ⟨_, e7_c18, (by have q9 := a7_c18; omega)⟩, ⟨_, e8_c18, (by have q9 := a8_c18; omega)⟩, ⟨_, e9_c18, (by have q9 := a9_c18; omega)⟩, ⟨_, e10_c18, (by have q9 := a10_c18; omega)⟩, by omega, by omega, by omega, by omega⟩), by omega, by omega⟩)) (show (1 : Nat) = fb 0x6000000000000c041100007f00290f % 16 by decide) (by show (1 : Nat) ≤ 1; decide) (fun _ => ⟨_, _, rfl, _, shp_at rw_19.1, Or.inr (show fb 0x6000000000000c041100007f00290f >>> 68 = 6 by decide)⟩) (by omega) (by show 8 + (1 + 11) + 165 ≤ R.locals; omega) (by show (0 : Nat) ≤ 8; decide) (by show kcj + 1 + 1 ≤ _; omega) (by show ksj + 11 + 11 ≤ _; omega) (fun r9 hs_c30 hpo hr9 => ?_) (fun x9 hs9 hx9 hpo => ?_)
              · obtain ⟨-, hr_c30, ⟨xv_c30, rfl, hv_c30⟩, hD_c30, fr_c30⟩ := hpo.resolve_right (fun z => absurd z.1 (by decide))
                obtain ⟨s_c30, es_c30, hC_c30⟩ : ∃ z : Int, z = ((sNum tx L 0 (fv 0 - 1) s_c18)).2.1 ∧ CT hs_c30 tx g L z s_c18 ec ep := ⟨_, rfl, hD_c30⟩
                obtain ⟨⟨-, -, ⟨x1_c30, e1_c30, a1_c30⟩, ⟨x2_c30, e2_c30, a2_c30⟩, ⟨x6_c30, e6_c30, a6_c30⟩, ⟨x7_c30, e7_c30, a7_c30⟩, ⟨x8_c30, e8_c30, a8_c30⟩, ⟨x9_c30, e9_c30, a9_c30⟩, ⟨x10_c30, e10_c30, a10_c30⟩, q1_c30, q2_c30, q3_c30, q4_c30⟩, qs_c30, qt_c30⟩ := hC_c30
                have rw_31 := rw_19.fr fr_c30 (fun j9 _ _ => by unfold WKr; omega)
                have f_32 := f_20.fr fr_c30 (fun j9 => by unfold WKr; omega)
                have f_33 := f_21.frW fr_c30 (fun k9 j9 h9 => by unfold WKr at h9; omega)
                have fr_41 := fr_29.tr (fr_c30.mono (fun _ _ h9 => Or.inl h9))
                clear rw_19 f_20 f_21 e1_c18 e2_c18 e6_c18 e7_c18 e8_c18 e9_c18 e10_c18 fr_29
                have hg_c30 := sNum_gt hr_c30
                show WpN (gp g0 wp) CLS p l e R sW m args below meth c Q D_124.2.2.1 kc0 ks0 41 [some (.ref 54), some (.int cn), some (.int xv_c18), v3] (hs_c30, kcj + 1 + 1, ksj + 11 + 11) [.int xv_c30]
                refine g_storeI act (gx gp_124 (w := 0x3002a10) rfl (by decide) rfl) (a := 3) (n := 42) rfl rfl (L2 := [some (.ref 54), some (.int cn), some (.int xv_c18), some (.int xv_c30)]) rfl ?_
                refine g_loadA act (gx gp_124 (w := 0x2b03) rfl (by decide) rfl) (a := 0) (n := 43) rfl rfl rfl ?_
                refine r_getf act (gx gp_124 (w := 0x3000145002e04) rfl (by decide) rfl) (n := 46) (ci := 5) (j := 5) (N := 11) rfl rfl rfl rw_31.1 (by decide) (v := .ref g) rw_31.2.2.2.2 ?_
                refine r_getf act (gx gp_124 (w := 0x3000344003104) rfl (by decide) rfl) (n := 49) (ci := 4) (j := 13) (N := 18) rfl rfl rfl f_33.1.2.1 (by decide) (v := .ref (g + 8)) (f_33.1.2.2.1 (13, 8, 37, 4) (by decide)).1 ?_
                refine g_loadI act (gx gp_124 (w := 0x2003202) rfl (by decide) rfl) (a := 2) (n := 50) rfl rfl rfl ?_
                obtain ⟨j_42, hj_42⟩ := Int.eq_ofNat_of_zero_le (show (0 : Int) ≤ (Int32.toInt xv_c18) by omega)
                refine r_aald act (gx gp_124 (w := 0x3312) rfl (by decide) rfl) (n := 51) (N := 4) (j := j_42) rfl (f_33.1.2.2.1 (13, 8, 37, 4) (by decide)).2 (by decide) ((rfl : Int32.toInt xv_c18 = _).trans hj_42) (show j_42 < 4 by omega) (v := .ref (g + (9 + j_42))) (f_33.1.2.2.2 j_42 (by omega)).1 ?_
                refine g_loadI act (gx gp_124 (w := 0x3003402) rfl (by decide) rfl) (a := 3) (n := 52) rfl rfl rfl ?_
                refine g_loadA act (gx gp_124 (w := 0x3503) rfl (by decide) rfl) (a := 0) (n := 53) rfl rfl rfl ?_
                refine g_constI act (gx gp_124 (w := 0x40000000400000001000000003601) rfl (by decide) rfl) (n := 54) (x := (0 : Int32)) (by decide) rfl ?_
                refine g_constI act (gx gp_124 (w := 0x40000064400000641000000003901) rfl (by decide) rfl) (n := 57) (x := (200 : Int32)) (by decide) rfl ?_
                refine n_call tb_pres act hEnd (gx (P := G_call) gp_124 (w := 0x6000000000000c1033000080003c0f) rfl (by decide) rfl) (d' := D_128) rfl (f' := 9) (lam' := 142) (mc := 1) (ms := 11) (as := [.ref 54, .int (0 : Int32), .int (200 : Int32)]) (rest := [.int xv_c30, .ref (g + (9 + j_42))]) (cx_number (lo := 0) (hi := 200) (by decide) (by decide) (show CT hs_c30 tx g L s_c30 s_c18 ec ep from ⟨(show CRD hs_c30 tx g L (tkK tx L s_c30) s_c30 (tkE tx L s_c30) s_c18 ec ep from ⟨rw_31, f_32, ⟨_, e1_c30, (by have q9 := a1_c30; omega)⟩, ⟨_, e2_c30, (by have q9 := a2_c30; omega)⟩, ⟨_, e6_c30, (by have q9 := a6_c30; omega)⟩, ⟨_, e7_c30, (by have q9 := a7_c30; omega)⟩, ⟨_, e8_c30, (by have q9 := a8_c30; omega)⟩, ⟨_, e9_c30, (by have q9 := a9_c30; omega)⟩, ⟨_, e10_c30, (by have q9 := a10_c30; omega)⟩, by omega, by omega, by omega, by omega⟩), by omega, by omega⟩)) (show (3 : Nat) = fb 0x6000000000000c1033000080003c0f % 16 by decide) (by show (3 : Nat) ≤ 4; decide) (fun _ => ⟨_, _, rfl, _, shp_at rw_31.1, Or.inr (show fb 0x6000000000000c1033000080003c0f >>> 68 = 6 by decide)⟩) (by omega) (by show 8 + (4 + 11) + 142 ≤ R.locals; omega) (by show (2 : Nat) ≤ 8; decide) (by show kcj + 1 + 1 + 1 ≤ _; omega) (by show ksj + 11 + 11 + 11 ≤ _; omega) (fun r9 hs_c43 hpo hr9 => ?_) (fun x9 hs9 hx9 hpo => ?_)
                · obtain ⟨-, hr_c43, ⟨xv_c43, rfl, hv_c43⟩, hD_c43, fr_c43⟩ := hpo.resolve_right (fun z => absurd z.1 (by decide))
                  obtain ⟨s_c43, es_c43, hC_c43⟩ : ∃ z : Int, z = ((sNum tx L 0 200 s_c30)).2.1 ∧ CT hs_c43 tx g L z s_c30 ec ep := ⟨_, rfl, hD_c43⟩
                  obtain ⟨⟨-, -, ⟨x1_c43, e1_c43, a1_c43⟩, ⟨x2_c43, e2_c43, a2_c43⟩, ⟨x6_c43, e6_c43, a6_c43⟩, ⟨x7_c43, e7_c43, a7_c43⟩, ⟨x8_c43, e8_c43, a8_c43⟩, ⟨x9_c43, e9_c43, a9_c43⟩, ⟨x10_c43, e10_c43, a10_c43⟩, q1_c43, q2_c43, q3_c43, q4_c43⟩, qs_c43, qt_c43⟩ := hC_c43
                  have rw_44 := rw_31.fr fr_c43 (fun j9 _ _ => by unfold WKr; omega)
                  have f_45 := f_32.fr fr_c43 (fun j9 => by unfold WKr; omega)
                  have f_46 := f_33.frW fr_c43 (fun k9 j9 h9 => by unfold WKr at h9; omega)
                  have fr_54 := fr_41.tr (fr_c43.mono (fun _ _ h9 => Or.inl h9))
                  clear rw_31 f_32 f_33 e1_c30 e2_c30 e6_c30 e7_c30 e8_c30 e9_c30 e10_c30 fr_41
                  have hg_c43 := sNum_gt hr_c43
                  show WpN (gp g0 wp) CLS p l e R sW m args below meth c Q D_124.2.2.1 kc0 ks0 60 [some (.ref 54), some (.int cn), some (.int xv_c18), some (.int xv_c30)] (hs_c43, kcj + 1 + 1 + 1, ksj + 11 + 11 + 11) [.int xv_c43, .int xv_c30, .ref (g + (9 + j_42))]
                  obtain ⟨j_55, hj_55⟩ := Int.eq_ofNat_of_zero_le (show (0 : Int) ≤ (Int32.toInt xv_c30) by omega)
                  refine r_iast act (gx gp_124 (w := 0x3d24) rfl (by decide) rfl) (n := 61) (j := j_55) (N := 4) rfl (f_46.1.2.2.2 j_42 (by omega)).2 ((rfl : Int32.toInt xv_c30 = _).trans hj_55) (show j_55 < 4 by omega) ?_
                  have f_56 := f_45.ne (k := (g + (9 + j_42))) (j := j_55) (v := .int xv_c43) (by omega)
                  have f_57 := f_46.put (a := (9 + j_42)) (j := j_55) (x := xv_c43) (by unfold gpl; omega)
                  have f_58 := (rd_ne hs_c43 (k := (g + (9 + j_42))) (j := j_55) (.int xv_c43) (Or.inl (by omega))).trans e1_c43
                  have f_59 := (rd_ne hs_c43 (k := (g + (9 + j_42))) (j := j_55) (.int xv_c43) (Or.inl (by omega))).trans e2_c43
                  have f_60 := (rd_ne hs_c43 (k := (g + (9 + j_42))) (j := j_55) (.int xv_c43) (Or.inl (by omega))).trans e6_c43
                  have f_61 := (rd_ne hs_c43 (k := (g + (9 + j_42))) (j := j_55) (.int xv_c43) (Or.inl (by omega))).trans e7_c43
                  have f_62 := (rd_ne hs_c43 (k := (g + (9 + j_42))) (j := j_55) (.int xv_c43) (Or.inl (by omega))).trans e8_c43
                  have f_63 := (rd_ne hs_c43 (k := (g + (9 + j_42))) (j := j_55) (.int xv_c43) (Or.inl (by omega))).trans e9_c43
                  have f_64 := (rd_ne hs_c43 (k := (g + (9 + j_42))) (j := j_55) (.int xv_c43) (Or.inl (by omega))).trans e10_c43
                  have rw_65 := RWC.wrG (k := (g + (9 + j_42))) (j := j_55) (v := .int xv_c43) rw_44 (by omega)
                  have fr_66 := fr_54.wr (k := (g + (9 + j_42))) (j := j_55) (.int xv_c43) (Or.inr (by unfold WGr; omega))
                  clear f_45 f_46 e1_c43 e2_c43 e6_c43 e7_c43 e8_c43 e9_c43 e10_c43 rw_44 fr_54
                  generalize (wr hs_c43 (g + (9 + j_42)) j_55 (.int xv_c43)) = hs_67 at *
                  refine g_loadA act (gx gp_124 (w := 0x3e03) rfl (by decide) rfl) (a := 0) (n := 62) rfl rfl rfl ?_
                  refine n_call tb_pres act hEnd (gx (P := G_call) gp_124 (w := 0x60000000000008041100008400410f) rfl (by decide) rfl) (d' := D_132) rfl (f' := 9) (lam' := 142) (mc := 1) (ms := 11) (as := [.ref 54]) (rest := []) (cx_semi (show CT hs_67 tx g L s_c43 s_c30 ec ep from ⟨(show CRD hs_67 tx g L (tkK tx L s_c43) s_c43 (tkE tx L s_c43) s_c30 ec ep from ⟨rw_65, f_56, ⟨_, f_58, (by have q9 := a1_c43; omega)⟩, ⟨_, f_59, (by have q9 := a2_c43; omega)⟩, ⟨_, f_60, (by have q9 := a6_c43; omega)⟩, ⟨_, f_61, (by have q9 := a7_c43; omega)⟩, ⟨_, f_62, (by have q9 := a8_c43; omega)⟩, ⟨_, f_63, (by have q9 := a9_c43; omega)⟩, ⟨_, f_64, (by have q9 := a10_c43; omega)⟩, by omega, by omega, by omega, by omega⟩), by omega, by omega⟩)) (show (1 : Nat) = fb 0x60000000000008041100008400410f % 16 by decide) (by show (1 : Nat) ≤ 1; decide) (fun _ => ⟨_, _, rfl, _, shp_at rw_65.1, Or.inr (show fb 0x60000000000008041100008400410f >>> 68 = 6 by decide)⟩) (by omega) (by show 8 + (1 + 11) + 142 ≤ R.locals; omega) (by show (0 : Nat) ≤ 8; decide) (by show kcj + 1 + 1 + 1 + 1 ≤ _; omega) (by show ksj + 11 + 11 + 11 + 11 ≤ _; omega) (fun r9 hs_c68 hpo hr9 => ?_) (fun x9 hs9 hx9 hpo => ?_)
                  · obtain rfl : r9 = none := hr9.elim (fun q => q.2) (fun q => absurd rfl q.1)
                    obtain ⟨-, hr_c68, -, hD_c68, fr_c68⟩ := hpo.resolve_right (fun z => absurd z.1 (by decide))
                    obtain ⟨s_c68, es_c68, hC_c68⟩ : ∃ z : Int, z = ((sSem tx L s_c43)).2 ∧ CT hs_c68 tx g L z s_c43 ec ep := ⟨_, rfl, hD_c68⟩
                    obtain ⟨⟨-, -, ⟨x1_c68, e1_c68, a1_c68⟩, ⟨x2_c68, e2_c68, a2_c68⟩, ⟨x6_c68, e6_c68, a6_c68⟩, ⟨x7_c68, e7_c68, a7_c68⟩, ⟨x8_c68, e8_c68, a8_c68⟩, ⟨x9_c68, e9_c68, a9_c68⟩, ⟨x10_c68, e10_c68, a10_c68⟩, q1_c68, q2_c68, q3_c68, q4_c68⟩, qs_c68, qt_c68⟩ := hC_c68
                    have rw_69 := rw_65.fr fr_c68 (fun j9 _ _ => by unfold WKr; omega)
                    have f_70 := f_56.fr fr_c68 (fun j9 => by unfold WKr; omega)
                    have f_71 := f_57.frW fr_c68 (fun k9 j9 h9 => by unfold WKr at h9; omega)
                    have fr_79 := fr_66.tr (fr_c68.mono (fun _ _ h9 => Or.inl h9))
                    clear rw_65 f_56 f_57 f_58 f_59 f_60 f_61 f_62 f_63 f_64 fr_66
                    have hg_c68 := sSem_gt hr_c68
                    show WpN (gp g0 wp) CLS p l e R sW m args below meth c Q D_124.2.2.1 kc0 ks0 65 [some (.ref 54), some (.int cn), some (.int xv_c18), some (.int xv_c30)] (hs_c68, kcj + 1 + 1 + 1 + 1, ksj + 11 + 11 + 11 + 11) []
                    refine g_iinc act (gx gp_124 (w := 0x80000001000001004409) rfl (by decide) rfl) (a := 1) (i := (1 : Int32)) (n := 68) rfl (by decide) rfl rfl (L2 := [some (.ref 54), some (.int (cn + (1 : Int32))), some (.int xv_c18), some (.int xv_c30)]) rfl ?_
                    have v_80 := iv_addN hcn (show (1 : Int32).toInt = ((1 : Nat) : Int) from by decide) (show (n + 1) < 2147483648 by omega)
                    refine g_goto act (gx gp_124 (w := 0x207) rfl (by decide) rfl) (n := 2) rfl ?_
                    have hok := sDem_ok (d := (fv, gvj)) hr_c18 es_c18 hv_c18 hr_c30 es_c30 hv_c30 hr_c43 es_c43 hv_c43 hr_c68 es_c68
                    rw [es_c5, show (22 + 4 * Int32.toInt xv_c18 + Int32.toInt xv_c30).toNat = 22 + 4 * j_42 + j_55 by omega] at hok
                    have hgo := sDems_go (f := f) hwj hok
                    rw [show f = 700 - (n + 1) by omega] at hgo hsp
                    exact ih _ (by omega) _ (n + 1) _ _ _ _ _ _ _ _ _ (show CT hs_c68 tx g L s_c68 s_c43 ec ep from ⟨(show CRD hs_c68 tx g L (tkK tx L s_c68) s_c68 (tkE tx L s_c68) s_c43 ec ep from ⟨rw_69, f_70, ⟨_, e1_c68, (by have q9 := a1_c68; omega)⟩, ⟨_, e2_c68, (by have q9 := a2_c68; omega)⟩, ⟨_, e6_c68, (by have q9 := a6_c68; omega)⟩, ⟨_, e7_c68, (by have q9 := a7_c68; omega)⟩, ⟨_, e8_c68, (by have q9 := a8_c68; omega)⟩, ⟨_, e9_c68, (by have q9 := a9_c68; omega)⟩, ⟨_, e10_c68, (by have q9 := a10_c68; omega)⟩, by omega, by omega, by omega, by omega⟩), by omega, by omega⟩) f_71 (hRj.dem (by omega) (by omega) (rfl : Int32.toInt xv_c43 = _)) v_80 (by omega) (hsp.trans hgo) fr_79 (by omega) (by omega) rfl
                  · obtain ⟨hk_c68, -, hn_c68, hE_c68, fr_c68⟩ := hpo.resolve_left (fun z => absurd z.1 (by omega))
                    have ft_c68 := fr_66.tr (fr_c68.mono (fun _ _ h9 => Or.inl h9))
                    obtain ⟨y1_c68, y2_c68⟩ := sDem_e4 (d := (fv, gvj)) hr_c18 es_c18 hv_c18 hr_c30 es_c30 hv_c30 hr_c43 es_c43 hv_c43 hn_c68
                    obtain ⟨y3_c68, y4_c68⟩ := sDems_bad (f := f) (d := (fv, gvj)) hwj (by rw [← es_c5, y1_c68]; exact hn_c68)
                    rw [← es_c5, y1_c68] at y3_c68
                    rw [← es_c5, y2_c68] at y4_c68
                    refine Or.inr ⟨rfl, Or.inr ⟨by omega, rfl, by rw [hsp, y3_c68]; exact hn_c68, by rw [hsp, y3_c68, y4_c68]; exact hE_c68, ft_c68⟩, by show kcj + 1 + 1 + 1 + 1 ≤ kc + 570; omega, by show ksj + 11 + 11 + 11 + 11 ≤ ks + 6270; omega⟩
                · obtain ⟨hk_c43, -, hn_c43, hE_c43, fr_c43⟩ := hpo.resolve_left (fun z => absurd z.1 (by omega))
                  have ft_c43 := fr_41.tr (fr_c43.mono (fun _ _ h9 => Or.inl h9))
                  obtain ⟨y1_c43, y2_c43⟩ := sDem_e3 (d := (fv, gvj)) hr_c18 es_c18 hv_c18 hr_c30 es_c30 hv_c30 hn_c43
                  obtain ⟨y3_c43, y4_c43⟩ := sDems_bad (f := f) (d := (fv, gvj)) hwj (by rw [← es_c5, y1_c43]; exact hn_c43)
                  rw [← es_c5, y1_c43] at y3_c43
                  rw [← es_c5, y2_c43] at y4_c43
                  refine Or.inr ⟨rfl, Or.inr ⟨by omega, rfl, by rw [hsp, y3_c43]; exact hn_c43, by rw [hsp, y3_c43, y4_c43]; exact hE_c43, ft_c43⟩, by show kcj + 1 + 1 + 1 ≤ kc + 570; omega, by show ksj + 11 + 11 + 11 ≤ ks + 6270; omega⟩
              · obtain ⟨hk_c30, -, hn_c30, hE_c30, fr_c30⟩ := hpo.resolve_left (fun z => absurd z.1 (by omega))
                have ft_c30 := fr_29.tr (fr_c30.mono (fun _ _ h9 => Or.inl h9))
                obtain ⟨y1_c30, y2_c30⟩ := sDem_e2 (d := (fv, gvj)) hr_c18 es_c18 hv_c18 hn_c30
                obtain ⟨y3_c30, y4_c30⟩ := sDems_bad (f := f) (d := (fv, gvj)) hwj (by rw [← es_c5, y1_c30]; exact hn_c30)
                rw [← es_c5, y1_c30] at y3_c30
                rw [← es_c5, y2_c30] at y4_c30
                refine Or.inr ⟨rfl, Or.inr ⟨by omega, rfl, by rw [hsp, y3_c30]; exact hn_c30, by rw [hsp, y3_c30, y4_c30]; exact hE_c30, ft_c30⟩, by show kcj + 1 + 1 ≤ kc + 570; omega, by show ksj + 11 + 11 ≤ ks + 6270; omega⟩
            · obtain ⟨hk_c18, -, hn_c18, hE_c18, fr_c18⟩ := hpo.resolve_left (fun z => absurd z.1 (by omega))
              have ft_c18 := fr_16.tr (fr_c18.mono (fun _ _ h9 => Or.inl h9))
              obtain ⟨y1_c18, y2_c18⟩ := sDem_e1 (d := (fv, gvj))  hn_c18
              obtain ⟨y3_c18, y4_c18⟩ := sDems_bad (f := f) (d := (fv, gvj)) hwj (by rw [← es_c5, y1_c18]; exact hn_c18)
              rw [← es_c5, y1_c18] at y3_c18
              rw [← es_c5, y2_c18] at y4_c18
              refine Or.inr ⟨rfl, Or.inr ⟨by omega, rfl, by rw [hsp, y3_c18]; exact hn_c18, by rw [hsp, y3_c18, y4_c18]; exact hE_c18, ft_c18⟩, by show kcj + 1 ≤ kc + 570; omega, by show ksj + 11 ≤ ks + 6270; omega⟩
          · exact absurd hpo.1 (by omega)
      · exact absurd hpo.1 (by omega)
  show WpN (gp g0 wp) CLS p l e R sW m args below meth c Q D_124.2.2.1 kc0 ks0 0 [some (.ref 54), none, none, none] (hs, kc, ks) []
  refine g_constI act (gx gp_124 (w := 0x40000000400000001000000000101) rfl (by decide) rfl) (n := 1) (x := (0 : Int32)) (by decide) rfl ?_
  refine g_storeI act (gx gp_124 (w := 0x1000210) rfl (by decide) rfl) (a := 1) (n := 2) rfl rfl (L2 := [some (.ref 54), some (.int (0 : Int32)), none, none]) rfl ?_
  exact loop hs 0 _ _ _ s P F gv _ _ hC hG hR (by decide) (by have := hC.2.1; omega) rfl (FrS.rf _ hs) (by omega) (by omega)

theorem cx_readSizes {F : Nat → Nat → Int32} {fv gv : Nat → Int} {o : Int} (hG : GIM hs g F) (hR : REL F fv gv o) (hC : CT hs tx g L s P ec ep) : BodyN SSX TBL g0 CLS bl xs l D_133 10 165 5 55 [.ref 54] hs (fun kd r h2 => (kd = 0 ∧ r = none ∧ ∃ (s2 P2 a b : Int) (F2 : Nat → Nat → Int32), sHead tx L s = (0, s2, a, b) ∧ 2 ≤ a ∧ a ≤ 4 ∧ 1 ≤ b ∧ b ≤ 4 ∧ CT h2 tx g L s2 P2 ec ep ∧ GIM h2 g F2 ∧ REL F2 (upI (upI fv 0 a) 1 b) gv o ∧ FrS (WKG g) hs h2) ∨ (kd = 3 ∧ r = none ∧ (sHead tx L s).1 ≠ 0 ∧ ER h2 tx g L (sHead tx L s).1 (sHead tx L s).2.1 ∧ FrS (WKG g) hs h2)) := by
  intro wp p e R sW m args below meth c Q kc0 ks0 kc ks act hf hl hc hsl hEnd
  have hf : 10 ≤ R.frames := hf
  have hl : 165 ≤ R.locals := hl
  have hfr0 := FrS.rf (WKG g) hs
  have hg0 := hG.1.1
  obtain ⟨hP_t1, qt_1, qu_1⟩ := hC
  have qv_1 := tkE_le (T := tx) (L := L) (s := s) (by omega)
  obtain ⟨rw_2, hT_2, ⟨x1_2, e1_2, a1_2⟩, ⟨x2_2, e2_2, a2_2⟩, ⟨x6_2, e6_2, a6_2⟩, ⟨x7_2, e7_2, a7_2⟩, ⟨x8_2, e8_2, a8_2⟩, ⟨x9_2, e9_2, a9_2⟩, ⟨x10_2, e10_2, a10_2⟩, q1_2, q2_2, q3_2, q4_2⟩ := hP_t1
  show WpN (gp g0 wp) CLS p l e R sW m args below meth c Q D_133.2.2.1 kc0 ks0 0 [some (.ref 54)] (hs, kc, ks) []
  refine g_loadA act (gx gp_133 (w := 0x103) rfl (by decide) rfl) (a := 0) (n := 1) rfl rfl rfl ?_
  refine g_str act (gx gp_133 (w := 0x7000000000301) rfl (by decide) rfl) (n := 3) (by decide) rfl (fun i_3 k_3 t_3 hd_3 hk_3 => ?_)
  obtain rfl : i_3 = 94 := by
    have q9 := (show decode D_133.2.1 1 = .ok (.ldc 94, 2) from by decide +kernel).symm.trans hd_3
    cases q9
    rfl
  obtain rfl : k_3 = 18 := (lit_ix _ _ _ hk_3).2.2.2.2.2.2.1 rfl
  refine n_call tb_pres act hEnd (gx (P := G_call) gp_133 (w := 0x60000000000008082200008700060f) rfl (by decide) rfl) (d' := D_135) rfl (f' := 9) (lam' := 142) (mc := 1) (ms := 11) (as := [.ref 54, .ref (litK 18)]) (rest := []) (cx_word (i := 18) (c9 := wNODES) (by decide) (by decide) lwd_all.2.2.2.2.2.2.1 (show CT hs tx g L s P ec ep from ⟨(show CRD hs tx g L (tkK tx L s) s (tkE tx L s) P ec ep from ⟨rw_2, hT_2, ⟨_, e1_2, (by have q9 := a1_2; omega)⟩, ⟨_, e2_2, (by have q9 := a2_2; omega)⟩, ⟨_, e6_2, (by have q9 := a6_2; omega)⟩, ⟨_, e7_2, (by have q9 := a7_2; omega)⟩, ⟨_, e8_2, (by have q9 := a8_2; omega)⟩, ⟨_, e9_2, (by have q9 := a9_2; omega)⟩, ⟨_, e10_2, (by have q9 := a10_2; omega)⟩, by omega, by omega, by omega, by omega⟩), by omega, by omega⟩)) (show (2 : Nat) = fb 0x60000000000008082200008700060f % 16 by decide) (by show (2 : Nat) ≤ 2; decide) (fun _ => ⟨_, _, rfl, _, shp_at rw_2.1, Or.inr (show fb 0x60000000000008082200008700060f >>> 68 = 6 by decide)⟩) (by omega) (by show 8 + (2 + 11) + 142 ≤ R.locals; omega) (by show (0 : Nat) ≤ 8; decide) (by show kc + 1 ≤ _; omega) (by show ks + 11 ≤ _; omega) (fun r9 hs_c4 hpo hr9 => ?_) (fun x9 hs9 hx9 hpo => ?_)
  · obtain rfl : r9 = none := hr9.elim (fun q => q.2) (fun q => absurd rfl q.1)
    obtain ⟨-, hr_c4, -, hD_c4, fr_c4⟩ := hpo.resolve_right (fun z => absurd z.1 (by decide))
    obtain ⟨s_c4, es_c4, hC_c4⟩ : ∃ z : Int, z = ((sWrd tx L wNODES s)).2 ∧ CT hs_c4 tx g L z s ec ep := ⟨_, rfl, hD_c4⟩
    obtain ⟨⟨-, -, ⟨x1_c4, e1_c4, a1_c4⟩, ⟨x2_c4, e2_c4, a2_c4⟩, ⟨x6_c4, e6_c4, a6_c4⟩, ⟨x7_c4, e7_c4, a7_c4⟩, ⟨x8_c4, e8_c4, a8_c4⟩, ⟨x9_c4, e9_c4, a9_c4⟩, ⟨x10_c4, e10_c4, a10_c4⟩, q1_c4, q2_c4, q3_c4, q4_c4⟩, qs_c4, qt_c4⟩ := hC_c4
    have rw_5 := rw_2.fr fr_c4 (fun j9 _ _ => by unfold WKr; omega)
    have f_6 := hT_2.fr fr_c4 (fun j9 => by unfold WKr; omega)
    have f_14 := hG.frW fr_c4 (fun k9 j9 h9 => by unfold WKr at h9; omega)
    have fr_15 := hfr0.tr (fr_c4.mono (fun _ _ h9 => Or.inl h9))
    clear rw_2 hT_2 e1_2 e2_2 e6_2 e7_2 e8_2 e9_2 e10_2 hG hfr0
    show WpN (gp g0 wp) CLS p l e R sW m args below meth c Q D_133.2.2.1 kc0 ks0 6 [some (.ref 54)] (hs_c4, kc + 1, ks + 11) []
    refine g_loadA act (gx gp_133 (w := 0x703) rfl (by decide) rfl) (a := 0) (n := 7) rfl rfl rfl ?_
    refine r_getf act (gx gp_133 (w := 0x3000145000a04) rfl (by decide) rfl) (n := 10) (ci := 5) (j := 5) (N := 11) rfl rfl rfl rw_5.1 (by decide) (v := .ref g) rw_5.2.2.2.2 ?_
    refine g_loadA act (gx gp_133 (w := 0xb03) rfl (by decide) rfl) (a := 0) (n := 11) rfl rfl rfl ?_
    refine g_constI act (gx gp_133 (w := 0x40000001400000011000000000c01) rfl (by decide) rfl) (n := 12) (x := (2 : Int32)) (by decide) rfl ?_
    refine g_constI act (gx gp_133 (w := 0x40000002400000021000000000d01) rfl (by decide) rfl) (n := 13) (x := (4 : Int32)) (by decide) rfl ?_
    refine n_call tb_pres act hEnd (gx (P := G_call) gp_133 (w := 0x6000000000000c103300008000100f) rfl (by decide) rfl) (d' := D_128) rfl (f' := 9) (lam' := 142) (mc := 1) (ms := 11) (as := [.ref 54, .int (2 : Int32), .int (4 : Int32)]) (rest := [.ref g]) (cx_number (lo := 2) (hi := 4) (by decide) (by decide) (show CT hs_c4 tx g L s_c4 s ec ep from ⟨(show CRD hs_c4 tx g L (tkK tx L s_c4) s_c4 (tkE tx L s_c4) s ec ep from ⟨rw_5, f_6, ⟨_, e1_c4, (by have q9 := a1_c4; omega)⟩, ⟨_, e2_c4, (by have q9 := a2_c4; omega)⟩, ⟨_, e6_c4, (by have q9 := a6_c4; omega)⟩, ⟨_, e7_c4, (by have q9 := a7_c4; omega)⟩, ⟨_, e8_c4, (by have q9 := a8_c4; omega)⟩, ⟨_, e9_c4, (by have q9 := a9_c4; omega)⟩, ⟨_, e10_c4, (by have q9 := a10_c4; omega)⟩, by omega, by omega, by omega, by omega⟩), by omega, by omega⟩)) (show (3 : Nat) = fb 0x6000000000000c103300008000100f % 16 by decide) (by show (3 : Nat) ≤ 4; decide) (fun _ => ⟨_, _, rfl, _, shp_at rw_5.1, Or.inr (show fb 0x6000000000000c103300008000100f >>> 68 = 6 by decide)⟩) (by omega) (by show 8 + (4 + 11) + 142 ≤ R.locals; omega) (by show (1 : Nat) ≤ 8; decide) (by show kc + 1 + 1 ≤ _; omega) (by show ks + 11 + 11 ≤ _; omega) (fun r9 hs_c16 hpo hr9 => ?_) (fun x9 hs9 hx9 hpo => ?_)
    · obtain ⟨-, hr_c16, ⟨xv_c16, rfl, hv_c16⟩, hD_c16, fr_c16⟩ := hpo.resolve_right (fun z => absurd z.1 (by decide))
      obtain ⟨s_c16, es_c16, hC_c16⟩ : ∃ z : Int, z = ((sNum tx L 2 4 s_c4)).2.1 ∧ CT hs_c16 tx g L z s_c4 ec ep := ⟨_, rfl, hD_c16⟩
      obtain ⟨⟨-, -, ⟨x1_c16, e1_c16, a1_c16⟩, ⟨x2_c16, e2_c16, a2_c16⟩, ⟨x6_c16, e6_c16, a6_c16⟩, ⟨x7_c16, e7_c16, a7_c16⟩, ⟨x8_c16, e8_c16, a8_c16⟩, ⟨x9_c16, e9_c16, a9_c16⟩, ⟨x10_c16, e10_c16, a10_c16⟩, q1_c16, q2_c16, q3_c16, q4_c16⟩, qs_c16, qt_c16⟩ := hC_c16
      have rw_17 := rw_5.fr fr_c16 (fun j9 _ _ => by unfold WKr; omega)
      have f_18 := f_6.fr fr_c16 (fun j9 => by unfold WKr; omega)
      have f_19 := f_14.frW fr_c16 (fun k9 j9 h9 => by unfold WKr at h9; omega)
      have fr_27 := fr_15.tr (fr_c16.mono (fun _ _ h9 => Or.inl h9))
      clear rw_5 f_6 f_14 e1_c4 e2_c4 e6_c4 e7_c4 e8_c4 e9_c4 e10_c4 fr_15
      have hg_c16 := sNum_gt hr_c16
      show WpN (gp g0 wp) CLS p l e R sW m args below meth c Q D_133.2.2.1 kc0 ks0 16 [some (.ref 54)] (hs_c16, kc + 1 + 1, ks + 11 + 11) [.int xv_c16, .ref g]
      refine r_putf act (gx gp_133 (w := 0x4001313) rfl (by decide) rfl) (n := 19) (ci := 4) (j := 0) (N := 18) rfl rfl rfl f_19.1.2.1 (by decide) (Or.inl ⟨rfl, _, rfl⟩) ?_
      have f_28 := f_18.ne (k := g) (j := 0) (v := .int xv_c16) (by omega)
      have f_29 := f_19.put0 (j := 0) (x := xv_c16) (by omega)
      have f_30 := (rd_ne hs_c16 (k := g) (j := 0) (.int xv_c16) (Or.inl (by omega))).trans e1_c16
      have f_31 := (rd_ne hs_c16 (k := g) (j := 0) (.int xv_c16) (Or.inl (by omega))).trans e2_c16
      have f_32 := (rd_ne hs_c16 (k := g) (j := 0) (.int xv_c16) (Or.inl (by omega))).trans e6_c16
      have f_33 := (rd_ne hs_c16 (k := g) (j := 0) (.int xv_c16) (Or.inl (by omega))).trans e7_c16
      have f_34 := (rd_ne hs_c16 (k := g) (j := 0) (.int xv_c16) (Or.inl (by omega))).trans e8_c16
      have f_35 := (rd_ne hs_c16 (k := g) (j := 0) (.int xv_c16) (Or.inl (by omega))).trans e9_c16
      have f_36 := (rd_ne hs_c16 (k := g) (j := 0) (.int xv_c16) (Or.inl (by omega))).trans e10_c16
      have rw_37 := RWC.wrG (k := g) (j := 0) (v := .int xv_c16) rw_17 (by omega)
      have fr_38 := fr_27.wr (k := g) (j := 0) (.int xv_c16) (Or.inr (by unfold WGr; omega))
      clear f_18 f_19 e1_c16 e2_c16 e6_c16 e7_c16 e8_c16 e9_c16 e10_c16 rw_17 fr_27
      generalize (wr hs_c16 g 0 (.int xv_c16)) = hs_39 at *
      refine g_loadA act (gx gp_133 (w := 0x1403) rfl (by decide) rfl) (a := 0) (n := 20) rfl rfl rfl ?_
      refine g_str act (gx gp_133 (w := 0x7000000001601) rfl (by decide) rfl) (n := 22) (by decide) rfl (fun i_40 k_40 t_40 hd_40 hk_40 => ?_)
      obtain rfl : i_40 = 105 := by
        have q9 := (show decode D_133.2.1 20 = .ok (.ldc 105, 2) from by decide +kernel).symm.trans hd_40
        cases q9
        rfl
      obtain rfl : k_40 = 19 := (lit_ix _ _ _ hk_40).2.2.2.2.2.2.2 rfl
      refine n_call tb_pres act hEnd (gx (P := G_call) gp_133 (w := 0x60000000000008082200008700190f) rfl (by decide) rfl) (d' := D_135) rfl (f' := 9) (lam' := 142) (mc := 1) (ms := 11) (as := [.ref 54, .ref (litK 19)]) (rest := []) (cx_word (i := 19) (c9 := wINTERVALS) (by decide) (by decide) lwd_all.2.2.2.2.2.2.2 (show CT hs_39 tx g L s_c16 s_c4 ec ep from ⟨(show CRD hs_39 tx g L (tkK tx L s_c16) s_c16 (tkE tx L s_c16) s_c4 ec ep from ⟨rw_37, f_28, ⟨_, f_30, (by have q9 := a1_c16; omega)⟩, ⟨_, f_31, (by have q9 := a2_c16; omega)⟩, ⟨_, f_32, (by have q9 := a6_c16; omega)⟩, ⟨_, f_33, (by have q9 := a7_c16; omega)⟩, ⟨_, f_34, (by have q9 := a8_c16; omega)⟩, ⟨_, f_35, (by have q9 := a9_c16; omega)⟩, ⟨_, f_36, (by have q9 := a10_c16; omega)⟩, by omega, by omega, by omega, by omega⟩), by omega, by omega⟩)) (show (2 : Nat) = fb 0x60000000000008082200008700190f % 16 by decide) (by show (2 : Nat) ≤ 2; decide) (fun _ => ⟨_, _, rfl, _, shp_at rw_37.1, Or.inr (show fb 0x60000000000008082200008700190f >>> 68 = 6 by decide)⟩) (by omega) (by show 8 + (2 + 11) + 142 ≤ R.locals; omega) (by show (0 : Nat) ≤ 8; decide) (by show kc + 1 + 1 + 1 ≤ _; omega) (by show ks + 11 + 11 + 11 ≤ _; omega) (fun r9 hs_c41 hpo hr9 => ?_) (fun x9 hs9 hx9 hpo => ?_)
      · obtain rfl : r9 = none := hr9.elim (fun q => q.2) (fun q => absurd rfl q.1)
        obtain ⟨-, hr_c41, -, hD_c41, fr_c41⟩ := hpo.resolve_right (fun z => absurd z.1 (by decide))
        obtain ⟨s_c41, es_c41, hC_c41⟩ : ∃ z : Int, z = ((sWrd tx L wINTERVALS s_c16)).2 ∧ CT hs_c41 tx g L z s_c16 ec ep := ⟨_, rfl, hD_c41⟩
        obtain ⟨⟨-, -, ⟨x1_c41, e1_c41, a1_c41⟩, ⟨x2_c41, e2_c41, a2_c41⟩, ⟨x6_c41, e6_c41, a6_c41⟩, ⟨x7_c41, e7_c41, a7_c41⟩, ⟨x8_c41, e8_c41, a8_c41⟩, ⟨x9_c41, e9_c41, a9_c41⟩, ⟨x10_c41, e10_c41, a10_c41⟩, q1_c41, q2_c41, q3_c41, q4_c41⟩, qs_c41, qt_c41⟩ := hC_c41
        have rw_42 := rw_37.fr fr_c41 (fun j9 _ _ => by unfold WKr; omega)
        have f_43 := f_28.fr fr_c41 (fun j9 => by unfold WKr; omega)
        have f_44 := f_29.frW fr_c41 (fun k9 j9 h9 => by unfold WKr at h9; omega)
        have fr_52 := fr_38.tr (fr_c41.mono (fun _ _ h9 => Or.inl h9))
        clear rw_37 f_28 f_29 f_30 f_31 f_32 f_33 f_34 f_35 f_36 fr_38
        show WpN (gp g0 wp) CLS p l e R sW m args below meth c Q D_133.2.2.1 kc0 ks0 25 [some (.ref 54)] (hs_c41, kc + 1 + 1 + 1, ks + 11 + 11 + 11) []
        refine g_loadA act (gx gp_133 (w := 0x1a03) rfl (by decide) rfl) (a := 0) (n := 26) rfl rfl rfl ?_
        refine r_getf act (gx gp_133 (w := 0x3000145001d04) rfl (by decide) rfl) (n := 29) (ci := 5) (j := 5) (N := 11) rfl rfl rfl rw_42.1 (by decide) (v := .ref g) rw_42.2.2.2.2 ?_
        refine g_loadA act (gx gp_133 (w := 0x1e03) rfl (by decide) rfl) (a := 0) (n := 30) rfl rfl rfl ?_
        refine g_constI act (gx gp_133 (w := 0x40000000c00000009000000001f01) rfl (by decide) rfl) (n := 31) (x := (1 : Int32)) (by decide) rfl ?_
        refine g_constI act (gx gp_133 (w := 0x40000002400000021000000002001) rfl (by decide) rfl) (n := 32) (x := (4 : Int32)) (by decide) rfl ?_
        refine n_call tb_pres act hEnd (gx (P := G_call) gp_133 (w := 0x6000000000000c103300008000230f) rfl (by decide) rfl) (d' := D_128) rfl (f' := 9) (lam' := 142) (mc := 1) (ms := 11) (as := [.ref 54, .int (1 : Int32), .int (4 : Int32)]) (rest := [.ref g]) (cx_number (lo := 1) (hi := 4) (by decide) (by decide) (show CT hs_c41 tx g L s_c41 s_c16 ec ep from ⟨(show CRD hs_c41 tx g L (tkK tx L s_c41) s_c41 (tkE tx L s_c41) s_c16 ec ep from ⟨rw_42, f_43, ⟨_, e1_c41, (by have q9 := a1_c41; omega)⟩, ⟨_, e2_c41, (by have q9 := a2_c41; omega)⟩, ⟨_, e6_c41, (by have q9 := a6_c41; omega)⟩, ⟨_, e7_c41, (by have q9 := a7_c41; omega)⟩, ⟨_, e8_c41, (by have q9 := a8_c41; omega)⟩, ⟨_, e9_c41, (by have q9 := a9_c41; omega)⟩, ⟨_, e10_c41, (by have q9 := a10_c41; omega)⟩, by omega, by omega, by omega, by omega⟩), by omega, by omega⟩)) (show (3 : Nat) = fb 0x6000000000000c103300008000230f % 16 by decide) (by show (3 : Nat) ≤ 4; decide) (fun _ => ⟨_, _, rfl, _, shp_at rw_42.1, Or.inr (show fb 0x6000000000000c103300008000230f >>> 68 = 6 by decide)⟩) (by omega) (by show 8 + (4 + 11) + 142 ≤ R.locals; omega) (by show (1 : Nat) ≤ 8; decide) (by show kc + 1 + 1 + 1 + 1 ≤ _; omega) (by show ks + 11 + 11 + 11 + 11 ≤ _; omega) (fun r9 hs_c53 hpo hr9 => ?_) (fun x9 hs9 hx9 hpo => ?_)
        · obtain ⟨-, hr_c53, ⟨xv_c53, rfl, hv_c53⟩, hD_c53, fr_c53⟩ := hpo.resolve_right (fun z => absurd z.1 (by decide))
          obtain ⟨s_c53, es_c53, hC_c53⟩ : ∃ z : Int, z = ((sNum tx L 1 4 s_c41)).2.1 ∧ CT hs_c53 tx g L z s_c41 ec ep := ⟨_, rfl, hD_c53⟩
          obtain ⟨⟨-, -, ⟨x1_c53, e1_c53, a1_c53⟩, ⟨x2_c53, e2_c53, a2_c53⟩, ⟨x6_c53, e6_c53, a6_c53⟩, ⟨x7_c53, e7_c53, a7_c53⟩, ⟨x8_c53, e8_c53, a8_c53⟩, ⟨x9_c53, e9_c53, a9_c53⟩, ⟨x10_c53, e10_c53, a10_c53⟩, q1_c53, q2_c53, q3_c53, q4_c53⟩, qs_c53, qt_c53⟩ := hC_c53
          have rw_54 := rw_42.fr fr_c53 (fun j9 _ _ => by unfold WKr; omega)
          have f_55 := f_43.fr fr_c53 (fun j9 => by unfold WKr; omega)
          have f_56 := f_44.frW fr_c53 (fun k9 j9 h9 => by unfold WKr at h9; omega)
          have fr_64 := fr_52.tr (fr_c53.mono (fun _ _ h9 => Or.inl h9))
          clear rw_42 f_43 f_44 e1_c41 e2_c41 e6_c41 e7_c41 e8_c41 e9_c41 e10_c41 fr_52
          have hg_c53 := sNum_gt hr_c53
          show WpN (gp g0 wp) CLS p l e R sW m args below meth c Q D_133.2.2.1 kc0 ks0 35 [some (.ref 54)] (hs_c53, kc + 1 + 1 + 1 + 1, ks + 11 + 11 + 11 + 11) [.int xv_c53, .ref g]
          refine r_putf act (gx gp_133 (w := 0x44002613) rfl (by decide) rfl) (n := 38) (ci := 4) (j := 1) (N := 18) rfl rfl rfl f_56.1.2.1 (by decide) (Or.inl ⟨rfl, _, rfl⟩) ?_
          have f_65 := f_55.ne (k := g) (j := 1) (v := .int xv_c53) (by omega)
          have f_66 := f_56.put0 (j := 1) (x := xv_c53) (by omega)
          have f_67 := (rd_ne hs_c53 (k := g) (j := 1) (.int xv_c53) (Or.inl (by omega))).trans e1_c53
          have f_68 := (rd_ne hs_c53 (k := g) (j := 1) (.int xv_c53) (Or.inl (by omega))).trans e2_c53
          have f_69 := (rd_ne hs_c53 (k := g) (j := 1) (.int xv_c53) (Or.inl (by omega))).trans e6_c53
          have f_70 := (rd_ne hs_c53 (k := g) (j := 1) (.int xv_c53) (Or.inl (by omega))).trans e7_c53
          have f_71 := (rd_ne hs_c53 (k := g) (j := 1) (.int xv_c53) (Or.inl (by omega))).trans e8_c53
          have f_72 := (rd_ne hs_c53 (k := g) (j := 1) (.int xv_c53) (Or.inl (by omega))).trans e9_c53
          have f_73 := (rd_ne hs_c53 (k := g) (j := 1) (.int xv_c53) (Or.inl (by omega))).trans e10_c53
          have rw_74 := RWC.wrG (k := g) (j := 1) (v := .int xv_c53) rw_54 (by omega)
          have fr_75 := fr_64.wr (k := g) (j := 1) (.int xv_c53) (Or.inr (by unfold WGr; omega))
          clear f_55 f_56 e1_c53 e2_c53 e6_c53 e7_c53 e8_c53 e9_c53 e10_c53 rw_54 fr_64
          generalize (wr hs_c53 g 1 (.int xv_c53)) = hs_76 at *
          refine g_loadA act (gx gp_133 (w := 0x2703) rfl (by decide) rfl) (a := 0) (n := 39) rfl rfl rfl ?_
          refine n_call tb_pres act hEnd (gx (P := G_call) gp_133 (w := 0x600000000000080411000084002a0f) rfl (by decide) rfl) (d' := D_132) rfl (f' := 9) (lam' := 142) (mc := 1) (ms := 11) (as := [.ref 54]) (rest := []) (cx_semi (show CT hs_76 tx g L s_c53 s_c41 ec ep from ⟨(show CRD hs_76 tx g L (tkK tx L s_c53) s_c53 (tkE tx L s_c53) s_c41 ec ep from ⟨rw_74, f_65, ⟨_, f_67, (by have q9 := a1_c53; omega)⟩, ⟨_, f_68, (by have q9 := a2_c53; omega)⟩, ⟨_, f_69, (by have q9 := a6_c53; omega)⟩, ⟨_, f_70, (by have q9 := a7_c53; omega)⟩, ⟨_, f_71, (by have q9 := a8_c53; omega)⟩, ⟨_, f_72, (by have q9 := a9_c53; omega)⟩, ⟨_, f_73, (by have q9 := a10_c53; omega)⟩, by omega, by omega, by omega, by omega⟩), by omega, by omega⟩)) (show (1 : Nat) = fb 0x600000000000080411000084002a0f % 16 by decide) (by show (1 : Nat) ≤ 1; decide) (fun _ => ⟨_, _, rfl, _, shp_at rw_74.1, Or.inr (show fb 0x600000000000080411000084002a0f >>> 68 = 6 by decide)⟩) (by omega) (by show 8 + (1 + 11) + 142 ≤ R.locals; omega) (by show (0 : Nat) ≤ 8; decide) (by show kc + 1 + 1 + 1 + 1 + 1 ≤ _; omega) (by show ks + 11 + 11 + 11 + 11 + 11 ≤ _; omega) (fun r9 hs_c77 hpo hr9 => ?_) (fun x9 hs9 hx9 hpo => ?_)
          · obtain rfl : r9 = none := hr9.elim (fun q => q.2) (fun q => absurd rfl q.1)
            obtain ⟨-, hr_c77, -, hD_c77, fr_c77⟩ := hpo.resolve_right (fun z => absurd z.1 (by decide))
            obtain ⟨s_c77, es_c77, hC_c77⟩ : ∃ z : Int, z = ((sSem tx L s_c53)).2 ∧ CT hs_c77 tx g L z s_c53 ec ep := ⟨_, rfl, hD_c77⟩
            obtain ⟨⟨-, -, ⟨x1_c77, e1_c77, a1_c77⟩, ⟨x2_c77, e2_c77, a2_c77⟩, ⟨x6_c77, e6_c77, a6_c77⟩, ⟨x7_c77, e7_c77, a7_c77⟩, ⟨x8_c77, e8_c77, a8_c77⟩, ⟨x9_c77, e9_c77, a9_c77⟩, ⟨x10_c77, e10_c77, a10_c77⟩, q1_c77, q2_c77, q3_c77, q4_c77⟩, qs_c77, qt_c77⟩ := hC_c77
            have rw_78 := rw_74.fr fr_c77 (fun j9 _ _ => by unfold WKr; omega)
            have f_79 := f_65.fr fr_c77 (fun j9 => by unfold WKr; omega)
            have f_80 := f_66.frW fr_c77 (fun k9 j9 h9 => by unfold WKr at h9; omega)
            have fr_88 := fr_75.tr (fr_c77.mono (fun _ _ h9 => Or.inl h9))
            clear rw_74 f_65 f_66 f_67 f_68 f_69 f_70 f_71 f_72 f_73 fr_75
            have hg_c77 := sSem_gt hr_c77
            show WpN (gp g0 wp) CLS p l e R sW m args below meth c Q D_133.2.2.1 kc0 ks0 42 [some (.ref 54)] (hs_c77, kc + 1 + 1 + 1 + 1 + 1, ks + 11 + 11 + 11 + 11 + 11) []
            have hok := sHead_ok hr_c4 es_c4 hr_c16 es_c16 hv_c16 hr_c41 es_c41 hr_c53 es_c53 hv_c53 hr_c77 es_c77
            exact g_retV hEnd (gx gp_133 (w := 0x18) rfl (by decide) rfl) (Or.inl ⟨rfl, rfl, _, _, _, _, _, hok, by omega, by omega, by omega, by omega, (show CT hs_c77 tx g L s_c77 s_c53 ec ep from ⟨(show CRD hs_c77 tx g L (tkK tx L s_c77) s_c77 (tkE tx L s_c77) s_c53 ec ep from ⟨rw_78, f_79, ⟨_, e1_c77, (by have q9 := a1_c77; omega)⟩, ⟨_, e2_c77, (by have q9 := a2_c77; omega)⟩, ⟨_, e6_c77, (by have q9 := a6_c77; omega)⟩, ⟨_, e7_c77, (by have q9 := a7_c77; omega)⟩, ⟨_, e8_c77, (by have q9 := a8_c77; omega)⟩, ⟨_, e9_c77, (by have q9 := a9_c77; omega)⟩, ⟨_, e10_c77, (by have q9 := a10_c77; omega)⟩, by omega, by omega, by omega, by omega⟩), by omega, by omega⟩), f_80, (hR.nod (rfl : Int32.toInt xv_c16 = _)).itv (rfl : Int32.toInt xv_c53 = _), fr_88⟩) (by show kc + 1 + 1 + 1 + 1 + 1 ≤ kc + 5; omega) (by show ks + 11 + 11 + 11 + 11 + 11 ≤ ks + 55; omega)
          · obtain ⟨hk_c77, -, hn_c77, hE_c77, fr_c77⟩ := hpo.resolve_left (fun z => absurd z.1 (by omega))
            have ft_c77 := fr_75.tr (fr_c77.mono (fun _ _ h9 => Or.inl h9))
            obtain ⟨y1_c77, y2_c77⟩ := sHead_e5  hr_c4 es_c4 hr_c16 es_c16 hv_c16 hr_c41 es_c41 hr_c53 es_c53 hv_c53 hn_c77
            refine Or.inr ⟨rfl, Or.inr ⟨by omega, rfl, by rw [y1_c77]; exact hn_c77, by rw [y1_c77, y2_c77]; exact hE_c77, ft_c77⟩, by show kc + 1 + 1 + 1 + 1 + 1 ≤ kc + 5; omega, by show ks + 11 + 11 + 11 + 11 + 11 ≤ ks + 55; omega⟩
        · obtain ⟨hk_c53, -, hn_c53, hE_c53, fr_c53⟩ := hpo.resolve_left (fun z => absurd z.1 (by omega))
          have ft_c53 := fr_52.tr (fr_c53.mono (fun _ _ h9 => Or.inl h9))
          obtain ⟨y1_c53, y2_c53⟩ := sHead_e4  hr_c4 es_c4 hr_c16 es_c16 hv_c16 hr_c41 es_c41 hn_c53
          refine Or.inr ⟨rfl, Or.inr ⟨by omega, rfl, by rw [y1_c53]; exact hn_c53, by rw [y1_c53, y2_c53]; exact hE_c53, ft_c53⟩, by show kc + 1 + 1 + 1 + 1 ≤ kc + 5; omega, by show ks + 11 + 11 + 11 + 11 ≤ ks + 55; omega⟩
      · obtain ⟨hk_c41, -, hn_c41, hE_c41, fr_c41⟩ := hpo.resolve_left (fun z => absurd z.1 (by omega))
        have ft_c41 := fr_38.tr (fr_c41.mono (fun _ _ h9 => Or.inl h9))
        obtain ⟨y1_c41, y2_c41⟩ := sHead_e3  hr_c4 es_c4 hr_c16 es_c16 hv_c16 hn_c41
        refine Or.inr ⟨rfl, Or.inr ⟨by omega, rfl, by rw [y1_c41]; exact hn_c41, by rw [y1_c41, y2_c41]; exact hE_c41, ft_c41⟩, by show kc + 1 + 1 + 1 ≤ kc + 5; omega, by show ks + 11 + 11 + 11 ≤ ks + 55; omega⟩
    · obtain ⟨hk_c16, -, hn_c16, hE_c16, fr_c16⟩ := hpo.resolve_left (fun z => absurd z.1 (by omega))
      have ft_c16 := fr_15.tr (fr_c16.mono (fun _ _ h9 => Or.inl h9))
      obtain ⟨y1_c16, y2_c16⟩ := sHead_e2  hr_c4 es_c4 hn_c16
      refine Or.inr ⟨rfl, Or.inr ⟨by omega, rfl, by rw [y1_c16]; exact hn_c16, by rw [y1_c16, y2_c16]; exact hE_c16, ft_c16⟩, by show kc + 1 + 1 ≤ kc + 5; omega, by show ks + 11 + 11 ≤ ks + 55; omega⟩
  · obtain ⟨hk_c4, -, hn_c4, hE_c4, fr_c4⟩ := hpo.resolve_left (fun z => absurd z.1 (by omega))
    have ft_c4 := hfr0.tr (fr_c4.mono (fun _ _ h9 => Or.inl h9))
    obtain ⟨y1_c4, y2_c4⟩ := sHead_e1   hn_c4
    refine Or.inr ⟨rfl, Or.inr ⟨by omega, rfl, by rw [y1_c4]; exact hn_c4, by rw [y1_c4, y2_c4]; exact hE_c4, ft_c4⟩, by show kc + 1 ≤ kc + 5; omega, by show ks + 11 ≤ ks + 55; omega⟩

end CRDD

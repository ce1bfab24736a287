/-! The class reads lines, generators, rights, exactly. -/
/-- lines lie between nodes -/
def LRG (fv : Nat → Int) (nl : Nat) : Prop := ∀ l : Nat, l < nl → 0 ≤ fv (5 + l) ∧ fv (5 + l) ≤ fv 0 - 1 ∧ 0 ≤ fv (11 + l) ∧ fv (11 + l) ≤ fv 0 - 1 ∧ fv (5 + l) ≠ fv (11 + l)
theorem LRG.up {fv : Nat → Int} {nl : Nat} (h : LRG fv nl) (h6 : nl < 6) {a b c : Int} (a0 : 0 ≤ a) (a1 : a ≤ fv 0 - 1) (b0 : 0 ≤ b) (b1 : b ≤ fv 0 - 1) (ab : a ≠ b) : LRG (upI (upI (upI fv (5 + nl) a) (11 + nl) b) 2 c) (nl + 1) := fun l hl => by
  have q9 := h l
  unfold upI
  by_cases z : l = nl
  · subst z
    simp only [show ¬ 5 + l = 2 by omega, show ¬ 5 + l = 11 + l by omega, show ¬ 11 + l = 2 by omega, show ¬ (0 : Nat) = 2 by decide, show ¬ 0 = 11 + l by omega, show ¬ 0 = 5 + l by omega, ↓reduceIte]
    omega
  · have q9 := q9 (by omega)
    simp only [show ¬ 5 + l = 2 by omega, show ¬ 5 + l = 11 + nl by omega, show ¬ 5 + l = 5 + nl by omega, show ¬ 11 + l = 11 + nl by omega, show ¬ 11 + l = 5 + nl by omega, show ¬ 11 + l = 2 by omega, show ¬ (0 : Nat) = 2 by decide, show ¬ 0 = 11 + nl by omega, show ¬ 0 = 5 + nl by omega, ↓reduceIte]
    omega
theorem LRG.of {fv fv2 : Nat → Int} {nl : Nat} (h : LRG fv nl) (h6 : nl ≤ 6) (e0 : fv2 0 = fv 0) (e : ∀ j, 5 ≤ j → j < 17 → fv2 j = fv j) : LRG fv2 nl := fun l hl => by
  rw [e0, e (5 + l) (by omega) (by omega), e (11 + l) (by omega) (by omega)]
  exact h l hl
section CRDL
variable {g0 : GG} {bl : Nat} {xs : Nat → Int32} {l : Launch} {hs : List CE} {tx : Nat → Int} {g : Nat} {L k s A P ec ep : Int}

theorem cx_readLines {P : Int} {F : Nat → Nat → Int32} {fv gv : Nat → Int} {o : Int} (hn1 : 1 ≤ fv 0) (hn2 : fv 0 ≤ 4) (h2 : fv 2 = ((0 : Nat) : Int)) (hG : GIM hs g F) (hR : REL F fv gv o) (hC : CT hs tx g L s P ec ep) : BodyN SSX TBL g0 CLS bl xs l D_126 11 187 49 539 [.ref 54] hs (fun kd r h2 => (kd = 0 ∧ r = none ∧ ∃ (s2 P2 : Int) (F2 : Nat → Nat → Int32) (fv2 gv2 : Nat → Int) (nl2 : Nat), sLines tx L (6 + 1 - 0) s 0 (fv, gv) = (0, s2, (fv2, gv2), nl2) ∧ CT h2 tx g L s2 P2 ec ep ∧ GIM h2 g F2 ∧ REL F2 fv2 gv2 o ∧ nl2 ≤ 6 ∧ fv2 2 = (nl2 : Int) ∧ fv2 0 = fv 0 ∧ fv2 1 = fv 1 ∧ fv2 3 = fv 3 ∧ fv2 4 = fv 4 ∧ LRG fv2 nl2 ∧ FrS (WKG g) hs h2) ∨ (kd = 3 ∧ r = none ∧ (sLines tx L (6 + 1 - 0) s 0 (fv, gv)).1 ≠ 0 ∧ ER h2 tx g L (sLines tx L (6 + 1 - 0) s 0 (fv, gv)).1 (sLines tx L (6 + 1 - 0) s 0 (fv, gv)).2.1 ∧ FrS (WKG g) hs h2)) := by
  intro wp p e R sW m args below meth c Q kc0 ks0 kc ks act hf hl hc hsl hEnd
  have hf : 11 ≤ R.frames := hf
  have hl : 187 ≤ R.locals := hl
  have loop : ∀ (hj : List CE) (nl : Nat) (cn : Int32) (v2 v3 v4 v5 : Option Value) (sj Pj : Int) (Fj : Nat → Nat → Int32) (fvj gvj : Nat → Int) (kcj ksj : Nat), CT hj tx g L sj Pj ec ep → GIM hj g Fj → REL Fj fvj gvj o → cn.toInt = (nl : Int) → nl ≤ 6 → fvj 2 = (nl : Int) → fvj 0 = fv 0 ∧ fvj 1 = fv 1 ∧ fvj 3 = fv 3 ∧ fvj 4 = fv 4 → LRG fvj nl → sLines tx L (6 + 1 - 0) s 0 (fv, gv) = sLines tx L (6 + 1 - nl) sj nl (fvj, gvj) → FrS (WKG g) hs hj → kcj ≤ kc + 7 * nl → ksj ≤ ks + 77 * nl → WpN (gp g0 wp) CLS p l e R sW m args below meth c Q D_126.2.2.1 kc0 ks0 2 [some (.ref 54), some (.int cn), v2, v3, v4, v5] (hj, kcj, ksj) [] := by
    intro hj nl cn v2 v3 v4 v5 sj Pj Fj fvj gvj kcj ksj hCj hGj hRj hcn hnl h2j hkp hrg hsp hfr hkc hks
    generalize hm : 6 - nl = m9
    induction m9 using Nat.strongRecOn generalizing hj nl cn v2 v3 v4 v5 sj Pj Fj fvj gvj kcj ksj with
    | _ m9 ih =>
    subst hm
    have hg0 := hGj.1.1
    have hF2 : (Fj 0 2).toInt = (nl : Int) := hRj.2.2.1.trans h2j
    have hkp9 := hkp
    obtain ⟨hP_t1, qt_1, qu_1⟩ := hCj
    have qv_1 := tkE_le (T := tx) (L := L) (s := sj) (by omega)
    obtain ⟨rw_2, hT_2, ⟨x1_2, e1_2, a1_2⟩, ⟨x2_2, e2_2, a2_2⟩, ⟨x6_2, e6_2, a6_2⟩, ⟨x7_2, e7_2, a7_2⟩, ⟨x8_2, e8_2, a8_2⟩, ⟨x9_2, e9_2, a9_2⟩, ⟨x10_2, e10_2, a10_2⟩, q1_2, q2_2, q3_2, q4_2⟩ := hP_t1
    refine g_loadI act (gx gp_126 (w := 0x1000302) rfl (by decide) rfl) (a := 1) (n := 3) rfl rfl rfl ?_
    refine g_constI act (gx gp_126 (w := 0x40000003400000031000000000501) rfl (by decide) rfl) (n := 5) (x := (6 : Int32)) (by decide) rfl ?_
    refine g_icmpGt act (gx gp_126 (w := 0x6a00082b) rfl (by decide) rfl) (tgt := 106) (n := 8) rfl rfl (fun h3 => ?_) (fun h3 => ?_)
    · simp only [i_lt, show (6 : Int32).toInt = 6 from by decide] at h3
      exfalso; omega
    · simp only [i_lt, show (6 : Int32).toInt = 6 from by decide] at h3
      refine g_loadA act (gx gp_126 (w := 0x903) rfl (by decide) rfl) (a := 0) (n := 9) rfl rfl rfl ?_
      refine g_str act (gx gp_126 (w := 0x7000000000b01) rfl (by decide) rfl) (n := 11) (by decide) rfl (fun i_3 k_3 t_3 hd_3 hk_3 => ?_)
      obtain rfl : i_3 = 112 := by
        have q9 := (show decode D_126.2.1 9 = .ok (.ldc 112, 2) from by decide +kernel).symm.trans hd_3
        cases q9
        rfl
      obtain rfl : k_3 = 16 := (lit_ix _ _ _ hk_3).2.2.2.2.1 rfl
      refine n_call tb_pres act hEnd (gx (P := G_call) gp_126 (w := 0x6000000000000c0c2200007b000e0f) rfl (by decide) rfl) (d' := D_123) rfl (f' := 4) (lam' := 100) (mc := 0) (ms := 0) (as := [.ref 54, .ref (litK 16)]) (rest := []) (cx_isw (i := 16) (by decide) (by decide) (show CT hj tx g L sj Pj ec ep from ⟨(show CRD hj tx g L (tkK tx L sj) sj (tkE tx L sj) Pj ec ep from ⟨rw_2, hT_2, ⟨_, e1_2, (by have q9 := a1_2; omega)⟩, ⟨_, e2_2, (by have q9 := a2_2; omega)⟩, ⟨_, e6_2, (by have q9 := a6_2; omega)⟩, ⟨_, e7_2, (by have q9 := a7_2; omega)⟩, ⟨_, e8_2, (by have q9 := a8_2; omega)⟩, ⟨_, e9_2, (by have q9 := a9_2; omega)⟩, ⟨_, e10_2, (by have q9 := a10_2; omega)⟩, by omega, by omega, by omega, by omega⟩), by omega, by omega⟩)) (show (2 : Nat) = fb 0x6000000000000c0c2200007b000e0f % 16 by decide) (by show (2 : Nat) ≤ 3; decide) (fun _ => ⟨_, _, rfl, _, shp_at rw_2.1, Or.inr (show fb 0x6000000000000c0c2200007b000e0f >>> 68 = 6 by decide)⟩) (by omega) (by show 8 + (3 + 11) + 100 ≤ R.locals; omega) (by show (0 : Nat) ≤ 8; decide) (by show kcj + 0 ≤ _; omega) (by show ksj + 0 ≤ _; omega) (fun r9 h3 hpo hr9 => ?_) (fun x9 hs9 hx9 hpo => ?_)
      · obtain ⟨-, rfl, xv_c4, rfl, hw_c4⟩ := hpo
        rw [show lwd 16 = wLINE from lwd_all.2.2.2.2.1] at hw_c4
        show WpN (gp g0 wp) CLS p l e R sW m args below meth c Q D_126.2.2.1 kc0 ks0 14 [some (.ref 54), some (.int cn), v2, v3, v4, v5] (hj, kcj, ksj) [.int xv_c4]
        refine g_ifEq act (gx gp_126 (w := 0x6a00110e) rfl (by decide) rfl) (tgt := 106) (n := 17) rfl rfl (fun hw14 => ?_) (fun hw14 => ?_)
        · simp only [i_eq, i0] at hw14
          have hno := sLines_no (tx := tx) (L := L) (s := sj) (nl := nl) (d := (fvj, gvj)) (by omega) (by omega)
          exact g_retV hEnd (gx gp_126 (w := 0x18) rfl (by decide) rfl) (Or.inl ⟨rfl, rfl, sj, Pj, Fj, fvj, gvj, nl, hsp.trans hno, (show CT hj tx g L sj Pj ec ep from ⟨(show CRD hj tx g L (tkK tx L sj) sj (tkE tx L sj) Pj ec ep from ⟨rw_2, hT_2, ⟨_, e1_2, (by have q9 := a1_2; omega)⟩, ⟨_, e2_2, (by have q9 := a2_2; omega)⟩, ⟨_, e6_2, (by have q9 := a6_2; omega)⟩, ⟨_, e7_2, (by have q9 := a7_2; omega)⟩, ⟨_, e8_2, (by have q9 := a8_2; omega)⟩, ⟨_, e9_2, (by have q9 := a9_2; omega)⟩, ⟨_, e10_2, (by have q9 := a10_2; omega)⟩, by omega, by omega, by omega, by omega⟩), by omega, by omega⟩), hGj, hRj, by omega, h2j, hkp.1, hkp.2.1, hkp.2.2.1, hkp.2.2.2, hrg, hfr⟩) (by show kcj ≤ kc + 49; omega) (by show ksj ≤ ks + 539; omega)
        · simp only [i_eq, i0] at hw14
          have hwj : wrd tx L sj = wLINE := by omega
          refine g_loadA act (gx gp_126 (w := 0x1203) rfl (by decide) rfl) (a := 0) (n := 18) rfl rfl rfl ?_
          refine g_loadA act (gx gp_126 (w := 0x1303) rfl (by decide) rfl) (a := 0) (n := 19) rfl rfl rfl ?_
          refine r_getf act (gx gp_126 (w := 0x3000145001604) rfl (by decide) rfl) (n := 22) (ci := 5) (j := 5) (N := 11) rfl rfl rfl rw_2.1 (by decide) (v := .ref g) rw_2.2.2.2.2 ?_
          refine r_getf act (gx gp_126 (w := 0x84001904) rfl (by decide) rfl) (n := 25) (ci := 4) (j := 2) (N := 18) rfl rfl rfl hGj.1.2.1 (by decide) (v := .int (Fj 0 2)) (hGj.2 0 2 (Or.inl ⟨rfl, by decide⟩)) ?_
          refine g_constI act (gx gp_126 (w := 0x40000003400000031000000001b01) rfl (by decide) rfl) (n := 27) (x := (6 : Int32)) (by decide) rfl ?_
          refine n_call tb_pres act hEnd (gx (P := G_call) gp_126 (w := 0x600000000000080c33000079001e0f) rfl (by decide) rfl) (d' := D_121) rfl (f' := 9) (lam' := 142) (mc := 1) (ms := 11) (as := [.ref 54, .int (Fj 0 2), .int (6 : Int32)]) (rest := []) (cx_room (us := ((nl : Nat) : Int)) (mo := ((6 : Nat) : Int)) hF2 (show (6 : Int32).toInt = ((6 : Nat) : Int) from by decide) (show CT hj tx g L sj Pj ec ep from ⟨(show CRD hj tx g L (tkK tx L sj) sj (tkE tx L sj) Pj ec ep from ⟨rw_2, hT_2, ⟨_, e1_2, (by have q9 := a1_2; omega)⟩, ⟨_, e2_2, (by have q9 := a2_2; omega)⟩, ⟨_, e6_2, (by have q9 := a6_2; omega)⟩, ⟨_, e7_2, (by have q9 := a7_2; omega)⟩, ⟨_, e8_2, (by have q9 := a8_2; omega)⟩, ⟨_, e9_2, (by have q9 := a9_2; omega)⟩, ⟨_, e10_2, (by have q9 := a10_2; omega)⟩, by omega, by omega, by omega, by omega⟩), by omega, by omega⟩)) (show (3 : Nat) = fb 0x600000000000080c33000079001e0f % 16 by decide) (by show (3 : Nat) ≤ 3; decide) (fun _ => ⟨_, _, rfl, _, shp_at rw_2.1, Or.inr (show fb 0x600000000000080c33000079001e0f >>> 68 = 6 by decide)⟩) (by omega) (by show 8 + (3 + 11) + 142 ≤ R.locals; omega) (by show (0 : Nat) ≤ 8; decide) (by show kcj + 1 ≤ _; omega) (by show ksj + 11 ≤ _; omega) (fun r9 h3 hpo hr9 => ?_) (fun x9 hs9 hx9 hpo => ?_)
          · obtain rfl : r9 = none := hr9.elim (fun q => q.2) (fun q => absurd rfl q.1)
            obtain ⟨-, -, hm_c5, rfl⟩ := hpo.resolve_right (fun z => absurd z.1 (by decide))
            show WpN (gp g0 wp) CLS p l e R sW m args below meth c Q D_126.2.2.1 kc0 ks0 30 [some (.ref 54), some (.int cn), v2, v3, v4, v5] (hj, kcj + 1, ksj + 11) []
            refine g_loadA act (gx gp_126 (w := 0x1f03) rfl (by decide) rfl) (a := 0) (n := 31) rfl rfl rfl ?_
            refine n_call tb_pres act hEnd (gx (P := G_call) gp_126 (w := 0x60000000000008081100007700220f) rfl (by decide) rfl) (d' := D_119) rfl (f' := 1) (lam' := 22) (mc := 0) (ms := 0) (as := [.ref 54]) (rest := []) (cx_advance (show CRD hj tx g L (tkK tx L sj) sj (tkE tx L sj) Pj ec ep from ⟨rw_2, hT_2, ⟨_, e1_2, a1_2⟩, ⟨_, e2_2, a2_2⟩, ⟨_, e6_2, a6_2⟩, ⟨_, e7_2, a7_2⟩, ⟨_, e8_2, a8_2⟩, ⟨_, e9_2, a9_2⟩, ⟨_, e10_2, a10_2⟩, by omega, by omega, by omega, by omega⟩)) (show (1 : Nat) = fb 0x60000000000008081100007700220f % 16 by decide) (by show (1 : Nat) ≤ 2; decide) (fun _ => ⟨_, _, rfl, _, shp_at rw_2.1, Or.inr (show fb 0x60000000000008081100007700220f >>> 68 = 6 by decide)⟩) (by omega) (by show 8 + (2 + 11) + 22 ≤ R.locals; omega) (by show (0 : Nat) ≤ 8; decide) (by show kcj + 1 + 0 ≤ _; omega) (by show ksj + 11 + 0 ≤ _; omega) (fun r9 hs_c6 hpo hr9 => ?_) (fun x9 hs9 hx9 hpo => ?_)
            · obtain rfl : r9 = none := hr9.elim (fun q => q.2) (fun q => absurd rfl q.1)
              obtain ⟨-, -, hD_c6, fr_c6⟩ := hpo
              obtain ⟨s_c6, es_c6, hC_c6⟩ : ∃ z : Int, z = nxs tx L sj ∧ CT hs_c6 tx g L z sj ec ep := ⟨_, rfl, hD_c6⟩
              obtain ⟨⟨-, -, ⟨x1_c6, e1_c6, a1_c6⟩, ⟨x2_c6, e2_c6, a2_c6⟩, ⟨x6_c6, e6_c6, a6_c6⟩, ⟨x7_c6, e7_c6, a7_c6⟩, ⟨x8_c6, e8_c6, a8_c6⟩, ⟨x9_c6, e9_c6, a9_c6⟩, ⟨x10_c6, e10_c6, a10_c6⟩, q1_c6, q2_c6, q3_c6, q4_c6⟩, qs_c6, qt_c6⟩ := hC_c6
              have rw_7 := rw_2.fr fr_c6 (fun j9 _ _ => by unfold WKr; omega)
              have f_8 := hT_2.fr fr_c6 (fun j9 => by unfold WKr; omega)
              have f_16 := hGj.frW fr_c6 (fun k9 j9 h9 => by unfold WKr at h9; omega)
              have fr_17 := hfr.tr (fr_c6.mono (fun _ _ h9 => Or.inl h9))
              clear rw_2 hT_2 e1_2 e2_2 e6_2 e7_2 e8_2 e9_2 e10_2 hGj hfr
              show WpN (gp g0 wp) CLS p l e R sW m args below meth c Q D_126.2.2.1 kc0 ks0 34 [some (.ref 54), some (.int cn), v2, v3, v4, v5] (hs_c6, kcj + 1, ksj + 11) []
              refine g_loadA act (gx gp_126 (w := 0x2303) rfl (by decide) rfl) (a := 0) (n := 35) rfl rfl rfl ?_
              refine n_call tb_pres act hEnd (gx (P := G_call) gp_126 (w := 0x6000000000000c041100007f00260f) rfl (by decide) rfl) (d' := D_127) rfl (f' := 10) (lam' := 165) (mc := 1) (ms := 11) (as := [.ref 54]) (rest := []) (cx_node (n0 := fvj 0) f_16 hRj.1 (by omega) (by omega) (show CT hs_c6 tx g L s_c6 sj ec ep from ⟨(show CRD hs_c6 tx g L (tkK tx L s_c6) s_c6 (tkE tx L s_c6) sj ec ep from ⟨rw_7, f_8, ⟨_, e1_c6, (by have q9 := a1_c6; omega)⟩, ⟨_, e2_c6, (by have q9 := a2_c6; omega)⟩, ⟨_, e6_c6, (by have q9 := a6_c6; omega)⟩, ⟨_, e7_c6, (by have q9 := a7_c6; omega)⟩, ⟨_, e8_c6, (by have q9 := a8_c6; omega)⟩, ⟨_, e9_c6, (by have q9 := a9_c6; omega)⟩, ⟨_, e10_c6, (by have q9 := a10_c6; omega)⟩, by omega, by omega, by omega, by omega⟩), by omega, by omega⟩)) (show (1 : Nat) = fb 0x6000000000000c041100007f00260f % 16 by decide) (by show (1 : Nat) ≤ 1; decide) (fun _ => ⟨_, _, rfl, _, shp_at rw_7.1, Or.inr (show fb 0x6000000000000c041100007f00260f >>> 68 = 6 by decide)⟩) (by omega) (by show 8 + (1 + 11) + 165 ≤ R.locals; omega) (by show (0 : Nat) ≤ 8; decide) (by show kcj + 1 + 1 ≤ _; omega) (by show ksj + 11 + 11 ≤ _; omega) (fun r9 hs_c18 hpo hr9 => ?_) (fun x9 hs9 hx9 hpo => ?_)
              · obtain ⟨-, hr_c18, ⟨xv_c18, rfl, hv_c18⟩, hD_c18, fr_c18⟩ := hpo.resolve_right (fun z => absurd z.1 (by decide))
                obtain ⟨s_c18, es_c18, hC_c18⟩ : ∃ z : Int, z = ((sNum tx L 0 (fvj 0 - 1) s_c6)).2.1 ∧ CT hs_c18 tx g L z s_c6 ec ep := ⟨_, rfl, hD_c18⟩
                obtain ⟨⟨-, -, ⟨x1_c18, e1_c18, a1_c18⟩, ⟨x2_c18, e2_c18, a2_c18⟩, ⟨x6_c18, e6_c18, a6_c18⟩, ⟨x7_c18, e7_c18, a7_c18⟩, ⟨x8_c18, e8_c18, a8_c18⟩, ⟨x9_c18, e9_c18, a9_c18⟩, ⟨x10_c18, e10_c18, a10_c18⟩, q1_c18, q2_c18, q3_c18, q4_c18⟩, qs_c18, qt_c18⟩ := hC_c18
                have rw_19 := rw_7.fr fr_c18 (fun j9 _ _ => by unfold WKr; omega)
                have f_20 := f_8.fr fr_c18 (fun j9 => by unfold WKr; omega)
                have f_21 := f_16.frW fr_c18 (fun k9 j9 h9 => by unfold WKr at h9; omega)
                have fr_29 := fr_17.tr (fr_c18.mono (fun _ _ h9 => Or.inl h9))
                clear rw_7 f_8 f_16 e1_c6 e2_c6 e6_c6 e7_c6 e8_c6 e9_c6 e10_c6 fr_17
                show WpN (gp g0 wp) CLS p l e R sW m args below meth c Q D_126.2.2.1 kc0 ks0 38 [some (.ref 54), some (.int cn), v2, v3, v4, v5] (hs_c18, kcj + 1 + 1, ksj + 11 + 11) [.int xv_c18]
                refine g_storeI act (gx gp_126 (w := 0x2002710) rfl (by decide) rfl) (a := 2) (n := 39) rfl rfl (L2 := [some (.ref 54), some (.int cn), some (.int xv_c18), v3, v4, v5]) rfl ?_
                refine g_loadA act (gx gp_126 (w := 0x2803) rfl (by decide) rfl) (a := 0) (n := 40) rfl rfl rfl ?_
                refine g_loadI act (gx gp_126 (w := 0x2002902) rfl (by decide) rfl) (a := 2) (n := 41) rfl rfl rfl ?_
                refine n_call tb_pres act hEnd (gx (P := G_call) gp_126 (w := 0x6000000000000c0c22000081002c0f) rfl (by decide) rfl) (d' := D_129) rfl (f' := 10) (lam' := 165) (mc := 2) (ms := 22) (as := [.ref 54, .int xv_c18]) (rest := []) (cx_other (n0 := fvj 0) (z0 := (Int32.toInt xv_c18)) f_21 hRj.1 (by omega) (by omega) (rfl : Int32.toInt xv_c18 = _) (show CT hs_c18 tx g L s_c18 s_c6 ec ep from ⟨(show CRD hs_c18 tx g L (tkK tx L s_c18) s_c18 (tkE tx L s_c18) s_c6 ec ep from ⟨rw_19, f_20, ⟨_, e1_c18, (by have q9 := a1_c18; omega)⟩, ⟨_, e2_c18, (by have q9 := a2_c18; omega)⟩, ⟨_, e6_c18, (by have q9 := a6_c18; omega)⟩, ⟨_, e7_c18, (by have q9 := a7_c18; omega)⟩, ⟨_, e8_c18, (by have q9 := a8_c18; omega)⟩, ⟨_, e9_c18, (by have q9 := a9_c18; omega)⟩, ⟨_, e10_c18, (by have q9 := a10_c18; omega)⟩, by omega, by omega, by omega, by omega⟩), by omega, by omega⟩)) (show (2 : Nat) = fb 0x6000000000000c0c22000081002c0f % 16 by decide) (by show (2 : Nat) ≤ 3; decide) (fun _ => ⟨_, _, rfl, _, shp_at rw_19.1, Or.inr (show fb 0x6000000000000c0c22000081002c0f >>> 68 = 6 by decide)⟩) (by omega) (by show 8 + (3 + 11) + 165 ≤ R.locals; omega) (by show (0 : Nat) ≤ 8; decide) (by show kcj + 1 + 1 + 2 ≤ _; omega) (by show ksj + 11 + 11 + 22 ≤ _; omega) (fun r9 hs_c30 hpo hr9 => ?_) (fun x9 hs9 hx9 hpo => ?_)
                · obtain ⟨-, hr_c30, ⟨xv_c30, rfl, hv_c30⟩, hD_c30, fr_c30⟩ := hpo.resolve_right (fun z => absurd z.1 (by decide))
                  obtain ⟨s_c30, es_c30, hC_c30⟩ : ∃ z : Int, z = ((sOth tx L (fvj 0 - 1) (Int32.toInt xv_c18) s_c18)).2.1 ∧ CT hs_c30 tx g L z s_c18 ec ep := ⟨_, rfl, hD_c30⟩
                  obtain ⟨⟨-, -, ⟨x1_c30, e1_c30, a1_c30⟩, ⟨x2_c30, e2_c30, a2_c30⟩, ⟨x6_c30, e6_c30, a6_c30⟩, ⟨x7_c30, e7_c30, a7_c30⟩, ⟨x8_c30, e8_c30, a8_c30⟩, ⟨x9_c30, e9_c30, a9_c30⟩, ⟨x10_c30, e10_c30, a10_c30⟩, q1_c30, q2_c30, q3_c30, q4_c30⟩, qs_c30, qt_c30⟩ := hC_c30
                  have rw_31 := rw_19.fr fr_c30 (fun j9 _ _ => by unfold WKr; omega)
                  have f_32 := f_20.fr fr_c30 (fun j9 => by unfold WKr; omega)
                  have f_33 := f_21.frW fr_c30 (fun k9 j9 h9 => by unfold WKr at h9; omega)
                  have fr_41 := fr_29.tr (fr_c30.mono (fun _ _ h9 => Or.inl h9))
                  clear rw_19 f_20 f_21 e1_c18 e2_c18 e6_c18 e7_c18 e8_c18 e9_c18 e10_c18 fr_29
                  show WpN (gp g0 wp) CLS p l e R sW m args below meth c Q D_126.2.2.1 kc0 ks0 44 [some (.ref 54), some (.int cn), some (.int xv_c18), v3, v4, v5] (hs_c30, kcj + 1 + 1 + 2, ksj + 11 + 11 + 22) [.int xv_c30]
                  refine g_storeI act (gx gp_126 (w := 0x3002d10) rfl (by decide) rfl) (a := 3) (n := 45) rfl rfl (L2 := [some (.ref 54), some (.int cn), some (.int xv_c18), some (.int xv_c30), v4, v5]) rfl ?_
                  refine g_loadA act (gx gp_126 (w := 0x2e03) rfl (by decide) rfl) (a := 0) (n := 46) rfl rfl rfl ?_
                  refine g_constI act (gx gp_126 (w := 0x40000000c00000009000000002f01) rfl (by decide) rfl) (n := 47) (x := (1 : Int32)) (by decide) rfl ?_
                  refine g_constI act (gx gp_126 (w := 0x40000064400000641000000003201) rfl (by decide) rfl) (n := 50) (x := (200 : Int32)) (by decide) rfl ?_
                  refine n_call tb_pres act hEnd (gx (P := G_call) gp_126 (w := 0x6000000000000c103300008000350f) rfl (by decide) rfl) (d' := D_128) rfl (f' := 9) (lam' := 142) (mc := 1) (ms := 11) (as := [.ref 54, .int (1 : Int32), .int (200 : Int32)]) (rest := []) (cx_number (lo := 1) (hi := 200) (by decide) (by decide) (show CT hs_c30 tx g L s_c30 s_c18 ec ep from ⟨(show CRD hs_c30 tx g L (tkK tx L s_c30) s_c30 (tkE tx L s_c30) s_c18 ec ep from ⟨rw_31, f_32, ⟨_, e1_c30, (by have q9 := a1_c30; omega)⟩, ⟨_, e2_c30, (by have q9 := a2_c30; omega)⟩, ⟨_, e6_c30, (by have q9 := a6_c30; omega)⟩, ⟨_, e7_c30, (by have q9 := a7_c30; omega)⟩, ⟨_, e8_c30, (by have q9 := a8_c30; omega)⟩, ⟨_, e9_c30, (by have q9 := a9_c30; omega)⟩, ⟨_, e10_c30, (by have q9 := a10_c30; omega)⟩, by omega, by omega, by omega, by omega⟩), by omega, by omega⟩)) (show (3 : Nat) = fb 0x6000000000000c103300008000350f % 16 by decide) (by show (3 : Nat) ≤ 4; decide) (fun _ => ⟨_, _, rfl, _, shp_at rw_31.1, Or.inr (show fb 0x6000000000000c103300008000350f >>> 68 = 6 by decide)⟩) (by omega) (by show 8 + (4 + 11) + 142 ≤ R.locals; omega) (by show (0 : Nat) ≤ 8; decide) (by show kcj + 1 + 1 + 2 + 1 ≤ _; omega) (by show ksj + 11 + 11 + 22 + 11 ≤ _; omega) (fun r9 hs_c42 hpo hr9 => ?_) (fun x9 hs9 hx9 hpo => ?_)
                  · obtain ⟨-, hr_c42, ⟨xv_c42, rfl, hv_c42⟩, hD_c42, fr_c42⟩ := hpo.resolve_right (fun z => absurd z.1 (by decide))
                    obtain ⟨s_c42, es_c42, hC_c42⟩ : ∃ z : Int, z = ((sNum tx L 1 200 s_c30)).2.1 ∧ CT hs_c42 tx g L z s_c30 ec ep := ⟨_, rfl, hD_c42⟩
                    obtain ⟨⟨-, -, ⟨x1_c42, e1_c42, a1_c42⟩, ⟨x2_c42, e2_c42, a2_c42⟩, ⟨x6_c42, e6_c42, a6_c42⟩, ⟨x7_c42, e7_c42, a7_c42⟩, ⟨x8_c42, e8_c42, a8_c42⟩, ⟨x9_c42, e9_c42, a9_c42⟩, ⟨x10_c42, e10_c42, a10_c42⟩, q1_c42, q2_c42, q3_c42, q4_c42⟩, qs_c42, qt_c42⟩ := hC_c42
                    have rw_43 := rw_31.fr fr_c42 (fun j9 _ _ => by unfold WKr; omega)
                    have f_44 := f_32.fr fr_c42 (fun j9 => by unfold WKr; omega)
                    have f_45 := f_33.frW fr_c42 (fun k9 j9 h9 => by unfold WKr at h9; omega)
                    have fr_53 := fr_41.tr (fr_c42.mono (fun _ _ h9 => Or.inl h9))
                    clear rw_31 f_32 f_33 e1_c30 e2_c30 e6_c30 e7_c30 e8_c30 e9_c30 e10_c30 fr_41
                    show WpN (gp g0 wp) CLS p l e R sW m args below meth c Q D_126.2.2.1 kc0 ks0 53 [some (.ref 54), some (.int cn), some (.int xv_c18), some (.int xv_c30), v4, v5] (hs_c42, kcj + 1 + 1 + 2 + 1, ksj + 11 + 11 + 22 + 11) [.int xv_c42]
                    refine g_storeI act (gx gp_126 (w := 0x4003710) rfl (by decide) rfl) (a := 4) (n := 55) rfl rfl (L2 := [some (.ref 54), some (.int cn), some (.int xv_c18), some (.int xv_c30), some (.int xv_c42), v5]) rfl ?_
                    refine g_loadI act (gx gp_126 (w := 0x4003902) rfl (by decide) rfl) (a := 4) (n := 57) rfl rfl rfl ?_
                    refine g_storeI act (gx gp_126 (w := 0x5003b10) rfl (by decide) rfl) (a := 5) (n := 59) rfl rfl (L2 := [some (.ref 54), some (.int cn), some (.int xv_c18), some (.int xv_c30), some (.int xv_c42), some (.int xv_c42)]) rfl ?_
                    refine g_loadA act (gx gp_126 (w := 0x3c03) rfl (by decide) rfl) (a := 0) (n := 60) rfl rfl rfl ?_
                    refine g_str act (gx gp_126 (w := 0x7000000003e01) rfl (by decide) rfl) (n := 62) (by decide) rfl (fun i_54 k_54 t_54 hd_54 hk_54 => ?_)
                    obtain rfl : i_54 = 132 := by
                      have q9 := (show decode D_126.2.1 60 = .ok (.ldc 132, 2) from by decide +kernel).symm.trans hd_54
                      cases q9
                      rfl
                    obtain rfl : k_54 = 17 := (lit_ix _ _ _ hk_54).2.2.2.2.2.1 rfl
                    refine n_call tb_pres act hEnd (gx (P := G_call) gp_126 (w := 0x6000000000000c0c2200007b00410f) rfl (by decide) rfl) (d' := D_123) rfl (f' := 4) (lam' := 100) (mc := 0) (ms := 0) (as := [.ref 54, .ref (litK 17)]) (rest := []) (cx_isw (i := 17) (by decide) (by decide) (show CT hs_c42 tx g L s_c42 s_c30 ec ep from ⟨(show CRD hs_c42 tx g L (tkK tx L s_c42) s_c42 (tkE tx L s_c42) s_c30 ec ep from ⟨rw_43, f_44, ⟨_, e1_c42, (by have q9 := a1_c42; omega)⟩, ⟨_, e2_c42, (by have q9 := a2_c42; omega)⟩, ⟨_, e6_c42, (by have q9 := a6_c42; omega)⟩, ⟨_, e7_c42, (by have q9 := a7_c42; omega)⟩, ⟨_, e8_c42, (by have q9 := a8_c42; omega)⟩, ⟨_, e9_c42, (by have q9 := a9_c42; omega)⟩, ⟨_, e10_c42, (by have q9 := a10_c42; omega)⟩, by omega, by omega, by omega, by omega⟩), by omega, by omega⟩)) (show (2 : Nat) = fb 0x6000000000000c0c2200007b00410f % 16 by decide) (by show (2 : Nat) ≤ 3; decide) (fun _ => ⟨_, _, rfl, _, shp_at rw_43.1, Or.inr (show fb 0x6000000000000c0c2200007b00410f >>> 68 = 6 by decide)⟩) (by omega) (by show 8 + (3 + 11) + 100 ≤ R.locals; omega) (by show (0 : Nat) ≤ 8; decide) (by show kcj + 1 + 1 + 2 + 1 + 0 ≤ _; omega) (by show ksj + 11 + 11 + 22 + 11 + 0 ≤ _; omega) (fun r9 h3 hpo hr9 => ?_) (fun x9 hs9 hx9 hpo => ?_)
                    · obtain ⟨-, rfl, xv_c55, rfl, hw_c55⟩ := hpo
                      rw [show lwd 17 = wEMERGENCY from lwd_all.2.2.2.2.2.1] at hw_c55
                      show WpN (gp g0 wp) CLS p l e R sW m args below meth c Q D_126.2.2.1 kc0 ks0 65 [some (.ref 54), some (.int cn), some (.int xv_c18), some (.int xv_c30), some (.int xv_c42), some (.int xv_c42)] (hs_c42, kcj + 1 + 1 + 2 + 1, ksj + 11 + 11 + 22 + 11) [.int xv_c55]
                      refine g_ifEq act (gx gp_126 (w := 0x5300440e) rfl (by decide) rfl) (tgt := 83) (n := 68) rfl rfl (fun hw65 => ?_) (fun hw65 => ?_)
                      · simp only [i_eq, i0] at hw65
                        have hwn_65 : ¬ wrd tx L s_c42 = wEMERGENCY := by omega
                        refine g_loadA act (gx gp_126 (w := 0x5403) rfl (by decide) rfl) (a := 0) (n := 84) rfl rfl rfl ?_
                        have i4_c56 : (if wrd tx L s_c42 = wEMERGENCY then sNum tx L (Int32.toInt xv_c42) 400 (nxs tx L s_c42) else (0, s_c42, (Int32.toInt xv_c42))) = (0, s_c42, (Int32.toInt xv_c42)) := if_neg hwn_65
                        refine n_call tb_pres act hEnd (gx (P := G_call) gp_126 (w := 0x60000000000008041100008400570f) rfl (by decide) rfl) (d' := D_132) rfl (f' := 9) (lam' := 142) (mc := 1) (ms := 11) (as := [.ref 54]) (rest := []) (cx_semi (show CT hs_c42 tx g L s_c42 s_c30 ec ep from ⟨(show CRD hs_c42 tx g L (tkK tx L s_c42) s_c42 (tkE tx L s_c42) s_c30 ec ep from ⟨rw_43, f_44, ⟨_, e1_c42, (by have q9 := a1_c42; omega)⟩, ⟨_, e2_c42, (by have q9 := a2_c42; omega)⟩, ⟨_, e6_c42, (by have q9 := a6_c42; omega)⟩, ⟨_, e7_c42, (by have q9 := a7_c42; omega)⟩, ⟨_, e8_c42, (by have q9 := a8_c42; omega)⟩, ⟨_, e9_c42, (by have q9 := a9_c42; omega)⟩, ⟨_, e10_c42, (by have q9 := a10_c42; omega)⟩, by omega, by omega, by omega, by omega⟩), by omega, by omega⟩)) (show (1 : Nat) = fb 0x60000000000008041100008400570f % 16 by decide) (by show (1 : Nat) ≤ 1; decide) (fun _ => ⟨_, _, rfl, _, shp_at rw_43.1, Or.inr (show fb 0x60000000000008041100008400570f >>> 68 = 6 by decide)⟩) (by omega) (by show 8 + (1 + 11) + 142 ≤ R.locals; omega) (by show (0 : Nat) ≤ 8; decide) (by show kcj + 1 + 1 + 2 + 1 + 1 ≤ _; omega) (by show ksj + 11 + 11 + 22 + 11 + 11 ≤ _; omega) (fun r9 hs_c57 hpo hr9 => ?_) (fun x9 hs9 hx9 hpo => ?_)
                        · obtain rfl : r9 = none := hr9.elim (fun q => q.2) (fun q => absurd rfl q.1)
                          obtain ⟨-, hr_c57, -, hD_c57, fr_c57⟩ := hpo.resolve_right (fun z => absurd z.1 (by decide))
                          obtain ⟨s_c57, es_c57, hC_c57⟩ : ∃ z : Int, z = ((sSem tx L s_c42)).2 ∧ CT hs_c57 tx g L z s_c42 ec ep := ⟨_, rfl, hD_c57⟩
                          obtain ⟨⟨-, -, ⟨x1_c57, e1_c57, a1_c57⟩, ⟨x2_c57, e2_c57, a2_c57⟩, ⟨x6_c57, e6_c57, a6_c57⟩, ⟨x7_c57, e7_c57, a7_c57⟩, ⟨x8_c57, e8_c57, a8_c57⟩, ⟨x9_c57, e9_c57, a9_c57⟩, ⟨x10_c57, e10_c57, a10_c57⟩, q1_c57, q2_c57, q3_c57, q4_c57⟩, qs_c57, qt_c57⟩ := hC_c57
                          have rw_58 := rw_43.fr fr_c57 (fun j9 _ _ => by unfold WKr; omega)
                          have f_59 := f_44.fr fr_c57 (fun j9 => by unfold WKr; omega)
                          have f_60 := f_45.frW fr_c57 (fun k9 j9 h9 => by unfold WKr at h9; omega)
                          have fr_68 := fr_53.tr (fr_c57.mono (fun _ _ h9 => Or.inl h9))
                          clear rw_43 f_44 f_45 e1_c42 e2_c42 e6_c42 e7_c42 e8_c42 e9_c42 e10_c42 fr_53
                          show WpN (gp g0 wp) CLS p l e R sW m args below meth c Q D_126.2.2.1 kc0 ks0 87 [some (.ref 54), some (.int cn), some (.int xv_c18), some (.int xv_c30), some (.int xv_c42), some (.int xv_c42)] (hs_c57, kcj + 1 + 1 + 2 + 1 + 1, ksj + 11 + 11 + 22 + 11 + 11) []
                          refine g_loadA act (gx gp_126 (w := 0x5803) rfl (by decide) rfl) (a := 0) (n := 88) rfl rfl rfl ?_
                          refine r_getf act (gx gp_126 (w := 0x3000145005b04) rfl (by decide) rfl) (n := 91) (ci := 5) (j := 5) (N := 11) rfl rfl rfl rw_58.1 (by decide) (v := .ref g) rw_58.2.2.2.2 ?_
                          refine g_loadI act (gx gp_126 (w := 0x2005c02) rfl (by decide) rfl) (a := 2) (n := 92) rfl rfl rfl ?_
                          refine g_loadI act (gx gp_126 (w := 0x3005d02) rfl (by decide) rfl) (a := 3) (n := 93) rfl rfl rfl ?_
                          refine g_loadI act (gx gp_126 (w := 0x4005f02) rfl (by decide) rfl) (a := 4) (n := 95) rfl rfl rfl ?_
                          refine g_loadI act (gx gp_126 (w := 0x5006102) rfl (by decide) rfl) (a := 5) (n := 97) rfl rfl rfl ?_
                          refine n_call tb_pres act hEnd (gx (P := G_call) gp_126 (w := 0x50000000000008145500006000640f) rfl (by decide) rfl) (d' := D_96) rfl (f' := 0) (lam' := 0) (mc := 0) (ms := 0) (as := [.ref g, .int xv_c18, .int xv_c30, .int xv_c42, .int xv_c42]) (rest := []) (cx_addL (nl := nl) f_60 hF2 (by omega)) (show (5 : Nat) = fb 0x50000000000008145500006000640f % 16 by decide) (by show (5 : Nat) ≤ 5; decide) (fun _ => ⟨_, _, rfl, _, shp_at f_60.1.2.1, Or.inr (show fb 0x50000000000008145500006000640f >>> 68 = 5 by decide)⟩) (by omega) (by show 8 + (5 + 11) + 0 ≤ R.locals; omega) (by show (0 : Nat) ≤ 8; decide) (by show kcj + 1 + 1 + 2 + 1 + 1 + 0 ≤ _; omega) (by show ksj + 11 + 11 + 22 + 11 + 11 + 0 ≤ _; omega) (fun r9 hs_c69 hpo hr9 => ?_) (fun x9 hs9 hx9 hpo => ?_)
                          · obtain rfl : r9 = none := hr9.elim (fun q => q.2) (fun q => absurd rfl q.1)
                            obtain ⟨-, -, F_c69, hG_c69, fr_c69, eF_c69⟩ := hpo
                            have rw_70 := rw_58.fr fr_c69 (fun j9 _ _ => by unfold WGr; omega)
                            have f_71 := f_59.fr fr_c69 (fun j9 => by unfold WGr; omega)
                            have f_73 := (fr_c69.2.2 54 1 (by unfold WGr; omega)).trans e1_c57
                            have f_74 := (fr_c69.2.2 54 2 (by unfold WGr; omega)).trans e2_c57
                            have f_75 := (fr_c69.2.2 54 6 (by unfold WGr; omega)).trans e6_c57
                            have f_76 := (fr_c69.2.2 54 7 (by unfold WGr; omega)).trans e7_c57
                            have f_77 := (fr_c69.2.2 54 8 (by unfold WGr; omega)).trans e8_c57
                            have f_78 := (fr_c69.2.2 54 9 (by unfold WGr; omega)).trans e9_c57
                            have f_79 := (fr_c69.2.2 54 10 (by unfold WGr; omega)).trans e10_c57
                            have fr_80 := fr_68.tr (fr_c69.mono (fun _ _ h9 => Or.inr h9))
                            clear rw_58 f_59 f_60 e1_c57 e2_c57 e6_c57 e7_c57 e8_c57 e9_c57 e10_c57 fr_68
                            show WpN (gp g0 wp) CLS p l e R sW m args below meth c Q D_126.2.2.1 kc0 ks0 100 [some (.ref 54), some (.int cn), some (.int xv_c18), some (.int xv_c30), some (.int xv_c42), some (.int xv_c42)] (hs_c69, kcj + 1 + 1 + 2 + 1 + 1, ksj + 11 + 11 + 22 + 11 + 11) []
                            refine g_iinc act (gx gp_126 (w := 0x80000001000001006709) rfl (by decide) rfl) (a := 1) (i := (1 : Int32)) (n := 103) rfl (by decide) rfl rfl (L2 := [some (.ref 54), some (.int (cn + (1 : Int32))), some (.int xv_c18), some (.int xv_c30), some (.int xv_c42), some (.int xv_c42)]) rfl ?_
                            have v_81 := iv_addN hcn (show (1 : Int32).toInt = ((1 : Nat) : Int) from by decide) (show (nl + 1) < 2147483648 by omega)
                            refine g_goto act (gx gp_126 (w := 0x207) rfl (by decide) rfl) (n := 2) rfl ?_
                            have hok := sLine_ok (nl := nl) (d := (fvj, gvj)) hr_c18 es_c18 hv_c18 hr_c30 es_c30 hv_c30 hr_c42 es_c42 hv_c42 (congrArg Prod.fst i4_c56) (congrArg (fun q => q.2.1) i4_c56).symm (congrArg (fun q => q.2.2) i4_c56).symm hr_c57 es_c57
                            rw [es_c6] at hok
                            have hgo := sLines_go (by omega) hwj hok
                            have hrel := hRj.line (nl := nl) (by omega) (rfl : Int32.toInt xv_c18 = _) (rfl : Int32.toInt xv_c30 = _) (rfl : Int32.toInt xv_c42 = _) (rfl : Int32.toInt xv_c42 = _) (show (Fj 0 2 + (1 : Int32)).toInt = (((nl + 1) : Nat) : Int) from iv_addN hF2 (show (1 : Int32).toInt = ((1 : Nat) : Int) from by decide) (by omega))
                            rw [← eF_c69] at hrel
                            have hg1 := sNum_gt hr_c18
                            have hg2 := sOth_gt hr_c30
                            have hrg2 := hrg.up (by omega) (a := Int32.toInt xv_c18) (b := Int32.toInt xv_c30) (c := (((nl + 1) : Nat) : Int)) (by omega) (by omega) (by omega) (by omega) (by omega)
                            exact ih _ (by omega) _ (nl + 1) _ _ _ _ _ _ _ _ _ _ _ _ (show CT hs_c69 tx g L s_c57 s_c42 ec ep from ⟨(show CRD hs_c69 tx g L (tkK tx L s_c57) s_c57 (tkE tx L s_c57) s_c42 ec ep from ⟨rw_70, f_71, ⟨_, f_73, (by have q9 := a1_c57; omega)⟩, ⟨_, f_74, (by have q9 := a2_c57; omega)⟩, ⟨_, f_75, (by have q9 := a6_c57; omega)⟩, ⟨_, f_76, (by have q9 := a7_c57; omega)⟩, ⟨_, f_77, (by have q9 := a8_c57; omega)⟩, ⟨_, f_78, (by have q9 := a9_c57; omega)⟩, ⟨_, f_79, (by have q9 := a10_c57; omega)⟩, by omega, by omega, by omega, by omega⟩), by omega, by omega⟩) hG_c69 hrel v_81 (by omega) (by unfold upI; (repeat' split) <;> omega) ⟨(by unfold upI; (repeat' split) <;> omega), (by unfold upI; (repeat' split) <;> omega), (by unfold upI; (repeat' split) <;> omega), (by unfold upI; (repeat' split) <;> omega)⟩ hrg2 (hsp.trans hgo) fr_80 (by omega) (by omega) rfl
                          · exact absurd hpo.1 (by omega)
                        · obtain ⟨hk_c57, -, hn_c57, hE_c57, fr_c57⟩ := hpo.resolve_left (fun z => absurd z.1 (by omega))
                          have ft_c57 := fr_53.tr (fr_c57.mono (fun _ _ h9 => Or.inl h9))
                          obtain ⟨y1_c57, y2_c57⟩ := sLine_e5 (nl := nl) (d := (fvj, gvj)) hr_c18 es_c18 hv_c18 hr_c30 es_c30 hv_c30 hr_c42 es_c42 hv_c42 (congrArg Prod.fst i4_c56) (congrArg (fun q => q.2.1) i4_c56).symm (congrArg (fun q => q.2.2) i4_c56).symm hn_c57
                          obtain ⟨y3_c57, y4_c57⟩ := sLines_bad (nl := nl) (d := (fvj, gvj)) (by omega) hwj (by rw [← es_c6, y1_c57]; exact hn_c57)
                          rw [← es_c6, y1_c57] at y3_c57
                          rw [← es_c6, y2_c57] at y4_c57
                          refine Or.inr ⟨rfl, Or.inr ⟨by omega, rfl, by rw [hsp, y3_c57]; exact hn_c57, by rw [hsp, y3_c57, y4_c57]; exact hE_c57, ft_c57⟩, by show kcj + 1 + 1 + 2 + 1 + 1 ≤ kc + 49; omega, by show ksj + 11 + 11 + 22 + 11 + 11 ≤ ks + 539; omega⟩
                      · simp only [i_eq, i0] at hw65
                        have hwe_65 : wrd tx L s_c42 = wEMERGENCY := by omega
                        refine g_loadA act (gx gp_126 (w := 0x4503) rfl (by decide) rfl) (a := 0) (n := 69) rfl rfl rfl ?_
                        refine n_call tb_pres act hEnd (gx (P := G_call) gp_126 (w := 0x60000000000008081100007700480f) rfl (by decide) rfl) (d' := D_119) rfl (f' := 1) (lam' := 22) (mc := 0) (ms := 0) (as := [.ref 54]) (rest := []) (cx_advance (show CRD hs_c42 tx g L (tkK tx L s_c42) s_c42 (tkE tx L s_c42) s_c30 ec ep from ⟨rw_43, f_44, ⟨_, e1_c42, a1_c42⟩, ⟨_, e2_c42, a2_c42⟩, ⟨_, e6_c42, a6_c42⟩, ⟨_, e7_c42, a7_c42⟩, ⟨_, e8_c42, a8_c42⟩, ⟨_, e9_c42, a9_c42⟩, ⟨_, e10_c42, a10_c42⟩, by omega, by omega, by omega, by omega⟩)) (show (1 : Nat) = fb 0x60000000000008081100007700480f % 16 by decide) (by show (1 : Nat) ≤ 2; decide) (fun _ => ⟨_, _, rfl, _, shp_at rw_43.1, Or.inr (show fb 0x60000000000008081100007700480f >>> 68 = 6 by decide)⟩) (by omega) (by show 8 + (2 + 11) + 22 ≤ R.locals; omega) (by show (0 : Nat) ≤ 8; decide) (by show kcj + 1 + 1 + 2 + 1 + 0 ≤ _; omega) (by show ksj + 11 + 11 + 22 + 11 + 0 ≤ _; omega) (fun r9 hs_c82 hpo hr9 => ?_) (fun x9 hs9 hx9 hpo => ?_)
                        · obtain rfl : r9 = none := hr9.elim (fun q => q.2) (fun q => absurd rfl q.1)
                          obtain ⟨-, -, hD_c82, fr_c82⟩ := hpo
                          obtain ⟨s_c82, es_c82, hC_c82⟩ : ∃ z : Int, z = nxs tx L s_c42 ∧ CT hs_c82 tx g L z s_c42 ec ep := ⟨_, rfl, hD_c82⟩
                          obtain ⟨⟨-, -, ⟨x1_c82, e1_c82, a1_c82⟩, ⟨x2_c82, e2_c82, a2_c82⟩, ⟨x6_c82, e6_c82, a6_c82⟩, ⟨x7_c82, e7_c82, a7_c82⟩, ⟨x8_c82, e8_c82, a8_c82⟩, ⟨x9_c82, e9_c82, a9_c82⟩, ⟨x10_c82, e10_c82, a10_c82⟩, q1_c82, q2_c82, q3_c82, q4_c82⟩, qs_c82, qt_c82⟩ := hC_c82
                          have rw_83 := rw_43.fr fr_c82 (fun j9 _ _ => by unfold WKr; omega)
                          have f_84 := f_44.fr fr_c82 (fun j9 => by unfold WKr; omega)
                          have f_85 := f_45.frW fr_c82 (fun k9 j9 h9 => by unfold WKr at h9; omega)
                          have fr_93 := fr_53.tr (fr_c82.mono (fun _ _ h9 => Or.inl h9))
                          clear rw_43 f_44 f_45 e1_c42 e2_c42 e6_c42 e7_c42 e8_c42 e9_c42 e10_c42 fr_53
                          show WpN (gp g0 wp) CLS p l e R sW m args below meth c Q D_126.2.2.1 kc0 ks0 72 [some (.ref 54), some (.int cn), some (.int xv_c18), some (.int xv_c30), some (.int xv_c42), some (.int xv_c42)] (hs_c82, kcj + 1 + 1 + 2 + 1, ksj + 11 + 11 + 22 + 11) []
                          refine g_loadA act (gx gp_126 (w := 0x4903) rfl (by decide) rfl) (a := 0) (n := 73) rfl rfl rfl ?_
                          refine g_loadI act (gx gp_126 (w := 0x4004b02) rfl (by decide) rfl) (a := 4) (n := 75) rfl rfl rfl ?_
                          refine g_constI act (gx gp_126 (w := 0x400000c8400000c81000000004e01) rfl (by decide) rfl) (n := 78) (x := (400 : Int32)) (by decide) rfl ?_
                          have i4_c94 : (if wrd tx L s_c42 = wEMERGENCY then sNum tx L (Int32.toInt xv_c42) 400 (nxs tx L s_c42) else (0, s_c42, (Int32.toInt xv_c42))) = sNum tx L (Int32.toInt xv_c42) 400 s_c82 := by
                            rw [if_pos hwe_65, ← es_c82]
                          refine n_call tb_pres act hEnd (gx (P := G_call) gp_126 (w := 0x6000000000000c103300008000510f) rfl (by decide) rfl) (d' := D_128) rfl (f' := 9) (lam' := 142) (mc := 1) (ms := 11) (as := [.ref 54, .int xv_c42, .int (400 : Int32)]) (rest := []) (cx_number (lo := (Int32.toInt xv_c42)) (hi := 400) (rfl : Int32.toInt xv_c42 = _) (by decide) (show CT hs_c82 tx g L s_c82 s_c42 ec ep from ⟨(show CRD hs_c82 tx g L (tkK tx L s_c82) s_c82 (tkE tx L s_c82) s_c42 ec ep from ⟨rw_83, f_84, ⟨_, e1_c82, (by have q9 := a1_c82; omega)⟩, ⟨_, e2_c82, (by have q9 := a2_c82; omega)⟩, ⟨_, e6_c82, (by have q9 := a6_c82; omega)⟩, ⟨_, e7_c82, (by have q9 := a7_c82; omega)⟩, ⟨_, e8_c82, (by have q9 := a8_c82; omega)⟩, ⟨_, e9_c82, (by have q9 := a9_c82; omega)⟩, ⟨_, e10_c82, (by have q9 := a10_c82; omega)⟩, by omega, by omega, by omega, by omega⟩), by omega, by omega⟩)) (show (3 : Nat) = fb 0x6000000000000c103300008000510f % 16 by decide) (by show (3 : Nat) ≤ 4; decide) (fun _ => ⟨_, _, rfl, _, shp_at rw_83.1, Or.inr (show fb 0x6000000000000c103300008000510f >>> 68 = 6 by decide)⟩) (by omega) (by show 8 + (4 + 11) + 142 ≤ R.locals; omega) (by show (0 : Nat) ≤ 8; decide) (by show kcj + 1 + 1 + 2 + 1 + 1 ≤ _; omega) (by show ksj + 11 + 11 + 22 + 11 + 11 ≤ _; omega) (fun r9 hs_c95 hpo hr9 => ?_) (fun x9 hs9 hx9 hpo => ?_)
                          · obtain ⟨-, hr_c95, ⟨xv_c95, rfl, hv_c95⟩, hD_c95, fr_c95⟩ := hpo.resolve_right (fun z => absurd z.1 (by decide))
                            obtain ⟨s_c95, es_c95, hC_c95⟩ : ∃ z : Int, z = ((sNum tx L (Int32.toInt xv_c42) 400 s_c82)).2.1 ∧ CT hs_c95 tx g L z s_c82 ec ep := ⟨_, rfl, hD_c95⟩
                            obtain ⟨⟨-, -, ⟨x1_c95, e1_c95, a1_c95⟩, ⟨x2_c95, e2_c95, a2_c95⟩, ⟨x6_c95, e6_c95, a6_c95⟩, ⟨x7_c95, e7_c95, a7_c95⟩, ⟨x8_c95, e8_c95, a8_c95⟩, ⟨x9_c95, e9_c95, a9_c95⟩, ⟨x10_c95, e10_c95, a10_c95⟩, q1_c95, q2_c95, q3_c95, q4_c95⟩, qs_c95, qt_c95⟩ := hC_c95
                            have rw_96 := rw_83.fr fr_c95 (fun j9 _ _ => by unfold WKr; omega)
                            have f_97 := f_84.fr fr_c95 (fun j9 => by unfold WKr; omega)
                            have f_98 := f_85.frW fr_c95 (fun k9 j9 h9 => by unfold WKr at h9; omega)
                            have fr_106 := fr_93.tr (fr_c95.mono (fun _ _ h9 => Or.inl h9))
                            clear rw_83 f_84 f_85 e1_c82 e2_c82 e6_c82 e7_c82 e8_c82 e9_c82 e10_c82 fr_93
                            show WpN (gp g0 wp) CLS p l e R sW m args below meth c Q D_126.2.2.1 kc0 ks0 81 [some (.ref 54), some (.int cn), some (.int xv_c18), some (.int xv_c30), some (.int xv_c42), some (.int xv_c42)] (hs_c95, kcj + 1 + 1 + 2 + 1 + 1, ksj + 11 + 11 + 22 + 11 + 11) [.int xv_c95]
                            refine g_storeI act (gx gp_126 (w := 0x5005310) rfl (by decide) rfl) (a := 5) (n := 83) rfl rfl (L2 := [some (.ref 54), some (.int cn), some (.int xv_c18), some (.int xv_c30), some (.int xv_c42), some (.int xv_c95)]) rfl ?_
                            refine g_loadA act (gx gp_126 (w := 0x5403) rfl (by decide) rfl) (a := 0) (n := 84) rfl rfl rfl ?_
                            refine n_call tb_pres act hEnd (gx (P := G_call) gp_126 (w := 0x60000000000008041100008400570f) rfl (by decide) rfl) (d' := D_132) rfl (f' := 9) (lam' := 142) (mc := 1) (ms := 11) (as := [.ref 54]) (rest := []) (cx_semi (show CT hs_c95 tx g L s_c95 s_c82 ec ep from ⟨(show CRD hs_c95 tx g L (tkK tx L s_c95) s_c95 (tkE tx L s_c95) s_c82 ec ep from ⟨rw_96, f_97, ⟨_, e1_c95, (by have q9 := a1_c95; omega)⟩, ⟨_, e2_c95, (by have q9 := a2_c95; omega)⟩, ⟨_, e6_c95, (by have q9 := a6_c95; omega)⟩, ⟨_, e7_c95, (by have q9 := a7_c95; omega)⟩, ⟨_, e8_c95, (by have q9 := a8_c95; omega)⟩, ⟨_, e9_c95, (by have q9 := a9_c95; omega)⟩, ⟨_, e10_c95, (by have q9 := a10_c95; omega)⟩, by omega, by omega, by omega, by omega⟩), by omega, by omega⟩)) (show (1 : Nat) = fb 0x60000000000008041100008400570f % 16 by decide) (by show (1 : Nat) ≤ 1; decide) (fun _ => ⟨_, _, rfl, _, shp_at rw_96.1, Or.inr (show fb 0x60000000000008041100008400570f >>> 68 = 6 by decide)⟩) (by omega) (by show 8 + (1 + 11) + 142 ≤ R.locals; omega) (by show (0 : Nat) ≤ 8; decide) (by show kcj + 1 + 1 + 2 + 1 + 1 + 1 ≤ _; omega) (by show ksj + 11 + 11 + 22 + 11 + 11 + 11 ≤ _; omega) (fun r9 hs_c107 hpo hr9 => ?_) (fun x9 hs9 hx9 hpo => ?_)
                            · obtain rfl : r9 = none := hr9.elim (fun q => q.2) (fun q => absurd rfl q.1)
                              obtain ⟨-, hr_c107, -, hD_c107, fr_c107⟩ := hpo.resolve_right (fun z => absurd z.1 (by decide))
                              obtain ⟨s_c107, es_c107, hC_c107⟩ : ∃ z : Int, z = ((sSem tx L s_c95)).2 ∧ CT hs_c107 tx g L z s_c95 ec ep := ⟨_, rfl, hD_c107⟩
                              obtain ⟨⟨-, -, ⟨x1_c107, e1_c107, a1_c107⟩, ⟨x2_c107, e2_c107, a2_c107⟩, ⟨x6_c107, e6_c107, a6_c107⟩, ⟨x7_c107, e7_c107, a7_c107⟩, ⟨x8_c107, e8_c107, a8_c107⟩, ⟨x9_c107, e9_c107, a9_c107⟩, ⟨x10_c107, e10_c107, a10_c107⟩, q1_c107, q2_c107, q3_c107, q4_c107⟩, qs_c107, qt_c107⟩ := hC_c107
                              have rw_108 := rw_96.fr fr_c107 (fun j9 _ _ => by unfold WKr; omega)
                              have f_109 := f_97.fr fr_c107 (fun j9 => by unfold WKr; omega)
                              have f_110 := f_98.frW fr_c107 (fun k9 j9 h9 => by unfold WKr at h9; omega)
                              have fr_118 := fr_106.tr (fr_c107.mono (fun _ _ h9 => Or.inl h9))
                              clear rw_96 f_97 f_98 e1_c95 e2_c95 e6_c95 e7_c95 e8_c95 e9_c95 e10_c95 fr_106
                              show WpN (gp g0 wp) CLS p l e R sW m args below meth c Q D_126.2.2.1 kc0 ks0 87 [some (.ref 54), some (.int cn), some (.int xv_c18), some (.int xv_c30), some (.int xv_c42), some (.int xv_c95)] (hs_c107, kcj + 1 + 1 + 2 + 1 + 1 + 1, ksj + 11 + 11 + 22 + 11 + 11 + 11) []
                              refine g_loadA act (gx gp_126 (w := 0x5803) rfl (by decide) rfl) (a := 0) (n := 88) rfl rfl rfl ?_
                              refine r_getf act (gx gp_126 (w := 0x3000145005b04) rfl (by decide) rfl) (n := 91) (ci := 5) (j := 5) (N := 11) rfl rfl rfl rw_108.1 (by decide) (v := .ref g) rw_108.2.2.2.2 ?_
                              refine g_loadI act (gx gp_126 (w := 0x2005c02) rfl (by decide) rfl) (a := 2) (n := 92) rfl rfl rfl ?_
                              refine g_loadI act (gx gp_126 (w := 0x3005d02) rfl (by decide) rfl) (a := 3) (n := 93) rfl rfl rfl ?_
                              refine g_loadI act (gx gp_126 (w := 0x4005f02) rfl (by decide) rfl) (a := 4) (n := 95) rfl rfl rfl ?_
                              refine g_loadI act (gx gp_126 (w := 0x5006102) rfl (by decide) rfl) (a := 5) (n := 97) rfl rfl rfl ?_
                              refine n_call tb_pres act hEnd (gx (P := G_call) gp_126 (w := 0x50000000000008145500006000640f) rfl (by decide) rfl) (d' := D_96) rfl (f' := 0) (lam' := 0) (mc := 0) (ms := 0) (as := [.ref g, .int xv_c18, .int xv_c30, .int xv_c42, .int xv_c95]) (rest := []) (cx_addL (nl := nl) f_110 hF2 (by omega)) (show (5 : Nat) = fb 0x50000000000008145500006000640f % 16 by decide) (by show (5 : Nat) ≤ 5; decide) (fun _ => ⟨_, _, rfl, _, shp_at f_110.1.2.1, Or.inr (show fb 0x50000000000008145500006000640f >>> 68 = 5 by decide)⟩) (by omega) (by show 8 + (5 + 11) + 0 ≤ R.locals; omega) (by show (0 : Nat) ≤ 8; decide) (by show kcj + 1 + 1 + 2 + 1 + 1 + 1 + 0 ≤ _; omega) (by show ksj + 11 + 11 + 22 + 11 + 11 + 11 + 0 ≤ _; omega) (fun r9 hs_c119 hpo hr9 => ?_) (fun x9 hs9 hx9 hpo => ?_)
                              · obtain rfl : r9 = none := hr9.elim (fun q => q.2) (fun q => absurd rfl q.1)
                                obtain ⟨-, -, F_c119, hG_c119, fr_c119, eF_c119⟩ := hpo
                                have rw_120 := rw_108.fr fr_c119 (fun j9 _ _ => by unfold WGr; omega)
                                have f_121 := f_109.fr fr_c119 (fun j9 => by unfold WGr; omega)
                                have f_123 := (fr_c119.2.2 54 1 (by unfold WGr; omega)).trans e1_c107
                                have f_124 := (fr_c119.2.2 54 2 (by unfold WGr; omega)).trans e2_c107
                                have f_125 := (fr_c119.2.2 54 6 (by unfold WGr; omega)).trans e6_c107
                                have f_126 := (fr_c119.2.2 54 7 (by unfold WGr; omega)).trans e7_c107
                                have f_127 := (fr_c119.2.2 54 8 (by unfold WGr; omega)).trans e8_c107
                                have f_128 := (fr_c119.2.2 54 9 (by unfold WGr; omega)).trans e9_c107
                                have f_129 := (fr_c119.2.2 54 10 (by unfold WGr; omega)).trans e10_c107
                                have fr_130 := fr_118.tr (fr_c119.mono (fun _ _ h9 => Or.inr h9))
                                clear rw_108 f_109 f_110 e1_c107 e2_c107 e6_c107 e7_c107 e8_c107 e9_c107 e10_c107 fr_118
                                show WpN (gp g0 wp) CLS p l e R sW m args below meth c Q D_126.2.2.1 kc0 ks0 100 [some (.ref 54), some (.int cn), some (.int xv_c18), some (.int xv_c30), some (.int xv_c42), some (.int xv_c95)] (hs_c119, kcj + 1 + 1 + 2 + 1 + 1 + 1, ksj + 11 + 11 + 22 + 11 + 11 + 11) []
                                refine g_iinc act (gx gp_126 (w := 0x80000001000001006709) rfl (by decide) rfl) (a := 1) (i := (1 : Int32)) (n := 103) rfl (by decide) rfl rfl (L2 := [some (.ref 54), some (.int (cn + (1 : Int32))), some (.int xv_c18), some (.int xv_c30), some (.int xv_c42), some (.int xv_c95)]) rfl ?_
                                have v_131 := iv_addN hcn (show (1 : Int32).toInt = ((1 : Nat) : Int) from by decide) (show (nl + 1) < 2147483648 by omega)
                                refine g_goto act (gx gp_126 (w := 0x207) rfl (by decide) rfl) (n := 2) rfl ?_
                                have hok := sLine_ok (nl := nl) (d := (fvj, gvj)) hr_c18 es_c18 hv_c18 hr_c30 es_c30 hv_c30 hr_c42 es_c42 hv_c42 ((congrArg Prod.fst i4_c94).trans hr_c95) (es_c95.trans (congrArg (fun q => q.2.1) i4_c94).symm) (hv_c95.trans (congrArg (fun q => q.2.2) i4_c94).symm) hr_c107 es_c107
                                rw [es_c6] at hok
                                have hgo := sLines_go (by omega) hwj hok
                                have hrel := hRj.line (nl := nl) (by omega) (rfl : Int32.toInt xv_c18 = _) (rfl : Int32.toInt xv_c30 = _) (rfl : Int32.toInt xv_c42 = _) (rfl : Int32.toInt xv_c95 = _) (show (Fj 0 2 + (1 : Int32)).toInt = (((nl + 1) : Nat) : Int) from iv_addN hF2 (show (1 : Int32).toInt = ((1 : Nat) : Int) from by decide) (by omega))
                                rw [← eF_c119] at hrel
                                have hg1 := sNum_gt hr_c18
                                have hg2 := sOth_gt hr_c30
                                have hrg2 := hrg.up (by omega) (a := Int32.toInt xv_c18) (b := Int32.toInt xv_c30) (c := (((nl + 1) : Nat) : Int)) (by omega) (by omega) (by omega) (by omega) (by omega)
                                exact ih _ (by omega) _ (nl + 1) _ _ _ _ _ _ _ _ _ _ _ _ (show CT hs_c119 tx g L s_c107 s_c95 ec ep from ⟨(show CRD hs_c119 tx g L (tkK tx L s_c107) s_c107 (tkE tx L s_c107) s_c95 ec ep from ⟨rw_120, f_121, ⟨_, f_123, (by have q9 := a1_c107; omega)⟩, ⟨_, f_124, (by have q9 := a2_c107; omega)⟩, ⟨_, f_125, (by have q9 := a6_c107; omega)⟩, ⟨_, f_126, (by have q9 := a7_c107; omega)⟩, ⟨_, f_127, (by have q9 := a8_c107; omega)⟩, ⟨_, f_128, (by have q9 := a9_c107; omega)⟩, ⟨_, f_129, (by have q9 := a10_c107; omega)⟩, by omega, by omega, by omega, by omega⟩), by omega, by omega⟩) hG_c119 hrel v_131 (by omega) (by unfold upI; (repeat' split) <;> omega) ⟨(by unfold upI; (repeat' split) <;> omega), (by unfold upI; (repeat' split) <;> omega), (by unfold upI; (repeat' split) <;> omega), (by unfold upI; (repeat' split) <;> omega)⟩ hrg2 (hsp.trans hgo) fr_130 (by omega) (by omega) rfl
                              · exact absurd hpo.1 (by omega)
                            · obtain ⟨hk_c107, -, hn_c107, hE_c107, fr_c107⟩ := hpo.resolve_left (fun z => absurd z.1 (by omega))
                              have ft_c107 := fr_106.tr (fr_c107.mono (fun _ _ h9 => Or.inl h9))
                              obtain ⟨y1_c107, y2_c107⟩ := sLine_e5 (nl := nl) (d := (fvj, gvj)) hr_c18 es_c18 hv_c18 hr_c30 es_c30 hv_c30 hr_c42 es_c42 hv_c42 ((congrArg Prod.fst i4_c94).trans hr_c95) (es_c95.trans (congrArg (fun q => q.2.1) i4_c94).symm) (hv_c95.trans (congrArg (fun q => q.2.2) i4_c94).symm) hn_c107
                              obtain ⟨y3_c107, y4_c107⟩ := sLines_bad (nl := nl) (d := (fvj, gvj)) (by omega) hwj (by rw [← es_c6, y1_c107]; exact hn_c107)
                              rw [← es_c6, y1_c107] at y3_c107
                              rw [← es_c6, y2_c107] at y4_c107
                              refine Or.inr ⟨rfl, Or.inr ⟨by omega, rfl, by rw [hsp, y3_c107]; exact hn_c107, by rw [hsp, y3_c107, y4_c107]; exact hE_c107, ft_c107⟩, by show kcj + 1 + 1 + 2 + 1 + 1 + 1 ≤ kc + 49; omega, by show ksj + 11 + 11 + 22 + 11 + 11 + 11 ≤ ks + 539; omega⟩
                          · obtain ⟨hk_c95, -, hn_c95, hE_c95, fr_c95⟩ := hpo.resolve_left (fun z => absurd z.1 (by omega))
                            have ft_c95 := fr_93.tr (fr_c95.mono (fun _ _ h9 => Or.inl h9))
                            obtain ⟨y1_c95, y2_c95⟩ := sLine_e4 (nl := nl) (d := (fvj, gvj)) hr_c18 es_c18 hv_c18 hr_c30 es_c30 hv_c30 hr_c42 es_c42 hv_c42 (fun z => hn_c95 ((congrArg Prod.fst i4_c94).symm.trans z))
                            rw [i4_c94] at y1_c95 y2_c95
                            obtain ⟨y3_c95, y4_c95⟩ := sLines_bad (nl := nl) (d := (fvj, gvj)) (by omega) hwj (by rw [← es_c6, y1_c95]; exact hn_c95)
                            rw [← es_c6, y1_c95] at y3_c95
                            rw [← es_c6, y2_c95] at y4_c95
                            refine Or.inr ⟨rfl, Or.inr ⟨by omega, rfl, by rw [hsp, y3_c95]; exact hn_c95, by rw [hsp, y3_c95, y4_c95]; exact hE_c95, ft_c95⟩, by show kcj + 1 + 1 + 2 + 1 + 1 ≤ kc + 49; omega, by show ksj + 11 + 11 + 22 + 11 + 11 ≤ ks + 539; omega⟩
                        · exact absurd hpo.1 (by omega)
                    · exact absurd hpo.1 (by omega)
                  · obtain ⟨hk_c42, -, hn_c42, hE_c42, fr_c42⟩ := hpo.resolve_left (fun z => absurd z.1 (by omega))
                    have ft_c42 := fr_41.tr (fr_c42.mono (fun _ _ h9 => Or.inl h9))
                    obtain ⟨y1_c42, y2_c42⟩ := sLine_e3 (nl := nl) (d := (fvj, gvj)) hr_c18 es_c18 hv_c18 hr_c30 es_c30 hv_c30 hn_c42
                    obtain ⟨y3_c42, y4_c42⟩ := sLines_bad (nl := nl) (d := (fvj, gvj)) (by omega) hwj (by rw [← es_c6, y1_c42]; exact hn_c42)
                    rw [← es_c6, y1_c42] at y3_c42
                    rw [← es_c6, y2_c42] at y4_c42
                    refine Or.inr ⟨rfl, Or.inr ⟨by omega, rfl, by rw [hsp, y3_c42]; exact hn_c42, by rw [hsp, y3_c42, y4_c42]; exact hE_c42, ft_c42⟩, by show kcj + 1 + 1 + 2 + 1 ≤ kc + 49; omega, by show ksj + 11 + 11 + 22 + 11 ≤ ks + 539; omega⟩
                · obtain ⟨hk_c30, -, hn_c30, hE_c30, fr_c30⟩ := hpo.resolve_left (fun z => absurd z.1 (by omega))
                  have ft_c30 := fr_29.tr (fr_c30.mono (fun _ _ h9 => Or.inl h9))
                  obtain ⟨y1_c30, y2_c30⟩ := sLine_e2 (nl := nl) (d := (fvj, gvj)) hr_c18 es_c18 hv_c18 hn_c30
                  obtain ⟨y3_c30, y4_c30⟩ := sLines_bad (nl := nl) (d := (fvj, gvj)) (by omega) hwj (by rw [← es_c6, y1_c30]; exact hn_c30)
                  rw [← es_c6, y1_c30] at y3_c30
                  rw [← es_c6, y2_c30] at y4_c30
                  refine Or.inr ⟨rfl, Or.inr ⟨by omega, rfl, by rw [hsp, y3_c30]; exact hn_c30, by rw [hsp, y3_c30, y4_c30]; exact hE_c30, ft_c30⟩, by show kcj + 1 + 1 + 2 ≤ kc + 49; omega, by show ksj + 11 + 11 + 22 ≤ ks + 539; omega⟩
              · obtain ⟨hk_c18, -, hn_c18, hE_c18, fr_c18⟩ := hpo.resolve_left (fun z => absurd z.1 (by omega))
                have ft_c18 := fr_17.tr (fr_c18.mono (fun _ _ h9 => Or.inl h9))
                obtain ⟨y1_c18, y2_c18⟩ := sLine_e1 (nl := nl) (d := (fvj, gvj))  hn_c18
                obtain ⟨y3_c18, y4_c18⟩ := sLines_bad (nl := nl) (d := (fvj, gvj)) (by omega) hwj (by rw [← es_c6, y1_c18]; exact hn_c18)
                rw [← es_c6, y1_c18] at y3_c18
                rw [← es_c6, y2_c18] at y4_c18
                refine Or.inr ⟨rfl, Or.inr ⟨by omega, rfl, by rw [hsp, y3_c18]; exact hn_c18, by rw [hsp, y3_c18, y4_c18]; exact hE_c18, ft_c18⟩, by show kcj + 1 + 1 ≤ kc + 49; omega, by show ksj + 11 + 11 ≤ ks + 539; omega⟩
            · exact absurd hpo.1 (by omega)
          · obtain ⟨hk_c5, -, hm_c5, hE_c5, fr_c5⟩ := hpo.resolve_left (fun z => absurd z.1 (by omega))
            have ft_c5 := hfr.tr (fr_c5.mono (fun _ _ h9 => Or.inl h9))
            have hf_c5 := sLines_full (tx := tx) (L := L) (s := sj) (nl := nl) (d := (fvj, gvj)) (by omega) hwj
            refine Or.inr ⟨rfl, Or.inr ⟨by omega, rfl, by rw [hsp, hf_c5]; show (3 : Int) ≠ 0; decide, by rw [hsp, hf_c5]; exact hE_c5, ft_c5⟩, by show kcj + 1 ≤ kc + 49; omega, by show ksj + 11 ≤ ks + 539; omega⟩
      · exact absurd hpo.1 (by omega)
  show WpN (gp g0 wp) CLS p l e R sW m args below meth c Q D_126.2.2.1 kc0 ks0 0 [some (.ref 54), none, none, none, none, none] (hs, kc, ks) []
  refine g_constI act (gx gp_126 (w := 0x40000000400000001000000000101) rfl (by decide) rfl) (n := 1) (x := (0 : Int32)) (by decide) rfl ?_
  refine g_storeI act (gx gp_126 (w := 0x1000210) rfl (by decide) rfl) (a := 1) (n := 2) rfl rfl (L2 := [some (.ref 54), some (.int (0 : Int32)), none, none, none, none]) rfl ?_
  exact loop hs 0 _ _ _ _ _ s P F fv gv _ _ hC hG hR (by decide) (by decide) h2 ⟨rfl, rfl, rfl, rfl⟩ (fun l hl => absurd hl (Nat.not_lt_zero l)) rfl (FrS.rf _ hs) (by omega) (by omega)

theorem cx_readGens {P : Int} {F : Nat → Nat → Int32} {fv gv : Nat → Int} {o : Int} (hn1 : 1 ≤ fv 0) (hn2 : fv 0 ≤ 4) (h2 : fv 3 = ((0 : Nat) : Int)) (hG : GIM hs g F) (hR : REL F fv gv o) (hC : CT hs tx g L s P ec ep) : BodyN SSX TBL g0 CLS bl xs l D_125 11 185 30 330 [.ref 54] hs (fun kd r h2 => (kd = 0 ∧ r = none ∧ ∃ (s2 P2 : Int) (F2 : Nat → Nat → Int32) (fv2 gv2 : Nat → Int) (nl2 : Nat), sGens tx L (5 + 1 - 0) s 0 (fv, gv) = (0, s2, (fv2, gv2), nl2) ∧ CT h2 tx g L s2 P2 ec ep ∧ GIM h2 g F2 ∧ REL F2 fv2 gv2 o ∧ nl2 ≤ 5 ∧ fv2 3 = (nl2 : Int) ∧ (∀ j, (j ≤ 2 ∨ j = 4 ∨ (5 ≤ j ∧ j < 17) ∨ 22 ≤ j) → fv2 j = fv j) ∧ FrS (WKG g) hs h2) ∨ (kd = 3 ∧ r = none ∧ (sGens tx L (5 + 1 - 0) s 0 (fv, gv)).1 ≠ 0 ∧ ER h2 tx g L (sGens tx L (5 + 1 - 0) s 0 (fv, gv)).1 (sGens tx L (5 + 1 - 0) s 0 (fv, gv)).2.1 ∧ FrS (WKG g) hs h2)) := by
  intro wp p e R sW m args below meth c Q kc0 ks0 kc ks act hf hl hc hsl hEnd
  have hf : 11 ≤ R.frames := hf
  have hl : 185 ≤ R.locals := hl
  have loop : ∀ (hj : List CE) (nl : Nat) (cn : Int32) (v2 v3 v4 : Option Value) (sj Pj : Int) (Fj : Nat → Nat → Int32) (fvj gvj : Nat → Int) (kcj ksj : Nat), CT hj tx g L sj Pj ec ep → GIM hj g Fj → REL Fj fvj gvj o → cn.toInt = (nl : Int) → nl ≤ 5 → fvj 3 = (nl : Int) → (∀ j, (j ≤ 2 ∨ j = 4 ∨ (5 ≤ j ∧ j < 17) ∨ 22 ≤ j) → fvj j = fv j) → sGens tx L (5 + 1 - 0) s 0 (fv, gv) = sGens tx L (5 + 1 - nl) sj nl (fvj, gvj) → FrS (WKG g) hs hj → kcj ≤ kc + 5 * nl → ksj ≤ ks + 55 * nl → WpN (gp g0 wp) CLS p l e R sW m args below meth c Q D_125.2.2.1 kc0 ks0 2 [some (.ref 54), some (.int cn), v2, v3, v4] (hj, kcj, ksj) [] := by
    intro hj nl cn v2 v3 v4 sj Pj Fj fvj gvj kcj ksj hCj hGj hRj hcn hnl h2j hkp hsp hfr hkc hks
    generalize hm : 5 - nl = m9
    induction m9 using Nat.strongRecOn generalizing hj nl cn v2 v3 v4 sj Pj Fj fvj gvj kcj ksj with
    | _ m9 ih =>
    subst hm
    have hg0 := hGj.1.1
    have hF2 : (Fj 0 3).toInt = (nl : Int) := hRj.2.2.2.1.trans h2j
    have hkp9 := hkp 0 (by omega)
    obtain ⟨hP_t1, qt_1, qu_1⟩ := hCj
    have qv_1 := tkE_le (T := tx) (L := L) (s := sj) (by omega)
    obtain ⟨rw_2, hT_2, ⟨x1_2, e1_2, a1_2⟩, ⟨x2_2, e2_2, a2_2⟩, ⟨x6_2, e6_2, a6_2⟩, ⟨x7_2, e7_2, a7_2⟩, ⟨x8_2, e8_2, a8_2⟩, ⟨x9_2, e9_2, a9_2⟩, ⟨x10_2, e10_2, a10_2⟩, q1_2, q2_2, q3_2, q4_2⟩ := hP_t1
    refine g_loadI act (gx gp_125 (w := 0x1000302) rfl (by decide) rfl) (a := 1) (n := 3) rfl rfl rfl ?_
    refine g_constI act (gx gp_125 (w := 0x40000002c00000029000000000401) rfl (by decide) rfl) (n := 4) (x := (5 : Int32)) (by decide) rfl ?_
    refine g_icmpGt act (gx gp_125 (w := 0x4c00072b) rfl (by decide) rfl) (tgt := 76) (n := 7) rfl rfl (fun h3 => ?_) (fun h3 => ?_)
    · simp only [i_lt, show (5 : Int32).toInt = 5 from by decide] at h3
      exfalso; omega
    · simp only [i_lt, show (5 : Int32).toInt = 5 from by decide] at h3
      refine g_loadA act (gx gp_125 (w := 0x803) rfl (by decide) rfl) (a := 0) (n := 8) rfl rfl rfl ?_
      refine g_str act (gx gp_125 (w := 0x7000000000a01) rfl (by decide) rfl) (n := 10) (by decide) rfl (fun i_3 k_3 t_3 hd_3 hk_3 => ?_)
      obtain rfl : i_3 = 138 := by
        have q9 := (show decode D_125.2.1 8 = .ok (.ldc 138, 2) from by decide +kernel).symm.trans hd_3
        cases q9
        rfl
      obtain rfl : k_3 = 12 := (lit_ix _ _ _ hk_3).1 rfl
      refine n_call tb_pres act hEnd (gx (P := G_call) gp_125 (w := 0x6000000000000c0c2200007b000d0f) rfl (by decide) rfl) (d' := D_123) rfl (f' := 4) (lam' := 100) (mc := 0) (ms := 0) (as := [.ref 54, .ref (litK 12)]) (rest := []) (cx_isw (i := 12) (by decide) (by decide) (show CT hj tx g L sj Pj ec ep from ⟨(show CRD hj tx g L (tkK tx L sj) sj (tkE tx L sj) Pj ec ep from ⟨rw_2, hT_2, ⟨_, e1_2, (by have q9 := a1_2; omega)⟩, ⟨_, e2_2, (by have q9 := a2_2; omega)⟩, ⟨_, e6_2, (by have q9 := a6_2; omega)⟩, ⟨_, e7_2, (by have q9 := a7_2; omega)⟩, ⟨_, e8_2, (by have q9 := a8_2; omega)⟩, ⟨_, e9_2, (by have q9 := a9_2; omega)⟩, ⟨_, e10_2, (by have q9 := a10_2; omega)⟩, by omega, by omega, by omega, by omega⟩), by omega, by omega⟩)) (show (2 : Nat) = fb 0x6000000000000c0c2200007b000d0f % 16 by decide) (by show (2 : Nat) ≤ 3; decide) (fun _ => ⟨_, _, rfl, _, shp_at rw_2.1, Or.inr (show fb 0x6000000000000c0c2200007b000d0f >>> 68 = 6 by decide)⟩) (by omega) (by show 8 + (3 + 11) + 100 ≤ R.locals; omega) (by show (0 : Nat) ≤ 8; decide) (by show kcj + 0 ≤ _; omega) (by show ksj + 0 ≤ _; omega) (fun r9 h3 hpo hr9 => ?_) (fun x9 hs9 hx9 hpo => ?_)
      · obtain ⟨-, rfl, xv_c4, rfl, hw_c4⟩ := hpo
        rw [show lwd 12 = wGENERATOR from lwd_all.1] at hw_c4
        show WpN (gp g0 wp) CLS p l e R sW m args below meth c Q D_125.2.2.1 kc0 ks0 13 [some (.ref 54), some (.int cn), v2, v3, v4] (hj, kcj, ksj) [.int xv_c4]
        refine g_ifEq act (gx gp_125 (w := 0x4c00100e) rfl (by decide) rfl) (tgt := 76) (n := 16) rfl rfl (fun hw13 => ?_) (fun hw13 => ?_)
        · simp only [i_eq, i0] at hw13
          have hno := sGens_no (tx := tx) (L := L) (s := sj) (nl := nl) (d := (fvj, gvj)) (by omega) (by omega)
          exact g_retV hEnd (gx gp_125 (w := 0x18) rfl (by decide) rfl) (Or.inl ⟨rfl, rfl, sj, Pj, Fj, fvj, gvj, nl, hsp.trans hno, (show CT hj tx g L sj Pj ec ep from ⟨(show CRD hj tx g L (tkK tx L sj) sj (tkE tx L sj) Pj ec ep from ⟨rw_2, hT_2, ⟨_, e1_2, (by have q9 := a1_2; omega)⟩, ⟨_, e2_2, (by have q9 := a2_2; omega)⟩, ⟨_, e6_2, (by have q9 := a6_2; omega)⟩, ⟨_, e7_2, (by have q9 := a7_2; omega)⟩, ⟨_, e8_2, (by have q9 := a8_2; omega)⟩, ⟨_, e9_2, (by have q9 := a9_2; omega)⟩, ⟨_, e10_2, (by have q9 := a10_2; omega)⟩, by omega, by omega, by omega, by omega⟩), by omega, by omega⟩), hGj, hRj, by omega, h2j, hkp, hfr⟩) (by show kcj ≤ kc + 30; omega) (by show ksj ≤ ks + 330; omega)
        · simp only [i_eq, i0] at hw13
          have hwj : wrd tx L sj = wGENERATOR := by omega
          refine g_loadA act (gx gp_125 (w := 0x1103) rfl (by decide) rfl) (a := 0) (n := 17) rfl rfl rfl ?_
          refine g_loadA act (gx gp_125 (w := 0x1203) rfl (by decide) rfl) (a := 0) (n := 18) rfl rfl rfl ?_
          refine r_getf act (gx gp_125 (w := 0x3000145001504) rfl (by decide) rfl) (n := 21) (ci := 5) (j := 5) (N := 11) rfl rfl rfl rw_2.1 (by decide) (v := .ref g) rw_2.2.2.2.2 ?_
          refine r_getf act (gx gp_125 (w := 0xc4001804) rfl (by decide) rfl) (n := 24) (ci := 4) (j := 3) (N := 18) rfl rfl rfl hGj.1.2.1 (by decide) (v := .int (Fj 0 3)) (hGj.2 0 3 (Or.inl ⟨rfl, by decide⟩)) ?_
          refine g_constI act (gx gp_125 (w := 0x40000002c00000029000000001901) rfl (by decide) rfl) (n := 25) (x := (5 : Int32)) (by decide) rfl ?_
          refine n_call tb_pres act hEnd (gx (P := G_call) gp_125 (w := 0x600000000000080c33000079001c0f) rfl (by decide) rfl) (d' := D_121) rfl (f' := 9) (lam' := 142) (mc := 1) (ms := 11) (as := [.ref 54, .int (Fj 0 3), .int (5 : Int32)]) (rest := []) (cx_room (us := ((nl : Nat) : Int)) (mo := ((5 : Nat) : Int)) hF2 (show (5 : Int32).toInt = ((5 : Nat) : Int) from by decide) (show CT hj tx g L sj Pj ec ep from ⟨(show CRD hj tx g L (tkK tx L sj) sj (tkE tx L sj) Pj ec ep from ⟨rw_2, hT_2, ⟨_, e1_2, (by have q9 := a1_2; omega)⟩, ⟨_, e2_2, (by have q9 := a2_2; omega)⟩, ⟨_, e6_2, (by have q9 := a6_2; omega)⟩, ⟨_, e7_2, (by have q9 := a7_2; omega)⟩, ⟨_, e8_2, (by have q9 := a8_2; omega)⟩, ⟨_, e9_2, (by have q9 := a9_2; omega)⟩, ⟨_, e10_2, (by have q9 := a10_2; omega)⟩, by omega, by omega, by omega, by omega⟩), by omega, by omega⟩)) (show (3 : Nat) = fb 0x600000000000080c33000079001c0f % 16 by decide) (by show (3 : Nat) ≤ 3; decide) (fun _ => ⟨_, _, rfl, _, shp_at rw_2.1, Or.inr (show fb 0x600000000000080c33000079001c0f >>> 68 = 6 by decide)⟩) (by omega) (by show 8 + (3 + 11) + 142 ≤ R.locals; omega) (by show (0 : Nat) ≤ 8; decide) (by show kcj + 1 ≤ _; omega) (by show ksj + 11 ≤ _; omega) (fun r9 h3 hpo hr9 => ?_) (fun x9 hs9 hx9 hpo => ?_)
          · obtain rfl : r9 = none := hr9.elim (fun q => q.2) (fun q => absurd rfl q.1)
            obtain ⟨-, -, hm_c5, rfl⟩ := hpo.resolve_right (fun z => absurd z.1 (by decide))
            show WpN (gp g0 wp) CLS p l e R sW m args below meth c Q D_125.2.2.1 kc0 ks0 28 [some (.ref 54), some (.int cn), v2, v3, v4] (hj, kcj + 1, ksj + 11) []
            refine g_loadA act (gx gp_125 (w := 0x1d03) rfl (by decide) rfl) (a := 0) (n := 29) rfl rfl rfl ?_
            refine n_call tb_pres act hEnd (gx (P := G_call) gp_125 (w := 0x60000000000008081100007700200f) rfl (by decide) rfl) (d' := D_119) rfl (f' := 1) (lam' := 22) (mc := 0) (ms := 0) (as := [.ref 54]) (rest := []) (cx_advance (show CRD hj tx g L (tkK tx L sj) sj (tkE tx L sj) Pj ec ep from ⟨rw_2, hT_2, ⟨_, e1_2, a1_2⟩, ⟨_, e2_2, a2_2⟩, ⟨_, e6_2, a6_2⟩, ⟨_, e7_2, a7_2⟩, ⟨_, e8_2, a8_2⟩, ⟨_, e9_2, a9_2⟩, ⟨_, e10_2, a10_2⟩, by omega, by omega, by omega, by omega⟩)) (show (1 : Nat) = fb 0x60000000000008081100007700200f % 16 by decide) (by show (1 : Nat) ≤ 2; decide) (fun _ => ⟨_, _, rfl, _, shp_at rw_2.1, Or.inr (show fb 0x60000000000008081100007700200f >>> 68 = 6 by decide)⟩) (by omega) (by show 8 + (2 + 11) + 22 ≤ R.locals; omega) (by show (0 : Nat) ≤ 8; decide) (by show kcj + 1 + 0 ≤ _; omega) (by show ksj + 11 + 0 ≤ _; omega) (fun r9 hs_c6 hpo hr9 => ?_) (fun x9 hs9 hx9 hpo => ?_)
            · obtain rfl : r9 = none := hr9.elim (fun q => q.2) (fun q => absurd rfl q.1)
              obtain ⟨-, -, hD_c6, fr_c6⟩ := hpo
              obtain ⟨s_c6, es_c6, hC_c6⟩ : ∃ z : Int, z = nxs tx L sj ∧ CT hs_c6 tx g L z sj ec ep := ⟨_, rfl, hD_c6⟩
              obtain ⟨⟨-, -, ⟨x1_c6, e1_c6, a1_c6⟩, ⟨x2_c6, e2_c6, a2_c6⟩, ⟨x6_c6, e6_c6, a6_c6⟩, ⟨x7_c6, e7_c6, a7_c6⟩, ⟨x8_c6, e8_c6, a8_c6⟩, ⟨x9_c6, e9_c6, a9_c6⟩, ⟨x10_c6, e10_c6, a10_c6⟩, q1_c6, q2_c6, q3_c6, q4_c6⟩, qs_c6, qt_c6⟩ := hC_c6
              have rw_7 := rw_2.fr fr_c6 (fun j9 _ _ => by unfold WKr; omega)
              have f_8 := hT_2.fr fr_c6 (fun j9 => by unfold WKr; omega)
              have f_16 := hGj.frW fr_c6 (fun k9 j9 h9 => by unfold WKr at h9; omega)
              have fr_17 := hfr.tr (fr_c6.mono (fun _ _ h9 => Or.inl h9))
              clear rw_2 hT_2 e1_2 e2_2 e6_2 e7_2 e8_2 e9_2 e10_2 hGj hfr
              show WpN (gp g0 wp) CLS p l e R sW m args below meth c Q D_125.2.2.1 kc0 ks0 32 [some (.ref 54), some (.int cn), v2, v3, v4] (hs_c6, kcj + 1, ksj + 11) []
              refine g_loadA act (gx gp_125 (w := 0x2103) rfl (by decide) rfl) (a := 0) (n := 33) rfl rfl rfl ?_
              refine n_call tb_pres act hEnd (gx (P := G_call) gp_125 (w := 0x6000000000000c041100007f00240f) rfl (by decide) rfl) (d' := D_127) rfl (f' := 10) (lam' := 165) (mc := 1) (ms := 11) (as := [.ref 54]) (rest := []) (cx_node (n0 := fvj 0) f_16 hRj.1 (by omega) (by omega) (show CT hs_c6 tx g L s_c6 sj ec ep from ⟨(show CRD hs_c6 tx g L (tkK tx L s_c6) s_c6 (tkE tx L s_c6) sj ec ep from ⟨rw_7, f_8, ⟨_, e1_c6, (by have q9 := a1_c6; omega)⟩, ⟨_, e2_c6, (by have q9 := a2_c6; omega)⟩, ⟨_, e6_c6, (by have q9 := a6_c6; omega)⟩, ⟨_, e7_c6, (by have q9 := a7_c6; omega)⟩, ⟨_, e8_c6, (by have q9 := a8_c6; omega)⟩, ⟨_, e9_c6, (by have q9 := a9_c6; omega)⟩, ⟨_, e10_c6, (by have q9 := a10_c6; omega)⟩, by omega, by omega, by omega, by omega⟩), by omega, by omega⟩)) (show (1 : Nat) = fb 0x6000000000000c041100007f00240f % 16 by decide) (by show (1 : Nat) ≤ 1; decide) (fun _ => ⟨_, _, rfl, _, shp_at rw_7.1, Or.inr (show fb 0x6000000000000c041100007f00240f >>> 68 = 6 by decide)⟩) (by omega) (by show 8 + (1 + 11) + 165 ≤ R.locals; omega) (by show (0 : Nat) ≤ 8; decide) (by show kcj + 1 + 1 ≤ _; omega) (by show ksj + 11 + 11 ≤ _; omega) (fun r9 hs_c18 hpo hr9 => ?_) (fun x9 hs9 hx9 hpo => ?_)
              · obtain ⟨-, hr_c18, ⟨xv_c18, rfl, hv_c18⟩, hD_c18, fr_c18⟩ := hpo.resolve_right (fun z => absurd z.1 (by decide))
                obtain ⟨s_c18, es_c18, hC_c18⟩ : ∃ z : Int, z = ((sNum tx L 0 (fvj 0 - 1) s_c6)).2.1 ∧ CT hs_c18 tx g L z s_c6 ec ep := ⟨_, rfl, hD_c18⟩
                obtain ⟨⟨-, -, ⟨x1_c18, e1_c18, a1_c18⟩, ⟨x2_c18, e2_c18, a2_c18⟩, ⟨x6_c18, e6_c18, a6_c18⟩, ⟨x7_c18, e7_c18, a7_c18⟩, ⟨x8_c18, e8_c18, a8_c18⟩, ⟨x9_c18, e9_c18, a9_c18⟩, ⟨x10_c18, e10_c18, a10_c18⟩, q1_c18, q2_c18, q3_c18, q4_c18⟩, qs_c18, qt_c18⟩ := hC_c18
                have rw_19 := rw_7.fr fr_c18 (fun j9 _ _ => by unfold WKr; omega)
                have f_20 := f_8.fr fr_c18 (fun j9 => by unfold WKr; omega)
                have f_21 := f_16.frW fr_c18 (fun k9 j9 h9 => by unfold WKr at h9; omega)
                have fr_29 := fr_17.tr (fr_c18.mono (fun _ _ h9 => Or.inl h9))
                clear rw_7 f_8 f_16 e1_c6 e2_c6 e6_c6 e7_c6 e8_c6 e9_c6 e10_c6 fr_17
                show WpN (gp g0 wp) CLS p l e R sW m args below meth c Q D_125.2.2.1 kc0 ks0 36 [some (.ref 54), some (.int cn), v2, v3, v4] (hs_c18, kcj + 1 + 1, ksj + 11 + 11) [.int xv_c18]
                refine g_storeI act (gx gp_125 (w := 0x2002510) rfl (by decide) rfl) (a := 2) (n := 37) rfl rfl (L2 := [some (.ref 54), some (.int cn), some (.int xv_c18), v3, v4]) rfl ?_
                refine g_loadA act (gx gp_125 (w := 0x2603) rfl (by decide) rfl) (a := 0) (n := 38) rfl rfl rfl ?_
                refine g_constI act (gx gp_125 (w := 0x40000000400000001000000002701) rfl (by decide) rfl) (n := 39) (x := (0 : Int32)) (by decide) rfl ?_
                refine g_constI act (gx gp_125 (w := 0x40000031c00000319000000002901) rfl (by decide) rfl) (n := 41) (x := (99 : Int32)) (by decide) rfl ?_
                refine n_call tb_pres act hEnd (gx (P := G_call) gp_125 (w := 0x6000000000000c1033000080002c0f) rfl (by decide) rfl) (d' := D_128) rfl (f' := 9) (lam' := 142) (mc := 1) (ms := 11) (as := [.ref 54, .int (0 : Int32), .int (99 : Int32)]) (rest := []) (cx_number (lo := 0) (hi := 99) (by decide) (by decide) (show CT hs_c18 tx g L s_c18 s_c6 ec ep from ⟨(show CRD hs_c18 tx g L (tkK tx L s_c18) s_c18 (tkE tx L s_c18) s_c6 ec ep from ⟨rw_19, f_20, ⟨_, e1_c18, (by have q9 := a1_c18; omega)⟩, ⟨_, e2_c18, (by have q9 := a2_c18; omega)⟩, ⟨_, e6_c18, (by have q9 := a6_c18; omega)⟩, ⟨_, e7_c18, (by have q9 := a7_c18; omega)⟩, ⟨_, e8_c18, (by have q9 := a8_c18; omega)⟩, ⟨_, e9_c18, (by have q9 := a9_c18; omega)⟩, ⟨_, e10_c18, (by have q9 := a10_c18; omega)⟩, by omega, by omega, by omega, by omega⟩), by omega, by omega⟩)) (show (3 : Nat) = fb 0x6000000000000c1033000080002c0f % 16 by decide) (by show (3 : Nat) ≤ 4; decide) (fun _ => ⟨_, _, rfl, _, shp_at rw_19.1, Or.inr (show fb 0x6000000000000c1033000080002c0f >>> 68 = 6 by decide)⟩) (by omega) (by show 8 + (4 + 11) + 142 ≤ R.locals; omega) (by show (0 : Nat) ≤ 8; decide) (by show kcj + 1 + 1 + 1 ≤ _; omega) (by show ksj + 11 + 11 + 11 ≤ _; omega) (fun r9 hs_c30 hpo hr9 => ?_) (fun x9 hs9 hx9 hpo => ?_)
                · obtain ⟨-, hr_c30, ⟨xv_c30, rfl, hv_c30⟩, hD_c30, fr_c30⟩ := hpo.resolve_right (fun z => absurd z.1 (by decide))
                  obtain ⟨s_c30, es_c30, hC_c30⟩ : ∃ z : Int, z = ((sNum tx L 0 99 s_c18)).2.1 ∧ CT hs_c30 tx g L z s_c18 ec ep := ⟨_, rfl, hD_c30⟩
                  obtain ⟨⟨-, -, ⟨x1_c30, e1_c30, a1_c30⟩, ⟨x2_c30, e2_c30, a2_c30⟩, ⟨x6_c30, e6_c30, a6_c30⟩, ⟨x7_c30, e7_c30, a7_c30⟩, ⟨x8_c30, e8_c30, a8_c30⟩, ⟨x9_c30, e9_c30, a9_c30⟩, ⟨x10_c30, e10_c30, a10_c30⟩, q1_c30, q2_c30, q3_c30, q4_c30⟩, qs_c30, qt_c30⟩ := hC_c30
                  have rw_31 := rw_19.fr fr_c30 (fun j9 _ _ => by unfold WKr; omega)
                  have f_32 := f_20.fr fr_c30 (fun j9 => by unfold WKr; omega)
                  have f_33 := f_21.frW fr_c30 (fun k9 j9 h9 => by unfold WKr at h9; omega)
                  have fr_41 := fr_29.tr (fr_c30.mono (fun _ _ h9 => Or.inl h9))
                  clear rw_19 f_20 f_21 e1_c18 e2_c18 e6_c18 e7_c18 e8_c18 e9_c18 e10_c18 fr_29
                  show WpN (gp g0 wp) CLS p l e R sW m args below meth c Q D_125.2.2.1 kc0 ks0 44 [some (.ref 54), some (.int cn), some (.int xv_c18), v3, v4] (hs_c30, kcj + 1 + 1 + 1, ksj + 11 + 11 + 11) [.int xv_c30]
                  refine g_storeI act (gx gp_125 (w := 0x3002d10) rfl (by decide) rfl) (a := 3) (n := 45) rfl rfl (L2 := [some (.ref 54), some (.int cn), some (.int xv_c18), some (.int xv_c30), v4]) rfl ?_
                  refine g_loadA act (gx gp_125 (w := 0x2e03) rfl (by decide) rfl) (a := 0) (n := 46) rfl rfl rfl ?_
                  refine g_constI act (gx gp_125 (w := 0x40000000c00000009000000002f01) rfl (by decide) rfl) (n := 47) (x := (1 : Int32)) (by decide) rfl ?_
                  refine g_constI act (gx gp_125 (w := 0x40000064400000641000000003201) rfl (by decide) rfl) (n := 50) (x := (200 : Int32)) (by decide) rfl ?_
                  refine n_call tb_pres act hEnd (gx (P := G_call) gp_125 (w := 0x6000000000000c103300008000350f) rfl (by decide) rfl) (d' := D_128) rfl (f' := 9) (lam' := 142) (mc := 1) (ms := 11) (as := [.ref 54, .int (1 : Int32), .int (200 : Int32)]) (rest := []) (cx_number (lo := 1) (hi := 200) (by decide) (by decide) (show CT hs_c30 tx g L s_c30 s_c18 ec ep from ⟨(show CRD hs_c30 tx g L (tkK tx L s_c30) s_c30 (tkE tx L s_c30) s_c18 ec ep from ⟨rw_31, f_32, ⟨_, e1_c30, (by have q9 := a1_c30; omega)⟩, ⟨_, e2_c30, (by have q9 := a2_c30; omega)⟩, ⟨_, e6_c30, (by have q9 := a6_c30; omega)⟩, ⟨_, e7_c30, (by have q9 := a7_c30; omega)⟩, ⟨_, e8_c30, (by have q9 := a8_c30; omega)⟩, ⟨_, e9_c30, (by have q9 := a9_c30; omega)⟩, ⟨_, e10_c30, (by have q9 := a10_c30; omega)⟩, by omega, by omega, by omega, by omega⟩), by omega, by omega⟩)) (show (3 : Nat) = fb 0x6000000000000c103300008000350f % 16 by decide) (by show (3 : Nat) ≤ 4; decide) (fun _ => ⟨_, _, rfl, _, shp_at rw_31.1, Or.inr (show fb 0x6000000000000c103300008000350f >>> 68 = 6 by decide)⟩) (by omega) (by show 8 + (4 + 11) + 142 ≤ R.locals; omega) (by show (0 : Nat) ≤ 8; decide) (by show kcj + 1 + 1 + 1 + 1 ≤ _; omega) (by show ksj + 11 + 11 + 11 + 11 ≤ _; omega) (fun r9 hs_c42 hpo hr9 => ?_) (fun x9 hs9 hx9 hpo => ?_)
                  · obtain ⟨-, hr_c42, ⟨xv_c42, rfl, hv_c42⟩, hD_c42, fr_c42⟩ := hpo.resolve_right (fun z => absurd z.1 (by decide))
                    obtain ⟨s_c42, es_c42, hC_c42⟩ : ∃ z : Int, z = ((sNum tx L 1 200 s_c30)).2.1 ∧ CT hs_c42 tx g L z s_c30 ec ep := ⟨_, rfl, hD_c42⟩
                    obtain ⟨⟨-, -, ⟨x1_c42, e1_c42, a1_c42⟩, ⟨x2_c42, e2_c42, a2_c42⟩, ⟨x6_c42, e6_c42, a6_c42⟩, ⟨x7_c42, e7_c42, a7_c42⟩, ⟨x8_c42, e8_c42, a8_c42⟩, ⟨x9_c42, e9_c42, a9_c42⟩, ⟨x10_c42, e10_c42, a10_c42⟩, q1_c42, q2_c42, q3_c42, q4_c42⟩, qs_c42, qt_c42⟩ := hC_c42
                    have rw_43 := rw_31.fr fr_c42 (fun j9 _ _ => by unfold WKr; omega)
                    have f_44 := f_32.fr fr_c42 (fun j9 => by unfold WKr; omega)
                    have f_45 := f_33.frW fr_c42 (fun k9 j9 h9 => by unfold WKr at h9; omega)
                    have fr_53 := fr_41.tr (fr_c42.mono (fun _ _ h9 => Or.inl h9))
                    clear rw_31 f_32 f_33 e1_c30 e2_c30 e6_c30 e7_c30 e8_c30 e9_c30 e10_c30 fr_41
                    show WpN (gp g0 wp) CLS p l e R sW m args below meth c Q D_125.2.2.1 kc0 ks0 53 [some (.ref 54), some (.int cn), some (.int xv_c18), some (.int xv_c30), v4] (hs_c42, kcj + 1 + 1 + 1 + 1, ksj + 11 + 11 + 11 + 11) [.int xv_c42]
                    refine g_storeI act (gx gp_125 (w := 0x4003710) rfl (by decide) rfl) (a := 4) (n := 55) rfl rfl (L2 := [some (.ref 54), some (.int cn), some (.int xv_c18), some (.int xv_c30), some (.int xv_c42)]) rfl ?_
                    refine g_loadA act (gx gp_125 (w := 0x3803) rfl (by decide) rfl) (a := 0) (n := 56) rfl rfl rfl ?_
                    refine n_call tb_pres act hEnd (gx (P := G_call) gp_125 (w := 0x600000000000080411000084003b0f) rfl (by decide) rfl) (d' := D_132) rfl (f' := 9) (lam' := 142) (mc := 1) (ms := 11) (as := [.ref 54]) (rest := []) (cx_semi (show CT hs_c42 tx g L s_c42 s_c30 ec ep from ⟨(show CRD hs_c42 tx g L (tkK tx L s_c42) s_c42 (tkE tx L s_c42) s_c30 ec ep from ⟨rw_43, f_44, ⟨_, e1_c42, (by have q9 := a1_c42; omega)⟩, ⟨_, e2_c42, (by have q9 := a2_c42; omega)⟩, ⟨_, e6_c42, (by have q9 := a6_c42; omega)⟩, ⟨_, e7_c42, (by have q9 := a7_c42; omega)⟩, ⟨_, e8_c42, (by have q9 := a8_c42; omega)⟩, ⟨_, e9_c42, (by have q9 := a9_c42; omega)⟩, ⟨_, e10_c42, (by have q9 := a10_c42; omega)⟩, by omega, by omega, by omega, by omega⟩), by omega, by omega⟩)) (show (1 : Nat) = fb 0x600000000000080411000084003b0f % 16 by decide) (by show (1 : Nat) ≤ 1; decide) (fun _ => ⟨_, _, rfl, _, shp_at rw_43.1, Or.inr (show fb 0x600000000000080411000084003b0f >>> 68 = 6 by decide)⟩) (by omega) (by show 8 + (1 + 11) + 142 ≤ R.locals; omega) (by show (0 : Nat) ≤ 8; decide) (by show kcj + 1 + 1 + 1 + 1 + 1 ≤ _; omega) (by show ksj + 11 + 11 + 11 + 11 + 11 ≤ _; omega) (fun r9 hs_c54 hpo hr9 => ?_) (fun x9 hs9 hx9 hpo => ?_)
                    · obtain rfl : r9 = none := hr9.elim (fun q => q.2) (fun q => absurd rfl q.1)
                      obtain ⟨-, hr_c54, -, hD_c54, fr_c54⟩ := hpo.resolve_right (fun z => absurd z.1 (by decide))
                      obtain ⟨s_c54, es_c54, hC_c54⟩ : ∃ z : Int, z = ((sSem tx L s_c42)).2 ∧ CT hs_c54 tx g L z s_c42 ec ep := ⟨_, rfl, hD_c54⟩
                      obtain ⟨⟨-, -, ⟨x1_c54, e1_c54, a1_c54⟩, ⟨x2_c54, e2_c54, a2_c54⟩, ⟨x6_c54, e6_c54, a6_c54⟩, ⟨x7_c54, e7_c54, a7_c54⟩, ⟨x8_c54, e8_c54, a8_c54⟩, ⟨x9_c54, e9_c54, a9_c54⟩, ⟨x10_c54, e10_c54, a10_c54⟩, q1_c54, q2_c54, q3_c54, q4_c54⟩, qs_c54, qt_c54⟩ := hC_c54
                      have rw_55 := rw_43.fr fr_c54 (fun j9 _ _ => by unfold WKr; omega)
                      have f_56 := f_44.fr fr_c54 (fun j9 => by unfold WKr; omega)
                      have f_57 := f_45.frW fr_c54 (fun k9 j9 h9 => by unfold WKr at h9; omega)
                      have fr_65 := fr_53.tr (fr_c54.mono (fun _ _ h9 => Or.inl h9))
                      clear rw_43 f_44 f_45 e1_c42 e2_c42 e6_c42 e7_c42 e8_c42 e9_c42 e10_c42 fr_53
                      show WpN (gp g0 wp) CLS p l e R sW m args below meth c Q D_125.2.2.1 kc0 ks0 59 [some (.ref 54), some (.int cn), some (.int xv_c18), some (.int xv_c30), some (.int xv_c42)] (hs_c54, kcj + 1 + 1 + 1 + 1 + 1, ksj + 11 + 11 + 11 + 11 + 11) []
                      refine g_loadA act (gx gp_125 (w := 0x3c03) rfl (by decide) rfl) (a := 0) (n := 60) rfl rfl rfl ?_
                      refine r_getf act (gx gp_125 (w := 0x3000145003f04) rfl (by decide) rfl) (n := 63) (ci := 5) (j := 5) (N := 11) rfl rfl rfl rw_55.1 (by decide) (v := .ref g) rw_55.2.2.2.2 ?_
                      refine g_loadI act (gx gp_125 (w := 0x2004002) rfl (by decide) rfl) (a := 2) (n := 64) rfl rfl rfl ?_
                      refine g_loadI act (gx gp_125 (w := 0x3004102) rfl (by decide) rfl) (a := 3) (n := 65) rfl rfl rfl ?_
                      refine g_loadI act (gx gp_125 (w := 0x4004302) rfl (by decide) rfl) (a := 4) (n := 67) rfl rfl rfl ?_
                      refine n_call tb_pres act hEnd (gx (P := G_call) gp_125 (w := 0x50000000000008104400005f00460f) rfl (by decide) rfl) (d' := D_95) rfl (f' := 0) (lam' := 0) (mc := 0) (ms := 0) (as := [.ref g, .int xv_c18, .int xv_c30, .int xv_c42]) (rest := []) (cx_addG (nl := nl) f_57 hF2 (by omega)) (show (4 : Nat) = fb 0x50000000000008104400005f00460f % 16 by decide) (by show (4 : Nat) ≤ 4; decide) (fun _ => ⟨_, _, rfl, _, shp_at f_57.1.2.1, Or.inr (show fb 0x50000000000008104400005f00460f >>> 68 = 5 by decide)⟩) (by omega) (by show 8 + (4 + 11) + 0 ≤ R.locals; omega) (by show (0 : Nat) ≤ 8; decide) (by show kcj + 1 + 1 + 1 + 1 + 1 + 0 ≤ _; omega) (by show ksj + 11 + 11 + 11 + 11 + 11 + 0 ≤ _; omega) (fun r9 hs_c66 hpo hr9 => ?_) (fun x9 hs9 hx9 hpo => ?_)
                      · obtain rfl : r9 = none := hr9.elim (fun q => q.2) (fun q => absurd rfl q.1)
                        obtain ⟨-, -, F_c66, hG_c66, fr_c66, eF_c66⟩ := hpo
                        have rw_67 := rw_55.fr fr_c66 (fun j9 _ _ => by unfold WGr; omega)
                        have f_68 := f_56.fr fr_c66 (fun j9 => by unfold WGr; omega)
                        have f_70 := (fr_c66.2.2 54 1 (by unfold WGr; omega)).trans e1_c54
                        have f_71 := (fr_c66.2.2 54 2 (by unfold WGr; omega)).trans e2_c54
                        have f_72 := (fr_c66.2.2 54 6 (by unfold WGr; omega)).trans e6_c54
                        have f_73 := (fr_c66.2.2 54 7 (by unfold WGr; omega)).trans e7_c54
                        have f_74 := (fr_c66.2.2 54 8 (by unfold WGr; omega)).trans e8_c54
                        have f_75 := (fr_c66.2.2 54 9 (by unfold WGr; omega)).trans e9_c54
                        have f_76 := (fr_c66.2.2 54 10 (by unfold WGr; omega)).trans e10_c54
                        have fr_77 := fr_65.tr (fr_c66.mono (fun _ _ h9 => Or.inr h9))
                        clear rw_55 f_56 f_57 e1_c54 e2_c54 e6_c54 e7_c54 e8_c54 e9_c54 e10_c54 fr_65
                        show WpN (gp g0 wp) CLS p l e R sW m args below meth c Q D_125.2.2.1 kc0 ks0 70 [some (.ref 54), some (.int cn), some (.int xv_c18), some (.int xv_c30), some (.int xv_c42)] (hs_c66, kcj + 1 + 1 + 1 + 1 + 1, ksj + 11 + 11 + 11 + 11 + 11) []
                        refine g_iinc act (gx gp_125 (w := 0x80000001000001004909) rfl (by decide) rfl) (a := 1) (i := (1 : Int32)) (n := 73) rfl (by decide) rfl rfl (L2 := [some (.ref 54), some (.int (cn + (1 : Int32))), some (.int xv_c18), some (.int xv_c30), some (.int xv_c42)]) rfl ?_
                        have v_78 := iv_addN hcn (show (1 : Int32).toInt = ((1 : Nat) : Int) from by decide) (show (nl + 1) < 2147483648 by omega)
                        refine g_goto act (gx gp_125 (w := 0x207) rfl (by decide) rfl) (n := 2) rfl ?_
                        have hok := sGen_ok (nl := nl) (d := (fvj, gvj)) hr_c18 es_c18 hv_c18 hr_c30 es_c30 hv_c30 hr_c42 es_c42 hv_c42 hr_c54 es_c54
                        rw [es_c6] at hok
                        have hgo := sGens_go (by omega) hwj hok
                        have hrel := hRj.gen (nl := nl) (by omega) (rfl : Int32.toInt xv_c18 = _) (rfl : Int32.toInt xv_c30 = _) (rfl : Int32.toInt xv_c42 = _) (show (Fj 0 3 + (1 : Int32)).toInt = (((nl + 1) : Nat) : Int) from iv_addN hF2 (show (1 : Int32).toInt = ((1 : Nat) : Int) from by decide) (by omega))
                        rw [← eF_c66] at hrel
                        exact ih _ (by omega) _ (nl + 1) _ _ _ _ _ _ _ _ _ _ _ (show CT hs_c66 tx g L s_c54 s_c42 ec ep from ⟨(show CRD hs_c66 tx g L (tkK tx L s_c54) s_c54 (tkE tx L s_c54) s_c42 ec ep from ⟨rw_67, f_68, ⟨_, f_70, (by have q9 := a1_c54; omega)⟩, ⟨_, f_71, (by have q9 := a2_c54; omega)⟩, ⟨_, f_72, (by have q9 := a6_c54; omega)⟩, ⟨_, f_73, (by have q9 := a7_c54; omega)⟩, ⟨_, f_74, (by have q9 := a8_c54; omega)⟩, ⟨_, f_75, (by have q9 := a9_c54; omega)⟩, ⟨_, f_76, (by have q9 := a10_c54; omega)⟩, by omega, by omega, by omega, by omega⟩), by omega, by omega⟩) hG_c66 hrel v_78 (by omega) (by unfold upI; (repeat' split) <;> omega) (fun j hj => by have q9 := hkp j hj; unfold upI; (repeat' split) <;> omega) (hsp.trans hgo) fr_77 (by omega) (by omega) rfl
                      · exact absurd hpo.1 (by omega)
                    · obtain ⟨hk_c54, -, hn_c54, hE_c54, fr_c54⟩ := hpo.resolve_left (fun z => absurd z.1 (by omega))
                      have ft_c54 := fr_53.tr (fr_c54.mono (fun _ _ h9 => Or.inl h9))
                      obtain ⟨y1_c54, y2_c54⟩ := sGen_e4 (nl := nl) (d := (fvj, gvj)) hr_c18 es_c18 hv_c18 hr_c30 es_c30 hv_c30 hr_c42 es_c42 hv_c42 hn_c54
                      obtain ⟨y3_c54, y4_c54⟩ := sGens_bad (nl := nl) (d := (fvj, gvj)) (by omega) hwj (by rw [← es_c6, y1_c54]; exact hn_c54)
                      rw [← es_c6, y1_c54] at y3_c54
                      rw [← es_c6, y2_c54] at y4_c54
                      refine Or.inr ⟨rfl, Or.inr ⟨by omega, rfl, by rw [hsp, y3_c54]; exact hn_c54, by rw [hsp, y3_c54, y4_c54]; exact hE_c54, ft_c54⟩, by show kcj + 1 + 1 + 1 + 1 + 1 ≤ kc + 30; omega, by show ksj + 11 + 11 + 11 + 11 + 11 ≤ ks + 330; omega⟩
                  · obtain ⟨hk_c42, -, hn_c42, hE_c42, fr_c42⟩ := hpo.resolve_left (fun z => absurd z.1 (by omega))
                    have ft_c42 := fr_41.tr (fr_c42.mono (fun _ _ h9 => Or.inl h9))
                    obtain ⟨y1_c42, y2_c42⟩ := sGen_e3 (nl := nl) (d := (fvj, gvj)) hr_c18 es_c18 hv_c18 hr_c30 es_c30 hv_c30 hn_c42
                    obtain ⟨y3_c42, y4_c42⟩ := sGens_bad (nl := nl) (d := (fvj, gvj)) (by omega) hwj (by rw [← es_c6, y1_c42]; exact hn_c42)
                    rw [← es_c6, y1_c42] at y3_c42
                    rw [← es_c6, y2_c42] at y4_c42
                    refine Or.inr ⟨rfl, Or.inr ⟨by omega, rfl, by rw [hsp, y3_c42]; exact hn_c42, by rw [hsp, y3_c42, y4_c42]; exact hE_c42, ft_c42⟩, by show kcj + 1 + 1 + 1 + 1 ≤ kc + 30; omega, by show ksj + 11 + 11 + 11 + 11 ≤ ks + 330; omega⟩
                · obtain ⟨hk_c30, -, hn_c30, hE_c30, fr_c30⟩ := hpo.resolve_left (fun z => absurd z.1 (by omega))
                  have ft_c30 := fr_29.tr (fr_c30.mono (fun _ _ h9 => Or.inl h9))
                  obtain ⟨y1_c30, y2_c30⟩ := sGen_e2 (nl := nl) (d := (fvj, gvj)) hr_c18 es_c18 hv_c18 hn_c30
                  obtain ⟨y3_c30, y4_c30⟩ := sGens_bad (nl := nl) (d := (fvj, gvj)) (by omega) hwj (by rw [← es_c6, y1_c30]; exact hn_c30)
                  rw [← es_c6, y1_c30] at y3_c30
                  rw [← es_c6, y2_c30] at y4_c30
                  refine Or.inr ⟨rfl, Or.inr ⟨by omega, rfl, by rw [hsp, y3_c30]; exact hn_c30, by rw [hsp, y3_c30, y4_c30]; exact hE_c30, ft_c30⟩, by show kcj + 1 + 1 + 1 ≤ kc + 30; omega, by show ksj + 11 + 11 + 11 ≤ ks + 330; omega⟩
              · obtain ⟨hk_c18, -, hn_c18, hE_c18, fr_c18⟩ := hpo.resolve_left (fun z => absurd z.1 (by omega))
                have ft_c18 := fr_17.tr (fr_c18.mono (fun _ _ h9 => Or.inl h9))
                obtain ⟨y1_c18, y2_c18⟩ := sGen_e1 (nl := nl) (d := (fvj, gvj))  hn_c18
                obtain ⟨y3_c18, y4_c18⟩ := sGens_bad (nl := nl) (d := (fvj, gvj)) (by omega) hwj (by rw [← es_c6, y1_c18]; exact hn_c18)
                rw [← es_c6, y1_c18] at y3_c18
                rw [← es_c6, y2_c18] at y4_c18
                refine Or.inr ⟨rfl, Or.inr ⟨by omega, rfl, by rw [hsp, y3_c18]; exact hn_c18, by rw [hsp, y3_c18, y4_c18]; exact hE_c18, ft_c18⟩, by show kcj + 1 + 1 ≤ kc + 30; omega, by show ksj + 11 + 11 ≤ ks + 330; omega⟩
            · exact absurd hpo.1 (by omega)
          · obtain ⟨hk_c5, -, hm_c5, hE_c5, fr_c5⟩ := hpo.resolve_left (fun z => absurd z.1 (by omega))
            have ft_c5 := hfr.tr (fr_c5.mono (fun _ _ h9 => Or.inl h9))
            have hf_c5 := sGens_full (tx := tx) (L := L) (s := sj) (nl := nl) (d := (fvj, gvj)) (by omega) hwj
            refine Or.inr ⟨rfl, Or.inr ⟨by omega, rfl, by rw [hsp, hf_c5]; show (3 : Int) ≠ 0; decide, by rw [hsp, hf_c5]; exact hE_c5, ft_c5⟩, by show kcj + 1 ≤ kc + 30; omega, by show ksj + 11 ≤ ks + 330; omega⟩
      · exact absurd hpo.1 (by omega)
  show WpN (gp g0 wp) CLS p l e R sW m args below meth c Q D_125.2.2.1 kc0 ks0 0 [some (.ref 54), none, none, none, none] (hs, kc, ks) []
  refine g_constI act (gx gp_125 (w := 0x40000000400000001000000000101) rfl (by decide) rfl) (n := 1) (x := (0 : Int32)) (by decide) rfl ?_
  refine g_storeI act (gx gp_125 (w := 0x1000210) rfl (by decide) rfl) (a := 1) (n := 2) rfl rfl (L2 := [some (.ref 54), some (.int (0 : Int32)), none, none, none]) rfl ?_
  exact loop hs 0 _ _ _ _ s P F fv gv _ _ hC hG hR (by decide) (by decide) h2 (fun _ _ => rfl) rfl (FrS.rf _ hs) (by omega) (by omega)

theorem cx_readRigs {P : Int} {F : Nat → Nat → Int32} {fv gv : Nat → Int} {o : Int} (hn1 : 1 ≤ fv 0) (hn2 : fv 0 ≤ 4) (h2 : fv 4 = ((0 : Nat) : Int)) (hG : GIM hs g F) (hR : REL F fv gv o) (hC : CT hs tx g L s P ec ep) : BodyN SSX TBL g0 CLS bl xs l D_131 11 187 49 539 [.ref 54] hs (fun kd r h2 => (kd = 0 ∧ r = none ∧ ∃ (s2 P2 : Int) (F2 : Nat → Nat → Int32) (fv2 gv2 : Nat → Int) (nl2 : Nat), sRigs tx L (6 + 1 - 0) s 0 (fv, gv) = (0, s2, (fv2, gv2), nl2) ∧ CT h2 tx g L s2 P2 ec ep ∧ GIM h2 g F2 ∧ REL F2 fv2 gv2 o ∧ nl2 ≤ 6 ∧ fv2 4 = (nl2 : Int) ∧ (∀ j, (j ≤ 3 ∨ (5 ≤ j ∧ j < 22)) → fv2 j = fv j) ∧ gv2 = gv ∧ FrS (WKG g) hs h2) ∨ (kd = 3 ∧ r = none ∧ (sRigs tx L (6 + 1 - 0) s 0 (fv, gv)).1 ≠ 0 ∧ ER h2 tx g L (sRigs tx L (6 + 1 - 0) s 0 (fv, gv)).1 (sRigs tx L (6 + 1 - 0) s 0 (fv, gv)).2.1 ∧ FrS (WKG g) hs h2)) := by
  intro wp p e R sW m args below meth c Q kc0 ks0 kc ks act hf hl hc hsl hEnd
  have hf : 11 ≤ R.frames := hf
  have hl : 187 ≤ R.locals := hl
  have loop : ∀ (hj : List CE) (nl : Nat) (cn : Int32) (v2 v3 v4 v5 : Option Value) (sj Pj : Int) (Fj : Nat → Nat → Int32) (fvj gvj : Nat → Int) (kcj ksj : Nat), CT hj tx g L sj Pj ec ep → GIM hj g Fj → REL Fj fvj gvj o → cn.toInt = (nl : Int) → nl ≤ 6 → fvj 4 = (nl : Int) → (∀ j, (j ≤ 3 ∨ (5 ≤ j ∧ j < 22)) → fvj j = fv j) ∧ gvj = gv → sRigs tx L (6 + 1 - 0) s 0 (fv, gv) = sRigs tx L (6 + 1 - nl) sj nl (fvj, gvj) → FrS (WKG g) hs hj → kcj ≤ kc + 7 * nl → ksj ≤ ks + 77 * nl → WpN (gp g0 wp) CLS p l e R sW m args below meth c Q D_131.2.2.1 kc0 ks0 2 [some (.ref 54), some (.int cn), v2, v3, v4, v5] (hj, kcj, ksj) [] := by
    intro hj nl cn v2 v3 v4 v5 sj Pj Fj fvj gvj kcj ksj hCj hGj hRj hcn hnl h2j hkp hsp hfr hkc hks
    generalize hm : 6 - nl = m9
    induction m9 using Nat.strongRecOn generalizing hj nl cn v2 v3 v4 v5 sj Pj Fj fvj gvj kcj ksj with
    | _ m9 ih =>
    subst hm
    have hg0 := hGj.1.1
    have hF2 : (Fj 0 4).toInt = (nl : Int) := hRj.2.2.2.2.1.trans h2j
    have hkp9 := hkp.1 0 (by omega)
    obtain ⟨hP_t1, qt_1, qu_1⟩ := hCj
    have qv_1 := tkE_le (T := tx) (L := L) (s := sj) (by omega)
    obtain ⟨rw_2, hT_2, ⟨x1_2, e1_2, a1_2⟩, ⟨x2_2, e2_2, a2_2⟩, ⟨x6_2, e6_2, a6_2⟩, ⟨x7_2, e7_2, a7_2⟩, ⟨x8_2, e8_2, a8_2⟩, ⟨x9_2, e9_2, a9_2⟩, ⟨x10_2, e10_2, a10_2⟩, q1_2, q2_2, q3_2, q4_2⟩ := hP_t1
    refine g_loadI act (gx gp_131 (w := 0x1000302) rfl (by decide) rfl) (a := 1) (n := 3) rfl rfl rfl ?_
    refine g_constI act (gx gp_131 (w := 0x40000003400000031000000000501) rfl (by decide) rfl) (n := 5) (x := (6 : Int32)) (by decide) rfl ?_
    refine g_icmpGt act (gx gp_131 (w := 0x5500082b) rfl (by decide) rfl) (tgt := 85) (n := 8) rfl rfl (fun h3 => ?_) (fun h3 => ?_)
    · simp only [i_lt, show (6 : Int32).toInt = 6 from by decide] at h3
      exfalso; omega
    · simp only [i_lt, show (6 : Int32).toInt = 6 from by decide] at h3
      refine g_loadA act (gx gp_131 (w := 0x903) rfl (by decide) rfl) (a := 0) (n := 9) rfl rfl rfl ?_
      refine g_str act (gx gp_131 (w := 0x7000000000b01) rfl (by decide) rfl) (n := 11) (by decide) rfl (fun i_3 k_3 t_3 hd_3 hk_3 => ?_)
      obtain rfl : i_3 = 142 := by
        have q9 := (show decode D_131.2.1 9 = .ok (.ldc 142, 2) from by decide +kernel).symm.trans hd_3
        cases q9
        rfl
      obtain rfl : k_3 = 14 := (lit_ix _ _ _ hk_3).2.2.1 rfl
      refine n_call tb_pres act hEnd (gx (P := G_call) gp_131 (w := 0x6000000000000c0c2200007b000e0f) rfl (by decide) rfl) (d' := D_123) rfl (f' := 4) (lam' := 100) (mc := 0) (ms := 0) (as := [.ref 54, .ref (litK 14)]) (rest := []) (cx_isw (i := 14) (by decide) (by decide) (show CT hj tx g L sj Pj ec ep from ⟨(show CRD hj tx g L (tkK tx L sj) sj (tkE tx L sj) Pj ec ep from ⟨rw_2, hT_2, ⟨_, e1_2, (by have q9 := a1_2; omega)⟩, ⟨_, e2_2, (by have q9 := a2_2; omega)⟩, ⟨_, e6_2, (by have q9 := a6_2; omega)⟩, ⟨_, e7_2, (by have q9 := a7_2; omega)⟩, ⟨_, e8_2, (by have q9 := a8_2; omega)⟩, ⟨_, e9_2, (by have q9 := a9_2; omega)⟩, ⟨_, e10_2, (by have q9 := a10_2; omega)⟩, by omega, by omega, by omega, by omega⟩), by omega, by omega⟩)) (show (2 : Nat) = fb 0x6000000000000c0c2200007b000e0f % 16 by decide) (by show (2 : Nat) ≤ 3; decide) (fun _ => ⟨_, _, rfl, _, shp_at rw_2.1, Or.inr (show fb 0x6000000000000c0c2200007b000e0f >>> 68 = 6 by decide)⟩) (by omega) (by show 8 + (3 + 11) + 100 ≤ R.locals; omega) (by show (0 : Nat) ≤ 8; decide) (by show kcj + 0 ≤ _; omega) (by show ksj + 0 ≤ _; omega) (fun r9 h3 hpo hr9 => ?_) (fun x9 hs9 hx9 hpo => ?_)
      · obtain ⟨-, rfl, xv_c4, rfl, hw_c4⟩ := hpo
        rw [show lwd 14 = wRIGHT from lwd_all.2.2.1] at hw_c4
        show WpN (gp g0 wp) CLS p l e R sW m args below meth c Q D_131.2.2.1 kc0 ks0 14 [some (.ref 54), some (.int cn), v2, v3, v4, v5] (hj, kcj, ksj) [.int xv_c4]
        refine g_ifEq act (gx gp_131 (w := 0x5500110e) rfl (by decide) rfl) (tgt := 85) (n := 17) rfl rfl (fun hw14 => ?_) (fun hw14 => ?_)
        · simp only [i_eq, i0] at hw14
          have hno := sRigs_no (tx := tx) (L := L) (s := sj) (nl := nl) (d := (fvj, gvj)) (by omega) (by omega)
          exact g_retV hEnd (gx gp_131 (w := 0x18) rfl (by decide) rfl) (Or.inl ⟨rfl, rfl, sj, Pj, Fj, fvj, gvj, nl, hsp.trans hno, (show CT hj tx g L sj Pj ec ep from ⟨(show CRD hj tx g L (tkK tx L sj) sj (tkE tx L sj) Pj ec ep from ⟨rw_2, hT_2, ⟨_, e1_2, (by have q9 := a1_2; omega)⟩, ⟨_, e2_2, (by have q9 := a2_2; omega)⟩, ⟨_, e6_2, (by have q9 := a6_2; omega)⟩, ⟨_, e7_2, (by have q9 := a7_2; omega)⟩, ⟨_, e8_2, (by have q9 := a8_2; omega)⟩, ⟨_, e9_2, (by have q9 := a9_2; omega)⟩, ⟨_, e10_2, (by have q9 := a10_2; omega)⟩, by omega, by omega, by omega, by omega⟩), by omega, by omega⟩), hGj, hRj, by omega, h2j, hkp.1, hkp.2, hfr⟩) (by show kcj ≤ kc + 49; omega) (by show ksj ≤ ks + 539; omega)
        · simp only [i_eq, i0] at hw14
          have hwj : wrd tx L sj = wRIGHT := by omega
          refine g_loadA act (gx gp_131 (w := 0x1203) rfl (by decide) rfl) (a := 0) (n := 18) rfl rfl rfl ?_
          refine g_loadA act (gx gp_131 (w := 0x1303) rfl (by decide) rfl) (a := 0) (n := 19) rfl rfl rfl ?_
          refine r_getf act (gx gp_131 (w := 0x3000145001604) rfl (by decide) rfl) (n := 22) (ci := 5) (j := 5) (N := 11) rfl rfl rfl rw_2.1 (by decide) (v := .ref g) rw_2.2.2.2.2 ?_
          refine r_getf act (gx gp_131 (w := 0x104001904) rfl (by decide) rfl) (n := 25) (ci := 4) (j := 4) (N := 18) rfl rfl rfl hGj.1.2.1 (by decide) (v := .int (Fj 0 4)) (hGj.2 0 4 (Or.inl ⟨rfl, by decide⟩)) ?_
          refine g_constI act (gx gp_131 (w := 0x40000003400000031000000001b01) rfl (by decide) rfl) (n := 27) (x := (6 : Int32)) (by decide) rfl ?_
          refine n_call tb_pres act hEnd (gx (P := G_call) gp_131 (w := 0x600000000000080c33000079001e0f) rfl (by decide) rfl) (d' := D_121) rfl (f' := 9) (lam' := 142) (mc := 1) (ms := 11) (as := [.ref 54, .int (Fj 0 4), .int (6 : Int32)]) (rest := []) (cx_room (us := ((nl : Nat) : Int)) (mo := ((6 : Nat) : Int)) hF2 (show (6 : Int32).toInt = ((6 : Nat) : Int) from by decide) (show CT hj tx g L sj Pj ec ep from ⟨(show CRD hj tx g L (tkK tx L sj) sj (tkE tx L sj) Pj ec ep from ⟨rw_2, hT_2, ⟨_, e1_2, (by have q9 := a1_2; omega)⟩, ⟨_, e2_2, (by have q9 := a2_2; omega)⟩, ⟨_, e6_2, (by have q9 := a6_2; omega)⟩, ⟨_, e7_2, (by have q9 := a7_2; omega)⟩, ⟨_, e8_2, (by have q9 := a8_2; omega)⟩, ⟨_, e9_2, (by have q9 := a9_2; omega)⟩, ⟨_, e10_2, (by have q9 := a10_2; omega)⟩, by omega, by omega, by omega, by omega⟩), by omega, by omega⟩)) (show (3 : Nat) = fb 0x600000000000080c33000079001e0f % 16 by decide) (by show (3 : Nat) ≤ 3; decide) (fun _ => ⟨_, _, rfl, _, shp_at rw_2.1, Or.inr (show fb 0x600000000000080c33000079001e0f >>> 68 = 6 by decide)⟩) (by omega) (by show 8 + (3 + 11) + 142 ≤ R.locals; omega) (by show (0 : Nat) ≤ 8; decide) (by show kcj + 1 ≤ _; omega) (by show ksj + 11 ≤ _; omega) (fun r9 h3 hpo hr9 => ?_) (fun x9 hs9 hx9 hpo => ?_)
          · obtain rfl : r9 = none := hr9.elim (fun q => q.2) (fun q => absurd rfl q.1)
            obtain ⟨-, -, hm_c5, rfl⟩ := hpo.resolve_right (fun z => absurd z.1 (by decide))
            show WpN (gp g0 wp) CLS p l e R sW m args below meth c Q D_131.2.2.1 kc0 ks0 30 [some (.ref 54), some (.int cn), v2, v3, v4, v5] (hj, kcj + 1, ksj + 11) []
            refine g_loadA act (gx gp_131 (w := 0x1f03) rfl (by decide) rfl) (a := 0) (n := 31) rfl rfl rfl ?_
            refine n_call tb_pres act hEnd (gx (P := G_call) gp_131 (w := 0x60000000000008081100007700220f) rfl (by decide) rfl) (d' := D_119) rfl (f' := 1) (lam' := 22) (mc := 0) (ms := 0) (as := [.ref 54]) (rest := []) (cx_advance (show CRD hj tx g L (tkK tx L sj) sj (tkE tx L sj) Pj ec ep from ⟨rw_2, hT_2, ⟨_, e1_2, a1_2⟩, ⟨_, e2_2, a2_2⟩, ⟨_, e6_2, a6_2⟩, ⟨_, e7_2, a7_2⟩, ⟨_, e8_2, a8_2⟩, ⟨_, e9_2, a9_2⟩, ⟨_, e10_2, a10_2⟩, by omega, by omega, by omega, by omega⟩)) (show (1 : Nat) = fb 0x60000000000008081100007700220f % 16 by decide) (by show (1 : Nat) ≤ 2; decide) (fun _ => ⟨_, _, rfl, _, shp_at rw_2.1, Or.inr (show fb 0x60000000000008081100007700220f >>> 68 = 6 by decide)⟩) (by omega) (by show 8 + (2 + 11) + 22 ≤ R.locals; omega) (by show (0 : Nat) ≤ 8; decide) (by show kcj + 1 + 0 ≤ _; omega) (by show ksj + 11 + 0 ≤ _; omega) (fun r9 hs_c6 hpo hr9 => ?_) (fun x9 hs9 hx9 hpo => ?_)
            · obtain rfl : r9 = none := hr9.elim (fun q => q.2) (fun q => absurd rfl q.1)
              obtain ⟨-, -, hD_c6, fr_c6⟩ := hpo
              obtain ⟨s_c6, es_c6, hC_c6⟩ : ∃ z : Int, z = nxs tx L sj ∧ CT hs_c6 tx g L z sj ec ep := ⟨_, rfl, hD_c6⟩
              obtain ⟨⟨-, -, ⟨x1_c6, e1_c6, a1_c6⟩, ⟨x2_c6, e2_c6, a2_c6⟩, ⟨x6_c6, e6_c6, a6_c6⟩, ⟨x7_c6, e7_c6, a7_c6⟩, ⟨x8_c6, e8_c6, a8_c6⟩, ⟨x9_c6, e9_c6, a9_c6⟩, ⟨x10_c6, e10_c6, a10_c6⟩, q1_c6, q2_c6, q3_c6, q4_c6⟩, qs_c6, qt_c6⟩ := hC_c6
              have rw_7 := rw_2.fr fr_c6 (fun j9 _ _ => by unfold WKr; omega)
              have f_8 := hT_2.fr fr_c6 (fun j9 => by unfold WKr; omega)
              have f_16 := hGj.frW fr_c6 (fun k9 j9 h9 => by unfold WKr at h9; omega)
              have fr_17 := hfr.tr (fr_c6.mono (fun _ _ h9 => Or.inl h9))
              clear rw_2 hT_2 e1_2 e2_2 e6_2 e7_2 e8_2 e9_2 e10_2 hGj hfr
              show WpN (gp g0 wp) CLS p l e R sW m args below meth c Q D_131.2.2.1 kc0 ks0 34 [some (.ref 54), some (.int cn), v2, v3, v4, v5] (hs_c6, kcj + 1, ksj + 11) []
              refine g_loadA act (gx gp_131 (w := 0x2303) rfl (by decide) rfl) (a := 0) (n := 35) rfl rfl rfl ?_
              refine g_constI act (gx gp_131 (w := 0x40000000400000001000000002401) rfl (by decide) rfl) (n := 36) (x := (0 : Int32)) (by decide) rfl ?_
              refine g_constI act (gx gp_131 (w := 0x40000001c00000019000000002501) rfl (by decide) rfl) (n := 37) (x := (3 : Int32)) (by decide) rfl ?_
              refine n_call tb_pres act hEnd (gx (P := G_call) gp_131 (w := 0x6000000000000c103300008000280f) rfl (by decide) rfl) (d' := D_128) rfl (f' := 9) (lam' := 142) (mc := 1) (ms := 11) (as := [.ref 54, .int (0 : Int32), .int (3 : Int32)]) (rest := []) (cx_number (lo := 0) (hi := 3) (by decide) (by decide) (show CT hs_c6 tx g L s_c6 sj ec ep from ⟨(show CRD hs_c6 tx g L (tkK tx L s_c6) s_c6 (tkE tx L s_c6) sj ec ep from ⟨rw_7, f_8, ⟨_, e1_c6, (by have q9 := a1_c6; omega)⟩, ⟨_, e2_c6, (by have q9 := a2_c6; omega)⟩, ⟨_, e6_c6, (by have q9 := a6_c6; omega)⟩, ⟨_, e7_c6, (by have q9 := a7_c6; omega)⟩, ⟨_, e8_c6, (by have q9 := a8_c6; omega)⟩, ⟨_, e9_c6, (by have q9 := a9_c6; omega)⟩, ⟨_, e10_c6, (by have q9 := a10_c6; omega)⟩, by omega, by omega, by omega, by omega⟩), by omega, by omega⟩)) (show (3 : Nat) = fb 0x6000000000000c103300008000280f % 16 by decide) (by show (3 : Nat) ≤ 4; decide) (fun _ => ⟨_, _, rfl, _, shp_at rw_7.1, Or.inr (show fb 0x6000000000000c103300008000280f >>> 68 = 6 by decide)⟩) (by omega) (by show 8 + (4 + 11) + 142 ≤ R.locals; omega) (by show (0 : Nat) ≤ 8; decide) (by show kcj + 1 + 1 ≤ _; omega) (by show ksj + 11 + 11 ≤ _; omega) (fun r9 hs_c18 hpo hr9 => ?_) (fun x9 hs9 hx9 hpo => ?_)
              · obtain ⟨-, hr_c18, ⟨xv_c18, rfl, hv_c18⟩, hD_c18, fr_c18⟩ := hpo.resolve_right (fun z => absurd z.1 (by decide))
                obtain ⟨s_c18, es_c18, hC_c18⟩ : ∃ z : Int, z = ((sNum tx L 0 3 s_c6)).2.1 ∧ CT hs_c18 tx g L z s_c6 ec ep := ⟨_, rfl, hD_c18⟩
                obtain ⟨⟨-, -, ⟨x1_c18, e1_c18, a1_c18⟩, ⟨x2_c18, e2_c18, a2_c18⟩, ⟨x6_c18, e6_c18, a6_c18⟩, ⟨x7_c18, e7_c18, a7_c18⟩, ⟨x8_c18, e8_c18, a8_c18⟩, ⟨x9_c18, e9_c18, a9_c18⟩, ⟨x10_c18, e10_c18, a10_c18⟩, q1_c18, q2_c18, q3_c18, q4_c18⟩, qs_c18, qt_c18⟩ := hC_c18
                have rw_19 := rw_7.fr fr_c18 (fun j9 _ _ => by unfold WKr; omega)
                have f_20 := f_8.fr fr_c18 (fun j9 => by unfold WKr; omega)
                have f_21 := f_16.frW fr_c18 (fun k9 j9 h9 => by unfold WKr at h9; omega)
                have fr_29 := fr_17.tr (fr_c18.mono (fun _ _ h9 => Or.inl h9))
                clear rw_7 f_8 f_16 e1_c6 e2_c6 e6_c6 e7_c6 e8_c6 e9_c6 e10_c6 fr_17
                show WpN (gp g0 wp) CLS p l e R sW m args below meth c Q D_131.2.2.1 kc0 ks0 40 [some (.ref 54), some (.int cn), v2, v3, v4, v5] (hs_c18, kcj + 1 + 1, ksj + 11 + 11) [.int xv_c18]
                refine g_storeI act (gx gp_131 (w := 0x2002910) rfl (by decide) rfl) (a := 2) (n := 41) rfl rfl (L2 := [some (.ref 54), some (.int cn), some (.int xv_c18), v3, v4, v5]) rfl ?_
                refine g_loadA act (gx gp_131 (w := 0x2a03) rfl (by decide) rfl) (a := 0) (n := 42) rfl rfl rfl ?_
                refine n_call tb_pres act hEnd (gx (P := G_call) gp_131 (w := 0x6000000000000c041100007f002d0f) rfl (by decide) rfl) (d' := D_127) rfl (f' := 10) (lam' := 165) (mc := 1) (ms := 11) (as := [.ref 54]) (rest := []) (cx_node (n0 := fvj 0) f_21 hRj.1 (by omega) (by omega) (show CT hs_c18 tx g L s_c18 s_c6 ec ep from ⟨(show CRD hs_c18 tx g L (tkK tx L s_c18) s_c18 (tkE tx L s_c18) s_c6 ec ep from ⟨rw_19, f_20, ⟨_, e1_c18, (by have q9 := a1_c18; omega)⟩, ⟨_, e2_c18, (by have q9 := a2_c18; omega)⟩, ⟨_, e6_c18, (by have q9 := a6_c18; omega)⟩, ⟨_, e7_c18, (by have q9 := a7_c18; omega)⟩, ⟨_, e8_c18, (by have q9 := a8_c18; omega)⟩, ⟨_, e9_c18, (by have q9 := a9_c18; omega)⟩, ⟨_, e10_c18, (by have q9 := a10_c18; omega)⟩, by omega, by omega, by omega, by omega⟩), by omega, by omega⟩)) (show (1 : Nat) = fb 0x6000000000000c041100007f002d0f % 16 by decide) (by show (1 : Nat) ≤ 1; decide) (fun _ => ⟨_, _, rfl, _, shp_at rw_19.1, Or.inr (show fb 0x6000000000000c041100007f002d0f >>> 68 = 6 by decide)⟩) (by omega) (by show 8 + (1 + 11) + 165 ≤ R.locals; omega) (by show (0 : Nat) ≤ 8; decide) (by show kcj + 1 + 1 + 1 ≤ _; omega) (by show ksj + 11 + 11 + 11 ≤ _; omega) (fun r9 hs_c30 hpo hr9 => ?_) (fun x9 hs9 hx9 hpo => ?_)
                · obtain ⟨-, hr_c30, ⟨xv_c30, rfl, hv_c30⟩, hD_c30, fr_c30⟩ := hpo.resolve_right (fun z => absurd z.1 (by decide))
                  obtain ⟨s_c30, es_c30, hC_c30⟩ : ∃ z : Int, z = ((sNum tx L 0 (fvj 0 - 1) s_c18)).2.1 ∧ CT hs_c30 tx g L z s_c18 ec ep := ⟨_, rfl, hD_c30⟩
                  obtain ⟨⟨-, -, ⟨x1_c30, e1_c30, a1_c30⟩, ⟨x2_c30, e2_c30, a2_c30⟩, ⟨x6_c30, e6_c30, a6_c30⟩, ⟨x7_c30, e7_c30, a7_c30⟩, ⟨x8_c30, e8_c30, a8_c30⟩, ⟨x9_c30, e9_c30, a9_c30⟩, ⟨x10_c30, e10_c30, a10_c30⟩, q1_c30, q2_c30, q3_c30, q4_c30⟩, qs_c30, qt_c30⟩ := hC_c30
                  have rw_31 := rw_19.fr fr_c30 (fun j9 _ _ => by unfold WKr; omega)
                  have f_32 := f_20.fr fr_c30 (fun j9 => by unfold WKr; omega)
                  have f_33 := f_21.frW fr_c30 (fun k9 j9 h9 => by unfold WKr at h9; omega)
                  have fr_41 := fr_29.tr (fr_c30.mono (fun _ _ h9 => Or.inl h9))
                  clear rw_19 f_20 f_21 e1_c18 e2_c18 e6_c18 e7_c18 e8_c18 e9_c18 e10_c18 fr_29
                  show WpN (gp g0 wp) CLS p l e R sW m args below meth c Q D_131.2.2.1 kc0 ks0 45 [some (.ref 54), some (.int cn), some (.int xv_c18), v3, v4, v5] (hs_c30, kcj + 1 + 1 + 1, ksj + 11 + 11 + 11) [.int xv_c30]
                  refine g_storeI act (gx gp_131 (w := 0x3002e10) rfl (by decide) rfl) (a := 3) (n := 46) rfl rfl (L2 := [some (.ref 54), some (.int cn), some (.int xv_c18), some (.int xv_c30), v4, v5]) rfl ?_
                  refine g_loadA act (gx gp_131 (w := 0x2f03) rfl (by decide) rfl) (a := 0) (n := 47) rfl rfl rfl ?_
                  refine g_loadI act (gx gp_131 (w := 0x3003002) rfl (by decide) rfl) (a := 3) (n := 48) rfl rfl rfl ?_
                  refine n_call tb_pres act hEnd (gx (P := G_call) gp_131 (w := 0x6000000000000c0c2200008100330f) rfl (by decide) rfl) (d' := D_129) rfl (f' := 10) (lam' := 165) (mc := 2) (ms := 22) (as := [.ref 54, .int xv_c30]) (rest := []) (cx_other (n0 := fvj 0) (z0 := (Int32.toInt xv_c30)) f_33 hRj.1 (by omega) (by omega) (rfl : Int32.toInt xv_c30 = _) (show CT hs_c30 tx g L s_c30 s_c18 ec ep from ⟨(show CRD hs_c30 tx g L (tkK tx L s_c30) s_c30 (tkE tx L s_c30) s_c18 ec ep from ⟨rw_31, f_32, ⟨_, e1_c30, (by have q9 := a1_c30; omega)⟩, ⟨_, e2_c30, (by have q9 := a2_c30; omega)⟩, ⟨_, e6_c30, (by have q9 := a6_c30; omega)⟩, ⟨_, e7_c30, (by have q9 := a7_c30; omega)⟩, ⟨_, e8_c30, (by have q9 := a8_c30; omega)⟩, ⟨_, e9_c30, (by have q9 := a9_c30; omega)⟩, ⟨_, e10_c30, (by have q9 := a10_c30; omega)⟩, by omega, by omega, by omega, by omega⟩), by omega, by omega⟩)) (show (2 : Nat) = fb 0x6000000000000c0c2200008100330f % 16 by decide) (by show (2 : Nat) ≤ 3; decide) (fun _ => ⟨_, _, rfl, _, shp_at rw_31.1, Or.inr (show fb 0x6000000000000c0c2200008100330f >>> 68 = 6 by decide)⟩) (by omega) (by show 8 + (3 + 11) + 165 ≤ R.locals; omega) (by show (0 : Nat) ≤ 8; decide) (by show kcj + 1 + 1 + 1 + 2 ≤ _; omega) (by show ksj + 11 + 11 + 11 + 22 ≤ _; omega) (fun r9 hs_c42 hpo hr9 => ?_) (fun x9 hs9 hx9 hpo => ?_)
                  · obtain ⟨-, hr_c42, ⟨xv_c42, rfl, hv_c42⟩, hD_c42, fr_c42⟩ := hpo.resolve_right (fun z => absurd z.1 (by decide))
                    obtain ⟨s_c42, es_c42, hC_c42⟩ : ∃ z : Int, z = ((sOth tx L (fvj 0 - 1) (Int32.toInt xv_c30) s_c30)).2.1 ∧ CT hs_c42 tx g L z s_c30 ec ep := ⟨_, rfl, hD_c42⟩
                    obtain ⟨⟨-, -, ⟨x1_c42, e1_c42, a1_c42⟩, ⟨x2_c42, e2_c42, a2_c42⟩, ⟨x6_c42, e6_c42, a6_c42⟩, ⟨x7_c42, e7_c42, a7_c42⟩, ⟨x8_c42, e8_c42, a8_c42⟩, ⟨x9_c42, e9_c42, a9_c42⟩, ⟨x10_c42, e10_c42, a10_c42⟩, q1_c42, q2_c42, q3_c42, q4_c42⟩, qs_c42, qt_c42⟩ := hC_c42
                    have rw_43 := rw_31.fr fr_c42 (fun j9 _ _ => by unfold WKr; omega)
                    have f_44 := f_32.fr fr_c42 (fun j9 => by unfold WKr; omega)
                    have f_45 := f_33.frW fr_c42 (fun k9 j9 h9 => by unfold WKr at h9; omega)
                    have fr_53 := fr_41.tr (fr_c42.mono (fun _ _ h9 => Or.inl h9))
                    clear rw_31 f_32 f_33 e1_c30 e2_c30 e6_c30 e7_c30 e8_c30 e9_c30 e10_c30 fr_41
                    show WpN (gp g0 wp) CLS p l e R sW m args below meth c Q D_131.2.2.1 kc0 ks0 51 [some (.ref 54), some (.int cn), some (.int xv_c18), some (.int xv_c30), v4, v5] (hs_c42, kcj + 1 + 1 + 1 + 2, ksj + 11 + 11 + 11 + 22) [.int xv_c42]
                    refine g_storeI act (gx gp_131 (w := 0x4003510) rfl (by decide) rfl) (a := 4) (n := 53) rfl rfl (L2 := [some (.ref 54), some (.int cn), some (.int xv_c18), some (.int xv_c30), some (.int xv_c42), v5]) rfl ?_
                    refine g_loadA act (gx gp_131 (w := 0x3603) rfl (by decide) rfl) (a := 0) (n := 54) rfl rfl rfl ?_
                    refine g_constI act (gx gp_131 (w := 0x40000000c00000009000000003701) rfl (by decide) rfl) (n := 55) (x := (1 : Int32)) (by decide) rfl ?_
                    refine g_constI act (gx gp_131 (w := 0x40000032400000321000000003901) rfl (by decide) rfl) (n := 57) (x := (100 : Int32)) (by decide) rfl ?_
                    refine n_call tb_pres act hEnd (gx (P := G_call) gp_131 (w := 0x6000000000000c1033000080003c0f) rfl (by decide) rfl) (d' := D_128) rfl (f' := 9) (lam' := 142) (mc := 1) (ms := 11) (as := [.ref 54, .int (1 : Int32), .int (100 : Int32)]) (rest := []) (cx_number (lo := 1) (hi := 100) (by decide) (by decide) (show CT hs_c42 tx g L s_c42 s_c30 ec ep from ⟨(show CRD hs_c42 tx g L (tkK tx L s_c42) s_c42 (tkE tx L s_c42) s_c30 ec ep from ⟨rw_43, f_44, ⟨_, e1_c42, (by have q9 := a1_c42; omega)⟩, ⟨_, e2_c42, (by have q9 := a2_c42; omega)⟩, ⟨_, e6_c42, (by have q9 := a6_c42; omega)⟩, ⟨_, e7_c42, (by have q9 := a7_c42; omega)⟩, ⟨_, e8_c42, (by have q9 := a8_c42; omega)⟩, ⟨_, e9_c42, (by have q9 := a9_c42; omega)⟩, ⟨_, e10_c42, (by have q9 := a10_c42; omega)⟩, by omega, by omega, by omega, by omega⟩), by omega, by omega⟩)) (show (3 : Nat) = fb 0x6000000000000c1033000080003c0f % 16 by decide) (by show (3 : Nat) ≤ 4; decide) (fun _ => ⟨_, _, rfl, _, shp_at rw_43.1, Or.inr (show fb 0x6000000000000c1033000080003c0f >>> 68 = 6 by decide)⟩) (by omega) (by show 8 + (4 + 11) + 142 ≤ R.locals; omega) (by show (0 : Nat) ≤ 8; decide) (by show kcj + 1 + 1 + 1 + 2 + 1 ≤ _; omega) (by show ksj + 11 + 11 + 11 + 22 + 11 ≤ _; omega) (fun r9 hs_c54 hpo hr9 => ?_) (fun x9 hs9 hx9 hpo => ?_)
                    · obtain ⟨-, hr_c54, ⟨xv_c54, rfl, hv_c54⟩, hD_c54, fr_c54⟩ := hpo.resolve_right (fun z => absurd z.1 (by decide))
                      obtain ⟨s_c54, es_c54, hC_c54⟩ : ∃ z : Int, z = ((sNum tx L 1 100 s_c42)).2.1 ∧ CT hs_c54 tx g L z s_c42 ec ep := ⟨_, rfl, hD_c54⟩
                      obtain ⟨⟨-, -, ⟨x1_c54, e1_c54, a1_c54⟩, ⟨x2_c54, e2_c54, a2_c54⟩, ⟨x6_c54, e6_c54, a6_c54⟩, ⟨x7_c54, e7_c54, a7_c54⟩, ⟨x8_c54, e8_c54, a8_c54⟩, ⟨x9_c54, e9_c54, a9_c54⟩, ⟨x10_c54, e10_c54, a10_c54⟩, q1_c54, q2_c54, q3_c54, q4_c54⟩, qs_c54, qt_c54⟩ := hC_c54
                      have rw_55 := rw_43.fr fr_c54 (fun j9 _ _ => by unfold WKr; omega)
                      have f_56 := f_44.fr fr_c54 (fun j9 => by unfold WKr; omega)
                      have f_57 := f_45.frW fr_c54 (fun k9 j9 h9 => by unfold WKr at h9; omega)
                      have fr_65 := fr_53.tr (fr_c54.mono (fun _ _ h9 => Or.inl h9))
                      clear rw_43 f_44 f_45 e1_c42 e2_c42 e6_c42 e7_c42 e8_c42 e9_c42 e10_c42 fr_53
                      show WpN (gp g0 wp) CLS p l e R sW m args below meth c Q D_131.2.2.1 kc0 ks0 60 [some (.ref 54), some (.int cn), some (.int xv_c18), some (.int xv_c30), some (.int xv_c42), v5] (hs_c54, kcj + 1 + 1 + 1 + 2 + 1, ksj + 11 + 11 + 11 + 22 + 11) [.int xv_c54]
                      refine g_storeI act (gx gp_131 (w := 0x5003e10) rfl (by decide) rfl) (a := 5) (n := 62) rfl rfl (L2 := [some (.ref 54), some (.int cn), some (.int xv_c18), some (.int xv_c30), some (.int xv_c42), some (.int xv_c54)]) rfl ?_
                      refine g_loadA act (gx gp_131 (w := 0x3f03) rfl (by decide) rfl) (a := 0) (n := 63) rfl rfl rfl ?_
                      refine n_call tb_pres act hEnd (gx (P := G_call) gp_131 (w := 0x60000000000008041100008400420f) rfl (by decide) rfl) (d' := D_132) rfl (f' := 9) (lam' := 142) (mc := 1) (ms := 11) (as := [.ref 54]) (rest := []) (cx_semi (show CT hs_c54 tx g L s_c54 s_c42 ec ep from ⟨(show CRD hs_c54 tx g L (tkK tx L s_c54) s_c54 (tkE tx L s_c54) s_c42 ec ep from ⟨rw_55, f_56, ⟨_, e1_c54, (by have q9 := a1_c54; omega)⟩, ⟨_, e2_c54, (by have q9 := a2_c54; omega)⟩, ⟨_, e6_c54, (by have q9 := a6_c54; omega)⟩, ⟨_, e7_c54, (by have q9 := a7_c54; omega)⟩, ⟨_, e8_c54, (by have q9 := a8_c54; omega)⟩, ⟨_, e9_c54, (by have q9 := a9_c54; omega)⟩, ⟨_, e10_c54, (by have q9 := a10_c54; omega)⟩, by omega, by omega, by omega, by omega⟩), by omega, by omega⟩)) (show (1 : Nat) = fb 0x60000000000008041100008400420f % 16 by decide) (by show (1 : Nat) ≤ 1; decide) (fun _ => ⟨_, _, rfl, _, shp_at rw_55.1, Or.inr (show fb 0x60000000000008041100008400420f >>> 68 = 6 by decide)⟩) (by omega) (by show 8 + (1 + 11) + 142 ≤ R.locals; omega) (by show (0 : Nat) ≤ 8; decide) (by show kcj + 1 + 1 + 1 + 2 + 1 + 1 ≤ _; omega) (by show ksj + 11 + 11 + 11 + 22 + 11 + 11 ≤ _; omega) (fun r9 hs_c66 hpo hr9 => ?_) (fun x9 hs9 hx9 hpo => ?_)
                      · obtain rfl : r9 = none := hr9.elim (fun q => q.2) (fun q => absurd rfl q.1)
                        obtain ⟨-, hr_c66, -, hD_c66, fr_c66⟩ := hpo.resolve_right (fun z => absurd z.1 (by decide))
                        obtain ⟨s_c66, es_c66, hC_c66⟩ : ∃ z : Int, z = ((sSem tx L s_c54)).2 ∧ CT hs_c66 tx g L z s_c54 ec ep := ⟨_, rfl, hD_c66⟩
                        obtain ⟨⟨-, -, ⟨x1_c66, e1_c66, a1_c66⟩, ⟨x2_c66, e2_c66, a2_c66⟩, ⟨x6_c66, e6_c66, a6_c66⟩, ⟨x7_c66, e7_c66, a7_c66⟩, ⟨x8_c66, e8_c66, a8_c66⟩, ⟨x9_c66, e9_c66, a9_c66⟩, ⟨x10_c66, e10_c66, a10_c66⟩, q1_c66, q2_c66, q3_c66, q4_c66⟩, qs_c66, qt_c66⟩ := hC_c66
                        have rw_67 := rw_55.fr fr_c66 (fun j9 _ _ => by unfold WKr; omega)
                        have f_68 := f_56.fr fr_c66 (fun j9 => by unfold WKr; omega)
                        have f_69 := f_57.frW fr_c66 (fun k9 j9 h9 => by unfold WKr at h9; omega)
                        have fr_77 := fr_65.tr (fr_c66.mono (fun _ _ h9 => Or.inl h9))
                        clear rw_55 f_56 f_57 e1_c54 e2_c54 e6_c54 e7_c54 e8_c54 e9_c54 e10_c54 fr_65
                        show WpN (gp g0 wp) CLS p l e R sW m args below meth c Q D_131.2.2.1 kc0 ks0 66 [some (.ref 54), some (.int cn), some (.int xv_c18), some (.int xv_c30), some (.int xv_c42), some (.int xv_c54)] (hs_c66, kcj + 1 + 1 + 1 + 2 + 1 + 1, ksj + 11 + 11 + 11 + 22 + 11 + 11) []
                        refine g_loadA act (gx gp_131 (w := 0x4303) rfl (by decide) rfl) (a := 0) (n := 67) rfl rfl rfl ?_
                        refine r_getf act (gx gp_131 (w := 0x3000145004604) rfl (by decide) rfl) (n := 70) (ci := 5) (j := 5) (N := 11) rfl rfl rfl rw_67.1 (by decide) (v := .ref g) rw_67.2.2.2.2 ?_
                        refine g_loadI act (gx gp_131 (w := 0x2004702) rfl (by decide) rfl) (a := 2) (n := 71) rfl rfl rfl ?_
                        refine g_loadI act (gx gp_131 (w := 0x3004802) rfl (by decide) rfl) (a := 3) (n := 72) rfl rfl rfl ?_
                        refine g_loadI act (gx gp_131 (w := 0x4004a02) rfl (by decide) rfl) (a := 4) (n := 74) rfl rfl rfl ?_
                        refine g_loadI act (gx gp_131 (w := 0x5004c02) rfl (by decide) rfl) (a := 5) (n := 76) rfl rfl rfl ?_
                        refine n_call tb_pres act hEnd (gx (P := G_call) gp_131 (w := 0x500000000000081455000061004f0f) rfl (by decide) rfl) (d' := D_97) rfl (f' := 0) (lam' := 0) (mc := 0) (ms := 0) (as := [.ref g, .int xv_c18, .int xv_c30, .int xv_c42, .int xv_c54]) (rest := []) (cx_addR (nl := nl) f_69 hF2 (by omega)) (show (5 : Nat) = fb 0x500000000000081455000061004f0f % 16 by decide) (by show (5 : Nat) ≤ 5; decide) (fun _ => ⟨_, _, rfl, _, shp_at f_69.1.2.1, Or.inr (show fb 0x500000000000081455000061004f0f >>> 68 = 5 by decide)⟩) (by omega) (by show 8 + (5 + 11) + 0 ≤ R.locals; omega) (by show (0 : Nat) ≤ 8; decide) (by show kcj + 1 + 1 + 1 + 2 + 1 + 1 + 0 ≤ _; omega) (by show ksj + 11 + 11 + 11 + 22 + 11 + 11 + 0 ≤ _; omega) (fun r9 hs_c78 hpo hr9 => ?_) (fun x9 hs9 hx9 hpo => ?_)
                        · obtain rfl : r9 = none := hr9.elim (fun q => q.2) (fun q => absurd rfl q.1)
                          obtain ⟨-, -, F_c78, hG_c78, fr_c78, eF_c78⟩ := hpo
                          have rw_79 := rw_67.fr fr_c78 (fun j9 _ _ => by unfold WGr; omega)
                          have f_80 := f_68.fr fr_c78 (fun j9 => by unfold WGr; omega)
                          have f_82 := (fr_c78.2.2 54 1 (by unfold WGr; omega)).trans e1_c66
                          have f_83 := (fr_c78.2.2 54 2 (by unfold WGr; omega)).trans e2_c66
                          have f_84 := (fr_c78.2.2 54 6 (by unfold WGr; omega)).trans e6_c66
                          have f_85 := (fr_c78.2.2 54 7 (by unfold WGr; omega)).trans e7_c66
                          have f_86 := (fr_c78.2.2 54 8 (by unfold WGr; omega)).trans e8_c66
                          have f_87 := (fr_c78.2.2 54 9 (by unfold WGr; omega)).trans e9_c66
                          have f_88 := (fr_c78.2.2 54 10 (by unfold WGr; omega)).trans e10_c66
                          have fr_89 := fr_77.tr (fr_c78.mono (fun _ _ h9 => Or.inr h9))
                          clear rw_67 f_68 f_69 e1_c66 e2_c66 e6_c66 e7_c66 e8_c66 e9_c66 e10_c66 fr_77
                          show WpN (gp g0 wp) CLS p l e R sW m args below meth c Q D_131.2.2.1 kc0 ks0 79 [some (.ref 54), some (.int cn), some (.int xv_c18), some (.int xv_c30), some (.int xv_c42), some (.int xv_c54)] (hs_c78, kcj + 1 + 1 + 1 + 2 + 1 + 1, ksj + 11 + 11 + 11 + 22 + 11 + 11) []
                          refine g_iinc act (gx gp_131 (w := 0x80000001000001005209) rfl (by decide) rfl) (a := 1) (i := (1 : Int32)) (n := 82) rfl (by decide) rfl rfl (L2 := [some (.ref 54), some (.int (cn + (1 : Int32))), some (.int xv_c18), some (.int xv_c30), some (.int xv_c42), some (.int xv_c54)]) rfl ?_
                          have v_90 := iv_addN hcn (show (1 : Int32).toInt = ((1 : Nat) : Int) from by decide) (show (nl + 1) < 2147483648 by omega)
                          refine g_goto act (gx gp_131 (w := 0x207) rfl (by decide) rfl) (n := 2) rfl ?_
                          have hok := sRig_ok (nl := nl) (d := (fvj, gvj)) hr_c18 es_c18 hv_c18 hr_c30 es_c30 hv_c30 hr_c42 es_c42 hv_c42 hr_c54 es_c54 hv_c54 hr_c66 es_c66
                          rw [es_c6] at hok
                          have hgo := sRigs_go (by omega) hwj hok
                          have hrel := hRj.rig (nl := nl) (by omega) (rfl : Int32.toInt xv_c18 = _) (rfl : Int32.toInt xv_c30 = _) (rfl : Int32.toInt xv_c42 = _) (rfl : Int32.toInt xv_c54 = _) (show (Fj 0 4 + (1 : Int32)).toInt = (((nl + 1) : Nat) : Int) from iv_addN hF2 (show (1 : Int32).toInt = ((1 : Nat) : Int) from by decide) (by omega))
                          rw [← eF_c78] at hrel
                          exact ih _ (by omega) _ (nl + 1) _ _ _ _ _ _ _ _ _ _ _ _ (show CT hs_c78 tx g L s_c66 s_c54 ec ep from ⟨(show CRD hs_c78 tx g L (tkK tx L s_c66) s_c66 (tkE tx L s_c66) s_c54 ec ep from ⟨rw_79, f_80, ⟨_, f_82, (by have q9 := a1_c66; omega)⟩, ⟨_, f_83, (by have q9 := a2_c66; omega)⟩, ⟨_, f_84, (by have q9 := a6_c66; omega)⟩, ⟨_, f_85, (by have q9 := a7_c66; omega)⟩, ⟨_, f_86, (by have q9 := a8_c66; omega)⟩, ⟨_, f_87, (by have q9 := a9_c66; omega)⟩, ⟨_, f_88, (by have q9 := a10_c66; omega)⟩, by omega, by omega, by omega, by omega⟩), by omega, by omega⟩) hG_c78 hrel v_90 (by omega) (by unfold upI; (repeat' split) <;> omega) ⟨fun j hj => by have q9 := hkp.1 j hj; unfold upI; (repeat' split) <;> omega, hkp.2⟩ (hsp.trans hgo) fr_89 (by omega) (by omega) rfl
                        · exact absurd hpo.1 (by omega)
                      · obtain ⟨hk_c66, -, hn_c66, hE_c66, fr_c66⟩ := hpo.resolve_left (fun z => absurd z.1 (by omega))
                        have ft_c66 := fr_65.tr (fr_c66.mono (fun _ _ h9 => Or.inl h9))
                        obtain ⟨y1_c66, y2_c66⟩ := sRig_e5 (nl := nl) (d := (fvj, gvj)) hr_c18 es_c18 hv_c18 hr_c30 es_c30 hv_c30 hr_c42 es_c42 hv_c42 hr_c54 es_c54 hv_c54 hn_c66
                        obtain ⟨y3_c66, y4_c66⟩ := sRigs_bad (nl := nl) (d := (fvj, gvj)) (by omega) hwj (by rw [← es_c6, y1_c66]; exact hn_c66)
                        rw [← es_c6, y1_c66] at y3_c66
                        rw [← es_c6, y2_c66] at y4_c66
                        refine Or.inr ⟨rfl, Or.inr ⟨by omega, rfl, by rw [hsp, y3_c66]; exact hn_c66, by rw [hsp, y3_c66, y4_c66]; exact hE_c66, ft_c66⟩, by show kcj + 1 + 1 + 1 + 2 + 1 + 1 ≤ kc + 49; omega, by show ksj + 11 + 11 + 11 + 22 + 11 + 11 ≤ ks + 539; omega⟩
                    · obtain ⟨hk_c54, -, hn_c54, hE_c54, fr_c54⟩ := hpo.resolve_left (fun z => absurd z.1 (by omega))
                      have ft_c54 := fr_53.tr (fr_c54.mono (fun _ _ h9 => Or.inl h9))
                      obtain ⟨y1_c54, y2_c54⟩ := sRig_e4 (nl := nl) (d := (fvj, gvj)) hr_c18 es_c18 hv_c18 hr_c30 es_c30 hv_c30 hr_c42 es_c42 hv_c42 hn_c54
                      obtain ⟨y3_c54, y4_c54⟩ := sRigs_bad (nl := nl) (d := (fvj, gvj)) (by omega) hwj (by rw [← es_c6, y1_c54]; exact hn_c54)
                      rw [← es_c6, y1_c54] at y3_c54
                      rw [← es_c6, y2_c54] at y4_c54
                      refine Or.inr ⟨rfl, Or.inr ⟨by omega, rfl, by rw [hsp, y3_c54]; exact hn_c54, by rw [hsp, y3_c54, y4_c54]; exact hE_c54, ft_c54⟩, by show kcj + 1 + 1 + 1 + 2 + 1 ≤ kc + 49; omega, by show ksj + 11 + 11 + 11 + 22 + 11 ≤ ks + 539; omega⟩
                  · obtain ⟨hk_c42, -, hn_c42, hE_c42, fr_c42⟩ := hpo.resolve_left (fun z => absurd z.1 (by omega))
                    have ft_c42 := fr_41.tr (fr_c42.mono (fun _ _ h9 => Or.inl h9))
                    obtain ⟨y1_c42, y2_c42⟩ := sRig_e3 (nl := nl) (d := (fvj, gvj)) hr_c18 es_c18 hv_c18 hr_c30 es_c30 hv_c30 hn_c42
                    obtain ⟨y3_c42, y4_c42⟩ := sRigs_bad (nl := nl) (d := (fvj, gvj)) (by omega) hwj (by rw [← es_c6, y1_c42]; exact hn_c42)
                    rw [← es_c6, y1_c42] at y3_c42
                    rw [← es_c6, y2_c42] at y4_c42
                    refine Or.inr ⟨rfl, Or.inr ⟨by omega, rfl, by rw [hsp, y3_c42]; exact hn_c42, by rw [hsp, y3_c42, y4_c42]; exact hE_c42, ft_c42⟩, by show kcj + 1 + 1 + 1 + 2 ≤ kc + 49; omega, by show ksj + 11 + 11 + 11 + 22 ≤ ks + 539; omega⟩
                · obtain ⟨hk_c30, -, hn_c30, hE_c30, fr_c30⟩ := hpo.resolve_left (fun z => absurd z.1 (by omega))
                  have ft_c30 := fr_29.tr (fr_c30.mono (fun _ _ h9 => Or.inl h9))
                  obtain ⟨y1_c30, y2_c30⟩ := sRig_e2 (nl := nl) (d := (fvj, gvj)) hr_c18 es_c18 hv_c18 hn_c30
                  obtain ⟨y3_c30, y4_c30⟩ := sRigs_bad (nl := nl) (d := (fvj, gvj)) (by omega) hwj (by rw [← es_c6, y1_c30]; exact hn_c30)
                  rw [← es_c6, y1_c30] at y3_c30
                  rw [← es_c6, y2_c30] at y4_c30
                  refine Or.inr ⟨rfl, Or.inr ⟨by omega, rfl, by rw [hsp, y3_c30]; exact hn_c30, by rw [hsp, y3_c30, y4_c30]; exact hE_c30, ft_c30⟩, by show kcj + 1 + 1 + 1 ≤ kc + 49; omega, by show ksj + 11 + 11 + 11 ≤ ks + 539; omega⟩
              · obtain ⟨hk_c18, -, hn_c18, hE_c18, fr_c18⟩ := hpo.resolve_left (fun z => absurd z.1 (by omega))
                have ft_c18 := fr_17.tr (fr_c18.mono (fun _ _ h9 => Or.inl h9))
                obtain ⟨y1_c18, y2_c18⟩ := sRig_e1 (nl := nl) (d := (fvj, gvj))  hn_c18
                obtain ⟨y3_c18, y4_c18⟩ := sRigs_bad (nl := nl) (d := (fvj, gvj)) (by omega) hwj (by rw [← es_c6, y1_c18]; exact hn_c18)
                rw [← es_c6, y1_c18] at y3_c18
                rw [← es_c6, y2_c18] at y4_c18
                refine Or.inr ⟨rfl, Or.inr ⟨by omega, rfl, by rw [hsp, y3_c18]; exact hn_c18, by rw [hsp, y3_c18, y4_c18]; exact hE_c18, ft_c18⟩, by show kcj + 1 + 1 ≤ kc + 49; omega, by show ksj + 11 + 11 ≤ ks + 539; omega⟩
            · exact absurd hpo.1 (by omega)
          · obtain ⟨hk_c5, -, hm_c5, hE_c5, fr_c5⟩ := hpo.resolve_left (fun z => absurd z.1 (by omega))
            have ft_c5 := hfr.tr (fr_c5.mono (fun _ _ h9 => Or.inl h9))
            have hf_c5 := sRigs_full (tx := tx) (L := L) (s := sj) (nl := nl) (d := (fvj, gvj)) (by omega) hwj
            refine Or.inr ⟨rfl, Or.inr ⟨by omega, rfl, by rw [hsp, hf_c5]; show (3 : Int) ≠ 0; decide, by rw [hsp, hf_c5]; exact hE_c5, ft_c5⟩, by show kcj + 1 ≤ kc + 49; omega, by show ksj + 11 ≤ ks + 539; omega⟩
      · exact absurd hpo.1 (by omega)
  show WpN (gp g0 wp) CLS p l e R sW m args below meth c Q D_131.2.2.1 kc0 ks0 0 [some (.ref 54), none, none, none, none, none] (hs, kc, ks) []
  refine g_constI act (gx gp_131 (w := 0x40000000400000001000000000101) rfl (by decide) rfl) (n := 1) (x := (0 : Int32)) (by decide) rfl ?_
  refine g_storeI act (gx gp_131 (w := 0x1000210) rfl (by decide) rfl) (a := 1) (n := 2) rfl rfl (L2 := [some (.ref 54), some (.int (0 : Int32)), none, none, none, none]) rfl ?_
  exact loop hs 0 _ _ _ _ _ s P F fv gv _ _ hC hG hR (by decide) (by decide) h2 ⟨fun _ _ => rfl, rfl⟩ rfl (FrS.rf _ hs) (by omega) (by omega)

end CRDL

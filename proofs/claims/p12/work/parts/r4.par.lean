/-! The reference reads a grid. -/
def OK9 (b : Int) (fv : Nat → Int) (nl n : Nat) (o : Int) : Prop := b = 0 → o = -1 ∨ (0 ≤ o ∧ o < (nl : Int) ∧ CutOK fv nl o n)
theorem CutOK.cong {f g : Nat → Int} {nl n : Nat} {z : Int} (h : CutOK f nl z n) (e : ∀ l, l < nl → g (5 + l) = f (5 + l) ∧ g (11 + l) = f (11 + l)) : CutOK g nl z n := fun U h0 hx => by
  obtain ⟨l, h1, h2, h3⟩ := h U h0 hx
  exact ⟨l, h1, h2, by rw [(e l h1).1, (e l h1).2]; exact h3⟩
theorem CutOK.one {f : Nat → Int} {nl n : Nat} {z : Int} (h : CutOK f nl z n) (hn : 1 ≤ n) : 1 ≤ nl := by
  obtain ⟨l, h1, -⟩ := h (fun x => x == 0) rfl ⟨1, hn, rfl⟩
  omega
theorem FVI.zero {fv gv : Nat → Int} {b x y : Int} (hf : ∀ j, j < 46 → fv j = 0) (hg : ∀ j, j < 39 → gv j = 0) (hx : 2 ≤ x ∧ x ≤ 4) (hy : 1 ≤ y ∧ y ≤ 4) : FVI (upI (upI fv 0 x) 1 y) gv b 0 0 0 := by
  have f2 := hf 2 (by decide)
  have f3 := hf 3 (by decide)
  have f4 := hf 4 (by decide)
  refine ⟨?_, ?_, ?_, ?_, ?_, by decide, by decide, by decide, fun l hq => absurd hq (Nat.not_lt_zero _), fun l hq => absurd hq (Nat.not_lt_zero _), fun l hq => absurd hq (Nat.not_lt_zero _), fun j hq => ?_, fun j hq => ?_, fun j hq => ?_, fun j hq => ?_⟩
  · simp only [upI, ↓reduceIte]
    all_goals omega
  · simp only [upI, ↓reduceIte]
    all_goals omega
  · simp only [upI, ↓reduceIte]
    all_goals omega
  · simp only [upI, ↓reduceIte]
    all_goals omega
  · simp only [upI, ↓reduceIte]
    all_goals omega
  · have := hg j (by omega); omega
  · have := hg (12 + j) (by omega); omega
  · have := hg (17 + j) (by omega); omega
  · have := hg (22 + j) (by omega); omega
theorem FVI.out {fv gv gv2 : Nat → Int} {b b2 : Int} {nl ng nr : Nat} (h : FVI fv gv b nl ng nr) (hb : b2 = 0 → b = 0) (e : ∀ j, j < 38 → gv2 j = gv j) : FVI fv gv2 b2 nl ng nr := by
  obtain ⟨a0, a1, a2, a3, a4, a5, a6, a7, a8, a9, a10, a11, a12, a13, a14⟩ := h.bad hb
  exact ⟨a0, a1, a2, a3, a4, a5, a6, a7, fun l hl => by rw [e l (by omega)]; exact a8 l hl, a9, a10, fun j hj => by rw [e j (by omega)]; exact a11 j hj, fun j hj => by rw [e _ (by omega)]; exact a12 j hj, fun j hj => by rw [e _ (by omega)]; exact a13 j hj, fun j hj => by rw [e _ (by omega)]; exact a14 j hj⟩
theorem FVI.rng {fv gv : Nat → Int} {b : Int} {nl ng nr : Nat} (h : FVI fv gv b nl ng nr) : ∀ l, l < nl → 0 ≤ fv (5 + l) ∧ fv (5 + l) ≤ 3 ∧ 0 ≤ fv (11 + l) ∧ fv (11 + l) ≤ 3 := fun l hl => by
  have q := h.2.2.2.2.2.2.2.2.1 l hl
  have := h.1
  omega
section PAR5
variable {g0 : GG} {bl : Nat} {xs : Nat → Int32} {l : Launch} {hs : List CE} {tx : Nat → Int} {L A b : Int}
variable {fv gv : Nat → Int} {nl ng nr n9 : Nat}

theorem br_isBehind (hP : PSt hs tx L A b) : BodyN SSX TBL g0 CLS bl xs l D_219 3 67 0 0 [.ref 124] hs (fun kd r h2 => kd = 0 ∧ ∃ (A2 : Int) (x : Int32), r = some (.int x) ∧ PSt h2 tx L A2 b ∧ FrS WP hs h2) := by
  intro wp p e R s m args below meth c Q kc0 ks0 kc ks act hf hl hc hsl hEnd
  have hf : 3 ≤ R.frames := hf
  have hl : 67 ≤ R.locals := hl
  have hk1 : kc ≤ kc + 0 := by omega
  have hk2 : ks ≤ ks + 0 := by omega
  have fin45 : ∀ (hj : List CE) (Aj : Int), PSt hj tx L Aj b → FrS WP hs hj → WpN (gp g0 wp) CLS p l e R s m args below meth c Q D_219.2.2.1 kc0 ks0 45 [some (.ref 124), none, none] (hj, kc, ks) [] := by
    intro hj Aj hPj hfr 
    obtain ⟨rw_2, hT_2, ⟨L9_2, e10_2, hL_2⟩, ⟨A9_2, e11_2, hA_2⟩, ⟨b9_2, e14_2, hb_2⟩, ⟨c9_2, e12_2⟩, ⟨d9_2, e13_2⟩, ⟨f9_2, e15_2⟩, q1_2, q2_2, q3_2, q4_2, q5_2, q6_2⟩ := hPj
    refine g_constI act (gx gp_219 (w := 0x40000000c00000009000000002e01) rfl (by decide) rfl) (n := 46) (x := (1 : Int32)) (by decide) rfl ?_
    refine g_goto act (gx gp_219 (w := 0x3207) rfl (by decide) rfl) (n := 50) rfl ?_
    exact g_retZ hEnd (gx gp_219 (w := 0x23) rfl (by decide) rfl) (Or.inr rfl) ⟨rfl, Aj, _, rfl, (show PSt hj tx L Aj b from ⟨rw_2, hT_2, ⟨_, e10_2, hL_2⟩, ⟨_, e11_2, hA_2⟩, ⟨_, e14_2, hb_2⟩, ⟨_, e12_2⟩, ⟨_, e13_2⟩, ⟨_, e15_2⟩, by omega, by omega, by omega, by omega, by omega, by omega⟩), hfr⟩ hk1 hk2
  have fin49 : ∀ (hj : List CE) (Aj : Int), PSt hj tx L Aj b → FrS WP hs hj → WpN (gp g0 wp) CLS p l e R s m args below meth c Q D_219.2.2.1 kc0 ks0 49 [some (.ref 124), none, none] (hj, kc, ks) [] := by
    intro hj Aj hPj hfr 
    obtain ⟨rw_3, hT_3, ⟨L9_3, e10_3, hL_3⟩, ⟨A9_3, e11_3, hA_3⟩, ⟨b9_3, e14_3, hb_3⟩, ⟨c9_3, e12_3⟩, ⟨d9_3, e13_3⟩, ⟨f9_3, e15_3⟩, q1_3, q2_3, q3_3, q4_3, q5_3, q6_3⟩ := hPj
    refine g_constI act (gx gp_219 (w := 0x40000000400000001000000003201) rfl (by decide) rfl) (n := 50) (x := (0 : Int32)) (by decide) rfl ?_
    exact g_retZ hEnd (gx gp_219 (w := 0x23) rfl (by decide) rfl) (Or.inl rfl) ⟨rfl, Aj, _, rfl, (show PSt hj tx L Aj b from ⟨rw_3, hT_3, ⟨_, e10_3, hL_3⟩, ⟨_, e11_3, hA_3⟩, ⟨_, e14_3, hb_3⟩, ⟨_, e12_3⟩, ⟨_, e13_3⟩, ⟨_, e15_3⟩, by omega, by omega, by omega, by omega, by omega, by omega⟩), hfr⟩ hk1 hk2
  obtain ⟨rw_1, hT_1, ⟨L9_1, e10_1, hL_1⟩, ⟨A9_1, e11_1, hA_1⟩, ⟨b9_1, e14_1, hb_1⟩, ⟨c9_1, e12_1⟩, ⟨d9_1, e13_1⟩, ⟨f9_1, e15_1⟩, q1_1, q2_1, q3_1, q4_1, q5_1, q6_1⟩ := hP
  have hfr0 := FrS.rf WP hs
  show WpN (gp g0 wp) CLS p l e R s m args below meth c Q D_219.2.2.1 kc0 ks0 0 [some (.ref 124), none, none] (hs, kc, ks) []
  refine g_loadA act (gx gp_219 (w := 0x103) rfl (by decide) rfl) (a := 0) (n := 1) rfl rfl rfl ?_
  refine n_call tb_pres act hEnd (gx (P := G_call) gp_219 (w := 0xa000000000000c141100011f00040f) rfl (by decide) rfl) (d' := D_287) rfl (as := [.ref 124]) (rest := []) (br_word (show PSt hs tx L A b from ⟨rw_1, hT_1, ⟨_, e10_1, hL_1⟩, ⟨_, e11_1, hA_1⟩, ⟨_, e14_1, hb_1⟩, ⟨_, e12_1⟩, ⟨_, e13_1⟩, ⟨_, e15_1⟩, by omega, by omega, by omega, by omega, by omega, by omega⟩)) (show (1 : Nat) = fb 0xa000000000000c141100011f00040f % 16 by decide) (by show (1 : Nat) ≤ 5; decide) (fun _ => ⟨_, _, rfl, _, shp_at rw_1.1, Or.inr (show fb 0xa000000000000c141100011f00040f >>> 68 = 10 by decide)⟩) (by omega) (by show 8 + (5 + 11) + 43 ≤ R.locals; omega) (by show (0 : Nat) ≤ 8; decide) (by show kc + 0 ≤ _; omega) (by show ks + 0 ≤ _; omega) (fun r9 hs_c4 hpo hr9 => ?_) (fun x9 hs9 hx9 hpo => ?_)
  · obtain ⟨-, A_c4, rv_c4, rfl, hP_c4, fr_c4, q7_c4, q8_c4, q9_c4⟩ := hpo
    try replace q8_c4 := q8_c4 (by omega)
    have rw_5 := rw_1.fr fr_c4 WP_rw
    have f_6 := hT_1.fr (fun j9 _ => fr_c4.2.2 130 j9 (by unfold WP; omega))
    have f_7 := rd_fr fr_c4 e10_1 (by unfold WP; omega)
    have fr_8 := hfr0.tr fr_c4
    obtain ⟨-, -, -, ⟨A9_c4, e11_c4, hA_c4⟩, ⟨b9_c4, e14_c4, hb_c4⟩, ⟨c9_c4, e12_c4⟩, ⟨d9_c4, e13_c4⟩, ⟨f9_c4, e15_c4⟩, -, -, q3_c4, q4_c4, q5_c4, q6_c4⟩ := hP_c4
    clear rw_1 hT_1 e10_1 e11_1 e14_1 e12_1 e13_1 e15_1 hfr0
    show WpN (gp g0 wp) CLS p l e R s m args below meth c Q D_219.2.2.1 kc0 ks0 4 [some (.ref 124), none, none] (hs_c4, kc, ks) [.long rv_c4]
    refine g_storeL act (gx gp_219 (w := 0x100050b) rfl (by decide) rfl) (a := 1) (n := 5) rfl rfl (L2 := [some (.ref 124), some (.long rv_c4), none]) rfl ?_
    refine g_loadA act (gx gp_219 (w := 0x603) rfl (by decide) rfl) (a := 0) (n := 6) rfl rfl rfl ?_
    refine n_call tb_pres act hEnd (gx (P := G_call) gp_219 (w := 0xa000000000000c04110000d800090f) rfl (by decide) rfl) (d' := D_216) rfl (as := [.ref 124]) (rest := []) (br_here (show PSt hs_c4 tx L A_c4 b from ⟨rw_5, f_6, ⟨_, f_7, hL_1⟩, ⟨_, e11_c4, hA_c4⟩, ⟨_, e14_c4, hb_c4⟩, ⟨_, e12_c4⟩, ⟨_, e13_c4⟩, ⟨_, e15_c4⟩, by omega, by omega, by omega, by omega, by omega, by omega⟩)) (show (1 : Nat) = fb 0xa000000000000c04110000d800090f % 16 by decide) (by show (1 : Nat) ≤ 1; decide) (fun _ => ⟨_, _, rfl, _, shp_at rw_5.1, Or.inr (show fb 0xa000000000000c04110000d800090f >>> 68 = 10 by decide)⟩) (by omega) (by show 8 + (1 + 11) + 0 ≤ R.locals; omega) (by show (0 : Nat) ≤ 8; decide) (by show kc + 0 ≤ _; omega) (by show ks + 0 ≤ _; omega) (fun r9 hs_c9 hpo hr9 => ?_) (fun x9 hs9 hx9 hpo => ?_)
    · obtain ⟨-, A_c9, rv_c9, rfl, hP_c9, fr_c9, q7_c9, q8_c9, q9_c9⟩ := hpo
      try replace q8_c9 := q8_c9 (by omega)
      have rw_10 := rw_5.fr fr_c9 WP_rw
      have f_11 := f_6.fr (fun j9 _ => fr_c9.2.2 130 j9 (by unfold WP; omega))
      have f_12 := rd_fr fr_c9 f_7 (by unfold WP; omega)
      have fr_13 := fr_8.tr fr_c9
      obtain ⟨-, -, -, ⟨A9_c9, e11_c9, hA_c9⟩, ⟨b9_c9, e14_c9, hb_c9⟩, ⟨c9_c9, e12_c9⟩, ⟨d9_c9, e13_c9⟩, ⟨f9_c9, e15_c9⟩, -, -, q3_c9, q4_c9, q5_c9, q6_c9⟩ := hP_c9
      clear rw_5 f_6 f_7 e11_c4 e14_c4 e12_c4 e13_c4 e15_c4 fr_8
      show WpN (gp g0 wp) CLS p l e R s m args below meth c Q D_219.2.2.1 kc0 ks0 9 [some (.ref 124), some (.long rv_c4), none] (hs_c9, kc, ks) [.int rv_c9]
      refine g_constI act (gx gp_219 (w := 0x3fffffffbfffffff9000000000a01) rfl (by decide) rfl) (n := 10) (x := (-1 : Int32)) (by decide) rfl ?_
      refine g_icmpEq act (gx gp_219 (w := 0x2d000d2e) rfl (by decide) rfl) (tgt := 45) (n := 13) rfl rfl (fun h5 => ?_) (fun h5 => ?_)
      · simp only [i_eq, show (-1 : Int32).toInt = -1 from by decide] at h5
        exact n_forget (d := D_219) (L2 := [some (.ref 124), none, none]) (fun i v hi => by
          match i, hi with
          | 0, hi => exact hi
          | 1, hi => cases hi
          | 2, hi => cases hi
          | i + 3, hi => cases hi) (fin45 _ _ (show PSt hs_c9 tx L A_c9 b from ⟨rw_10, f_11, ⟨_, f_12, hL_1⟩, ⟨_, e11_c9, hA_c9⟩, ⟨_, e14_c9, hb_c9⟩, ⟨_, e12_c9⟩, ⟨_, e13_c9⟩, ⟨_, e15_c9⟩, by omega, by omega, by omega, by omega, by omega, by omega⟩) fr_13)
      · simp only [i_eq, show (-1 : Int32).toInt = -1 from by decide] at h5
        refine g_loadL act (gx gp_219 (w := 0x1000e06) rfl (by decide) rfl) (a := 1) (n := 14) rfl rfl rfl ?_
        refine g_constL act (gx gp_219 (w := 0x400000ece22cec15a000000001101) rfl (by decide) rfl) (n := 17) (x := (2034813753387 : Int64)) (by decide) rfl ?_
        refine g_lcmp act (gx gp_219 (w := 0x120c) rfl (by decide) rfl) (n := 18) rfl ?_
        refine g_ifEq act (gx gp_219 (w := 0x2d00150e) rfl (by decide) rfl) (tgt := 45) (n := 21) rfl rfl (fun h9 => ?_) (fun h9 => ?_)
        · simp only [cmpEq, show (2034813753387 : Int64).toInt = 2034813753387 from by decide] at h9
          exact n_forget (d := D_219) (L2 := [some (.ref 124), none, none]) (fun i v hi => by
            match i, hi with
            | 0, hi => exact hi
            | 1, hi => cases hi
            | 2, hi => cases hi
            | i + 3, hi => cases hi) (fin45 _ _ (show PSt hs_c9 tx L A_c9 b from ⟨rw_10, f_11, ⟨_, f_12, hL_1⟩, ⟨_, e11_c9, hA_c9⟩, ⟨_, e14_c9, hb_c9⟩, ⟨_, e12_c9⟩, ⟨_, e13_c9⟩, ⟨_, e15_c9⟩, by omega, by omega, by omega, by omega, by omega, by omega⟩) fr_13)
        · simp only [cmpEq, show (2034813753387 : Int64).toInt = 2034813753387 from by decide] at h9
          refine g_loadL act (gx gp_219 (w := 0x1001606) rfl (by decide) rfl) (a := 1) (n := 22) rfl rfl rfl ?_
          refine g_constL act (gx gp_219 (w := 0x4000000001cc209fa000000001901) rfl (by decide) rfl) (n := 25) (x := (60309823 : Int64)) (by decide) rfl ?_
          refine g_lcmp act (gx gp_219 (w := 0x1a0c) rfl (by decide) rfl) (n := 26) rfl ?_
          refine g_ifEq act (gx gp_219 (w := 0x2d001d0e) rfl (by decide) rfl) (tgt := 45) (n := 29) rfl rfl (fun h13 => ?_) (fun h13 => ?_)
          · simp only [cmpEq, show (60309823 : Int64).toInt = 60309823 from by decide] at h13
            exact n_forget (d := D_219) (L2 := [some (.ref 124), none, none]) (fun i v hi => by
              match i, hi with
              | 0, hi => exact hi
              | 1, hi => cases hi
              | 2, hi => cases hi
              | i + 3, hi => cases hi) (fin45 _ _ (show PSt hs_c9 tx L A_c9 b from ⟨rw_10, f_11, ⟨_, f_12, hL_1⟩, ⟨_, e11_c9, hA_c9⟩, ⟨_, e14_c9, hb_c9⟩, ⟨_, e12_c9⟩, ⟨_, e13_c9⟩, ⟨_, e15_c9⟩, by omega, by omega, by omega, by omega, by omega, by omega⟩) fr_13)
          · simp only [cmpEq, show (60309823 : Int64).toInt = 60309823 from by decide] at h13
            refine g_loadL act (gx gp_219 (w := 0x1001e06) rfl (by decide) rfl) (a := 1) (n := 30) rfl rfl rfl ?_
            refine g_constL act (gx gp_219 (w := 0x40000000004a5fe42000000002101) rfl (by decide) rfl) (n := 33) (x := (9748424 : Int64)) (by decide) rfl ?_
            refine g_lcmp act (gx gp_219 (w := 0x220c) rfl (by decide) rfl) (n := 34) rfl ?_
            refine g_ifEq act (gx gp_219 (w := 0x2d00250e) rfl (by decide) rfl) (tgt := 45) (n := 37) rfl rfl (fun h17 => ?_) (fun h17 => ?_)
            · simp only [cmpEq, show (9748424 : Int64).toInt = 9748424 from by decide] at h17
              exact n_forget (d := D_219) (L2 := [some (.ref 124), none, none]) (fun i v hi => by
                match i, hi with
                | 0, hi => exact hi
                | 1, hi => cases hi
                | 2, hi => cases hi
                | i + 3, hi => cases hi) (fin45 _ _ (show PSt hs_c9 tx L A_c9 b from ⟨rw_10, f_11, ⟨_, f_12, hL_1⟩, ⟨_, e11_c9, hA_c9⟩, ⟨_, e14_c9, hb_c9⟩, ⟨_, e12_c9⟩, ⟨_, e13_c9⟩, ⟨_, e15_c9⟩, by omega, by omega, by omega, by omega, by omega, by omega⟩) fr_13)
            · simp only [cmpEq, show (9748424 : Int64).toInt = 9748424 from by decide] at h17
              refine g_loadL act (gx gp_219 (w := 0x1002606) rfl (by decide) rfl) (a := 1) (n := 38) rfl rfl rfl ?_
              refine g_constL act (gx gp_219 (w := 0x4000000006c24230a000000002901) rfl (by decide) rfl) (n := 41) (x := (226788449 : Int64)) (by decide) rfl ?_
              refine g_lcmp act (gx gp_219 (w := 0x2a0c) rfl (by decide) rfl) (n := 42) rfl ?_
              refine g_ifNe act (gx gp_219 (w := 0x31002d1d) rfl (by decide) rfl) (tgt := 49) (n := 45) rfl rfl (fun h21 => ?_) (fun h21 => ?_)
              · simp only [cmpEq, show (226788449 : Int64).toInt = 226788449 from by decide] at h21
                exact n_forget (d := D_219) (L2 := [some (.ref 124), none, none]) (fun i v hi => by
                  match i, hi with
                  | 0, hi => exact hi
                  | 1, hi => cases hi
                  | 2, hi => cases hi
                  | i + 3, hi => cases hi) (fin49 _ _ (show PSt hs_c9 tx L A_c9 b from ⟨rw_10, f_11, ⟨_, f_12, hL_1⟩, ⟨_, e11_c9, hA_c9⟩, ⟨_, e14_c9, hb_c9⟩, ⟨_, e12_c9⟩, ⟨_, e13_c9⟩, ⟨_, e15_c9⟩, by omega, by omega, by omega, by omega, by omega, by omega⟩) fr_13)
              · simp only [cmpEq, show (226788449 : Int64).toInt = 226788449 from by decide] at h21
                exact n_forget (d := D_219) (L2 := [some (.ref 124), none, none]) (fun i v hi => by
                  match i, hi with
                  | 0, hi => exact hi
                  | 1, hi => cases hi
                  | 2, hi => cases hi
                  | i + 3, hi => cases hi) (fin45 _ _ (show PSt hs_c9 tx L A_c9 b from ⟨rw_10, f_11, ⟨_, f_12, hL_1⟩, ⟨_, e11_c9, hA_c9⟩, ⟨_, e14_c9, hb_c9⟩, ⟨_, e12_c9⟩, ⟨_, e13_c9⟩, ⟨_, e15_c9⟩, by omega, by omega, by omega, by omega, by omega, by omega⟩) fr_13)
    · exact absurd hpo.1 (by omega)
  · exact absurd hpo.1 (by omega)

theorem br_readOutage (hP : PSt hs tx L A b) (hF : IArr hs 126 46 fv) (hG : IArr hs 128 39 gv) (hnl : fv 2 = (nl : Int)) (hl6 : nl ≤ 6) (hn0 : fv 0 = (n9 : Int) + 1) (hn1 : 1 ≤ n9) (hn3 : n9 ≤ 3) (hR9 : ∀ l, l < nl → 0 ≤ fv (5 + l) ∧ fv (5 + l) ≤ 3 ∧ 0 ≤ fv (11 + l) ∧ fv (11 + l) ≤ 3) (hb1 : b = 0 → 1 ≤ nl) : BodyN SSX TBL g0 CLS bl xs l D_261 4 89 0 0 [.ref 124] hs (fun kd r h2 => kd = 0 ∧ r = none ∧ ∃ (A2 b2 : Int) (gv2 : Nat → Int), PSt h2 tx L A2 b2 ∧ FrS WRd hs h2 ∧ IArr h2 126 46 fv ∧ IArr h2 128 39 gv2 ∧ (∀ j, j < 38 → gv2 j = gv j) ∧ b ≤ b2 ∧ OK9 b2 fv nl n9 (gv2 38)) := by
  intro wp p e R s m args below meth c Q kc0 ks0 kc ks act hf hl hc hsl hEnd
  have hf : 4 ≤ R.frames := hf
  have hl : 89 ≤ R.locals := hl
  have hk1 : kc ≤ kc + 0 := by omega
  have hk2 : ks ≤ ks + 0 := by omega
  obtain ⟨rw_1, hT_1, ⟨L9_1, e10_1, hL_1⟩, ⟨A9_1, e11_1, hA_1⟩, ⟨b9_1, e14_1, hb_1⟩, ⟨c9_1, e12_1⟩, ⟨d9_1, e13_1⟩, ⟨f9_1, e15_1⟩, q1_1, q2_1, q3_1, q4_1, q5_1, q6_1⟩ := hP
  have hfr0 := FrS.rf WRd hs
  show WpN (gp g0 wp) CLS p l e R s m args below meth c Q D_261.2.2.1 kc0 ks0 0 [some (.ref 124), none] (hs, kc, ks) []
  refine g_loadA act (gx gp_261 (w := 0x103) rfl (by decide) rfl) (a := 0) (n := 1) rfl rfl rfl ?_
  refine r_getf act (gx gp_261 (w := 0x3000109000404) rfl (by decide) rfl) (n := 4) (ci := 9) (j := 4) (N := 39) rfl rfl rfl rw_1.1 (by decide) (rw_1.2 (4, 128, 32, 39) (by decide)).1 ?_
  refine g_constI act (gx gp_261 (w := 0x40000013400000131000000000601) rfl (by decide) rfl) (n := 6) (x := (38 : Int32)) (by decide) rfl ?_
  refine g_constI act (gx gp_261 (w := 0x3fffffffbfffffff9000000000701) rfl (by decide) rfl) (n := 7) (x := (-1 : Int32)) (by decide) rfl ?_
  refine r_iast act (gx gp_261 (w := 0x824) rfl (by decide) rfl) (n := 8) (j := 38) rfl (rw_1.2 (4, 128, 32, 39) (by decide)).2 (show (38 : Int32).toInt = ((38 : Nat) : Int) from by decide) (show 38 < 39 by omega) ?_
  have rw_2 := RW.wr (k := 128) (j := 38) (v := .int (-1 : Int32)) rw_1 (Or.inl (by decide))
  have f_3 := hT_1.ne (k := 128) (j := 38) (v := .int (-1 : Int32)) (by decide)
  have f_4 := (rd_ne hs (k := 128) (j := 38) (.int (-1 : Int32)) (Or.inl (by decide))).trans e10_1
  have f_5 := (rd_ne hs (k := 128) (j := 38) (.int (-1 : Int32)) (Or.inl (by decide))).trans e11_1
  have f_6 := (rd_ne hs (k := 128) (j := 38) (.int (-1 : Int32)) (Or.inl (by decide))).trans e14_1
  have f_7 := (rd_ne hs (k := 128) (j := 38) (.int (-1 : Int32)) (Or.inl (by decide))).trans e12_1
  have f_8 := (rd_ne hs (k := 128) (j := 38) (.int (-1 : Int32)) (Or.inl (by decide))).trans e13_1
  have f_9 := (rd_ne hs (k := 128) (j := 38) (.int (-1 : Int32)) (Or.inl (by decide))).trans e15_1
  have f_10 := hF.ne (k := 128) (j := 38) (v := .int (-1 : Int32)) (by decide)
  have f_11 := hG.put (j := 38) (rw_1.2 (4, 128, 32, 39) (by decide)).2 (show (-1 : Int32).toInt = (-1 : Int) from by decide)
  have fr_12 := hfr0.wr (k := 128) (j := 38) (.int (-1 : Int32)) (by unfold WRd; omega)
  clear rw_1 hfr0 hT_1 e10_1 e11_1 e14_1 e12_1 e13_1 e15_1 hF hG
  generalize (wr hs 128 38 (.int (-1 : Int32))) = hs_13 at *
  refine g_loadA act (gx gp_261 (w := 0x903) rfl (by decide) rfl) (a := 0) (n := 9) rfl rfl rfl ?_
  refine g_constL act (gx gp_261 (w := 0x4000000006c24230a000000000c01) rfl (by decide) rfl) (n := 12) (x := (226788449 : Int64)) (by decide) rfl ?_
  refine n_call tb_pres act hEnd (gx (P := G_call) gp_261 (w := 0xa000000000000c0c32000115000f0f) rfl (by decide) rfl) (d' := D_277) rfl (as := [.ref 124, .long (226788449 : Int64)]) (rest := []) (br_takes (n9 := (226788449 : Int64)) (show PSt hs_13 tx L A b from ⟨rw_2, f_3, ⟨_, f_4, hL_1⟩, ⟨_, f_5, hA_1⟩, ⟨_, f_6, hb_1⟩, ⟨_, f_7⟩, ⟨_, f_8⟩, ⟨_, f_9⟩, by omega, by omega, by omega, by omega, by omega, by omega⟩)) (show (2 : Nat) = fb 0xa000000000000c0c32000115000f0f % 16 by decide) (by show (3 : Nat) ≤ 3; decide) (fun _ => ⟨_, _, rfl, _, shp_at rw_2.1, Or.inr (show fb 0xa000000000000c0c32000115000f0f >>> 68 = 10 by decide)⟩) (by omega) (by show 8 + (3 + 11) + 67 ≤ R.locals; omega) (by show (0 : Nat) ≤ 8; decide) (by show kc + 0 ≤ _; omega) (by show ks + 0 ≤ _; omega) (fun r9 hs_c14 hpo hr9 => ?_) (fun x9 hs9 hx9 hpo => ?_)
  · obtain ⟨-, A_c14, rv_c14, rfl, hP_c14, fr_c14, q7_c14, q8_c14, q9_c14⟩ := hpo
    first | (replace q8_c14 := q8_c14 (by omega)) | clear q8_c14
    have qn_c14 : ((226788449 : Int64)).toInt ≠ 0 := by decide
    have rw_15 := rw_2.fr fr_c14 WP_rw
    have f_16 := f_3.fr (fun j9 _ => fr_c14.2.2 130 j9 (by unfold WP; omega))
    have f_17 := rd_fr fr_c14 f_4 (by unfold WP; omega)
    have f_18 := f_10.fr (fun j9 _ => fr_c14.2.2 126 j9 (by unfold WP; omega))
    have f_19 := f_11.fr (fun j9 _ => fr_c14.2.2 128 j9 (by unfold WP; omega))
    have fr_20 := fr_12.tr (fr_c14.mono (fun k9 j9 h9 => by unfold WP at h9; unfold WRd; omega))
    obtain ⟨-, -, -, ⟨A9_c14, e11_c14, hA_c14⟩, ⟨b9_c14, e14_c14, hb_c14⟩, ⟨c9_c14, e12_c14⟩, ⟨d9_c14, e13_c14⟩, ⟨f9_c14, e15_c14⟩, -, -, q3_c14, q4_c14, q5_c14, q6_c14⟩ := hP_c14
    clear rw_2 f_3 f_4 f_5 f_6 f_7 f_8 f_9 f_10 f_11 fr_12
    show WpN (gp g0 wp) CLS p l e R s m args below meth c Q D_261.2.2.1 kc0 ks0 15 [some (.ref 124), none] (hs_c14, kc, ks) [.int rv_c14]
    refine g_ifNe act (gx gp_261 (w := 0x1300121d) rfl (by decide) rfl) (tgt := 19) (n := 18) rfl rfl (fun h6 => ?_) (fun h6 => ?_)
    · simp only [i_eq, i0] at h6
      refine g_loadA act (gx gp_261 (w := 0x1403) rfl (by decide) rfl) (a := 0) (n := 20) rfl rfl rfl ?_
      refine g_constI act (gx gp_261 (w := 0x40000000400000001000000001501) rfl (by decide) rfl) (n := 21) (x := (0 : Int32)) (by decide) rfl ?_
      refine g_loadA act (gx gp_261 (w := 0x1603) rfl (by decide) rfl) (a := 0) (n := 22) rfl rfl rfl ?_
      refine r_getf act (gx gp_261 (w := 0x3000089001904) rfl (by decide) rfl) (n := 25) (ci := 9) (j := 2) (N := 39) rfl rfl rfl rw_15.1 (by decide) (rw_15.2 (2, 126, 32, 46) (by decide)).1 ?_
      refine g_constI act (gx gp_261 (w := 0x40000001400000011000000001a01) rfl (by decide) rfl) (n := 26) (x := (2 : Int32)) (by decide) rfl ?_
      obtain ⟨x_21, e_22, hx_23⟩ := f_18 2 (by omega)
      refine r_iald act (gx gp_261 (w := 0x1b1a) rfl (by decide) rfl) (n := 27) (j := 2) rfl (rw_15.2 (2, 126, 32, 46) (by decide)).2 (show (2 : Int32).toInt = ((2 : Nat) : Int) from by decide) (show 2 < 46 by omega) (v := .int x_21) e_22 ?_
      refine g_constI act (gx gp_261 (w := 0x40000000c00000009000000001c01) rfl (by decide) rfl) (n := 28) (x := (1 : Int32)) (by decide) rfl ?_
      refine g_isub act (gx gp_261 (w := 0x1d26) rfl (by decide) rfl) (n := 29) rfl ?_
      have v_24 := iv_sub (hx_23.trans hnl) (show (1 : Int32).toInt = ((1 : Nat) : Int) from by decide) (show -2147483648 ≤ (((nl : Nat) : Int) - ((1 : Nat) : Int)) by omega) (show (((nl : Nat) : Int) - ((1 : Nat) : Int)) < 2147483648 by omega)
      refine n_call tb_pres act hEnd (gx (P := G_call) gp_261 (w := 0xa000000000000c18330000f400200f) rfl (by decide) rfl) (d' := D_244) rfl (as := [.ref 124, .int (0 : Int32), .int (x_21 - (1 : Int32))]) (rest := []) (br_number (show PSt hs_c14 tx L A_c14 b from ⟨rw_15, f_16, ⟨_, f_17, hL_1⟩, ⟨_, e11_c14, hA_c14⟩, ⟨_, e14_c14, hb_c14⟩, ⟨_, e12_c14⟩, ⟨_, e13_c14⟩, ⟨_, e15_c14⟩, by omega, by omega, by omega, by omega, by omega, by omega⟩) (show (0 : Int32).toInt = ((0 : Nat) : Int) from by decide) v_24 (by omega)) (show (3 : Nat) = fb 0xa000000000000c18330000f400200f % 16 by decide) (by show (3 : Nat) ≤ 6; decide) (fun _ => ⟨_, _, rfl, _, shp_at rw_15.1, Or.inr (show fb 0xa000000000000c18330000f400200f >>> 68 = 10 by decide)⟩) (by omega) (by show 8 + (6 + 11) + 22 ≤ R.locals; omega) (by show (0 : Nat) ≤ 8; decide) (by show kc + 0 ≤ _; omega) (by show ks + 0 ≤ _; omega) (fun r9 hs_c25 hpo hr9 => ?_) (fun x9 hs9 hx9 hpo => ?_)
      · obtain ⟨-, A_c25, b_c25, rv_c25, rfl, hP_c25, fr_c25, q7_c25, q8_c25, q9_c25, q10_c25, q11_c25⟩ := hpo
        try replace q8_c25 := q8_c25 (by omega)
        have rw_26 := rw_15.fr fr_c25 WP_rw
        have f_27 := f_16.fr (fun j9 _ => fr_c25.2.2 130 j9 (by unfold WP; omega))
        have f_28 := rd_fr fr_c25 f_17 (by unfold WP; omega)
        have f_29 := f_18.fr (fun j9 _ => fr_c25.2.2 126 j9 (by unfold WP; omega))
        have f_30 := f_19.fr (fun j9 _ => fr_c25.2.2 128 j9 (by unfold WP; omega))
        have fr_31 := fr_20.tr (fr_c25.mono (fun k9 j9 h9 => by unfold WP at h9; unfold WRd; omega))
        obtain ⟨-, -, -, ⟨A9_c25, e11_c25, hA_c25⟩, ⟨b9_c25, e14_c25, hb_c25⟩, ⟨c9_c25, e12_c25⟩, ⟨d9_c25, e13_c25⟩, ⟨f9_c25, e15_c25⟩, -, -, q3_c25, q4_c25, q5_c25, q6_c25⟩ := hP_c25
        clear rw_15 f_16 f_17 f_18 f_19 e11_c14 e14_c14 e12_c14 e13_c14 e15_c14 fr_20
        show WpN (gp g0 wp) CLS p l e R s m args below meth c Q D_261.2.2.1 kc0 ks0 32 [some (.ref 124), none] (hs_c25, kc, ks) [.int rv_c25]
        refine g_storeI act (gx gp_261 (w := 0x1002110) rfl (by decide) rfl) (a := 1) (n := 33) rfl rfl (L2 := [some (.ref 124), some (.int rv_c25)]) rfl ?_
        refine g_loadA act (gx gp_261 (w := 0x2203) rfl (by decide) rfl) (a := 0) (n := 34) rfl rfl rfl ?_
        refine r_getf act (gx gp_261 (w := 0x1000389002504) rfl (by decide) rfl) (n := 37) (ci := 9) (j := 14) (N := 39) rfl rfl rfl rw_26.1 (by decide) (v := .int b9_c25) e14_c25 ?_
        refine g_ifNe act (gx gp_261 (w := 0x3c00281d) rfl (by decide) rfl) (tgt := 60) (n := 40) rfl rfl (fun h14 => ?_) (fun h14 => ?_)
        · simp only [i_eq, i0] at h14
          refine g_loadA act (gx gp_261 (w := 0x3d03) rfl (by decide) rfl) (a := 0) (n := 61) rfl rfl rfl ?_
          refine n_call tb_pres act hEnd (gx (P := G_call) gp_261 (w := 0xa000000000000804110000c900400f) rfl (by decide) rfl) (d' := D_201) rfl (as := [.ref 124]) (rest := []) (br_end (show PSt hs_c25 tx L A_c25 b_c25 from ⟨rw_26, f_27, ⟨_, f_28, hL_1⟩, ⟨_, e11_c25, hA_c25⟩, ⟨_, e14_c25, hb_c25⟩, ⟨_, e12_c25⟩, ⟨_, e13_c25⟩, ⟨_, e15_c25⟩, by omega, by omega, by omega, by omega, by omega, by omega⟩) (by omega)) (show (1 : Nat) = fb 0xa000000000000804110000c900400f % 16 by decide) (by show (1 : Nat) ≤ 1; decide) (fun _ => ⟨_, _, rfl, _, shp_at rw_26.1, Or.inr (show fb 0xa000000000000804110000c900400f >>> 68 = 10 by decide)⟩) (by omega) (by show 8 + (1 + 11) + 22 ≤ R.locals; omega) (by show (0 : Nat) ≤ 8; decide) (by show kc + 0 ≤ _; omega) (by show ks + 0 ≤ _; omega) (fun r9 hs_c32 hpo hr9 => ?_) (fun x9 hs9 hx9 hpo => ?_)
          · obtain rfl : r9 = none := hr9.elim (fun q => q.2) (fun q => absurd rfl q.1)
            obtain ⟨-, -, A_c32, b_c32, hP_c32, fr_c32, q7_c32, q8_c32⟩ := hpo
            have rw_33 := rw_26.fr fr_c32 WP_rw
            have f_34 := f_27.fr (fun j9 _ => fr_c32.2.2 130 j9 (by unfold WP; omega))
            have f_35 := rd_fr fr_c32 f_28 (by unfold WP; omega)
            have f_36 := f_29.fr (fun j9 _ => fr_c32.2.2 126 j9 (by unfold WP; omega))
            have f_37 := f_30.fr (fun j9 _ => fr_c32.2.2 128 j9 (by unfold WP; omega))
            have fr_38 := fr_31.tr (fr_c32.mono (fun k9 j9 h9 => by unfold WP at h9; unfold WRd; omega))
            obtain ⟨-, -, -, ⟨A9_c32, e11_c32, hA_c32⟩, ⟨b9_c32, e14_c32, hb_c32⟩, ⟨c9_c32, e12_c32⟩, ⟨d9_c32, e13_c32⟩, ⟨f9_c32, e15_c32⟩, -, -, q3_c32, q4_c32, q5_c32, q6_c32⟩ := hP_c32
            clear rw_26 f_27 f_28 f_29 f_30 e11_c25 e14_c25 e12_c25 e13_c25 e15_c25 fr_31
            show WpN (gp g0 wp) CLS p l e R s m args below meth c Q D_261.2.2.1 kc0 ks0 64 [some (.ref 124), some (.int rv_c25)] (hs_c32, kc, ks) []
            refine g_loadA act (gx gp_261 (w := 0x4103) rfl (by decide) rfl) (a := 0) (n := 65) rfl rfl rfl ?_
            refine r_getf act (gx gp_261 (w := 0x3000109004404) rfl (by decide) rfl) (n := 68) (ci := 9) (j := 4) (N := 39) rfl rfl rfl rw_33.1 (by decide) (rw_33.2 (4, 128, 32, 39) (by decide)).1 ?_
            refine g_constI act (gx gp_261 (w := 0x40000013400000131000000004601) rfl (by decide) rfl) (n := 70) (x := (38 : Int32)) (by decide) rfl ?_
            refine g_loadI act (gx gp_261 (w := 0x1004702) rfl (by decide) rfl) (a := 1) (n := 71) rfl rfl rfl ?_
            refine r_iast act (gx gp_261 (w := 0x4824) rfl (by decide) rfl) (n := 72) (j := 38) rfl (rw_33.2 (4, 128, 32, 39) (by decide)).2 (show (38 : Int32).toInt = ((38 : Nat) : Int) from by decide) (show 38 < 39 by omega) ?_
            have rw_39 := RW.wr (k := 128) (j := 38) (v := .int rv_c25) rw_33 (Or.inl (by decide))
            have f_40 := f_34.ne (k := 128) (j := 38) (v := .int rv_c25) (by decide)
            have f_41 := (rd_ne hs_c32 (k := 128) (j := 38) (.int rv_c25) (Or.inl (by decide))).trans f_35
            have f_42 := f_36.ne (k := 128) (j := 38) (v := .int rv_c25) (by decide)
            have f_43 := f_37.put (j := 38) (rw_33.2 (4, 128, 32, 39) (by decide)).2 (rfl : Int32.toInt rv_c25 = _)
            have f_44 := (rd_ne hs_c32 (k := 128) (j := 38) (.int rv_c25) (Or.inl (by decide))).trans e11_c32
            have f_45 := (rd_ne hs_c32 (k := 128) (j := 38) (.int rv_c25) (Or.inl (by decide))).trans e14_c32
            have f_46 := (rd_ne hs_c32 (k := 128) (j := 38) (.int rv_c25) (Or.inl (by decide))).trans e12_c32
            have f_47 := (rd_ne hs_c32 (k := 128) (j := 38) (.int rv_c25) (Or.inl (by decide))).trans e13_c32
            have f_48 := (rd_ne hs_c32 (k := 128) (j := 38) (.int rv_c25) (Or.inl (by decide))).trans e15_c32
            have fr_49 := fr_38.wr (k := 128) (j := 38) (.int rv_c25) (by unfold WRd; omega)
            clear rw_33 fr_38 f_34 f_35 f_36 f_37 e11_c32 e14_c32 e12_c32 e13_c32 e15_c32
            generalize (wr hs_c32 128 38 (.int rv_c25)) = hs_50 at *
            have hok : OK9 b_c32 fv nl n9 ((upI (upI gv 38 (-1)) 38 (Int32.toInt rv_c25)) 38) := fun q => by
              have e9 : ((upI (upI gv 38 (-1)) 38 (Int32.toInt rv_c25)) 38) = (Int32.toInt rv_c25) := by simp only [upI, ↓reduceIte]
              rw [e9]
              exfalso; omega
            exact g_retV hEnd (gx gp_261 (w := 0x18) rfl (by decide) rfl) ⟨rfl, rfl, A_c32, b_c32, _, (show PSt hs_50 tx L A_c32 b_c32 from ⟨rw_39, f_40, ⟨_, f_41, hL_1⟩, ⟨_, f_44, hA_c32⟩, ⟨_, f_45, hb_c32⟩, ⟨_, f_46⟩, ⟨_, f_47⟩, ⟨_, f_48⟩, by omega, by omega, by omega, by omega, by omega, by omega⟩), fr_49, f_42, f_43, fun j hj => by simp only [upI]; omega, by omega, hok⟩ hk1 hk2
          · exact absurd hpo.1 (by omega)
        · simp only [i_eq, i0] at h14
          refine g_loadA act (gx gp_261 (w := 0x2903) rfl (by decide) rfl) (a := 0) (n := 41) rfl rfl rfl ?_
          refine r_getf act (gx gp_261 (w := 0x3000089002c04) rfl (by decide) rfl) (n := 44) (ci := 9) (j := 2) (N := 39) rfl rfl rfl rw_26.1 (by decide) (rw_26.2 (2, 126, 32, 46) (by decide)).1 ?_
          refine g_loadI act (gx gp_261 (w := 0x1002d02) rfl (by decide) rfl) (a := 1) (n := 45) rfl rfl rfl ?_
          refine n_call tb_pres act hEnd (gx (P := G_call) gp_261 (w := 0x418220000c100300f) rfl (by decide) rfl) (d' := D_193) rfl (as := [.ref 126, .int rv_c25]) (rest := []) (br_con126 rw_26 f_29 (rfl : Int32.toInt rv_c25 = _) hnl hl6 hn0 hn1 hn3 hR9) (show (2 : Nat) = fb 0x418220000c100300f % 16 by decide) (by show (2 : Nat) ≤ 6; decide) (fun q => absurd q (by decide)) (by omega) (by show 8 + (6 + 11) + 0 ≤ R.locals; omega) (by show (0 : Nat) ≤ 8; decide) (by show kc + 0 ≤ _; omega) (by show ks + 0 ≤ _; omega) (fun r9 h3 hpo hr9 => ?_) (fun x9 hs9 hx9 hpo => ?_)
          · obtain ⟨-, rfl, rv_51, rfl, hcn_52⟩ := hpo
            show WpN (gp g0 wp) CLS p l e R s m args below meth c Q D_261.2.2.1 kc0 ks0 48 [some (.ref 124), some (.int rv_c25)] (hs_c25, kc, ks) [.int rv_51]
            refine g_ifNe act (gx gp_261 (w := 0x3c00331d) rfl (by decide) rfl) (tgt := 60) (n := 51) rfl rfl (fun h21 => ?_) (fun h21 => ?_)
            · simp only [i_eq, i0] at h21
              refine g_loadA act (gx gp_261 (w := 0x3d03) rfl (by decide) rfl) (a := 0) (n := 61) rfl rfl rfl ?_
              refine n_call tb_pres act hEnd (gx (P := G_call) gp_261 (w := 0xa000000000000804110000c900400f) rfl (by decide) rfl) (d' := D_201) rfl (as := [.ref 124]) (rest := []) (br_end (show PSt hs_c25 tx L A_c25 b_c25 from ⟨rw_26, f_27, ⟨_, f_28, hL_1⟩, ⟨_, e11_c25, hA_c25⟩, ⟨_, e14_c25, hb_c25⟩, ⟨_, e12_c25⟩, ⟨_, e13_c25⟩, ⟨_, e15_c25⟩, by omega, by omega, by omega, by omega, by omega, by omega⟩) (by omega)) (show (1 : Nat) = fb 0xa000000000000804110000c900400f % 16 by decide) (by show (1 : Nat) ≤ 1; decide) (fun _ => ⟨_, _, rfl, _, shp_at rw_26.1, Or.inr (show fb 0xa000000000000804110000c900400f >>> 68 = 10 by decide)⟩) (by omega) (by show 8 + (1 + 11) + 22 ≤ R.locals; omega) (by show (0 : Nat) ≤ 8; decide) (by show kc + 0 ≤ _; omega) (by show ks + 0 ≤ _; omega) (fun r9 hs_c53 hpo hr9 => ?_) (fun x9 hs9 hx9 hpo => ?_)
              · obtain rfl : r9 = none := hr9.elim (fun q => q.2) (fun q => absurd rfl q.1)
                obtain ⟨-, -, A_c53, b_c53, hP_c53, fr_c53, q7_c53, q8_c53⟩ := hpo
                have rw_54 := rw_26.fr fr_c53 WP_rw
                have f_55 := f_27.fr (fun j9 _ => fr_c53.2.2 130 j9 (by unfold WP; omega))
                have f_56 := rd_fr fr_c53 f_28 (by unfold WP; omega)
                have f_57 := f_29.fr (fun j9 _ => fr_c53.2.2 126 j9 (by unfold WP; omega))
                have f_58 := f_30.fr (fun j9 _ => fr_c53.2.2 128 j9 (by unfold WP; omega))
                have fr_59 := fr_31.tr (fr_c53.mono (fun k9 j9 h9 => by unfold WP at h9; unfold WRd; omega))
                obtain ⟨-, -, -, ⟨A9_c53, e11_c53, hA_c53⟩, ⟨b9_c53, e14_c53, hb_c53⟩, ⟨c9_c53, e12_c53⟩, ⟨d9_c53, e13_c53⟩, ⟨f9_c53, e15_c53⟩, -, -, q3_c53, q4_c53, q5_c53, q6_c53⟩ := hP_c53
                clear rw_26 f_27 f_28 f_29 f_30 e11_c25 e14_c25 e12_c25 e13_c25 e15_c25 fr_31
                show WpN (gp g0 wp) CLS p l e R s m args below meth c Q D_261.2.2.1 kc0 ks0 64 [some (.ref 124), some (.int rv_c25)] (hs_c53, kc, ks) []
                refine g_loadA act (gx gp_261 (w := 0x4103) rfl (by decide) rfl) (a := 0) (n := 65) rfl rfl rfl ?_
                refine r_getf act (gx gp_261 (w := 0x3000109004404) rfl (by decide) rfl) (n := 68) (ci := 9) (j := 4) (N := 39) rfl rfl rfl rw_54.1 (by decide) (rw_54.2 (4, 128, 32, 39) (by decide)).1 ?_
                refine g_constI act (gx gp_261 (w := 0x40000013400000131000000004601) rfl (by decide) rfl) (n := 70) (x := (38 : Int32)) (by decide) rfl ?_
                refine g_loadI act (gx gp_261 (w := 0x1004702) rfl (by decide) rfl) (a := 1) (n := 71) rfl rfl rfl ?_
                refine r_iast act (gx gp_261 (w := 0x4824) rfl (by decide) rfl) (n := 72) (j := 38) rfl (rw_54.2 (4, 128, 32, 39) (by decide)).2 (show (38 : Int32).toInt = ((38 : Nat) : Int) from by decide) (show 38 < 39 by omega) ?_
                have rw_60 := RW.wr (k := 128) (j := 38) (v := .int rv_c25) rw_54 (Or.inl (by decide))
                have f_61 := f_55.ne (k := 128) (j := 38) (v := .int rv_c25) (by decide)
                have f_62 := (rd_ne hs_c53 (k := 128) (j := 38) (.int rv_c25) (Or.inl (by decide))).trans f_56
                have f_63 := f_57.ne (k := 128) (j := 38) (v := .int rv_c25) (by decide)
                have f_64 := f_58.put (j := 38) (rw_54.2 (4, 128, 32, 39) (by decide)).2 (rfl : Int32.toInt rv_c25 = _)
                have f_65 := (rd_ne hs_c53 (k := 128) (j := 38) (.int rv_c25) (Or.inl (by decide))).trans e11_c53
                have f_66 := (rd_ne hs_c53 (k := 128) (j := 38) (.int rv_c25) (Or.inl (by decide))).trans e14_c53
                have f_67 := (rd_ne hs_c53 (k := 128) (j := 38) (.int rv_c25) (Or.inl (by decide))).trans e12_c53
                have f_68 := (rd_ne hs_c53 (k := 128) (j := 38) (.int rv_c25) (Or.inl (by decide))).trans e13_c53
                have f_69 := (rd_ne hs_c53 (k := 128) (j := 38) (.int rv_c25) (Or.inl (by decide))).trans e15_c53
                have fr_70 := fr_59.wr (k := 128) (j := 38) (.int rv_c25) (by unfold WRd; omega)
                clear rw_54 fr_59 f_55 f_56 f_57 f_58 e11_c53 e14_c53 e12_c53 e13_c53 e15_c53
                generalize (wr hs_c53 128 38 (.int rv_c25)) = hs_71 at *
                have hok : OK9 b_c53 fv nl n9 ((upI (upI gv 38 (-1)) 38 (Int32.toInt rv_c25)) 38) := fun q => by
                  have e9 : ((upI (upI gv 38 (-1)) 38 (Int32.toInt rv_c25)) 38) = (Int32.toInt rv_c25) := by simp only [upI, ↓reduceIte]
                  rw [e9]
                  by_cases q9 : (b : Int) = 0
                  · exact Or.inr ⟨by omega, by omega, (hcn_52.resolve_left (by omega)).2⟩
                  · exfalso; omega
                exact g_retV hEnd (gx gp_261 (w := 0x18) rfl (by decide) rfl) ⟨rfl, rfl, A_c53, b_c53, _, (show PSt hs_71 tx L A_c53 b_c53 from ⟨rw_60, f_61, ⟨_, f_62, hL_1⟩, ⟨_, f_65, hA_c53⟩, ⟨_, f_66, hb_c53⟩, ⟨_, f_67⟩, ⟨_, f_68⟩, ⟨_, f_69⟩, by omega, by omega, by omega, by omega, by omega, by omega⟩), fr_70, f_63, f_64, fun j hj => by simp only [upI]; omega, by omega, hok⟩ hk1 hk2
              · exact absurd hpo.1 (by omega)
            · simp only [i_eq, i0] at h21
              refine g_loadA act (gx gp_261 (w := 0x3403) rfl (by decide) rfl) (a := 0) (n := 52) rfl rfl rfl ?_
              refine g_constI act (gx gp_261 (w := 0x40000002c00000029000000003501) rfl (by decide) rfl) (n := 53) (x := (5 : Int32)) (by decide) rfl ?_
              refine g_loadA act (gx gp_261 (w := 0x3603) rfl (by decide) rfl) (a := 0) (n := 54) rfl rfl rfl ?_
              refine r_getf act (gx gp_261 (w := 0x3c9003904) rfl (by decide) rfl) (n := 57) (ci := 9) (j := 15) (N := 39) rfl rfl rfl rw_26.1 (by decide) (v := .int f9_c25) e15_c25 ?_
              refine n_call tb_pres act hEnd (gx (P := G_call) gp_261 (w := 0xa00000000000080c33000121003c0f) rfl (by decide) rfl) (d' := D_289) rfl (as := [.ref 124, .int (5 : Int32), .int f9_c25]) (rest := []) (br_wrong (show PSt hs_c25 tx L A_c25 b_c25 from ⟨rw_26, f_27, ⟨_, f_28, hL_1⟩, ⟨_, e11_c25, hA_c25⟩, ⟨_, e14_c25, hb_c25⟩, ⟨_, e12_c25⟩, ⟨_, e13_c25⟩, ⟨_, e15_c25⟩, by omega, by omega, by omega, by omega, by omega, by omega⟩)) (show (3 : Nat) = fb 0xa00000000000080c33000121003c0f % 16 by decide) (by show (3 : Nat) ≤ 3; decide) (fun _ => ⟨_, _, rfl, _, shp_at rw_26.1, Or.inr (show fb 0xa00000000000080c33000121003c0f >>> 68 = 10 by decide)⟩) (by omega) (by show 8 + (3 + 11) + 0 ≤ R.locals; omega) (by show (0 : Nat) ≤ 8; decide) (by show kc + 0 ≤ _; omega) (by show ks + 0 ≤ _; omega) (fun r9 hs_c72 hpo hr9 => ?_) (fun x9 hs9 hx9 hpo => ?_)
              · obtain rfl : r9 = none := hr9.elim (fun q => q.2) (fun q => absurd rfl q.1)
                obtain ⟨-, b_c72, hP_c72, fr_c72, qb_c72⟩ := hpo
                obtain ⟨A_c72, qA_c72⟩ : ∃ z : Int, z = A_c25 := ⟨_, rfl⟩
                rw [← qA_c72] at hP_c72
                have rw_73 := rw_26.fr fr_c72 WP_rw
                have f_74 := f_27.fr (fun j9 _ => fr_c72.2.2 130 j9 (by unfold WP; omega))
                have f_75 := rd_fr fr_c72 f_28 (by unfold WP; omega)
                have f_76 := f_29.fr (fun j9 _ => fr_c72.2.2 126 j9 (by unfold WP; omega))
                have f_77 := f_30.fr (fun j9 _ => fr_c72.2.2 128 j9 (by unfold WP; omega))
                have fr_78 := fr_31.tr (fr_c72.mono (fun k9 j9 h9 => by unfold WP at h9; unfold WRd; omega))
                obtain ⟨-, -, -, ⟨A9_c72, e11_c72, hA_c72⟩, ⟨b9_c72, e14_c72, hb_c72⟩, ⟨c9_c72, e12_c72⟩, ⟨d9_c72, e13_c72⟩, ⟨f9_c72, e15_c72⟩, -, -, q3_c72, q4_c72, q5_c72, q6_c72⟩ := hP_c72
                clear rw_26 f_27 f_28 f_29 f_30 e11_c25 e14_c25 e12_c25 e13_c25 e15_c25 fr_31
                show WpN (gp g0 wp) CLS p l e R s m args below meth c Q D_261.2.2.1 kc0 ks0 60 [some (.ref 124), some (.int rv_c25)] (hs_c72, kc, ks) []
                refine g_loadA act (gx gp_261 (w := 0x3d03) rfl (by decide) rfl) (a := 0) (n := 61) rfl rfl rfl ?_
                refine n_call tb_pres act hEnd (gx (P := G_call) gp_261 (w := 0xa000000000000804110000c900400f) rfl (by decide) rfl) (d' := D_201) rfl (as := [.ref 124]) (rest := []) (br_end (show PSt hs_c72 tx L A_c72 b_c72 from ⟨rw_73, f_74, ⟨_, f_75, hL_1⟩, ⟨_, e11_c72, hA_c72⟩, ⟨_, e14_c72, hb_c72⟩, ⟨_, e12_c72⟩, ⟨_, e13_c72⟩, ⟨_, e15_c72⟩, by omega, by omega, by omega, by omega, by omega, by omega⟩) (by omega)) (show (1 : Nat) = fb 0xa000000000000804110000c900400f % 16 by decide) (by show (1 : Nat) ≤ 1; decide) (fun _ => ⟨_, _, rfl, _, shp_at rw_73.1, Or.inr (show fb 0xa000000000000804110000c900400f >>> 68 = 10 by decide)⟩) (by omega) (by show 8 + (1 + 11) + 22 ≤ R.locals; omega) (by show (0 : Nat) ≤ 8; decide) (by show kc + 0 ≤ _; omega) (by show ks + 0 ≤ _; omega) (fun r9 hs_c79 hpo hr9 => ?_) (fun x9 hs9 hx9 hpo => ?_)
                · obtain rfl : r9 = none := hr9.elim (fun q => q.2) (fun q => absurd rfl q.1)
                  obtain ⟨-, -, A_c79, b_c79, hP_c79, fr_c79, q7_c79, q8_c79⟩ := hpo
                  have rw_80 := rw_73.fr fr_c79 WP_rw
                  have f_81 := f_74.fr (fun j9 _ => fr_c79.2.2 130 j9 (by unfold WP; omega))
                  have f_82 := rd_fr fr_c79 f_75 (by unfold WP; omega)
                  have f_83 := f_76.fr (fun j9 _ => fr_c79.2.2 126 j9 (by unfold WP; omega))
                  have f_84 := f_77.fr (fun j9 _ => fr_c79.2.2 128 j9 (by unfold WP; omega))
                  have fr_85 := fr_78.tr (fr_c79.mono (fun k9 j9 h9 => by unfold WP at h9; unfold WRd; omega))
                  obtain ⟨-, -, -, ⟨A9_c79, e11_c79, hA_c79⟩, ⟨b9_c79, e14_c79, hb_c79⟩, ⟨c9_c79, e12_c79⟩, ⟨d9_c79, e13_c79⟩, ⟨f9_c79, e15_c79⟩, -, -, q3_c79, q4_c79, q5_c79, q6_c79⟩ := hP_c79
                  clear rw_73 f_74 f_75 f_76 f_77 e11_c72 e14_c72 e12_c72 e13_c72 e15_c72 fr_78
                  show WpN (gp g0 wp) CLS p l e R s m args below meth c Q D_261.2.2.1 kc0 ks0 64 [some (.ref 124), some (.int rv_c25)] (hs_c79, kc, ks) []
                  refine g_loadA act (gx gp_261 (w := 0x4103) rfl (by decide) rfl) (a := 0) (n := 65) rfl rfl rfl ?_
                  refine r_getf act (gx gp_261 (w := 0x3000109004404) rfl (by decide) rfl) (n := 68) (ci := 9) (j := 4) (N := 39) rfl rfl rfl rw_80.1 (by decide) (rw_80.2 (4, 128, 32, 39) (by decide)).1 ?_
                  refine g_constI act (gx gp_261 (w := 0x40000013400000131000000004601) rfl (by decide) rfl) (n := 70) (x := (38 : Int32)) (by decide) rfl ?_
                  refine g_loadI act (gx gp_261 (w := 0x1004702) rfl (by decide) rfl) (a := 1) (n := 71) rfl rfl rfl ?_
                  refine r_iast act (gx gp_261 (w := 0x4824) rfl (by decide) rfl) (n := 72) (j := 38) rfl (rw_80.2 (4, 128, 32, 39) (by decide)).2 (show (38 : Int32).toInt = ((38 : Nat) : Int) from by decide) (show 38 < 39 by omega) ?_
                  have rw_86 := RW.wr (k := 128) (j := 38) (v := .int rv_c25) rw_80 (Or.inl (by decide))
                  have f_87 := f_81.ne (k := 128) (j := 38) (v := .int rv_c25) (by decide)
                  have f_88 := (rd_ne hs_c79 (k := 128) (j := 38) (.int rv_c25) (Or.inl (by decide))).trans f_82
                  have f_89 := f_83.ne (k := 128) (j := 38) (v := .int rv_c25) (by decide)
                  have f_90 := f_84.put (j := 38) (rw_80.2 (4, 128, 32, 39) (by decide)).2 (rfl : Int32.toInt rv_c25 = _)
                  have f_91 := (rd_ne hs_c79 (k := 128) (j := 38) (.int rv_c25) (Or.inl (by decide))).trans e11_c79
                  have f_92 := (rd_ne hs_c79 (k := 128) (j := 38) (.int rv_c25) (Or.inl (by decide))).trans e14_c79
                  have f_93 := (rd_ne hs_c79 (k := 128) (j := 38) (.int rv_c25) (Or.inl (by decide))).trans e12_c79
                  have f_94 := (rd_ne hs_c79 (k := 128) (j := 38) (.int rv_c25) (Or.inl (by decide))).trans e13_c79
                  have f_95 := (rd_ne hs_c79 (k := 128) (j := 38) (.int rv_c25) (Or.inl (by decide))).trans e15_c79
                  have fr_96 := fr_85.wr (k := 128) (j := 38) (.int rv_c25) (by unfold WRd; omega)
                  clear rw_80 fr_85 f_81 f_82 f_83 f_84 e11_c79 e14_c79 e12_c79 e13_c79 e15_c79
                  generalize (wr hs_c79 128 38 (.int rv_c25)) = hs_97 at *
                  have hok : OK9 b_c79 fv nl n9 ((upI (upI gv 38 (-1)) 38 (Int32.toInt rv_c25)) 38) := fun q => by
                    have e9 : ((upI (upI gv 38 (-1)) 38 (Int32.toInt rv_c25)) 38) = (Int32.toInt rv_c25) := by simp only [upI, ↓reduceIte]
                    rw [e9]
                    by_cases q9 : (b : Int) = 0
                    · exact Or.inr ⟨by omega, by omega, (hcn_52.resolve_left (by omega)).2⟩
                    · exfalso; omega
                  exact g_retV hEnd (gx gp_261 (w := 0x18) rfl (by decide) rfl) ⟨rfl, rfl, A_c79, b_c79, _, (show PSt hs_97 tx L A_c79 b_c79 from ⟨rw_86, f_87, ⟨_, f_88, hL_1⟩, ⟨_, f_91, hA_c79⟩, ⟨_, f_92, hb_c79⟩, ⟨_, f_93⟩, ⟨_, f_94⟩, ⟨_, f_95⟩, by omega, by omega, by omega, by omega, by omega, by omega⟩), fr_96, f_89, f_90, fun j hj => by simp only [upI]; omega, by omega, hok⟩ hk1 hk2
                · exact absurd hpo.1 (by omega)
              · exact absurd hpo.1 (by omega)
          · exact absurd hpo.1 (by omega)
      · exact absurd hpo.1 (by omega)
    · simp only [i_eq, i0] at h6
      have hok : OK9 b fv nl n9 ((upI gv 38 (-1)) 38) := fun q => Or.inl (by simp only [upI, ↓reduceIte]; all_goals omega)
      exact g_retV hEnd (gx gp_261 (w := 0x18) rfl (by decide) rfl) ⟨rfl, rfl, A_c14, b, _, (show PSt hs_c14 tx L A_c14 b from ⟨rw_15, f_16, ⟨_, f_17, hL_1⟩, ⟨_, e11_c14, hA_c14⟩, ⟨_, e14_c14, hb_c14⟩, ⟨_, e12_c14⟩, ⟨_, e13_c14⟩, ⟨_, e15_c14⟩, by omega, by omega, by omega, by omega, by omega, by omega⟩), fr_20, f_18, f_19, fun j hj => by simp only [upI]; omega, by omega, hok⟩ hk1 hk2
  · exact absurd hpo.1 (by omega)

end PAR5

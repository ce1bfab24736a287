/-! The class's factors: the matrix and its determinant, exactly. -/
def FLS (hs : List CE) (b : Nat) : Prop := (b = 1 ∨ b = 18 ∨ b = 56) ∧ shp hs b = some (1, 4) ∧ (rd hs b 1 = .ref (b + 1) ∧ rd hs b 2 = .ref (b + 8) ∧ rd hs b 3 = .ref (b + 12)) ∧ (shp hs (b + 1) = some (38, 6) ∧ shp hs (b + 8) = some (38, 3) ∧ shp hs (b + 12) = some (38, 4)) ∧ (∀ i, i < 6 → rd hs (b + 1) i = .ref (b + (2 + i)) ∧ shp hs (b + (2 + i)) = some (33, 4)) ∧ (∀ i, i < 3 → rd hs (b + 8) i = .ref (b + (9 + i)) ∧ shp hs (b + (9 + i)) = some (33, 3)) ∧ ∀ i, i < 4 → rd hs (b + 12) i = .ref (b + (13 + i)) ∧ shp hs (b + (13 + i)) = some (33, 4)
/-- what of the factors' cells is ever written -/
def WFr (b : Nat) (k j : Nat) : Prop := b ≤ k ∧ k ≤ b + 16 ∧ (k = b → j = 0) ∧ k ≠ b + 1 ∧ k ≠ b + 8 ∧ k ≠ b + 12
theorem FLS.fr {W : Nat → Nat → Prop} {hs h2 : List CE} {b : Nat} (h : FLS hs b) (f : FrS W hs h2) (hw : ∀ k j, W k j → WFr b k j ∨ k < b ∨ b + 16 < k) : FLS h2 b := by
  have ne : ∀ k j, ¬ (WFr b k j ∨ k < b ∨ b + 16 < k) → rd h2 k j = rd hs k j := fun k j z => f.2.2 k j fun y => z (hw k j y)
  obtain ⟨h0, h1, ⟨a1, a2, a3⟩, ⟨s1, s2, s3⟩, r1, r2, r3⟩ := h
  refine ⟨h0, (f.2.1 _).trans h1, ⟨(ne _ _ (by unfold WFr; omega)).trans a1, (ne _ _ (by unfold WFr; omega)).trans a2, (ne _ _ (by unfold WFr; omega)).trans a3⟩, ⟨(f.2.1 _).trans s1, (f.2.1 _).trans s2, (f.2.1 _).trans s3⟩, fun i hi => ⟨(ne _ _ (by unfold WFr; omega)).trans (r1 i hi).1, (f.2.1 _).trans (r1 i hi).2⟩, fun i hi => ⟨(ne _ _ (by unfold WFr; omega)).trans (r2 i hi).1, (f.2.1 _).trans (r2 i hi).2⟩, fun i hi => ⟨(ne _ _ (by unfold WFr; omega)).trans (r3 i hi).1, (f.2.1 _).trans (r3 i hi).2⟩⟩
theorem FLS.wr {hs : List CE} {b k j : Nat} {v : Value} (h : FLS hs b) (hw : WFr b k j) : FLS (wr hs k j v) b := h.fr ((FrS.rf (WFr b) hs).wr (k := k) (j := j) v hw) (fun _ _ z => Or.inl z)
def LAP (hs : List CE) (b : Nat) (M : Nat → Nat → Int) : Prop := ∀ i j, i < 3 → j < 3 → ∃ x : Int64, rd hs (b + (9 + i)) j = .long x ∧ x.toInt = M i j
def upM (M : Nat → Nat → Int) (i j : Nat) (v : Int) : Nat → Nat → Int := fun i' j' => if i' = i ∧ j' = j then v else M i' j'
def BdM (M : Nat → Nat → Int) (B : Int) : Prop := ∀ i j, -B ≤ M i j ∧ M i j ≤ B
theorem BdM.up {M : Nat → Nat → Int} {B B2 : Int} (h : BdM M B) {i j : Nat} {v : Int} (h1 : -B2 ≤ v) (h2 : v ≤ B2) (hB : B ≤ B2) : BdM (upM M i j v) B2 := fun i' j' => by
  unfold upM
  have := h i' j'
  split <;> omega
theorem LAP.put {hs : List CE} {b i j : Nat} {M : Nat → Nat → Int} {x : Int64} {v : Int} (h : LAP hs b M) (hF : FLS hs b) (hi : i < 3) (e : x.toInt = v) : LAP (wr hs (b + (9 + i)) j (.long x)) b (upM M i j v) := fun i' j' hi' hj' => by
  unfold upM
  by_cases q : i' = i ∧ j' = j
  · rw [if_pos q, q.1, q.2]
    exact ⟨x, rd_same (hF.2.2.2.2.2.1 i hi).2, e⟩
  · rw [if_neg q]
    obtain ⟨y, e1, e2⟩ := h i' j' hi' hj'
    exact ⟨y, (rd_ne _ _ (by omega)).trans e1, e2⟩
theorem LAP.ne {hs : List CE} {b k j : Nat} {M : Nat → Nat → Int} {v : Value} (h : LAP hs b M) (hk : ¬ (b + 9 ≤ k ∧ k ≤ b + 11)) : LAP (wr hs k j v) b M := fun i' j' hi' hj' => by
  obtain ⟨y, e1, e2⟩ := h i' j' hi' hj'
  exact ⟨y, (rd_ne _ _ (Or.inl (by omega))).trans e1, e2⟩
theorem LAP.cong {hs : List CE} {b : Nat} {M M2 : Nat → Nat → Int} (h : LAP hs b M) (e : ∀ i j, i < 3 → j < 3 → M2 i j = M i j) : LAP hs b M2 := fun i j hi hj => by
  obtain ⟨y, e1, e2⟩ := h i j hi hj
  exact ⟨y, e1, e2.trans (e i j hi hj).symm⟩
/-- what a line adds to the matrix -/
def addE (a c : Int) (i j : Nat) : Int := (if (i : Int) = a ∧ (j : Int) = a then 1 else 0) + (if (i : Int) = c ∧ (j : Int) = c then 1 else 0) - (if 0 ≤ a ∧ 0 ≤ c ∧ (((i : Int) = a ∧ (j : Int) = c) ∨ ((i : Int) = c ∧ (j : Int) = a)) then 1 else 0)
theorem lw_mulB {x y : Int64} {a b A B : Int} (hx : x.toInt = a) (hy : y.toInt = b) (ha : a.natAbs ≤ A.toNat) (hb : b.natAbs ≤ B.toNat) (hA : A ≤ 100000) (hB : B ≤ 100000) : (x * y).toInt = a * b ∧ (a * b).natAbs ≤ A.toNat * B.toNat := by
  have h : (a * b).natAbs ≤ A.toNat * B.toNat := by
    rw [Int.natAbs_mul]
    exact Nat.mul_le_mul ha hb
  have h2 : A.toNat * B.toNat ≤ 100000 * 100000 := Nat.mul_le_mul (by omega) (by omega)
  refine ⟨?_, h⟩
  exact lw_mul hx hy (by omega) (by omega)

section CRDF
variable {g0 : GG} {bl : Nat} {xs : Nat → Int32} {l : Launch} {hs : List CE} {b : Nat} {M : Nat → Nat → Int}

theorem cx_addM {a9 c9 : Int32} {a c B : Int} (hF : FLS hs b) (hM : LAP hs b M) (hB : BdM M B) (hB9 : B ≤ 1000) (hB0 : 0 ≤ B) (ha : a9.toInt = a) (hcc : c9.toInt = c) (ha1 : -1 ≤ a) (ha2 : a ≤ 2) (hc1 : -1 ≤ c) (hc2 : c ≤ 2) (hac : a ≠ c) : BodyN SSX TBL g0 CLS bl xs l D_72 0 0 0 0 [.ref b, .int a9, .int c9] hs (fun kd r h2 => kd = 0 ∧ r = none ∧ FLS h2 b ∧ LAP h2 b (fun i j => M i j + addE a c i j) ∧ FrS (WFr b) hs h2) := by
  intro wp p e R sW m args below meth cW Q kc0 ks0 kc ks act hf hl hc hsl hEnd
  have hf : 0 ≤ R.frames := hf
  have hl : 0 ≤ R.locals := hl
  have hfr0 := FrS.rf (WFr b) hs
  have hb0 := hF.1
  show WpN (gp g0 wp) CLS p l e R sW m args below meth cW Q D_72.2.2.1 kc0 ks0 0 [some (.ref b), some (.int a9), some (.int c9)] (hs, kc, ks) []
  refine g_loadI act (gx gp_72 (w := 0x1000102) rfl (by decide) rfl) (a := 1) (n := 1) rfl rfl rfl ?_
  refine g_ifLt act (gx gp_72 (w := 0x1000042a) rfl (by decide) rfl) (tgt := 16) (n := 4) rfl rfl (fun h2 => ?_) (fun h2 => ?_)
  · simp only [i_lt, i0] at h2
    refine g_loadI act (gx gp_72 (w := 0x2001102) rfl (by decide) rfl) (a := 2) (n := 17) rfl rfl rfl ?_
    refine g_ifLt act (gx gp_72 (w := 0x2000142a) rfl (by decide) rfl) (tgt := 32) (n := 20) rfl rfl (fun h4 => ?_) (fun h4 => ?_)
    · simp only [i_lt, i0] at h4
      refine g_loadI act (gx gp_72 (w := 0x1002102) rfl (by decide) rfl) (a := 1) (n := 33) rfl rfl rfl ?_
      refine g_ifLt act (gx gp_72 (w := 0x4000242a) rfl (by decide) rfl) (tgt := 64) (n := 36) rfl rfl (fun h6 => ?_) (fun h6 => ?_)
      · simp only [i_lt, i0] at h6
        have hc : ∀ i j, i < 3 → j < 3 → (fun i j => M i j + addE a c i j) i j = M i j := fun i j _ _ => by
          show M i j + addE a c i j = _
          unfold addE
          try unfold upM
          (repeat' split) <;> first | omega | (exfalso; omega) | (simp_all; done) | (subst_vars; omega)
        exact g_retV hEnd (gx gp_72 (w := 0x18) rfl (by decide) rfl) ⟨rfl, rfl, hF, hM.cong hc, hfr0⟩ (by show kc ≤ kc + 0; omega) (by show ks ≤ ks + 0; omega)
      · simp only [i_lt, i0] at h6
        refine g_loadI act (gx gp_72 (w := 0x2002502) rfl (by decide) rfl) (a := 2) (n := 37) rfl rfl rfl ?_
        refine g_ifLt act (gx gp_72 (w := 0x4000282a) rfl (by decide) rfl) (tgt := 64) (n := 40) rfl rfl (fun h8 => ?_) (fun h8 => ?_)
        · simp only [i_lt, i0] at h8
          have hc : ∀ i j, i < 3 → j < 3 → (fun i j => M i j + addE a c i j) i j = M i j := fun i j _ _ => by
            show M i j + addE a c i j = _
            unfold addE
            try unfold upM
            (repeat' split) <;> first | omega | (exfalso; omega) | (simp_all; done) | (subst_vars; omega)
          exact g_retV hEnd (gx gp_72 (w := 0x18) rfl (by decide) rfl) ⟨rfl, rfl, hF, hM.cong hc, hfr0⟩ (by show kc ≤ kc + 0; omega) (by show ks ≤ ks + 0; omega)
        · simp only [i_lt, i0] at h8
          refine g_loadA act (gx gp_72 (w := 0x2903) rfl (by decide) rfl) (a := 0) (n := 41) rfl rfl rfl ?_
          refine r_getf act (gx gp_72 (w := 0x3000081002c04) rfl (by decide) rfl) (n := 44) (ci := 1) (j := 2) (N := 4) rfl rfl rfl hF.2.1 (by decide) (v := .ref (b + 8)) hF.2.2.1.2.1 ?_
          refine g_loadI act (gx gp_72 (w := 0x1002d02) rfl (by decide) rfl) (a := 1) (n := 45) rfl rfl rfl ?_
          obtain ⟨j_1, hj_1⟩ := Int.eq_ofNat_of_zero_le (show (0 : Int) ≤ a by omega)
          refine r_aald act (gx gp_72 (w := 0x2e12) rfl (by decide) rfl) (n := 46) (N := 3) (j := j_1) rfl hF.2.2.2.1.2.1 (by decide) (ha.trans hj_1) (show j_1 < 3 by omega) (v := .ref (b + (9 + j_1))) (hF.2.2.2.2.2.1 j_1 (by omega)).1 ?_
          refine g_loadI act (gx gp_72 (w := 0x2002f02) rfl (by decide) rfl) (a := 2) (n := 47) rfl rfl rfl ?_
          refine g_dup2 act (gx gp_72 (w := 0x3030) rfl (by decide) rfl) (n := 48) rfl rfl rfl ?_
          obtain ⟨j_2, hj_2⟩ := Int.eq_ofNat_of_zero_le (show (0 : Int) ≤ c by omega)
          obtain ⟨x_3, e_4, hx_5⟩ := hM j_1 j_2 (by omega) (by omega)
          have bd_x_3 := hB j_1 j_2
          refine r_lald act (gx gp_72 (w := 0x310d) rfl (by decide) rfl) (n := 49) (N := 3) (j := j_2) rfl (hF.2.2.2.2.2.1 j_1 (by omega)).2 (hcc.trans hj_2) (show j_2 < 3 by omega) (v := .long x_3) e_4 ?_
          refine g_constL act (gx gp_72 (w := 0x4000000000000000a000000003201) rfl (by decide) rfl) (n := 50) (x := 1) (by decide) rfl ?_
          refine g_lsub act (gx gp_72 (w := 0x331e) rfl (by decide) rfl) (n := 51) rfl ?_
          have v_6 := lw_sub hx_5 (show (1 : Int64).toInt = (1 : Int) from by decide) (show -9223372036854775808 ≤ ((M j_1 j_2) - 1) by omega) (show ((M j_1 j_2) - 1) < 9223372036854775808 by omega)
          refine r_last act (gx gp_72 (w := 0x3405) rfl (by decide) rfl) (n := 52) (N := 3) (j := j_2) rfl (hF.2.2.2.2.2.1 j_1 (by omega)).2 (hcc.trans hj_2) (show j_2 < 3 by omega) ?_
          have f_7 := hF.wr (k := (b + (9 + j_1))) (j := j_2) (v := .long (x_3 - (1 : Int64))) (by unfold WFr; omega)
          have f_8 := hM.put (i := j_1) (j := j_2) (x := (x_3 - (1 : Int64))) (v := ((M j_1 j_2) - 1)) hF (by omega) v_6
          have bd_9 := hB.up (i := j_1) (j := j_2) (v := ((M j_1 j_2) - 1)) (B2 := B + 1) (by omega) (by omega) (by omega)
          have fr_10 := hfr0.wr (k := (b + (9 + j_1))) (j := j_2) (.long (x_3 - (1 : Int64))) (by unfold WFr; omega)
          clear hF hM hfr0
          generalize (wr hs (b + (9 + j_1)) j_2 (.long (x_3 - (1 : Int64)))) = hs_11 at *
          refine g_loadA act (gx gp_72 (w := 0x3503) rfl (by decide) rfl) (a := 0) (n := 53) rfl rfl rfl ?_
          refine r_getf act (gx gp_72 (w := 0x3000081003804) rfl (by decide) rfl) (n := 56) (ci := 1) (j := 2) (N := 4) rfl rfl rfl f_7.2.1 (by decide) (v := .ref (b + 8)) f_7.2.2.1.2.1 ?_
          refine g_loadI act (gx gp_72 (w := 0x2003902) rfl (by decide) rfl) (a := 2) (n := 57) rfl rfl rfl ?_
          refine r_aald act (gx gp_72 (w := 0x3a12) rfl (by decide) rfl) (n := 58) (N := 3) (j := j_2) rfl f_7.2.2.2.1.2.1 (by decide) (hcc.trans hj_2) (show j_2 < 3 by omega) (v := .ref (b + (9 + j_2))) (f_7.2.2.2.2.2.1 j_2 (by omega)).1 ?_
          refine g_loadI act (gx gp_72 (w := 0x1003b02) rfl (by decide) rfl) (a := 1) (n := 59) rfl rfl rfl ?_
          refine g_dup2 act (gx gp_72 (w := 0x3c30) rfl (by decide) rfl) (n := 60) rfl rfl rfl ?_
          obtain ⟨x_12, e_13, hx_14⟩ := f_8 j_2 j_1 (by omega) (by omega)
          have bd_x_12 := bd_9 j_2 j_1
          refine r_lald act (gx gp_72 (w := 0x3d0d) rfl (by decide) rfl) (n := 61) (N := 3) (j := j_1) rfl (f_7.2.2.2.2.2.1 j_2 (by omega)).2 (ha.trans hj_1) (show j_1 < 3 by omega) (v := .long x_12) e_13 ?_
          refine g_constL act (gx gp_72 (w := 0x4000000000000000a000000003e01) rfl (by decide) rfl) (n := 62) (x := 1) (by decide) rfl ?_
          refine g_lsub act (gx gp_72 (w := 0x3f1e) rfl (by decide) rfl) (n := 63) rfl ?_
          have v_15 := lw_sub hx_14 (show (1 : Int64).toInt = (1 : Int) from by decide) (show -9223372036854775808 ≤ (((upM M j_1 j_2 ((M j_1 j_2) - 1)) j_2 j_1) - 1) by omega) (show (((upM M j_1 j_2 ((M j_1 j_2) - 1)) j_2 j_1) - 1) < 9223372036854775808 by omega)
          refine r_last act (gx gp_72 (w := 0x4005) rfl (by decide) rfl) (n := 64) (N := 3) (j := j_1) rfl (f_7.2.2.2.2.2.1 j_2 (by omega)).2 (ha.trans hj_1) (show j_1 < 3 by omega) ?_
          have f_16 := f_7.wr (k := (b + (9 + j_2))) (j := j_1) (v := .long (x_12 - (1 : Int64))) (by unfold WFr; omega)
          have f_17 := f_8.put (i := j_2) (j := j_1) (x := (x_12 - (1 : Int64))) (v := (((upM M j_1 j_2 ((M j_1 j_2) - 1)) j_2 j_1) - 1)) f_7 (by omega) v_15
          have bd_18 := bd_9.up (i := j_2) (j := j_1) (v := (((upM M j_1 j_2 ((M j_1 j_2) - 1)) j_2 j_1) - 1)) (B2 := (B + 1) + 1) (by omega) (by omega) (by omega)
          have fr_19 := fr_10.wr (k := (b + (9 + j_2))) (j := j_1) (.long (x_12 - (1 : Int64))) (by unfold WFr; omega)
          clear f_7 f_8 fr_10
          generalize (wr hs_11 (b + (9 + j_2)) j_1 (.long (x_12 - (1 : Int64)))) = hs_20 at *
          have hc : ∀ i j, i < 3 → j < 3 → (fun i j => M i j + addE a c i j) i j = (upM (upM M j_1 j_2 ((M j_1 j_2) - 1)) j_2 j_1 (((upM M j_1 j_2 ((M j_1 j_2) - 1)) j_2 j_1) - 1)) i j := fun i j _ _ => by
            show M i j + addE a c i j = _
            have m_1_1 : i = j_1 ∧ j = j_1 → M j_1 j_1 = M i j := fun h => by rw [h.1, h.2]
            have m_1_2 : i = j_1 ∧ j = j_2 → M j_1 j_2 = M i j := fun h => by rw [h.1, h.2]
            have m_2_1 : i = j_2 ∧ j = j_1 → M j_2 j_1 = M i j := fun h => by rw [h.1, h.2]
            have m_2_2 : i = j_2 ∧ j = j_2 → M j_2 j_2 = M i j := fun h => by rw [h.1, h.2]
            unfold addE
            try unfold upM
            (repeat' split) <;> first | omega | (exfalso; omega) | (simp_all; done) | (subst_vars; omega)
          exact g_retV hEnd (gx gp_72 (w := 0x18) rfl (by decide) rfl) ⟨rfl, rfl, f_16, f_17.cong hc, fr_19⟩ (by show kc ≤ kc + 0; omega) (by show ks ≤ ks + 0; omega)
    · simp only [i_lt, i0] at h4
      refine g_loadA act (gx gp_72 (w := 0x1503) rfl (by decide) rfl) (a := 0) (n := 21) rfl rfl rfl ?_
      refine r_getf act (gx gp_72 (w := 0x3000081001804) rfl (by decide) rfl) (n := 24) (ci := 1) (j := 2) (N := 4) rfl rfl rfl hF.2.1 (by decide) (v := .ref (b + 8)) hF.2.2.1.2.1 ?_
      refine g_loadI act (gx gp_72 (w := 0x2001902) rfl (by decide) rfl) (a := 2) (n := 25) rfl rfl rfl ?_
      obtain ⟨j_21, hj_21⟩ := Int.eq_ofNat_of_zero_le (show (0 : Int) ≤ c by omega)
      refine r_aald act (gx gp_72 (w := 0x1a12) rfl (by decide) rfl) (n := 26) (N := 3) (j := j_21) rfl hF.2.2.2.1.2.1 (by decide) (hcc.trans hj_21) (show j_21 < 3 by omega) (v := .ref (b + (9 + j_21))) (hF.2.2.2.2.2.1 j_21 (by omega)).1 ?_
      refine g_loadI act (gx gp_72 (w := 0x2001b02) rfl (by decide) rfl) (a := 2) (n := 27) rfl rfl rfl ?_
      refine g_dup2 act (gx gp_72 (w := 0x1c30) rfl (by decide) rfl) (n := 28) rfl rfl rfl ?_
      obtain ⟨x_22, e_23, hx_24⟩ := hM j_21 j_21 (by omega) (by omega)
      have bd_x_22 := hB j_21 j_21
      refine r_lald act (gx gp_72 (w := 0x1d0d) rfl (by decide) rfl) (n := 29) (N := 3) (j := j_21) rfl (hF.2.2.2.2.2.1 j_21 (by omega)).2 (hcc.trans hj_21) (show j_21 < 3 by omega) (v := .long x_22) e_23 ?_
      refine g_constL act (gx gp_72 (w := 0x4000000000000000a000000001e01) rfl (by decide) rfl) (n := 30) (x := 1) (by decide) rfl ?_
      refine g_ladd act (gx gp_72 (w := 0x1f1f) rfl (by decide) rfl) (n := 31) rfl ?_
      have v_25 := lw_add hx_24 (show (1 : Int64).toInt = (1 : Int) from by decide) (show -9223372036854775808 ≤ ((M j_21 j_21) + 1) by omega) (show ((M j_21 j_21) + 1) < 9223372036854775808 by omega)
      refine r_last act (gx gp_72 (w := 0x2005) rfl (by decide) rfl) (n := 32) (N := 3) (j := j_21) rfl (hF.2.2.2.2.2.1 j_21 (by omega)).2 (hcc.trans hj_21) (show j_21 < 3 by omega) ?_
      have f_26 := hF.wr (k := (b + (9 + j_21))) (j := j_21) (v := .long (x_22 + (1 : Int64))) (by unfold WFr; omega)
      have f_27 := hM.put (i := j_21) (j := j_21) (x := (x_22 + (1 : Int64))) (v := ((M j_21 j_21) + 1)) hF (by omega) v_25
      have bd_28 := hB.up (i := j_21) (j := j_21) (v := ((M j_21 j_21) + 1)) (B2 := B + 1) (by omega) (by omega) (by omega)
      have fr_29 := hfr0.wr (k := (b + (9 + j_21))) (j := j_21) (.long (x_22 + (1 : Int64))) (by unfold WFr; omega)
      clear hF hM hfr0
      generalize (wr hs (b + (9 + j_21)) j_21 (.long (x_22 + (1 : Int64)))) = hs_30 at *
      refine g_loadI act (gx gp_72 (w := 0x1002102) rfl (by decide) rfl) (a := 1) (n := 33) rfl rfl rfl ?_
      refine g_ifLt act (gx gp_72 (w := 0x4000242a) rfl (by decide) rfl) (tgt := 64) (n := 36) rfl rfl (fun h25 => ?_) (fun h25 => ?_)
      · simp only [i_lt, i0] at h25
        have hc : ∀ i j, i < 3 → j < 3 → (fun i j => M i j + addE a c i j) i j = (upM M j_21 j_21 ((M j_21 j_21) + 1)) i j := fun i j _ _ => by
          show M i j + addE a c i j = _
          have m_21_21 : i = j_21 ∧ j = j_21 → M j_21 j_21 = M i j := fun h => by rw [h.1, h.2]
          unfold addE
          try unfold upM
          (repeat' split) <;> first | omega | (exfalso; omega) | (simp_all; done) | (subst_vars; omega)
        exact g_retV hEnd (gx gp_72 (w := 0x18) rfl (by decide) rfl) ⟨rfl, rfl, f_26, f_27.cong hc, fr_29⟩ (by show kc ≤ kc + 0; omega) (by show ks ≤ ks + 0; omega)
      · simp only [i_lt, i0] at h25
        refine g_loadI act (gx gp_72 (w := 0x2002502) rfl (by decide) rfl) (a := 2) (n := 37) rfl rfl rfl ?_
        refine g_ifLt act (gx gp_72 (w := 0x4000282a) rfl (by decide) rfl) (tgt := 64) (n := 40) rfl rfl (fun h27 => ?_) (fun h27 => ?_)
        · simp only [i_lt, i0] at h27
          have hc : ∀ i j, i < 3 → j < 3 → (fun i j => M i j + addE a c i j) i j = (upM M j_21 j_21 ((M j_21 j_21) + 1)) i j := fun i j _ _ => by
            show M i j + addE a c i j = _
            have m_21_21 : i = j_21 ∧ j = j_21 → M j_21 j_21 = M i j := fun h => by rw [h.1, h.2]
            unfold addE
            try unfold upM
            (repeat' split) <;> first | omega | (exfalso; omega) | (simp_all; done) | (subst_vars; omega)
          exact g_retV hEnd (gx gp_72 (w := 0x18) rfl (by decide) rfl) ⟨rfl, rfl, f_26, f_27.cong hc, fr_29⟩ (by show kc ≤ kc + 0; omega) (by show ks ≤ ks + 0; omega)
        · simp only [i_lt, i0] at h27
          refine g_loadA act (gx gp_72 (w := 0x2903) rfl (by decide) rfl) (a := 0) (n := 41) rfl rfl rfl ?_
          refine r_getf act (gx gp_72 (w := 0x3000081002c04) rfl (by decide) rfl) (n := 44) (ci := 1) (j := 2) (N := 4) rfl rfl rfl f_26.2.1 (by decide) (v := .ref (b + 8)) f_26.2.2.1.2.1 ?_
          refine g_loadI act (gx gp_72 (w := 0x1002d02) rfl (by decide) rfl) (a := 1) (n := 45) rfl rfl rfl ?_
          obtain ⟨j_31, hj_31⟩ := Int.eq_ofNat_of_zero_le (show (0 : Int) ≤ a by omega)
          refine r_aald act (gx gp_72 (w := 0x2e12) rfl (by decide) rfl) (n := 46) (N := 3) (j := j_31) rfl f_26.2.2.2.1.2.1 (by decide) (ha.trans hj_31) (show j_31 < 3 by omega) (v := .ref (b + (9 + j_31))) (f_26.2.2.2.2.2.1 j_31 (by omega)).1 ?_
          refine g_loadI act (gx gp_72 (w := 0x2002f02) rfl (by decide) rfl) (a := 2) (n := 47) rfl rfl rfl ?_
          refine g_dup2 act (gx gp_72 (w := 0x3030) rfl (by decide) rfl) (n := 48) rfl rfl rfl ?_
          obtain ⟨x_32, e_33, hx_34⟩ := f_27 j_31 j_21 (by omega) (by omega)
          have bd_x_32 := bd_28 j_31 j_21
          refine r_lald act (gx gp_72 (w := 0x310d) rfl (by decide) rfl) (n := 49) (N := 3) (j := j_21) rfl (f_26.2.2.2.2.2.1 j_31 (by omega)).2 (hcc.trans hj_21) (show j_21 < 3 by omega) (v := .long x_32) e_33 ?_
          refine g_constL act (gx gp_72 (w := 0x4000000000000000a000000003201) rfl (by decide) rfl) (n := 50) (x := 1) (by decide) rfl ?_
          refine g_lsub act (gx gp_72 (w := 0x331e) rfl (by decide) rfl) (n := 51) rfl ?_
          have v_35 := lw_sub hx_34 (show (1 : Int64).toInt = (1 : Int) from by decide) (show -9223372036854775808 ≤ (((upM M j_21 j_21 ((M j_21 j_21) + 1)) j_31 j_21) - 1) by omega) (show (((upM M j_21 j_21 ((M j_21 j_21) + 1)) j_31 j_21) - 1) < 9223372036854775808 by omega)
          refine r_last act (gx gp_72 (w := 0x3405) rfl (by decide) rfl) (n := 52) (N := 3) (j := j_21) rfl (f_26.2.2.2.2.2.1 j_31 (by omega)).2 (hcc.trans hj_21) (show j_21 < 3 by omega) ?_
          have f_36 := f_26.wr (k := (b + (9 + j_31))) (j := j_21) (v := .long (x_32 - (1 : Int64))) (by unfold WFr; omega)
          have f_37 := f_27.put (i := j_31) (j := j_21) (x := (x_32 - (1 : Int64))) (v := (((upM M j_21 j_21 ((M j_21 j_21) + 1)) j_31 j_21) - 1)) f_26 (by omega) v_35
          have bd_38 := bd_28.up (i := j_31) (j := j_21) (v := (((upM M j_21 j_21 ((M j_21 j_21) + 1)) j_31 j_21) - 1)) (B2 := (B + 1) + 1) (by omega) (by omega) (by omega)
          have fr_39 := fr_29.wr (k := (b + (9 + j_31))) (j := j_21) (.long (x_32 - (1 : Int64))) (by unfold WFr; omega)
          clear f_26 f_27 fr_29
          generalize (wr hs_30 (b + (9 + j_31)) j_21 (.long (x_32 - (1 : Int64)))) = hs_40 at *
          refine g_loadA act (gx gp_72 (w := 0x3503) rfl (by decide) rfl) (a := 0) (n := 53) rfl rfl rfl ?_
          refine r_getf act (gx gp_72 (w := 0x3000081003804) rfl (by decide) rfl) (n := 56) (ci := 1) (j := 2) (N := 4) rfl rfl rfl f_36.2.1 (by decide) (v := .ref (b + 8)) f_36.2.2.1.2.1 ?_
          refine g_loadI act (gx gp_72 (w := 0x2003902) rfl (by decide) rfl) (a := 2) (n := 57) rfl rfl rfl ?_
          refine r_aald act (gx gp_72 (w := 0x3a12) rfl (by decide) rfl) (n := 58) (N := 3) (j := j_21) rfl f_36.2.2.2.1.2.1 (by decide) (hcc.trans hj_21) (show j_21 < 3 by omega) (v := .ref (b + (9 + j_21))) (f_36.2.2.2.2.2.1 j_21 (by omega)).1 ?_
          refine g_loadI act (gx gp_72 (w := 0x1003b02) rfl (by decide) rfl) (a := 1) (n := 59) rfl rfl rfl ?_
          refine g_dup2 act (gx gp_72 (w := 0x3c30) rfl (by decide) rfl) (n := 60) rfl rfl rfl ?_
          obtain ⟨x_41, e_42, hx_43⟩ := f_37 j_21 j_31 (by omega) (by omega)
          have bd_x_41 := bd_38 j_21 j_31
          refine r_lald act (gx gp_72 (w := 0x3d0d) rfl (by decide) rfl) (n := 61) (N := 3) (j := j_31) rfl (f_36.2.2.2.2.2.1 j_21 (by omega)).2 (ha.trans hj_31) (show j_31 < 3 by omega) (v := .long x_41) e_42 ?_
          refine g_constL act (gx gp_72 (w := 0x4000000000000000a000000003e01) rfl (by decide) rfl) (n := 62) (x := 1) (by decide) rfl ?_
          refine g_lsub act (gx gp_72 (w := 0x3f1e) rfl (by decide) rfl) (n := 63) rfl ?_
          have v_44 := lw_sub hx_43 (show (1 : Int64).toInt = (1 : Int) from by decide) (show -9223372036854775808 ≤ (((upM (upM M j_21 j_21 ((M j_21 j_21) + 1)) j_31 j_21 (((upM M j_21 j_21 ((M j_21 j_21) + 1)) j_31 j_21) - 1)) j_21 j_31) - 1) by omega) (show (((upM (upM M j_21 j_21 ((M j_21 j_21) + 1)) j_31 j_21 (((upM M j_21 j_21 ((M j_21 j_21) + 1)) j_31 j_21) - 1)) j_21 j_31) - 1) < 9223372036854775808 by omega)
          refine r_last act (gx gp_72 (w := 0x4005) rfl (by decide) rfl) (n := 64) (N := 3) (j := j_31) rfl (f_36.2.2.2.2.2.1 j_21 (by omega)).2 (ha.trans hj_31) (show j_31 < 3 by omega) ?_
          have f_45 := f_36.wr (k := (b + (9 + j_21))) (j := j_31) (v := .long (x_41 - (1 : Int64))) (by unfold WFr; omega)
          have f_46 := f_37.put (i := j_21) (j := j_31) (x := (x_41 - (1 : Int64))) (v := (((upM (upM M j_21 j_21 ((M j_21 j_21) + 1)) j_31 j_21 (((upM M j_21 j_21 ((M j_21 j_21) + 1)) j_31 j_21) - 1)) j_21 j_31) - 1)) f_36 (by omega) v_44
          have bd_47 := bd_38.up (i := j_21) (j := j_31) (v := (((upM (upM M j_21 j_21 ((M j_21 j_21) + 1)) j_31 j_21 (((upM M j_21 j_21 ((M j_21 j_21) + 1)) j_31 j_21) - 1)) j_21 j_31) - 1)) (B2 := ((B + 1) + 1) + 1) (by omega) (by omega) (by omega)
          have fr_48 := fr_39.wr (k := (b + (9 + j_21))) (j := j_31) (.long (x_41 - (1 : Int64))) (by unfold WFr; omega)
          clear f_36 f_37 fr_39
          generalize (wr hs_40 (b + (9 + j_21)) j_31 (.long (x_41 - (1 : Int64)))) = hs_49 at *
          have hc : ∀ i j, i < 3 → j < 3 → (fun i j => M i j + addE a c i j) i j = (upM (upM (upM M j_21 j_21 ((M j_21 j_21) + 1)) j_31 j_21 (((upM M j_21 j_21 ((M j_21 j_21) + 1)) j_31 j_21) - 1)) j_21 j_31 (((upM (upM M j_21 j_21 ((M j_21 j_21) + 1)) j_31 j_21 (((upM M j_21 j_21 ((M j_21 j_21) + 1)) j_31 j_21) - 1)) j_21 j_31) - 1)) i j := fun i j _ _ => by
            show M i j + addE a c i j = _
            have m_21_21 : i = j_21 ∧ j = j_21 → M j_21 j_21 = M i j := fun h => by rw [h.1, h.2]
            have m_21_31 : i = j_21 ∧ j = j_31 → M j_21 j_31 = M i j := fun h => by rw [h.1, h.2]
            have m_31_21 : i = j_31 ∧ j = j_21 → M j_31 j_21 = M i j := fun h => by rw [h.1, h.2]
            have m_31_31 : i = j_31 ∧ j = j_31 → M j_31 j_31 = M i j := fun h => by rw [h.1, h.2]
            unfold addE
            try unfold upM
            (repeat' split) <;> first | omega | (exfalso; omega) | (simp_all; done) | (subst_vars; omega)
          exact g_retV hEnd (gx gp_72 (w := 0x18) rfl (by decide) rfl) ⟨rfl, rfl, f_45, f_46.cong hc, fr_48⟩ (by show kc ≤ kc + 0; omega) (by show ks ≤ ks + 0; omega)
  · simp only [i_lt, i0] at h2
    refine g_loadA act (gx gp_72 (w := 0x503) rfl (by decide) rfl) (a := 0) (n := 5) rfl rfl rfl ?_
    refine r_getf act (gx gp_72 (w := 0x3000081000804) rfl (by decide) rfl) (n := 8) (ci := 1) (j := 2) (N := 4) rfl rfl rfl hF.2.1 (by decide) (v := .ref (b + 8)) hF.2.2.1.2.1 ?_
    refine g_loadI act (gx gp_72 (w := 0x1000902) rfl (by decide) rfl) (a := 1) (n := 9) rfl rfl rfl ?_
    obtain ⟨j_50, hj_50⟩ := Int.eq_ofNat_of_zero_le (show (0 : Int) ≤ a by omega)
    refine r_aald act (gx gp_72 (w := 0xa12) rfl (by decide) rfl) (n := 10) (N := 3) (j := j_50) rfl hF.2.2.2.1.2.1 (by decide) (ha.trans hj_50) (show j_50 < 3 by omega) (v := .ref (b + (9 + j_50))) (hF.2.2.2.2.2.1 j_50 (by omega)).1 ?_
    refine g_loadI act (gx gp_72 (w := 0x1000b02) rfl (by decide) rfl) (a := 1) (n := 11) rfl rfl rfl ?_
    refine g_dup2 act (gx gp_72 (w := 0xc30) rfl (by decide) rfl) (n := 12) rfl rfl rfl ?_
    obtain ⟨x_51, e_52, hx_53⟩ := hM j_50 j_50 (by omega) (by omega)
    have bd_x_51 := hB j_50 j_50
    refine r_lald act (gx gp_72 (w := 0xd0d) rfl (by decide) rfl) (n := 13) (N := 3) (j := j_50) rfl (hF.2.2.2.2.2.1 j_50 (by omega)).2 (ha.trans hj_50) (show j_50 < 3 by omega) (v := .long x_51) e_52 ?_
    refine g_constL act (gx gp_72 (w := 0x4000000000000000a000000000e01) rfl (by decide) rfl) (n := 14) (x := 1) (by decide) rfl ?_
    refine g_ladd act (gx gp_72 (w := 0xf1f) rfl (by decide) rfl) (n := 15) rfl ?_
    have v_54 := lw_add hx_53 (show (1 : Int64).toInt = (1 : Int) from by decide) (show -9223372036854775808 ≤ ((M j_50 j_50) + 1) by omega) (show ((M j_50 j_50) + 1) < 9223372036854775808 by omega)
    refine r_last act (gx gp_72 (w := 0x1005) rfl (by decide) rfl) (n := 16) (N := 3) (j := j_50) rfl (hF.2.2.2.2.2.1 j_50 (by omega)).2 (ha.trans hj_50) (show j_50 < 3 by omega) ?_
    have f_55 := hF.wr (k := (b + (9 + j_50))) (j := j_50) (v := .long (x_51 + (1 : Int64))) (by unfold WFr; omega)
    have f_56 := hM.put (i := j_50) (j := j_50) (x := (x_51 + (1 : Int64))) (v := ((M j_50 j_50) + 1)) hF (by omega) v_54
    have bd_57 := hB.up (i := j_50) (j := j_50) (v := ((M j_50 j_50) + 1)) (B2 := B + 1) (by omega) (by omega) (by omega)
    have fr_58 := hfr0.wr (k := (b + (9 + j_50))) (j := j_50) (.long (x_51 + (1 : Int64))) (by unfold WFr; omega)
    clear hF hM hfr0
    generalize (wr hs (b + (9 + j_50)) j_50 (.long (x_51 + (1 : Int64)))) = hs_59 at *
    refine g_loadI act (gx gp_72 (w := 0x2001102) rfl (by decide) rfl) (a := 2) (n := 17) rfl rfl rfl ?_
    refine g_ifLt act (gx gp_72 (w := 0x2000142a) rfl (by decide) rfl) (tgt := 32) (n := 20) rfl rfl (fun h44 => ?_) (fun h44 => ?_)
    · simp only [i_lt, i0] at h44
      refine g_loadI act (gx gp_72 (w := 0x1002102) rfl (by decide) rfl) (a := 1) (n := 33) rfl rfl rfl ?_
      refine g_ifLt act (gx gp_72 (w := 0x4000242a) rfl (by decide) rfl) (tgt := 64) (n := 36) rfl rfl (fun h46 => ?_) (fun h46 => ?_)
      · simp only [i_lt, i0] at h46
        have hc : ∀ i j, i < 3 → j < 3 → (fun i j => M i j + addE a c i j) i j = (upM M j_50 j_50 ((M j_50 j_50) + 1)) i j := fun i j _ _ => by
          show M i j + addE a c i j = _
          have m_50_50 : i = j_50 ∧ j = j_50 → M j_50 j_50 = M i j := fun h => by rw [h.1, h.2]
          unfold addE
          try unfold upM
          (repeat' split) <;> first | omega | (exfalso; omega) | (simp_all; done) | (subst_vars; omega)
        exact g_retV hEnd (gx gp_72 (w := 0x18) rfl (by decide) rfl) ⟨rfl, rfl, f_55, f_56.cong hc, fr_58⟩ (by show kc ≤ kc + 0; omega) (by show ks ≤ ks + 0; omega)
      · simp only [i_lt, i0] at h46
        refine g_loadI act (gx gp_72 (w := 0x2002502) rfl (by decide) rfl) (a := 2) (n := 37) rfl rfl rfl ?_
        refine g_ifLt act (gx gp_72 (w := 0x4000282a) rfl (by decide) rfl) (tgt := 64) (n := 40) rfl rfl (fun h48 => ?_) (fun h48 => ?_)
        · simp only [i_lt, i0] at h48
          have hc : ∀ i j, i < 3 → j < 3 → (fun i j => M i j + addE a c i j) i j = (upM M j_50 j_50 ((M j_50 j_50) + 1)) i j := fun i j _ _ => by
            show M i j + addE a c i j = _
            have m_50_50 : i = j_50 ∧ j = j_50 → M j_50 j_50 = M i j := fun h => by rw [h.1, h.2]
            unfold addE
            try unfold upM
            (repeat' split) <;> first | omega | (exfalso; omega) | (simp_all; done) | (subst_vars; omega)
          exact g_retV hEnd (gx gp_72 (w := 0x18) rfl (by decide) rfl) ⟨rfl, rfl, f_55, f_56.cong hc, fr_58⟩ (by show kc ≤ kc + 0; omega) (by show ks ≤ ks + 0; omega)
        · simp only [i_lt, i0] at h48
          refine g_loadA act (gx gp_72 (w := 0x2903) rfl (by decide) rfl) (a := 0) (n := 41) rfl rfl rfl ?_
          refine r_getf act (gx gp_72 (w := 0x3000081002c04) rfl (by decide) rfl) (n := 44) (ci := 1) (j := 2) (N := 4) rfl rfl rfl f_55.2.1 (by decide) (v := .ref (b + 8)) f_55.2.2.1.2.1 ?_
          refine g_loadI act (gx gp_72 (w := 0x1002d02) rfl (by decide) rfl) (a := 1) (n := 45) rfl rfl rfl ?_
          refine r_aald act (gx gp_72 (w := 0x2e12) rfl (by decide) rfl) (n := 46) (N := 3) (j := j_50) rfl f_55.2.2.2.1.2.1 (by decide) (ha.trans hj_50) (show j_50 < 3 by omega) (v := .ref (b + (9 + j_50))) (f_55.2.2.2.2.2.1 j_50 (by omega)).1 ?_
          refine g_loadI act (gx gp_72 (w := 0x2002f02) rfl (by decide) rfl) (a := 2) (n := 47) rfl rfl rfl ?_
          refine g_dup2 act (gx gp_72 (w := 0x3030) rfl (by decide) rfl) (n := 48) rfl rfl rfl ?_
          obtain ⟨j_60, hj_60⟩ := Int.eq_ofNat_of_zero_le (show (0 : Int) ≤ c by omega)
          obtain ⟨x_61, e_62, hx_63⟩ := f_56 j_50 j_60 (by omega) (by omega)
          have bd_x_61 := bd_57 j_50 j_60
          refine r_lald act (gx gp_72 (w := 0x310d) rfl (by decide) rfl) (n := 49) (N := 3) (j := j_60) rfl (f_55.2.2.2.2.2.1 j_50 (by omega)).2 (hcc.trans hj_60) (show j_60 < 3 by omega) (v := .long x_61) e_62 ?_
          refine g_constL act (gx gp_72 (w := 0x4000000000000000a000000003201) rfl (by decide) rfl) (n := 50) (x := 1) (by decide) rfl ?_
          refine g_lsub act (gx gp_72 (w := 0x331e) rfl (by decide) rfl) (n := 51) rfl ?_
          have v_64 := lw_sub hx_63 (show (1 : Int64).toInt = (1 : Int) from by decide) (show -9223372036854775808 ≤ (((upM M j_50 j_50 ((M j_50 j_50) + 1)) j_50 j_60) - 1) by omega) (show (((upM M j_50 j_50 ((M j_50 j_50) + 1)) j_50 j_60) - 1) < 9223372036854775808 by omega)
          refine r_last act (gx gp_72 (w := 0x3405) rfl (by decide) rfl) (n := 52) (N := 3) (j := j_60) rfl (f_55.2.2.2.2.2.1 j_50 (by omega)).2 (hcc.trans hj_60) (show j_60 < 3 by omega) ?_
          have f_65 := f_55.wr (k := (b + (9 + j_50))) (j := j_60) (v := .long (x_61 - (1 : Int64))) (by unfold WFr; omega)
          have f_66 := f_56.put (i := j_50) (j := j_60) (x := (x_61 - (1 : Int64))) (v := (((upM M j_50 j_50 ((M j_50 j_50) + 1)) j_50 j_60) - 1)) f_55 (by omega) v_64
          have bd_67 := bd_57.up (i := j_50) (j := j_60) (v := (((upM M j_50 j_50 ((M j_50 j_50) + 1)) j_50 j_60) - 1)) (B2 := (B + 1) + 1) (by omega) (by omega) (by omega)
          have fr_68 := fr_58.wr (k := (b + (9 + j_50))) (j := j_60) (.long (x_61 - (1 : Int64))) (by unfold WFr; omega)
          clear f_55 f_56 fr_58
          generalize (wr hs_59 (b + (9 + j_50)) j_60 (.long (x_61 - (1 : Int64)))) = hs_69 at *
          refine g_loadA act (gx gp_72 (w := 0x3503) rfl (by decide) rfl) (a := 0) (n := 53) rfl rfl rfl ?_
          refine r_getf act (gx gp_72 (w := 0x3000081003804) rfl (by decide) rfl) (n := 56) (ci := 1) (j := 2) (N := 4) rfl rfl rfl f_65.2.1 (by decide) (v := .ref (b + 8)) f_65.2.2.1.2.1 ?_
          refine g_loadI act (gx gp_72 (w := 0x2003902) rfl (by decide) rfl) (a := 2) (n := 57) rfl rfl rfl ?_
          refine r_aald act (gx gp_72 (w := 0x3a12) rfl (by decide) rfl) (n := 58) (N := 3) (j := j_60) rfl f_65.2.2.2.1.2.1 (by decide) (hcc.trans hj_60) (show j_60 < 3 by omega) (v := .ref (b + (9 + j_60))) (f_65.2.2.2.2.2.1 j_60 (by omega)).1 ?_
          refine g_loadI act (gx gp_72 (w := 0x1003b02) rfl (by decide) rfl) (a := 1) (n := 59) rfl rfl rfl ?_
          refine g_dup2 act (gx gp_72 (w := 0x3c30) rfl (by decide) rfl) (n := 60) rfl rfl rfl ?_
          obtain ⟨x_70, e_71, hx_72⟩ := f_66 j_60 j_50 (by omega) (by omega)
          have bd_x_70 := bd_67 j_60 j_50
          refine r_lald act (gx gp_72 (w := 0x3d0d) rfl (by decide) rfl) (n := 61) (N := 3) (j := j_50) rfl (f_65.2.2.2.2.2.1 j_60 (by omega)).2 (ha.trans hj_50) (show j_50 < 3 by omega) (v := .long x_70) e_71 ?_
          refine g_constL act (gx gp_72 (w := 0x4000000000000000a000000003e01) rfl (by decide) rfl) (n := 62) (x := 1) (by decide) rfl ?_
          refine g_lsub act (gx gp_72 (w := 0x3f1e) rfl (by decide) rfl) (n := 63) rfl ?_
          have v_73 := lw_sub hx_72 (show (1 : Int64).toInt = (1 : Int) from by decide) (show -9223372036854775808 ≤ (((upM (upM M j_50 j_50 ((M j_50 j_50) + 1)) j_50 j_60 (((upM M j_50 j_50 ((M j_50 j_50) + 1)) j_50 j_60) - 1)) j_60 j_50) - 1) by omega) (show (((upM (upM M j_50 j_50 ((M j_50 j_50) + 1)) j_50 j_60 (((upM M j_50 j_50 ((M j_50 j_50) + 1)) j_50 j_60) - 1)) j_60 j_50) - 1) < 9223372036854775808 by omega)
          refine r_last act (gx gp_72 (w := 0x4005) rfl (by decide) rfl) (n := 64) (N := 3) (j := j_50) rfl (f_65.2.2.2.2.2.1 j_60 (by omega)).2 (ha.trans hj_50) (show j_50 < 3 by omega) ?_
          have f_74 := f_65.wr (k := (b + (9 + j_60))) (j := j_50) (v := .long (x_70 - (1 : Int64))) (by unfold WFr; omega)
          have f_75 := f_66.put (i := j_60) (j := j_50) (x := (x_70 - (1 : Int64))) (v := (((upM (upM M j_50 j_50 ((M j_50 j_50) + 1)) j_50 j_60 (((upM M j_50 j_50 ((M j_50 j_50) + 1)) j_50 j_60) - 1)) j_60 j_50) - 1)) f_65 (by omega) v_73
          have bd_76 := bd_67.up (i := j_60) (j := j_50) (v := (((upM (upM M j_50 j_50 ((M j_50 j_50) + 1)) j_50 j_60 (((upM M j_50 j_50 ((M j_50 j_50) + 1)) j_50 j_60) - 1)) j_60 j_50) - 1)) (B2 := ((B + 1) + 1) + 1) (by omega) (by omega) (by omega)
          have fr_77 := fr_68.wr (k := (b + (9 + j_60))) (j := j_50) (.long (x_70 - (1 : Int64))) (by unfold WFr; omega)
          clear f_65 f_66 fr_68
          generalize (wr hs_69 (b + (9 + j_60)) j_50 (.long (x_70 - (1 : Int64)))) = hs_78 at *
          have hc : ∀ i j, i < 3 → j < 3 → (fun i j => M i j + addE a c i j) i j = (upM (upM (upM M j_50 j_50 ((M j_50 j_50) + 1)) j_50 j_60 (((upM M j_50 j_50 ((M j_50 j_50) + 1)) j_50 j_60) - 1)) j_60 j_50 (((upM (upM M j_50 j_50 ((M j_50 j_50) + 1)) j_50 j_60 (((upM M j_50 j_50 ((M j_50 j_50) + 1)) j_50 j_60) - 1)) j_60 j_50) - 1)) i j := fun i j _ _ => by
            show M i j + addE a c i j = _
            have m_50_50 : i = j_50 ∧ j = j_50 → M j_50 j_50 = M i j := fun h => by rw [h.1, h.2]
            have m_50_60 : i = j_50 ∧ j = j_60 → M j_50 j_60 = M i j := fun h => by rw [h.1, h.2]
            have m_60_50 : i = j_60 ∧ j = j_50 → M j_60 j_50 = M i j := fun h => by rw [h.1, h.2]
            have m_60_60 : i = j_60 ∧ j = j_60 → M j_60 j_60 = M i j := fun h => by rw [h.1, h.2]
            unfold addE
            try unfold upM
            (repeat' split) <;> first | omega | (exfalso; omega) | (simp_all; done) | (subst_vars; omega)
          exact g_retV hEnd (gx gp_72 (w := 0x18) rfl (by decide) rfl) ⟨rfl, rfl, f_74, f_75.cong hc, fr_77⟩ (by show kc ≤ kc + 0; omega) (by show ks ≤ ks + 0; omega)
    · simp only [i_lt, i0] at h44
      refine g_loadA act (gx gp_72 (w := 0x1503) rfl (by decide) rfl) (a := 0) (n := 21) rfl rfl rfl ?_
      refine r_getf act (gx gp_72 (w := 0x3000081001804) rfl (by decide) rfl) (n := 24) (ci := 1) (j := 2) (N := 4) rfl rfl rfl f_55.2.1 (by decide) (v := .ref (b + 8)) f_55.2.2.1.2.1 ?_
      refine g_loadI act (gx gp_72 (w := 0x2001902) rfl (by decide) rfl) (a := 2) (n := 25) rfl rfl rfl ?_
      obtain ⟨j_79, hj_79⟩ := Int.eq_ofNat_of_zero_le (show (0 : Int) ≤ c by omega)
      refine r_aald act (gx gp_72 (w := 0x1a12) rfl (by decide) rfl) (n := 26) (N := 3) (j := j_79) rfl f_55.2.2.2.1.2.1 (by decide) (hcc.trans hj_79) (show j_79 < 3 by omega) (v := .ref (b + (9 + j_79))) (f_55.2.2.2.2.2.1 j_79 (by omega)).1 ?_
      refine g_loadI act (gx gp_72 (w := 0x2001b02) rfl (by decide) rfl) (a := 2) (n := 27) rfl rfl rfl ?_
      refine g_dup2 act (gx gp_72 (w := 0x1c30) rfl (by decide) rfl) (n := 28) rfl rfl rfl ?_
      obtain ⟨x_80, e_81, hx_82⟩ := f_56 j_79 j_79 (by omega) (by omega)
      have bd_x_80 := bd_57 j_79 j_79
      refine r_lald act (gx gp_72 (w := 0x1d0d) rfl (by decide) rfl) (n := 29) (N := 3) (j := j_79) rfl (f_55.2.2.2.2.2.1 j_79 (by omega)).2 (hcc.trans hj_79) (show j_79 < 3 by omega) (v := .long x_80) e_81 ?_
      refine g_constL act (gx gp_72 (w := 0x4000000000000000a000000001e01) rfl (by decide) rfl) (n := 30) (x := 1) (by decide) rfl ?_
      refine g_ladd act (gx gp_72 (w := 0x1f1f) rfl (by decide) rfl) (n := 31) rfl ?_
      have v_83 := lw_add hx_82 (show (1 : Int64).toInt = (1 : Int) from by decide) (show -9223372036854775808 ≤ (((upM M j_50 j_50 ((M j_50 j_50) + 1)) j_79 j_79) + 1) by omega) (show (((upM M j_50 j_50 ((M j_50 j_50) + 1)) j_79 j_79) + 1) < 9223372036854775808 by omega)
      refine r_last act (gx gp_72 (w := 0x2005) rfl (by decide) rfl) (n := 32) (N := 3) (j := j_79) rfl (f_55.2.2.2.2.2.1 j_79 (by omega)).2 (hcc.trans hj_79) (show j_79 < 3 by omega) ?_
      have f_84 := f_55.wr (k := (b + (9 + j_79))) (j := j_79) (v := .long (x_80 + (1 : Int64))) (by unfold WFr; omega)
      have f_85 := f_56.put (i := j_79) (j := j_79) (x := (x_80 + (1 : Int64))) (v := (((upM M j_50 j_50 ((M j_50 j_50) + 1)) j_79 j_79) + 1)) f_55 (by omega) v_83
      have bd_86 := bd_57.up (i := j_79) (j := j_79) (v := (((upM M j_50 j_50 ((M j_50 j_50) + 1)) j_79 j_79) + 1)) (B2 := (B + 1) + 1) (by omega) (by omega) (by omega)
      have fr_87 := fr_58.wr (k := (b + (9 + j_79))) (j := j_79) (.long (x_80 + (1 : Int64))) (by unfold WFr; omega)
      clear f_55 f_56 fr_58
      generalize (wr hs_59 (b + (9 + j_79)) j_79 (.long (x_80 + (1 : Int64)))) = hs_88 at *
      refine g_loadI act (gx gp_72 (w := 0x1002102) rfl (by decide) rfl) (a := 1) (n := 33) rfl rfl rfl ?_
      refine g_ifLt act (gx gp_72 (w := 0x4000242a) rfl (by decide) rfl) (tgt := 64) (n := 36) rfl rfl (fun h65 => ?_) (fun h65 => ?_)
      · simp only [i_lt, i0] at h65
        have hc : ∀ i j, i < 3 → j < 3 → (fun i j => M i j + addE a c i j) i j = (upM (upM M j_50 j_50 ((M j_50 j_50) + 1)) j_79 j_79 (((upM M j_50 j_50 ((M j_50 j_50) + 1)) j_79 j_79) + 1)) i j := fun i j _ _ => by
          show M i j + addE a c i j = _
          have m_50_50 : i = j_50 ∧ j = j_50 → M j_50 j_50 = M i j := fun h => by rw [h.1, h.2]
          have m_50_79 : i = j_50 ∧ j = j_79 → M j_50 j_79 = M i j := fun h => by rw [h.1, h.2]
          have m_79_50 : i = j_79 ∧ j = j_50 → M j_79 j_50 = M i j := fun h => by rw [h.1, h.2]
          have m_79_79 : i = j_79 ∧ j = j_79 → M j_79 j_79 = M i j := fun h => by rw [h.1, h.2]
          unfold addE
          try unfold upM
          (repeat' split) <;> first | omega | (exfalso; omega) | (simp_all; done) | (subst_vars; omega)
        exact g_retV hEnd (gx gp_72 (w := 0x18) rfl (by decide) rfl) ⟨rfl, rfl, f_84, f_85.cong hc, fr_87⟩ (by show kc ≤ kc + 0; omega) (by show ks ≤ ks + 0; omega)
      · simp only [i_lt, i0] at h65
        refine g_loadI act (gx gp_72 (w := 0x2002502) rfl (by decide) rfl) (a := 2) (n := 37) rfl rfl rfl ?_
        refine g_ifLt act (gx gp_72 (w := 0x4000282a) rfl (by decide) rfl) (tgt := 64) (n := 40) rfl rfl (fun h67 => ?_) (fun h67 => ?_)
        · simp only [i_lt, i0] at h67
          have hc : ∀ i j, i < 3 → j < 3 → (fun i j => M i j + addE a c i j) i j = (upM (upM M j_50 j_50 ((M j_50 j_50) + 1)) j_79 j_79 (((upM M j_50 j_50 ((M j_50 j_50) + 1)) j_79 j_79) + 1)) i j := fun i j _ _ => by
            show M i j + addE a c i j = _
            have m_50_50 : i = j_50 ∧ j = j_50 → M j_50 j_50 = M i j := fun h => by rw [h.1, h.2]
            have m_50_79 : i = j_50 ∧ j = j_79 → M j_50 j_79 = M i j := fun h => by rw [h.1, h.2]
            have m_79_50 : i = j_79 ∧ j = j_50 → M j_79 j_50 = M i j := fun h => by rw [h.1, h.2]
            have m_79_79 : i = j_79 ∧ j = j_79 → M j_79 j_79 = M i j := fun h => by rw [h.1, h.2]
            unfold addE
            try unfold upM
            (repeat' split) <;> first | omega | (exfalso; omega) | (simp_all; done) | (subst_vars; omega)
          exact g_retV hEnd (gx gp_72 (w := 0x18) rfl (by decide) rfl) ⟨rfl, rfl, f_84, f_85.cong hc, fr_87⟩ (by show kc ≤ kc + 0; omega) (by show ks ≤ ks + 0; omega)
        · simp only [i_lt, i0] at h67
          refine g_loadA act (gx gp_72 (w := 0x2903) rfl (by decide) rfl) (a := 0) (n := 41) rfl rfl rfl ?_
          refine r_getf act (gx gp_72 (w := 0x3000081002c04) rfl (by decide) rfl) (n := 44) (ci := 1) (j := 2) (N := 4) rfl rfl rfl f_84.2.1 (by decide) (v := .ref (b + 8)) f_84.2.2.1.2.1 ?_
          refine g_loadI act (gx gp_72 (w := 0x1002d02) rfl (by decide) rfl) (a := 1) (n := 45) rfl rfl rfl ?_
          refine r_aald act (gx gp_72 (w := 0x2e12) rfl (by decide) rfl) (n := 46) (N := 3) (j := j_50) rfl f_84.2.2.2.1.2.1 (by decide) (ha.trans hj_50) (show j_50 < 3 by omega) (v := .ref (b + (9 + j_50))) (f_84.2.2.2.2.2.1 j_50 (by omega)).1 ?_
          refine g_loadI act (gx gp_72 (w := 0x2002f02) rfl (by decide) rfl) (a := 2) (n := 47) rfl rfl rfl ?_
          refine g_dup2 act (gx gp_72 (w := 0x3030) rfl (by decide) rfl) (n := 48) rfl rfl rfl ?_
          obtain ⟨x_89, e_90, hx_91⟩ := f_85 j_50 j_79 (by omega) (by omega)
          have bd_x_89 := bd_86 j_50 j_79
          refine r_lald act (gx gp_72 (w := 0x310d) rfl (by decide) rfl) (n := 49) (N := 3) (j := j_79) rfl (f_84.2.2.2.2.2.1 j_50 (by omega)).2 (hcc.trans hj_79) (show j_79 < 3 by omega) (v := .long x_89) e_90 ?_
          refine g_constL act (gx gp_72 (w := 0x4000000000000000a000000003201) rfl (by decide) rfl) (n := 50) (x := 1) (by decide) rfl ?_
          refine g_lsub act (gx gp_72 (w := 0x331e) rfl (by decide) rfl) (n := 51) rfl ?_
          have v_92 := lw_sub hx_91 (show (1 : Int64).toInt = (1 : Int) from by decide) (show -9223372036854775808 ≤ (((upM (upM M j_50 j_50 ((M j_50 j_50) + 1)) j_79 j_79 (((upM M j_50 j_50 ((M j_50 j_50) + 1)) j_79 j_79) + 1)) j_50 j_79) - 1) by omega) (show (((upM (upM M j_50 j_50 ((M j_50 j_50) + 1)) j_79 j_79 (((upM M j_50 j_50 ((M j_50 j_50) + 1)) j_79 j_79) + 1)) j_50 j_79) - 1) < 9223372036854775808 by omega)
          refine r_last act (gx gp_72 (w := 0x3405) rfl (by decide) rfl) (n := 52) (N := 3) (j := j_79) rfl (f_84.2.2.2.2.2.1 j_50 (by omega)).2 (hcc.trans hj_79) (show j_79 < 3 by omega) ?_
          have f_93 := f_84.wr (k := (b + (9 + j_50))) (j := j_79) (v := .long (x_89 - (1 : Int64))) (by unfold WFr; omega)
          have f_94 := f_85.put (i := j_50) (j := j_79) (x := (x_89 - (1 : Int64))) (v := (((upM (upM M j_50 j_50 ((M j_50 j_50) + 1)) j_79 j_79 (((upM M j_50 j_50 ((M j_50 j_50) + 1)) j_79 j_79) + 1)) j_50 j_79) - 1)) f_84 (by omega) v_92
          have bd_95 := bd_86.up (i := j_50) (j := j_79) (v := (((upM (upM M j_50 j_50 ((M j_50 j_50) + 1)) j_79 j_79 (((upM M j_50 j_50 ((M j_50 j_50) + 1)) j_79 j_79) + 1)) j_50 j_79) - 1)) (B2 := ((B + 1) + 1) + 1) (by omega) (by omega) (by omega)
          have fr_96 := fr_87.wr (k := (b + (9 + j_50))) (j := j_79) (.long (x_89 - (1 : Int64))) (by unfold WFr; omega)
          clear f_84 f_85 fr_87
          generalize (wr hs_88 (b + (9 + j_50)) j_79 (.long (x_89 - (1 : Int64)))) = hs_97 at *
          refine g_loadA act (gx gp_72 (w := 0x3503) rfl (by decide) rfl) (a := 0) (n := 53) rfl rfl rfl ?_
          refine r_getf act (gx gp_72 (w := 0x3000081003804) rfl (by decide) rfl) (n := 56) (ci := 1) (j := 2) (N := 4) rfl rfl rfl f_93.2.1 (by decide) (v := .ref (b + 8)) f_93.2.2.1.2.1 ?_
          refine g_loadI act (gx gp_72 (w := 0x2003902) rfl (by decide) rfl) (a := 2) (n := 57) rfl rfl rfl ?_
          refine r_aald act (gx gp_72 (w := 0x3a12) rfl (by decide) rfl) (n := 58) (N := 3) (j := j_79) rfl f_93.2.2.2.1.2.1 (by decide) (hcc.trans hj_79) (show j_79 < 3 by omega) (v := .ref (b + (9 + j_79))) (f_93.2.2.2.2.2.1 j_79 (by omega)).1 ?_
          refine g_loadI act (gx gp_72 (w := 0x1003b02) rfl (by decide) rfl) (a := 1) (n := 59) rfl rfl rfl ?_
          refine g_dup2 act (gx gp_72 (w := 0x3c30) rfl (by decide) rfl) (n := 60) rfl rfl rfl ?_
          obtain ⟨x_98, e_99, hx_100⟩ := f_94 j_79 j_50 (by omega) (by omega)
          have bd_x_98 := bd_95 j_79 j_50
          refine r_lald act (gx gp_72 (w := 0x3d0d) rfl (by decide) rfl) (n := 61) (N := 3) (j := j_50) rfl (f_93.2.2.2.2.2.1 j_79 (by omega)).2 (ha.trans hj_50) (show j_50 < 3 by omega) (v := .long x_98) e_99 ?_
          refine g_constL act (gx gp_72 (w := 0x4000000000000000a000000003e01) rfl (by decide) rfl) (n := 62) (x := 1) (by decide) rfl ?_
          refine g_lsub act (gx gp_72 (w := 0x3f1e) rfl (by decide) rfl) (n := 63) rfl ?_
          have v_101 := lw_sub hx_100 (show (1 : Int64).toInt = (1 : Int) from by decide) (show -9223372036854775808 ≤ (((upM (upM (upM M j_50 j_50 ((M j_50 j_50) + 1)) j_79 j_79 (((upM M j_50 j_50 ((M j_50 j_50) + 1)) j_79 j_79) + 1)) j_50 j_79 (((upM (upM M j_50 j_50 ((M j_50 j_50) + 1)) j_79 j_79 (((upM M j_50 j_50 ((M j_50 j_50) + 1)) j_79 j_79) + 1)) j_50 j_79) - 1)) j_79 j_50) - 1) by omega) (show (((upM (upM (upM M j_50 j_50 ((M j_50 j_50) + 1)) j_79 j_79 (((upM M j_50 j_50 ((M j_50 j_50) + 1)) j_79 j_79) + 1)) j_50 j_79 (((upM (upM M j_50 j_50 ((M j_50 j_50) + 1)) j_79 j_79 (((upM M j_50 j_50 ((M j_50 j_50) + 1)) j_79 j_79) + 1)) j_50 j_79) - 1)) j_79 j_50) - 1) < 9223372036854775808 by omega)
          refine r_last act (gx gp_72 (w := 0x4005) rfl (by decide) rfl) (n := 64) (N := 3) (j := j_50) rfl (f_93.2.2.2.2.2.1 j_79 (by omega)).2 (ha.trans hj_50) (show j_50 < 3 by omega) ?_
          have f_102 := f_93.wr (k := (b + (9 + j_79))) (j := j_50) (v := .long (x_98 - (1 : Int64))) (by unfold WFr; omega)
          have f_103 := f_94.put (i := j_79) (j := j_50) (x := (x_98 - (1 : Int64))) (v := (((upM (upM (upM M j_50 j_50 ((M j_50 j_50) + 1)) j_79 j_79 (((upM M j_50 j_50 ((M j_50 j_50) + 1)) j_79 j_79) + 1)) j_50 j_79 (((upM (upM M j_50 j_50 ((M j_50 j_50) + 1)) j_79 j_79 (((upM M j_50 j_50 ((M j_50 j_50) + 1)) j_79 j_79) + 1)) j_50 j_79) - 1)) j_79 j_50) - 1)) f_93 (by omega) v_101
          have bd_104 := bd_95.up (i := j_79) (j := j_50) (v := (((upM (upM (upM M j_50 j_50 ((M j_50 j_50) + 1)) j_79 j_79 (((upM M j_50 j_50 ((M j_50 j_50) + 1)) j_79 j_79) + 1)) j_50 j_79 (((upM (upM M j_50 j_50 ((M j_50 j_50) + 1)) j_79 j_79 (((upM M j_50 j_50 ((M j_50 j_50) + 1)) j_79 j_79) + 1)) j_50 j_79) - 1)) j_79 j_50) - 1)) (B2 := (((B + 1) + 1) + 1) + 1) (by omega) (by omega) (by omega)
          have fr_105 := fr_96.wr (k := (b + (9 + j_79))) (j := j_50) (.long (x_98 - (1 : Int64))) (by unfold WFr; omega)
          clear f_93 f_94 fr_96
          generalize (wr hs_97 (b + (9 + j_79)) j_50 (.long (x_98 - (1 : Int64)))) = hs_106 at *
          have hc : ∀ i j, i < 3 → j < 3 → (fun i j => M i j + addE a c i j) i j = (upM (upM (upM (upM M j_50 j_50 ((M j_50 j_50) + 1)) j_79 j_79 (((upM M j_50 j_50 ((M j_50 j_50) + 1)) j_79 j_79) + 1)) j_50 j_79 (((upM (upM M j_50 j_50 ((M j_50 j_50) + 1)) j_79 j_79 (((upM M j_50 j_50 ((M j_50 j_50) + 1)) j_79 j_79) + 1)) j_50 j_79) - 1)) j_79 j_50 (((upM (upM (upM M j_50 j_50 ((M j_50 j_50) + 1)) j_79 j_79 (((upM M j_50 j_50 ((M j_50 j_50) + 1)) j_79 j_79) + 1)) j_50 j_79 (((upM (upM M j_50 j_50 ((M j_50 j_50) + 1)) j_79 j_79 (((upM M j_50 j_50 ((M j_50 j_50) + 1)) j_79 j_79) + 1)) j_50 j_79) - 1)) j_79 j_50) - 1)) i j := fun i j _ _ => by
            show M i j + addE a c i j = _
            have m_50_50 : i = j_50 ∧ j = j_50 → M j_50 j_50 = M i j := fun h => by rw [h.1, h.2]
            have m_50_79 : i = j_50 ∧ j = j_79 → M j_50 j_79 = M i j := fun h => by rw [h.1, h.2]
            have m_79_50 : i = j_79 ∧ j = j_50 → M j_79 j_50 = M i j := fun h => by rw [h.1, h.2]
            have m_79_79 : i = j_79 ∧ j = j_79 → M j_79 j_79 = M i j := fun h => by rw [h.1, h.2]
            unfold addE
            try unfold upM
            (repeat' split) <;> first | omega | (exfalso; omega) | (simp_all; done) | (subst_vars; omega)
          exact g_retV hEnd (gx gp_72 (w := 0x18) rfl (by decide) rfl) ⟨rfl, rfl, f_102, f_103.cong hc, fr_105⟩ (by show kc ≤ kc + 0; omega) (by show ks ≤ ks + 0; omega)

theorem i_rem3x {x : Int32} {k : Nat} (h : x.toInt = (k : Int)) : (x - x / (3 : Int32) * (3 : Int32)).toInt = ((k % 3 : Nat) : Int) := by
  rw [i_remA (by decide), h, show (3 : Int32).toInt = 3 from rfl, Int.tmod_eq_emod_of_nonneg (by omega)]
  omega
theorem cx_cof {i9 j9 : Int32} {i j : Nat} (hF : FLS hs b) (hM : LAP hs b M) (hB : BdM M 25) (hi : i9.toInt = (i : Int)) (hj : j9.toInt = (j : Int)) (hi3 : i < 3) (hj3 : j < 3) : BodyN SSX TBL g0 CLS bl xs l D_74 0 0 0 0 [.ref b, .int i9, .int j9] hs (fun kd r h2 => kd = 0 ∧ hs = h2 ∧ ∃ x : Int64, r = some (.long x) ∧ x.toInt = cof3 M i j) := by
  intro wp p e R sW m args below meth cW Q kc0 ks0 kc ks act hf hl hc hsl hEnd
  have hf : 0 ≤ R.frames := hf
  have hl : 0 ≤ R.locals := hl
  have hcof : M ((i + 1) % 3) ((j + 1) % 3) * M ((i + 2) % 3) ((j + 2) % 3) - M ((i + 1) % 3) ((j + 2) % 3) * M ((i + 2) % 3) ((j + 1) % 3) = cof3 M i j := rfl
  show WpN (gp g0 wp) CLS p l e R sW m args below meth cW Q D_74.2.2.1 kc0 ks0 0 [some (.ref b), some (.int i9), some (.int j9), none, none, none, none] (hs, kc, ks) []
  refine g_loadI act (gx gp_74 (w := 0x1000102) rfl (by decide) rfl) (a := 1) (n := 1) rfl rfl rfl ?_
  refine g_constI act (gx gp_74 (w := 0x40000000c00000009000000000201) rfl (by decide) rfl) (n := 2) (x := (1 : Int32)) (by decide) rfl ?_
  refine g_iadd act (gx gp_74 (w := 0x30a) rfl (by decide) rfl) (n := 3) rfl ?_
  have v_1 := iv_addN hi (show (1 : Int32).toInt = ((1 : Nat) : Int) from by decide) (show (i + 1) < 2147483648 by omega)
  refine g_constI act (gx gp_74 (w := 0x40000001c00000019000000000401) rfl (by decide) rfl) (n := 4) (x := (3 : Int32)) (by decide) rfl ?_
  refine g_irem act (gx gp_74 (w := 0x517) rfl (by decide) rfl) (n := 5) (by decide) rfl ?_
  have hr_2 := i_rem3x v_1
  refine g_storeI act (gx gp_74 (w := 0x3000610) rfl (by decide) rfl) (a := 3) (n := 6) rfl rfl (L2 := [some (.ref b), some (.int i9), some (.int j9), some (.int ((i9 + (1 : Int32)) - (i9 + (1 : Int32)) / (3 : Int32) * (3 : Int32))), none, none, none]) rfl ?_
  refine g_loadI act (gx gp_74 (w := 0x1000702) rfl (by decide) rfl) (a := 1) (n := 7) rfl rfl rfl ?_
  refine g_constI act (gx gp_74 (w := 0x40000001400000011000000000801) rfl (by decide) rfl) (n := 8) (x := (2 : Int32)) (by decide) rfl ?_
  refine g_iadd act (gx gp_74 (w := 0x90a) rfl (by decide) rfl) (n := 9) rfl ?_
  have v_3 := iv_addN hi (show (2 : Int32).toInt = ((2 : Nat) : Int) from by decide) (show (i + 2) < 2147483648 by omega)
  refine g_constI act (gx gp_74 (w := 0x40000001c00000019000000000a01) rfl (by decide) rfl) (n := 10) (x := (3 : Int32)) (by decide) rfl ?_
  refine g_irem act (gx gp_74 (w := 0xb17) rfl (by decide) rfl) (n := 11) (by decide) rfl ?_
  have hr_4 := i_rem3x v_3
  refine g_storeI act (gx gp_74 (w := 0x4000d10) rfl (by decide) rfl) (a := 4) (n := 13) rfl rfl (L2 := [some (.ref b), some (.int i9), some (.int j9), some (.int ((i9 + (1 : Int32)) - (i9 + (1 : Int32)) / (3 : Int32) * (3 : Int32))), some (.int ((i9 + (2 : Int32)) - (i9 + (2 : Int32)) / (3 : Int32) * (3 : Int32))), none, none]) rfl ?_
  refine g_loadI act (gx gp_74 (w := 0x2000e02) rfl (by decide) rfl) (a := 2) (n := 14) rfl rfl rfl ?_
  refine g_constI act (gx gp_74 (w := 0x40000000c00000009000000000f01) rfl (by decide) rfl) (n := 15) (x := (1 : Int32)) (by decide) rfl ?_
  refine g_iadd act (gx gp_74 (w := 0x100a) rfl (by decide) rfl) (n := 16) rfl ?_
  have v_5 := iv_addN hj (show (1 : Int32).toInt = ((1 : Nat) : Int) from by decide) (show (j + 1) < 2147483648 by omega)
  refine g_constI act (gx gp_74 (w := 0x40000001c00000019000000001101) rfl (by decide) rfl) (n := 17) (x := (3 : Int32)) (by decide) rfl ?_
  refine g_irem act (gx gp_74 (w := 0x1217) rfl (by decide) rfl) (n := 18) (by decide) rfl ?_
  have hr_6 := i_rem3x v_5
  refine g_storeI act (gx gp_74 (w := 0x5001410) rfl (by decide) rfl) (a := 5) (n := 20) rfl rfl (L2 := [some (.ref b), some (.int i9), some (.int j9), some (.int ((i9 + (1 : Int32)) - (i9 + (1 : Int32)) / (3 : Int32) * (3 : Int32))), some (.int ((i9 + (2 : Int32)) - (i9 + (2 : Int32)) / (3 : Int32) * (3 : Int32))), some (.int ((j9 + (1 : Int32)) - (j9 + (1 : Int32)) / (3 : Int32) * (3 : Int32))), none]) rfl ?_
  refine g_loadI act (gx gp_74 (w := 0x2001502) rfl (by decide) rfl) (a := 2) (n := 21) rfl rfl rfl ?_
  refine g_constI act (gx gp_74 (w := 0x40000001400000011000000001601) rfl (by decide) rfl) (n := 22) (x := (2 : Int32)) (by decide) rfl ?_
  refine g_iadd act (gx gp_74 (w := 0x170a) rfl (by decide) rfl) (n := 23) rfl ?_
  have v_7 := iv_addN hj (show (2 : Int32).toInt = ((2 : Nat) : Int) from by decide) (show (j + 2) < 2147483648 by omega)
  refine g_constI act (gx gp_74 (w := 0x40000001c00000019000000001801) rfl (by decide) rfl) (n := 24) (x := (3 : Int32)) (by decide) rfl ?_
  refine g_irem act (gx gp_74 (w := 0x1917) rfl (by decide) rfl) (n := 25) (by decide) rfl ?_
  have hr_8 := i_rem3x v_7
  refine g_storeI act (gx gp_74 (w := 0x6001b10) rfl (by decide) rfl) (a := 6) (n := 27) rfl rfl (L2 := [some (.ref b), some (.int i9), some (.int j9), some (.int ((i9 + (1 : Int32)) - (i9 + (1 : Int32)) / (3 : Int32) * (3 : Int32))), some (.int ((i9 + (2 : Int32)) - (i9 + (2 : Int32)) / (3 : Int32) * (3 : Int32))), some (.int ((j9 + (1 : Int32)) - (j9 + (1 : Int32)) / (3 : Int32) * (3 : Int32))), some (.int ((j9 + (2 : Int32)) - (j9 + (2 : Int32)) / (3 : Int32) * (3 : Int32)))]) rfl ?_
  refine g_loadA act (gx gp_74 (w := 0x1c03) rfl (by decide) rfl) (a := 0) (n := 28) rfl rfl rfl ?_
  refine r_getf act (gx gp_74 (w := 0x3000081001f04) rfl (by decide) rfl) (n := 31) (ci := 1) (j := 2) (N := 4) rfl rfl rfl hF.2.1 (by decide) (v := .ref (b + 8)) hF.2.2.1.2.1 ?_
  refine g_loadI act (gx gp_74 (w := 0x3002002) rfl (by decide) rfl) (a := 3) (n := 32) rfl rfl rfl ?_
  refine r_aald act (gx gp_74 (w := 0x2112) rfl (by decide) rfl) (n := 33) (N := 3) (j := ((i + 1) % 3)) rfl hF.2.2.2.1.2.1 (by decide) hr_2 (show ((i + 1) % 3) < 3 by omega) (v := .ref (b + (9 + ((i + 1) % 3)))) (hF.2.2.2.2.2.1 ((i + 1) % 3) (by omega)).1 ?_
  refine g_loadI act (gx gp_74 (w := 0x5002302) rfl (by decide) rfl) (a := 5) (n := 35) rfl rfl rfl ?_
  obtain ⟨x_9, e_10, hx_11⟩ := hM ((i + 1) % 3) ((j + 1) % 3) (by omega) (by omega)
  refine r_lald act (gx gp_74 (w := 0x240d) rfl (by decide) rfl) (n := 36) (N := 3) (j := ((j + 1) % 3)) rfl (hF.2.2.2.2.2.1 ((i + 1) % 3) (by omega)).2 hr_6 (show ((j + 1) % 3) < 3 by omega) (v := .long x_9) e_10 ?_
  refine g_loadA act (gx gp_74 (w := 0x2503) rfl (by decide) rfl) (a := 0) (n := 37) rfl rfl rfl ?_
  refine r_getf act (gx gp_74 (w := 0x3000081002804) rfl (by decide) rfl) (n := 40) (ci := 1) (j := 2) (N := 4) rfl rfl rfl hF.2.1 (by decide) (v := .ref (b + 8)) hF.2.2.1.2.1 ?_
  refine g_loadI act (gx gp_74 (w := 0x4002a02) rfl (by decide) rfl) (a := 4) (n := 42) rfl rfl rfl ?_
  refine r_aald act (gx gp_74 (w := 0x2b12) rfl (by decide) rfl) (n := 43) (N := 3) (j := ((i + 2) % 3)) rfl hF.2.2.2.1.2.1 (by decide) hr_4 (show ((i + 2) % 3) < 3 by omega) (v := .ref (b + (9 + ((i + 2) % 3)))) (hF.2.2.2.2.2.1 ((i + 2) % 3) (by omega)).1 ?_
  refine g_loadI act (gx gp_74 (w := 0x6002d02) rfl (by decide) rfl) (a := 6) (n := 45) rfl rfl rfl ?_
  obtain ⟨x_12, e_13, hx_14⟩ := hM ((i + 2) % 3) ((j + 2) % 3) (by omega) (by omega)
  refine r_lald act (gx gp_74 (w := 0x2e0d) rfl (by decide) rfl) (n := 46) (N := 3) (j := ((j + 2) % 3)) rfl (hF.2.2.2.2.2.1 ((i + 2) % 3) (by omega)).2 hr_8 (show ((j + 2) % 3) < 3 by omega) (v := .long x_12) e_13 ?_
  refine g_lmul act (gx gp_74 (w := 0x2f15) rfl (by decide) rfl) (n := 47) rfl ?_
  have m1_v := lw_mulB (A := 25) (B := 25) hx_11 hx_14 (by have q9 := hB ((i + 1) % 3) ((j + 1) % 3); omega) (by have q9 := hB ((i + 2) % 3) ((j + 2) % 3); omega) (by decide) (by decide)
  have qm1_v := Nat.le_trans m1_v.2 (show (25 : Int).toNat * (25 : Int).toNat ≤ 625 by decide)
  refine g_loadA act (gx gp_74 (w := 0x3003) rfl (by decide) rfl) (a := 0) (n := 48) rfl rfl rfl ?_
  refine r_getf act (gx gp_74 (w := 0x3000081003304) rfl (by decide) rfl) (n := 51) (ci := 1) (j := 2) (N := 4) rfl rfl rfl hF.2.1 (by decide) (v := .ref (b + 8)) hF.2.2.1.2.1 ?_
  refine g_loadI act (gx gp_74 (w := 0x3003402) rfl (by decide) rfl) (a := 3) (n := 52) rfl rfl rfl ?_
  refine r_aald act (gx gp_74 (w := 0x3512) rfl (by decide) rfl) (n := 53) (N := 3) (j := ((i + 1) % 3)) rfl hF.2.2.2.1.2.1 (by decide) hr_2 (show ((i + 1) % 3) < 3 by omega) (v := .ref (b + (9 + ((i + 1) % 3)))) (hF.2.2.2.2.2.1 ((i + 1) % 3) (by omega)).1 ?_
  refine g_loadI act (gx gp_74 (w := 0x6003702) rfl (by decide) rfl) (a := 6) (n := 55) rfl rfl rfl ?_
  obtain ⟨x_15, e_16, hx_17⟩ := hM ((i + 1) % 3) ((j + 2) % 3) (by omega) (by omega)
  refine r_lald act (gx gp_74 (w := 0x380d) rfl (by decide) rfl) (n := 56) (N := 3) (j := ((j + 2) % 3)) rfl (hF.2.2.2.2.2.1 ((i + 1) % 3) (by omega)).2 hr_8 (show ((j + 2) % 3) < 3 by omega) (v := .long x_15) e_16 ?_
  refine g_loadA act (gx gp_74 (w := 0x3903) rfl (by decide) rfl) (a := 0) (n := 57) rfl rfl rfl ?_
  refine r_getf act (gx gp_74 (w := 0x3000081003c04) rfl (by decide) rfl) (n := 60) (ci := 1) (j := 2) (N := 4) rfl rfl rfl hF.2.1 (by decide) (v := .ref (b + 8)) hF.2.2.1.2.1 ?_
  refine g_loadI act (gx gp_74 (w := 0x4003e02) rfl (by decide) rfl) (a := 4) (n := 62) rfl rfl rfl ?_
  refine r_aald act (gx gp_74 (w := 0x3f12) rfl (by decide) rfl) (n := 63) (N := 3) (j := ((i + 2) % 3)) rfl hF.2.2.2.1.2.1 (by decide) hr_4 (show ((i + 2) % 3) < 3 by omega) (v := .ref (b + (9 + ((i + 2) % 3)))) (hF.2.2.2.2.2.1 ((i + 2) % 3) (by omega)).1 ?_
  refine g_loadI act (gx gp_74 (w := 0x5004102) rfl (by decide) rfl) (a := 5) (n := 65) rfl rfl rfl ?_
  obtain ⟨x_18, e_19, hx_20⟩ := hM ((i + 2) % 3) ((j + 1) % 3) (by omega) (by omega)
  refine r_lald act (gx gp_74 (w := 0x420d) rfl (by decide) rfl) (n := 66) (N := 3) (j := ((j + 1) % 3)) rfl (hF.2.2.2.2.2.1 ((i + 2) % 3) (by omega)).2 hr_6 (show ((j + 1) % 3) < 3 by omega) (v := .long x_18) e_19 ?_
  refine g_lmul act (gx gp_74 (w := 0x4315) rfl (by decide) rfl) (n := 67) rfl ?_
  have m2_v := lw_mulB (A := 25) (B := 25) hx_17 hx_20 (by have q9 := hB ((i + 1) % 3) ((j + 2) % 3); omega) (by have q9 := hB ((i + 2) % 3) ((j + 1) % 3); omega) (by decide) (by decide)
  have qm2_v := Nat.le_trans m2_v.2 (show (25 : Int).toNat * (25 : Int).toNat ≤ 625 by decide)
  refine g_lsub act (gx gp_74 (w := 0x441e) rfl (by decide) rfl) (n := 68) rfl ?_
  exact g_retL hEnd (gx gp_74 (w := 0x19) rfl (by decide) rfl) ⟨rfl, rfl, _, rfl, (lw_sub m1_v.1 m2_v.1 (by omega) (by omega)).trans hcof⟩ (by show kc ≤ kc + 0; omega) (by show ks ≤ ks + 0; omega)

end CRDF

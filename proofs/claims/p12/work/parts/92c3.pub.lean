/-! The reference's methods over a found dispatch. -/
def WM (k j : Nat) : Prop := (131 ≤ k ∧ k ≤ 145) ∨ (k = 124 ∧ (j = 0 ∨ j = 7 ∨ j = 8 ∨ j = 24 ∨ j = 28 ∨ j = 29 ∨ j = 30 ∨ (35 ≤ j ∧ j ≤ 38)))
theorem WM_rw : ∀ q ∈ RWT, ¬ WM 124 q.1 := by
  intro q hq
  have : q.1 ≠ 0 ∧ q.1 ≠ 7 ∧ q.1 ≠ 8 ∧ q.1 ≠ 24 ∧ q.1 ≠ 28 ∧ q.1 ≠ 29 ∧ q.1 ≠ 30 ∧ q.1 ≠ 35 ∧ q.1 ≠ 36 ∧ q.1 ≠ 37 ∧ q.1 ≠ 38 := by revert q; decide
  unfold WM
  omega
def POL (hs : List CE) : Nat → Option Value → List CE → Prop := fun kd r h2 => kd = 0 ∧ (∃ x : Int64, r = some (.long x)) ∧ ModF h2 ∧ FrS WM hs h2
def POI (hs : List CE) : Nat → Option Value → List CE → Prop := fun kd r h2 => kd = 0 ∧ (∃ x : Int32, r = some (.int x)) ∧ ModF h2 ∧ FrS WM hs h2
def POZ (hs : List CE) : Nat → Option Value → List CE → Prop := fun kd r h2 => kd = 0 ∧ (r = some (.int 0) ∨ r = some (.int 1)) ∧ ModF h2 ∧ FrS WM hs h2
theorem k2_one : K2 1 (1 : Int64) := by unfold K2; decide
theorem z01_t {r : Option Value} (h : r = some (.int 0) ∨ r = some (.int 1)) : ∃ x : Int32, r = some (.int x) ∧ (x.toInt = 0 ∨ x.toInt = 1) := h.elim (fun q => ⟨0, q, Or.inl (by decide)⟩) (fun q => ⟨1, q, Or.inr (by decide)⟩)
theorem upI_b {f : Nat → Int} {i : Nat} {X lo hi hi2 : Int} (h : ∀ j, lo ≤ f j ∧ f j ≤ hi) (h1 : hi ≤ hi2) (h2 : lo ≤ X) (h3 : X ≤ hi2) : ∀ j, lo ≤ upI f i X j ∧ upI f i X j ≤ hi2 := fun j => by
  unfold upI
  split
  · exact ⟨h2, h3⟩
  · have := h j; omega
theorem frs_one {hs : List CE} {k j : Nat} {v : Value} : FrS (fun k9 j9 => k9 = k ∧ j9 = j) hs (wr hs k j v) := (FrS.rf _ hs).wr (k := k) (j := j) v ⟨rfl, rfl⟩
theorem FD9.wr0 {hs : List CE} {tl wl : Nat → Int} {nl n : Nat} {ou bd bl : Int} (h : FD9 hs tl wl nl n ou bd bl) {v : Value} : FD9 (wr hs 124 0 v) tl wl nl n ou bd bl := by
  obtain ⟨a, b, c, d⟩ := h
  have f := frs_one (hs := hs) (k := 124) (j := 0) (v := v)
  exact ⟨a.fr f (fun q hq => by have : q.1 ≠ 0 := by revert q; decide
                                omega) (fun j => by omega) (fun j => by omega), b.fr f (fun k j h1 h2 => by omega) (by omega), c.fr f (fun j => by omega) (by omega) (by omega), d.fr f (fun j => by omega)⟩
theorem ng_none {tl : Nat → Int} {nl n : Nat} {ou : Int} (h : NG tl nl n ou) : NG tl nl n (-1) := ⟨h.1, h.2.1, h.2.2.1, h.2.2.2.1, h.2.2.2.2.1, Or.inl rfl⟩

theorem b_part {g0 : GG} {bl : Nat} {xs : Nat → Int32} {l : Launch} {hs : List CE} {a : Int32} {t w : Int64} (hk : shp hs 124 = some (9, 39)) (e7 : rd hs 124 7 = .long t) (e8 : rd hs 124 8 = .long w) : BodyN SSX TBL g0 CLS bl xs l D_250 0 0 0 0 [.ref 124, .int a] hs (fun kd r h2 => kd = 0 ∧ hs = h2 ∧ ∃ x : Int64, r = some (.long x)) := by
  intro wp p e R s m args below meth c Q kc0 ks0 kc ks act hf hl hc hsl hEnd
  show WpN (gp g0 wp) CLS p l e R s m args below meth c Q D_250.2.2.1 kc0 ks0 0 [some (.ref 124), some (.int a)] (hs, kc, ks) []
  refine g_loadI act (gx gp_250 (w := 0x1000102) rfl (by decide) rfl) (a := 1) (n := 1) rfl rfl rfl ?_
  refine g_ifNe act (gx gp_250 (w := 0xb00041d) rfl (by decide) rfl) (tgt := 11) (n := 4) rfl rfl (fun h2 => ?_) (fun h2 => ?_)
  · simp only [i_eq, i0] at h2
    refine g_loadA act (gx gp_250 (w := 0xc03) rfl (by decide) rfl) (a := 0) (n := 12) rfl rfl rfl ?_
    refine r_getf act (gx gp_250 (w := 0x2000209000f04) rfl (by decide) rfl) (n := 15) (ci := 9) (j := 8) (N := 39) rfl rfl rfl hk (by decide) (v := .long w) e8 ?_
    exact g_retL hEnd (gx gp_250 (w := 0x19) rfl (by decide) rfl) ⟨rfl, rfl, _, rfl⟩ (by show kc ≤ kc + 0; omega) (by show ks ≤ ks + 0; omega)
  · simp only [i_eq, i0] at h2
    refine g_loadA act (gx gp_250 (w := 0x503) rfl (by decide) rfl) (a := 0) (n := 5) rfl rfl rfl ?_
    refine r_getf act (gx gp_250 (w := 0x20001c9000804) rfl (by decide) rfl) (n := 8) (ci := 9) (j := 7) (N := 39) rfl rfl rfl hk (by decide) (v := .long t) e7 ?_
    refine g_goto act (gx gp_250 (w := 0xf07) rfl (by decide) rfl) (n := 15) rfl ?_
    exact g_retL hEnd (gx gp_250 (w := 0x19) rfl (by decide) rfl) ⟨rfl, rfl, _, rfl⟩ (by show kc ≤ kc + 0; omega) (by show ks ≤ ks + 0; omega)

theorem b_isGood {g0 : GG} {bl : Nat} {xs : Nat → Int32} {l : Launch} {hs : List CE} {tl wl : Nat → Int} {nl n ng nr : Nat} (hNW : NW tl wl nl n ng nr) {it a b : Int32} {ti x y : Int} (hB : BM hs tl wl) (hM : ModF hs) (hit : it.toInt = ti) (hti : ti = 0 ∨ ti = 1) (ha : a.toInt = x) (hb : b.toInt = y) : BodyN SSX TBL g0 CLS bl xs l D_223 9 228 0 0 [.ref 124, .int it, .int a, .int b] hs (fun kd r h2 => kd = 0 ∧ ModF h2 ∧ FrS WM hs h2 ∧ ∃ rg : Int32, r = some (.int rg) ∧ (rg = 0 ∨ (rg = 1 ∧ ti = 1 ∧ 0 ≤ x ∧ x < tl 1 ∧ 0 ≤ y ∧ y ≤ 1 ∧ FD9 h2 tl wl nl n (wl 38) 200 400))) := by
  intro wp p e R s m args below meth c Q kc0 ks0 kc ks act hf hl hc hsl hEnd
  have hN9 := hNW
  obtain ⟨n0, n1, n2, n3, n4, n5, n6, n7, n8, hG0, nL, nC, nP, nD⟩ := hN9
  have hGn := hG0.1
  have hGn3 := hG0.2.1
  have hGl := hG0.2.2.1
  obtain ⟨rw0, hTo, hW⟩ := hB
  show WpN (gp g0 wp) CLS p l e R s m args below meth c Q D_223.2.2.1 kc0 ks0 0 [some (.ref 124), some (.int it), some (.int a), some (.int b)] (hs, kc, ks) []
  refine g_loadA act (gx gp_223 (w := 0x103) rfl (by decide) rfl) (a := 0) (n := 1) rfl rfl rfl ?_
  refine g_loadI act (gx gp_223 (w := 0x1000202) rfl (by decide) rfl) (a := 1) (n := 2) rfl rfl rfl ?_
  refine g_ifEq act (gx gp_223 (w := 0xd00050e) rfl (by decide) rfl) (tgt := 13) (n := 5) rfl rfl (fun h3 => ?_) (fun h3 => ?_)
  · simp only [i_eq, i0] at h3
    refine g_constI act (gx gp_223 (w := 0x40000000c00000009000000000e01) rfl (by decide) rfl) (n := 14) (x := (1 : Int32)) (by decide) rfl ?_
    refine g_goto act (gx gp_223 (w := 0x2b07) rfl (by decide) rfl) (n := 43) rfl ?_
    refine r_putf act (gx gp_223 (w := 0x9002e13) rfl (by decide) rfl) (n := 46) (ci := 9) (j := 0) (N := 39) rfl rfl rfl rw0.1 (by decide) (Or.inl ⟨rfl, _, rfl⟩) ?_
    have rw_1 := RW.wr (k := 124) (j := 0) (v := .int (1 : Int32)) rw0 (Or.inr (by decide))
    have f_2 := hTo.ne (k := 124) (j := 0) (v := .int (1 : Int32)) (by decide)
    have f_3 := hW.ne (k := 124) (j := 0) (v := .int (1 : Int32)) (by decide)
    have f_4 := hM.wr0 (x := (1 : Int32)) rw0.1 (by decide) (by decide)
    have f_5 := rd_same (j := 0) (v := .int (1 : Int32)) rw0.1
    have fr_6 := (FrS.rf WM hs).wr (k := 124) (j := 0) (.int (1 : Int32)) (by unfold WM; omega)
    generalize (wr hs 124 0 (.int (1 : Int32))) = hs_7 at *
    refine g_loadA act (gx gp_223 (w := 0x2f03) rfl (by decide) rfl) (a := 0) (n := 47) rfl rfl rfl ?_
    refine r_getf act (gx gp_223 (w := 0x9003204) rfl (by decide) rfl) (n := 50) (ci := 9) (j := 0) (N := 39) rfl rfl rfl rw_1.1 (by decide) (v := .int (1 : Int32)) f_5 ?_
    refine g_ifNe act (gx gp_223 (w := 0x3900351d) rfl (by decide) rfl) (tgt := 57) (n := 53) rfl rfl (fun _ => ?_) (fun q => absurd (by decide) q)
    refine g_constI act (gx gp_223 (w := 0x40000000400000001000000003a01) rfl (by decide) rfl) (n := 58) (x := (0 : Int32)) (by decide) rfl ?_
    exact g_retZ hEnd (gx gp_223 (w := 0x23) rfl (by decide) rfl) (by decide) ⟨rfl, f_4, fr_6, _, rfl, Or.inl rfl⟩ (by show kc ≤ kc + 0; omega) (by show ks ≤ ks + 0; omega)
  · simp only [i_eq, i0] at h3
    refine g_loadA act (gx gp_223 (w := 0x603) rfl (by decide) rfl) (a := 0) (n := 6) rfl rfl rfl ?_
    refine g_loadI act (gx gp_223 (w := 0x2000702) rfl (by decide) rfl) (a := 2) (n := 7) rfl rfl rfl ?_
    refine n_call tb_pres act hEnd (gx (P := G_call) gp_223 (w := 0xa000000000000c08220000e0000a0f) rfl (by decide) rfl) (d' := D_224) rfl (as := [.ref 124, .int a]) (rest := [.ref 124]) (b_isInterval (tl := tl) rw0 hTo ha (by omega) (by omega)) (show (2 : Nat) = fb 0xa000000000000c08220000e0000a0f % 16 by decide) (by show (2 : Nat) ≤ 2; decide) (fun _ => ⟨_, _, rfl, _, shp_at rw0.1, Or.inr (show fb 0xa000000000000c08220000e0000a0f >>> 68 = 10 by decide)⟩) (by omega) (by show 8 + (2 + 11) + 22 ≤ R.locals; omega) (by show (1 : Nat) ≤ 8; decide) (by show kc + 0 ≤ _; omega) (by show ks + 0 ≤ _; omega) (fun r9 h3 hpo hr9 => ?_) (fun x9 hs9 hx9 hpo => ?_)
    · obtain ⟨-, rfl, hin_9⟩ := hpo
      obtain ⟨rv_8, rfl, hin_9o⟩ := in1_t hin_9
      show WpN (gp g0 wp) CLS p l e R s m args below meth c Q D_223.2.2.1 kc0 ks0 10 [some (.ref 124), some (.int it), some (.int a), some (.int b)] (hs, kc, ks) [.int rv_8, .ref 124]
      refine g_ifNe act (gx gp_223 (w := 0x11000d1d) rfl (by decide) rfl) (tgt := 17) (n := 13) rfl rfl (fun h11 => ?_) (fun h11 => ?_)
      · simp only [i_eq, i0] at h11
        refine g_loadI act (gx gp_223 (w := 0x3001202) rfl (by decide) rfl) (a := 3) (n := 18) rfl rfl rfl ?_
        refine g_constI act (gx gp_223 (w := 0x40000000400000001000000001301) rfl (by decide) rfl) (n := 19) (x := (0 : Int32)) (by decide) rfl ?_
        refine g_constI act (gx gp_223 (w := 0x40000000c00000009000000001401) rfl (by decide) rfl) (n := 20) (x := (1 : Int32)) (by decide) rfl ?_
        refine n_call tb_pres act hEnd (gx (P := G_call) gp_223 (w := 0x40c330000d900170f) rfl (by decide) rfl) (d' := D_217) rfl (as := [.int b, .int (0 : Int32), .int (1 : Int32)]) (rest := [.ref 124]) (b_in hb (show (0 : Int32).toInt = ((0 : Nat) : Int) from by decide) (show (1 : Int32).toInt = ((1 : Nat) : Int) from by decide)) (show (3 : Nat) = fb 0x40c330000d900170f % 16 by decide) (by show (3 : Nat) ≤ 3; decide) (fun q => absurd q (by decide)) (by omega) (by show 8 + (3 + 11) + 0 ≤ R.locals; omega) (by show (1 : Nat) ≤ 8; decide) (by show kc + 0 ≤ _; omega) (by show ks + 0 ≤ _; omega) (fun r9 h3 hpo hr9 => ?_) (fun x9 hs9 hx9 hpo => ?_)
        · obtain ⟨-, rfl, hin_11⟩ := hpo
          obtain ⟨rv_10, rfl, hin_11o⟩ := in1_t hin_11
          show WpN (gp g0 wp) CLS p l e R s m args below meth c Q D_223.2.2.1 kc0 ks0 23 [some (.ref 124), some (.int it), some (.int a), some (.int b)] (hs, kc, ks) [.int rv_10, .ref 124]
          refine g_ifNe act (gx gp_223 (w := 0x1e001a1d) rfl (by decide) rfl) (tgt := 30) (n := 26) rfl rfl (fun h15 => ?_) (fun h15 => ?_)
          · simp only [i_eq, i0] at h15
            refine g_loadA act (gx gp_223 (w := 0x1f03) rfl (by decide) rfl) (a := 0) (n := 31) rfl rfl rfl ?_
            refine g_loadI act (gx gp_223 (w := 0x2002002) rfl (by decide) rfl) (a := 2) (n := 32) rfl rfl rfl ?_
            obtain ⟨j_12, hj_13⟩ := Int.eq_ofNat_of_zero_le (show (0 : Int) ≤ x by omega)
            refine n_call tb_pres act hEnd (gx (P := G_call) gp_223 (w := 0xa000000000000c08220000dd00230f) rfl (by decide) rfl) (d' := D_221) rfl (as := [.ref 124, .int a]) (rest := [.ref 124]) (b_isFound hNW ⟨rw0, hTo, hW⟩ (ha.trans hj_13) (by omega)) (show (2 : Nat) = fb 0xa000000000000c08220000dd00230f % 16 by decide) (by show (2 : Nat) ≤ 2; decide) (fun _ => ⟨_, _, rfl, _, shp_at rw0.1, Or.inr (show fb 0xa000000000000c08220000dd00230f >>> 68 = 10 by decide)⟩) (by omega) (by show 8 + (2 + 11) + 207 ≤ R.locals; omega) (by show (1 : Nat) ≤ 8; decide) (by show kc + 0 ≤ _; omega) (by show ks + 0 ≤ _; omega) (fun r9 hs_14 hpo hr9 => ?_) (fun x9 hs9 hx9 hpo => ?_)
            · obtain ⟨-, ⟨rf, rfl, hr_17⟩, hFd_18, hMd9, fr_15⟩ := hpo
              have hr_17o : rf.toInt = 0 ∨ rf.toInt = 1 := hr_17.elim (fun q => Or.inl (by rw [q]; decide)) (fun q => Or.inr (by rw [q]; decide))
              have hM_16 := hMd9 hM
              have rw_19 := rw0.fr fr_15 WG_rw
              have f_20 := hTo.fr (fun j9 _ => fr_15.2.2 125 j9 (by unfold WG WD WK; omega))
              have f_21 := hW.fr (fun j9 _ => fr_15.2.2 127 j9 (by unfold WG WD WK; omega))
              have fr_22 := (FrS.rf WM hs).tr (fr_15.mono (fun k9 j9 h9 => by unfold WG WD WK at h9; unfold WM; omega))
              show WpN (gp g0 wp) CLS p l e R s m args below meth c Q D_223.2.2.1 kc0 ks0 35 [some (.ref 124), some (.int it), some (.int a), some (.int b)] (hs_14, kc, ks) [.int rf, .ref 124]
              refine g_ifEq act (gx gp_223 (w := 0x2a00260e) rfl (by decide) rfl) (tgt := 42) (n := 38) rfl rfl (fun h18 => ?_) (fun h18 => ?_)
              · simp only [i_eq, i0] at h18
                refine g_constI act (gx gp_223 (w := 0x40000001c00000019000000002b01) rfl (by decide) rfl) (n := 43) (x := (3 : Int32)) (by decide) rfl ?_
                refine r_putf act (gx gp_223 (w := 0x9002e13) rfl (by decide) rfl) (n := 46) (ci := 9) (j := 0) (N := 39) rfl rfl rfl rw_19.1 (by decide) (Or.inl ⟨rfl, _, rfl⟩) ?_
                have hFd_23 := FD9.wr0 hFd_18 (v := .int (3 : Int32))
                have rw_24 := RW.wr (k := 124) (j := 0) (v := .int (3 : Int32)) rw_19 (Or.inr (by decide))
                have f_25 := f_20.ne (k := 124) (j := 0) (v := .int (3 : Int32)) (by decide)
                have f_26 := f_21.ne (k := 124) (j := 0) (v := .int (3 : Int32)) (by decide)
                have f_27 := hM_16.wr0 (x := (3 : Int32)) rw_19.1 (by decide) (by decide)
                have f_28 := rd_same (j := 0) (v := .int (3 : Int32)) rw_19.1
                have fr_29 := fr_22.wr (k := 124) (j := 0) (.int (3 : Int32)) (by unfold WM; omega)
                clear rw_19 fr_22 f_20 f_21 hM_16
                generalize (wr hs_14 124 0 (.int (3 : Int32))) = hs_30 at *
                refine g_loadA act (gx gp_223 (w := 0x2f03) rfl (by decide) rfl) (a := 0) (n := 47) rfl rfl rfl ?_
                refine r_getf act (gx gp_223 (w := 0x9003204) rfl (by decide) rfl) (n := 50) (ci := 9) (j := 0) (N := 39) rfl rfl rfl rw_24.1 (by decide) (v := .int (3 : Int32)) f_28 ?_
                refine g_ifNe act (gx gp_223 (w := 0x3900351d) rfl (by decide) rfl) (tgt := 57) (n := 53) rfl rfl (fun _ => ?_) (fun q => absurd (by decide) q)
                refine g_constI act (gx gp_223 (w := 0x40000000400000001000000003a01) rfl (by decide) rfl) (n := 58) (x := (0 : Int32)) (by decide) rfl ?_
                exact g_retZ hEnd (gx gp_223 (w := 0x23) rfl (by decide) rfl) (by decide) ⟨rfl, f_27, fr_29, _, rfl, Or.inl rfl⟩ (by show kc ≤ kc + 0; omega) (by show ks ≤ ks + 0; omega)
              · simp only [i_eq, i0] at h18
                refine g_constI act (gx gp_223 (w := 0x40000000400000001000000002701) rfl (by decide) rfl) (n := 39) (x := (0 : Int32)) (by decide) rfl ?_
                refine g_goto act (gx gp_223 (w := 0x2b07) rfl (by decide) rfl) (n := 43) rfl ?_
                refine r_putf act (gx gp_223 (w := 0x9002e13) rfl (by decide) rfl) (n := 46) (ci := 9) (j := 0) (N := 39) rfl rfl rfl rw_19.1 (by decide) (Or.inl ⟨rfl, _, rfl⟩) ?_
                have hFd_31 := FD9.wr0 hFd_18 (v := .int (0 : Int32))
                have rw_32 := RW.wr (k := 124) (j := 0) (v := .int (0 : Int32)) rw_19 (Or.inr (by decide))
                have f_33 := f_20.ne (k := 124) (j := 0) (v := .int (0 : Int32)) (by decide)
                have f_34 := f_21.ne (k := 124) (j := 0) (v := .int (0 : Int32)) (by decide)
                have f_35 := hM_16.wr0 (x := (0 : Int32)) rw_19.1 (by decide) (by decide)
                have f_36 := rd_same (j := 0) (v := .int (0 : Int32)) rw_19.1
                have fr_37 := fr_22.wr (k := 124) (j := 0) (.int (0 : Int32)) (by unfold WM; omega)
                clear rw_19 fr_22 f_20 f_21 hM_16
                generalize (wr hs_14 124 0 (.int (0 : Int32))) = hs_38 at *
                refine g_loadA act (gx gp_223 (w := 0x2f03) rfl (by decide) rfl) (a := 0) (n := 47) rfl rfl rfl ?_
                refine r_getf act (gx gp_223 (w := 0x9003204) rfl (by decide) rfl) (n := 50) (ci := 9) (j := 0) (N := 39) rfl rfl rfl rw_32.1 (by decide) (v := .int (0 : Int32)) f_36 ?_
                refine g_ifNe act (gx gp_223 (w := 0x3900351d) rfl (by decide) rfl) (tgt := 57) (n := 53) rfl rfl (fun q => absurd q (by decide)) (fun _ => ?_)
                refine g_constI act (gx gp_223 (w := 0x40000000c00000009000000003601) rfl (by decide) rfl) (n := 54) (x := (1 : Int32)) (by decide) rfl ?_
                refine g_goto act (gx gp_223 (w := 0x3a07) rfl (by decide) rfl) (n := 58) rfl ?_
                exact g_retZ hEnd (gx gp_223 (w := 0x23) rfl (by decide) rfl) (by decide) ⟨rfl, f_35, fr_37, _, rfl, Or.inr ⟨rfl, by omega, by omega, by omega, by omega, by omega, hFd_31⟩⟩ (by show kc ≤ kc + 0; omega) (by show ks ≤ ks + 0; omega)
            · exact absurd hpo.1 (by omega)
          · simp only [i_eq, i0] at h15
            refine g_constI act (gx gp_223 (w := 0x40000001400000011000000001b01) rfl (by decide) rfl) (n := 27) (x := (2 : Int32)) (by decide) rfl ?_
            refine g_goto act (gx gp_223 (w := 0x2b07) rfl (by decide) rfl) (n := 43) rfl ?_
            refine r_putf act (gx gp_223 (w := 0x9002e13) rfl (by decide) rfl) (n := 46) (ci := 9) (j := 0) (N := 39) rfl rfl rfl rw0.1 (by decide) (Or.inl ⟨rfl, _, rfl⟩) ?_
            have rw_39 := RW.wr (k := 124) (j := 0) (v := .int (2 : Int32)) rw0 (Or.inr (by decide))
            have f_40 := hTo.ne (k := 124) (j := 0) (v := .int (2 : Int32)) (by decide)
            have f_41 := hW.ne (k := 124) (j := 0) (v := .int (2 : Int32)) (by decide)
            have f_42 := hM.wr0 (x := (2 : Int32)) rw0.1 (by decide) (by decide)
            have f_43 := rd_same (j := 0) (v := .int (2 : Int32)) rw0.1
            have fr_44 := (FrS.rf WM hs).wr (k := 124) (j := 0) (.int (2 : Int32)) (by unfold WM; omega)
            generalize (wr hs 124 0 (.int (2 : Int32))) = hs_45 at *
            refine g_loadA act (gx gp_223 (w := 0x2f03) rfl (by decide) rfl) (a := 0) (n := 47) rfl rfl rfl ?_
            refine r_getf act (gx gp_223 (w := 0x9003204) rfl (by decide) rfl) (n := 50) (ci := 9) (j := 0) (N := 39) rfl rfl rfl rw_39.1 (by decide) (v := .int (2 : Int32)) f_43 ?_
            refine g_ifNe act (gx gp_223 (w := 0x3900351d) rfl (by decide) rfl) (tgt := 57) (n := 53) rfl rfl (fun _ => ?_) (fun q => absurd (by decide) q)
            refine g_constI act (gx gp_223 (w := 0x40000000400000001000000003a01) rfl (by decide) rfl) (n := 58) (x := (0 : Int32)) (by decide) rfl ?_
            exact g_retZ hEnd (gx gp_223 (w := 0x23) rfl (by decide) rfl) (by decide) ⟨rfl, f_42, fr_44, _, rfl, Or.inl rfl⟩ (by show kc ≤ kc + 0; omega) (by show ks ≤ ks + 0; omega)
        · exact absurd hpo.1 (by omega)
      · simp only [i_eq, i0] at h11
        refine g_constI act (gx gp_223 (w := 0x40000000c00000009000000000e01) rfl (by decide) rfl) (n := 14) (x := (1 : Int32)) (by decide) rfl ?_
        refine g_goto act (gx gp_223 (w := 0x2b07) rfl (by decide) rfl) (n := 43) rfl ?_
        refine r_putf act (gx gp_223 (w := 0x9002e13) rfl (by decide) rfl) (n := 46) (ci := 9) (j := 0) (N := 39) rfl rfl rfl rw0.1 (by decide) (Or.inl ⟨rfl, _, rfl⟩) ?_
        have rw_46 := RW.wr (k := 124) (j := 0) (v := .int (1 : Int32)) rw0 (Or.inr (by decide))
        have f_47 := hTo.ne (k := 124) (j := 0) (v := .int (1 : Int32)) (by decide)
        have f_48 := hW.ne (k := 124) (j := 0) (v := .int (1 : Int32)) (by decide)
        have f_49 := hM.wr0 (x := (1 : Int32)) rw0.1 (by decide) (by decide)
        have f_50 := rd_same (j := 0) (v := .int (1 : Int32)) rw0.1
        have fr_51 := (FrS.rf WM hs).wr (k := 124) (j := 0) (.int (1 : Int32)) (by unfold WM; omega)
        generalize (wr hs 124 0 (.int (1 : Int32))) = hs_52 at *
        refine g_loadA act (gx gp_223 (w := 0x2f03) rfl (by decide) rfl) (a := 0) (n := 47) rfl rfl rfl ?_
        refine r_getf act (gx gp_223 (w := 0x9003204) rfl (by decide) rfl) (n := 50) (ci := 9) (j := 0) (N := 39) rfl rfl rfl rw_46.1 (by decide) (v := .int (1 : Int32)) f_50 ?_
        refine g_ifNe act (gx gp_223 (w := 0x3900351d) rfl (by decide) rfl) (tgt := 57) (n := 53) rfl rfl (fun _ => ?_) (fun q => absurd (by decide) q)
        refine g_constI act (gx gp_223 (w := 0x40000000400000001000000003a01) rfl (by decide) rfl) (n := 58) (x := (0 : Int32)) (by decide) rfl ?_
        exact g_retZ hEnd (gx gp_223 (w := 0x23) rfl (by decide) rfl) (by decide) ⟨rfl, f_49, fr_51, _, rfl, Or.inl rfl⟩ (by show kc ≤ kc + 0; omega) (by show ks ≤ ks + 0; omega)
    · exact absurd hpo.1 (by omega)

theorem b_leastCost {g0 : GG} {bl : Nat} {xs : Nat → Int32} {l : Launch} {hs : List CE} {tl wl : Nat → Int} {nl n ng nr : Nat} (hNW : NW tl wl nl n ng nr) {a b : Int32} (hB : BM hs tl wl) (hM : ModF hs) : BodyN SSX TBL g0 CLS bl xs l D_235 10 251 0 0 [.ref 124, .int a, .int b] hs (POL hs) := by
  intro wp p e R s m args below meth c Q kc0 ks0 kc ks act hf hl hc hsl hEnd
  have hN9 := hNW
  obtain ⟨n0, n1, n2, n3, n4, n5, n6, n7, n8, hG0, nL, nC, nP, nD⟩ := hN9
  have hGn := hG0.1
  have hGn3 := hG0.2.1
  have hGl := hG0.2.2.1
  obtain ⟨rw0, hTo, hW⟩ := hB
  show WpN (gp g0 wp) CLS p l e R s m args below meth c Q D_235.2.2.1 kc0 ks0 0 [some (.ref 124), some (.int a), some (.int b)] (hs, kc, ks) []
  refine g_loadA act (gx gp_235 (w := 0x103) rfl (by decide) rfl) (a := 0) (n := 1) rfl rfl rfl ?_
  refine g_constI act (gx gp_235 (w := 0x40000000c00000009000000000201) rfl (by decide) rfl) (n := 2) (x := (1 : Int32)) (by decide) rfl ?_
  refine g_loadI act (gx gp_235 (w := 0x1000302) rfl (by decide) rfl) (a := 1) (n := 3) rfl rfl rfl ?_
  refine g_loadI act (gx gp_235 (w := 0x2000402) rfl (by decide) rfl) (a := 2) (n := 4) rfl rfl rfl ?_
  refine n_call tb_pres act hEnd (gx (P := G_call) gp_235 (w := 0xa000000000000c10440000df00070f) rfl (by decide) rfl) (d' := D_223) rfl (as := [.ref 124, .int (1 : Int32), .int a, .int b]) (rest := []) (b_isGood hNW ⟨rw0, hTo, hW⟩ hM (ti := ((1 : Nat) : Int)) (show (1 : Int32).toInt = ((1 : Nat) : Int) from by decide) (by omega) (x := (Int32.toInt a)) (rfl : Int32.toInt a = _) (y := (Int32.toInt b)) (rfl : Int32.toInt b = _)) (show (4 : Nat) = fb 0xa000000000000c10440000df00070f % 16 by decide) (by show (4 : Nat) ≤ 4; decide) (fun _ => ⟨_, _, rfl, _, shp_at rw0.1, Or.inr (show fb 0xa000000000000c10440000df00070f >>> 68 = 10 by decide)⟩) (by omega) (by show 8 + (4 + 11) + 228 ≤ R.locals; omega) (by show (0 : Nat) ≤ 8; decide) (by show kc + 0 ≤ _; omega) (by show ks + 0 ≤ _; omega) (fun r9 hs_1 hpo hr9 => ?_) (fun x9 hs9 hx9 hpo => ?_)
  · obtain ⟨-, hM_3, fr_2, rg, rfl, hg_4⟩ := hpo
    have rw_6 := rw0.fr fr_2 WM_rw
    have f_7 := hTo.fr (fun j9 _ => fr_2.2.2 125 j9 (by unfold WM; omega))
    have f_8 := hW.fr (fun j9 _ => fr_2.2.2 127 j9 (by unfold WM; omega))
    have fr_9 := (FrS.rf WM hs).tr fr_2
    show WpN (gp g0 wp) CLS p l e R s m args below meth c Q D_235.2.2.1 kc0 ks0 7 [some (.ref 124), some (.int a), some (.int b)] (hs_1, kc, ks) [.int rg]
    rcases hg_4 with rfl | ⟨rfl, g1_11, g2_11, g3_11, g4_11, g5_11, hFD_11⟩
    · refine g_ifNe act (gx gp_235 (w := 0xc000a1d) rfl (by decide) rfl) (tgt := 12) (n := 10) rfl rfl (fun q => absurd q (by decide)) (fun _ => ?_)
      refine g_constL act (gx gp_235 (w := 0x40000000000000002000000000b01) rfl (by decide) rfl) (n := 11) (x := 0) (by decide) rfl ?_
      exact g_retL hEnd (gx gp_235 (w := 0x19) rfl (by decide) rfl) ⟨rfl, ⟨_, rfl⟩, hM_3, fr_9⟩ (by show kc ≤ kc + 0; omega) (by show ks ≤ ks + 0; omega)
    · obtain ⟨⟨frw_10, fTo_10, fW_10⟩, ⟨hG_10, ⟨oi_10, f24_10, hoi_10⟩, ⟨dm_10, fD_10, hdm_10⟩, ⟨lm_10, fL_10, hlm_10⟩, ⟨em_10, fE_10, hem_10⟩, ⟨cp_10, fC_10, hcp_10⟩⟩, fFo_10, ⟨fK0_10, fK1_10⟩⟩ := hFD_11
      obtain ⟨⟨ct_10, cl_10, f29_10, f30_10, hck_10⟩, fKO_10⟩ := found_k hG_10 fFo_10
      refine g_ifNe act (gx gp_235 (w := 0xc000a1d) rfl (by decide) rfl) (tgt := 12) (n := 10) rfl rfl (fun _ => ?_) (fun q => absurd (by decide) q)
      refine g_loadI act (gx gp_235 (w := 0x2000d02) rfl (by decide) rfl) (a := 2) (n := 13) rfl rfl rfl ?_
      refine g_ifNe act (gx gp_235 (w := 0x1700101d) rfl (by decide) rfl) (tgt := 23) (n := 16) rfl rfl (fun h9 => ?_) (fun h9 => ?_)
      · simp only [i_eq, i0] at h9
        refine g_loadA act (gx gp_235 (w := 0x1803) rfl (by decide) rfl) (a := 0) (n := 24) rfl rfl rfl ?_
        refine r_getf act (gx gp_235 (w := 0x2000789001b04) rfl (by decide) rfl) (n := 27) (ci := 9) (j := 30) (N := 39) rfl rfl rfl frw_10.1 (by decide) (v := .long cl_10) f30_10 ?_
        exact g_retL hEnd (gx gp_235 (w := 0x19) rfl (by decide) rfl) ⟨rfl, ⟨_, rfl⟩, hM_3, fr_9⟩ (by show kc ≤ kc + 0; omega) (by show ks ≤ ks + 0; omega)
      · simp only [i_eq, i0] at h9
        refine g_loadA act (gx gp_235 (w := 0x1103) rfl (by decide) rfl) (a := 0) (n := 17) rfl rfl rfl ?_
        refine r_getf act (gx gp_235 (w := 0x2000749001404) rfl (by decide) rfl) (n := 20) (ci := 9) (j := 29) (N := 39) rfl rfl rfl frw_10.1 (by decide) (v := .long ct_10) f29_10 ?_
        refine g_goto act (gx gp_235 (w := 0x1b07) rfl (by decide) rfl) (n := 27) rfl ?_
        exact g_retL hEnd (gx gp_235 (w := 0x19) rfl (by decide) rfl) ⟨rfl, ⟨_, rfl⟩, hM_3, fr_9⟩ (by show kc ≤ kc + 0; omega) (by show ks ≤ ks + 0; omega)
  · exact absurd hpo.1 (by omega)

theorem b_output {g0 : GG} {bl : Nat} {xs : Nat → Int32} {l : Launch} {hs : List CE} {tl wl : Nat → Int} {nl n ng nr : Nat} (hNW : NW tl wl nl n ng nr) {a b c9 : Int32} (hB : BM hs tl wl) (hM : ModF hs) : BodyN SSX TBL g0 CLS bl xs l D_248 10 251 0 0 [.ref 124, .int a, .int b, .int c9] hs (POL hs) := by
  intro wp p e R s m args below meth c Q kc0 ks0 kc ks act hf hl hc hsl hEnd
  have hN9 := hNW
  obtain ⟨n0, n1, n2, n3, n4, n5, n6, n7, n8, hG0, nL, nC, nP, nD⟩ := hN9
  have hGn := hG0.1
  have hGn3 := hG0.2.1
  have hGl := hG0.2.2.1
  obtain ⟨rw0, hTo, hW⟩ := hB
  show WpN (gp g0 wp) CLS p l e R s m args below meth c Q D_248.2.2.1 kc0 ks0 0 [some (.ref 124), some (.int a), some (.int b), some (.int c9)] (hs, kc, ks) []
  refine g_loadA act (gx gp_248 (w := 0x103) rfl (by decide) rfl) (a := 0) (n := 1) rfl rfl rfl ?_
  refine g_loadA act (gx gp_248 (w := 0x203) rfl (by decide) rfl) (a := 0) (n := 2) rfl rfl rfl ?_
  refine g_loadI act (gx gp_248 (w := 0x2000302) rfl (by decide) rfl) (a := 2) (n := 3) rfl rfl rfl ?_
  refine n_call tb_pres act hEnd (gx (P := G_call) gp_248 (w := 0xa000000000000c08220000de00060f) rfl (by decide) rfl) (d' := D_222) rfl (as := [.ref 124, .int b]) (rest := [.ref 124]) (b_isGenerator (tl := tl) rw0 hTo (rfl : Int32.toInt b = _) (by omega) (by omega)) (show (2 : Nat) = fb 0xa000000000000c08220000de00060f % 16 by decide) (by show (2 : Nat) ≤ 2; decide) (fun _ => ⟨_, _, rfl, _, shp_at rw0.1, Or.inr (show fb 0xa000000000000c08220000de00060f >>> 68 = 10 by decide)⟩) (by omega) (by show 8 + (2 + 11) + 22 ≤ R.locals; omega) (by show (1 : Nat) ≤ 8; decide) (by show kc + 0 ≤ _; omega) (by show ks + 0 ≤ _; omega) (fun r9 h3 hpo hr9 => ?_) (fun x9 hs9 hx9 hpo => ?_)
  · obtain ⟨-, rfl, hin_2⟩ := hpo
    obtain ⟨rv_1, rfl, hin_2o⟩ := in1_t hin_2
    show WpN (gp g0 wp) CLS p l e R s m args below meth c Q D_248.2.2.1 kc0 ks0 6 [some (.ref 124), some (.int a), some (.int b), some (.int c9)] (hs, kc, ks) [.int rv_1, .ref 124]
    refine g_loadI act (gx gp_248 (w := 0x1000702) rfl (by decide) rfl) (a := 1) (n := 7) rfl rfl rfl ?_
    refine g_loadI act (gx gp_248 (w := 0x3000802) rfl (by decide) rfl) (a := 3) (n := 8) rfl rfl rfl ?_
    refine n_call tb_pres act hEnd (gx (P := G_call) gp_248 (w := 0xa000000000000c10440000df000b0f) rfl (by decide) rfl) (d' := D_223) rfl (as := [.ref 124, .int rv_1, .int a, .int c9]) (rest := []) (b_isGood hNW ⟨rw0, hTo, hW⟩ hM (ti := (Int32.toInt rv_1)) (rfl : Int32.toInt rv_1 = _) (by omega) (x := (Int32.toInt a)) (rfl : Int32.toInt a = _) (y := (Int32.toInt c9)) (rfl : Int32.toInt c9 = _)) (show (4 : Nat) = fb 0xa000000000000c10440000df000b0f % 16 by decide) (by show (4 : Nat) ≤ 4; decide) (fun _ => ⟨_, _, rfl, _, shp_at rw0.1, Or.inr (show fb 0xa000000000000c10440000df000b0f >>> 68 = 10 by decide)⟩) (by omega) (by show 8 + (4 + 11) + 228 ≤ R.locals; omega) (by show (0 : Nat) ≤ 8; decide) (by show kc + 0 ≤ _; omega) (by show ks + 0 ≤ _; omega) (fun r9 hs_3 hpo hr9 => ?_) (fun x9 hs9 hx9 hpo => ?_)
    · obtain ⟨-, hM_5, fr_4, rg, rfl, hg_6⟩ := hpo
      have rw_8 := rw0.fr fr_4 WM_rw
      have f_9 := hTo.fr (fun j9 _ => fr_4.2.2 125 j9 (by unfold WM; omega))
      have f_10 := hW.fr (fun j9 _ => fr_4.2.2 127 j9 (by unfold WM; omega))
      have fr_11 := (FrS.rf WM hs).tr fr_4
      show WpN (gp g0 wp) CLS p l e R s m args below meth c Q D_248.2.2.1 kc0 ks0 11 [some (.ref 124), some (.int a), some (.int b), some (.int c9)] (hs_3, kc, ks) [.int rg]
      rcases hg_6 with rfl | ⟨rfl, g1_13, g2_13, g3_13, g4_13, g5_13, hFD_13⟩
      · refine g_ifNe act (gx gp_248 (w := 0x10000e1d) rfl (by decide) rfl) (tgt := 16) (n := 14) rfl rfl (fun q => absurd q (by decide)) (fun _ => ?_)
        refine g_constL act (gx gp_248 (w := 0x40000000000000002000000000f01) rfl (by decide) rfl) (n := 15) (x := 0) (by decide) rfl ?_
        exact g_retL hEnd (gx gp_248 (w := 0x19) rfl (by decide) rfl) ⟨rfl, ⟨_, rfl⟩, hM_5, fr_11⟩ (by show kc ≤ kc + 0; omega) (by show ks ≤ ks + 0; omega)
      · obtain ⟨⟨frw_12, fTo_12, fW_12⟩, ⟨hG_12, ⟨oi_12, f24_12, hoi_12⟩, ⟨dm_12, fD_12, hdm_12⟩, ⟨lm_12, fL_12, hlm_12⟩, ⟨em_12, fE_12, hem_12⟩, ⟨cp_12, fC_12, hcp_12⟩⟩, fFo_12, ⟨fK0_12, fK1_12⟩⟩ := hFD_13
        obtain ⟨⟨ct_12, cl_12, f29_12, f30_12, hck_12⟩, fKO_12⟩ := found_k hG_12 fFo_12
        refine g_ifNe act (gx gp_248 (w := 0x10000e1d) rfl (by decide) rfl) (tgt := 16) (n := 14) rfl rfl (fun _ => ?_) (fun q => absurd (by decide) q)
        refine g_loadA act (gx gp_248 (w := 0x1103) rfl (by decide) rfl) (a := 0) (n := 17) rfl rfl rfl ?_
        refine g_loadA act (gx gp_248 (w := 0x1203) rfl (by decide) rfl) (a := 0) (n := 18) rfl rfl rfl ?_
        refine r_getf act (gx gp_248 (w := 0x30007c9001504) rfl (by decide) rfl) (n := 21) (ci := 9) (j := 31) (N := 39) rfl rfl rfl frw_12.1 (by decide) (frw_12.2 (31, 142, 33, 5) (by decide)).1 ?_
        refine g_loadI act (gx gp_248 (w := 0x2001602) rfl (by decide) rfl) (a := 2) (n := 22) rfl rfl rfl ?_
        obtain ⟨j_14, hj_15⟩ := Int.eq_ofNat_of_zero_le (show (0 : Int) ≤ (Int32.toInt b) by omega)
        obtain ⟨x_16, w_19, e_17, e_20, hx_18⟩ := fKO_12 j_14 (by omega) (by omega)
        refine r_lald act (gx gp_248 (w := 0x170d) rfl (by decide) rfl) (n := 23) (j := j_14) rfl (frw_12.2 (31, 142, 33, 5) (by decide)).2 ((rfl : Int32.toInt b = _).trans hj_15) (show j_14 < 5 by omega) (v := .long x_16) e_17 ?_
        refine g_loadA act (gx gp_248 (w := 0x1803) rfl (by decide) rfl) (a := 0) (n := 24) rfl rfl rfl ?_
        refine r_getf act (gx gp_248 (w := 0x3000809001b04) rfl (by decide) rfl) (n := 27) (ci := 9) (j := 32) (N := 39) rfl rfl rfl frw_12.1 (by decide) (frw_12.2 (32, 143, 33, 5) (by decide)).1 ?_
        refine g_loadI act (gx gp_248 (w := 0x2001c02) rfl (by decide) rfl) (a := 2) (n := 28) rfl rfl rfl ?_
        refine r_lald act (gx gp_248 (w := 0x1d0d) rfl (by decide) rfl) (n := 29) (j := j_14) rfl (frw_12.2 (32, 143, 33, 5) (by decide)).2 ((rfl : Int32.toInt b = _).trans hj_15) (show j_14 < 5 by omega) (v := .long w_19) e_20 ?_
        refine n_call tb_pres act hEnd (gx (P := G_call) gp_248 (w := 0xa00000000000081c530000da00200f) rfl (by decide) rfl) (d' := D_218) rfl (as := [.ref 124, .long x_16, .long w_19]) (rest := []) (b_isK frw_12.1 hx_18) (show (3 : Nat) = fb 0xa00000000000081c530000da00200f % 16 by decide) (by show (5 : Nat) ≤ 7; decide) (fun _ => ⟨_, _, rfl, _, shp_at frw_12.1, Or.inr (show fb 0xa00000000000081c530000da00200f >>> 68 = 10 by decide)⟩) (by omega) (by show 8 + (7 + 11) + 29 ≤ R.locals; omega) (by show (0 : Nat) ≤ 8; decide) (by show kc + 0 ≤ _; omega) (by show ks + 0 ≤ _; omega) (fun r9 hs_26 hpo hr9 => ?_) (fun x9 hs9 hx9 hpo => ?_)
        · obtain rfl : r9 = none := hr9.elim (fun q => q.2) (fun q => absurd rfl q.1)
          obtain ⟨-, t_27, w_28, e_29, e_30, hK_31, fr_32⟩ := hpo
          have hM_33 := ModF.w0 hM_5 fr_32
          have rw_34 := frw_12.fr fr_32 W0_rw
          have f_36 := fTo_12.fr (fun j9 _ => fr_32.2.2 125 j9 (by unfold W0; omega))
          have f_37 := fW_12.fr (fun j9 _ => fr_32.2.2 127 j9 (by unfold W0; omega))
          have f_38 := fD_12.fr (fun j9 _ => fr_32.2.2 135 j9 (by unfold W0; omega))
          have f_39 := fL_12.fr (fun j9 _ => fr_32.2.2 136 j9 (by unfold W0; omega))
          have f_40 := fE_12.fr (fun j9 _ => fr_32.2.2 137 j9 (by unfold W0; omega))
          have f_41 := fC_12.fr (fun j9 _ => fr_32.2.2 138 j9 (by unfold W0; omega))
          have f_42 := rd_fr fr_32 f24_12 (by unfold W0; omega)
          have f_43 := rd_fr fr_32 f29_12 (by unfold W0; omega)
          have f_44 := rd_fr fr_32 f30_12 (by unfold W0; omega)
          have f_45 := fKO_12.fr (fun j9 _ _ => ⟨fr_32.2.2 142 j9 (by unfold W0; omega), fr_32.2.2 143 j9 (by unfold W0; omega)⟩)
          have f_46 := fK0_12.fr (fun j9 _ _ => ⟨fr_32.2.2 131 j9 (by unfold W0; omega), fr_32.2.2 132 j9 (by unfold W0; omega)⟩)
          have f_47 := fun q9 => (fK1_12 q9).fr (fun j9 _ _ => ⟨fr_32.2.2 131 j9 (by unfold W0; omega), fr_32.2.2 132 j9 (by unfold W0; omega)⟩)
          have f_48 := fFo_12.fr fr_32 (fun j9 => by unfold W0; omega) (by unfold W0; omega) (by unfold W0; omega)
          have fr_49 := fr_11.tr (fr_32.mono (fun k9 j9 h9 => by unfold W0 at h9; unfold WM; omega))
          clear frw_12 hM_5 fTo_12 fW_12 fD_12 fL_12 fE_12 fC_12 f24_12 f29_12 f30_12 fKO_12 fK0_12 fK1_12 fFo_12 fr_11
          show WpN (gp g0 wp) CLS p l e R s m args below meth c Q D_248.2.2.1 kc0 ks0 32 [some (.ref 124), some (.int a), some (.int b), some (.int c9)] (hs_26, kc, ks) []
          refine g_loadA act (gx gp_248 (w := 0x2103) rfl (by decide) rfl) (a := 0) (n := 33) rfl rfl rfl ?_
          refine g_loadI act (gx gp_248 (w := 0x3002202) rfl (by decide) rfl) (a := 3) (n := 34) rfl rfl rfl ?_
          refine n_call tb_pres act hEnd (gx (P := G_call) gp_248 (w := 0xa000000000000c08220000fa00250f) rfl (by decide) rfl) (d' := D_250) rfl (as := [.ref 124, .int c9]) (rest := []) (b_part rw_34.1 e_29 e_30) (show (2 : Nat) = fb 0xa000000000000c08220000fa00250f % 16 by decide) (by show (2 : Nat) ≤ 2; decide) (fun _ => ⟨_, _, rfl, _, shp_at rw_34.1, Or.inr (show fb 0xa000000000000c08220000fa00250f >>> 68 = 10 by decide)⟩) (by omega) (by show 8 + (2 + 11) + 0 ≤ R.locals; omega) (by show (0 : Nat) ≤ 8; decide) (by show kc + 0 ≤ _; omega) (by show ks + 0 ≤ _; omega) (fun r9 h3 hpo hr9 => ?_) (fun x9 hs9 hx9 hpo => ?_)
          · obtain ⟨-, rfl, pv_50, rfl⟩ := hpo
            show WpN (gp g0 wp) CLS p l e R s m args below meth c Q D_248.2.2.1 kc0 ks0 37 [some (.ref 124), some (.int a), some (.int b), some (.int c9)] (hs_26, kc, ks) [.long pv_50]
            exact g_retL hEnd (gx gp_248 (w := 0x19) rfl (by decide) rfl) ⟨rfl, ⟨_, rfl⟩, hM_33, fr_49⟩ (by show kc ≤ kc + 0; omega) (by show ks ≤ ks + 0; omega)
          · exact absurd hpo.1 (by omega)
        · exact absurd hpo.1 (by omega)
    · exact absurd hpo.1 (by omega)
  · exact absurd hpo.1 (by omega)

/-! The reference's append and truncate, exactly. -/
def WT6 (k j : Nat) : Prop := k = 130 ∨ (k = 124 ∧ (j = 0 ∨ j = 10))
/-- the reference's text: L bytes -/
def MRT (hs : List CE) (tx : Nat → Int) (L : Nat) : Prop := IArr hs 130 700 tx ∧ ∃ x : Int32, rd hs 124 10 = .int x ∧ x.toInt = (L : Int)
section RAPB
variable {g0 : GG} {bl : Nat} {xs : Nat → Int32} {l : Launch} {hs : List CE} {tx : Nat → Int} {L : Nat}

theorem bx_append {i1 i2 i3 i4 i5 : Int32} (rw0 : RW hs) (hL7 : L ≤ 700) (hx : ∃ x : Int32, rd hs 124 0 = .int x) (hM : MRT hs tx L) : BodyN SSX TBL g0 CLS bl xs l D_180 1 22 0 0 [.ref 124, .int i1, .int i2, .int i3, .int i4, .int i5] hs (fun kd r h2 => kd = 0 ∧ ((L + 20 ≤ 700 ∧ (∃ x : Int32, r = some (.int x) ∧ x.toInt = (((L + 20) : Nat) : Int)) ∧ rd h2 124 0 = .int 0 ∧ MRT h2 (wA tx L i1 i2 i3 i4 i5) (L + 20)) ∨ (700 < L + 20 ∧ r = some (.int 0) ∧ rd h2 124 0 = .int 1 ∧ MRT h2 tx L)) ∧ RW h2 ∧ FrS WT6 hs h2) := by
  intro wp p e R s m args below meth c Q kc0 ks0 kc ks act hf hl hc hsl hEnd
  have hf : 1 ≤ R.frames := hf
  have hl : 22 ≤ R.locals := hl
  have hk1 : kc ≤ kc + 0 := by omega
  have hk2 : ks ≤ ks + 0 := by omega
  obtain ⟨x0, e0⟩ := hx
  obtain ⟨hT, L9, e10, hL9⟩ := hM
  have hfr0 := FrS.rf WT6 hs
  show WpN (gp g0 wp) CLS p l e R s m args below meth c Q D_180.2.2.1 kc0 ks0 0 [some (.ref 124), some (.int i1), some (.int i2), some (.int i3), some (.int i4), some (.int i5)] (hs, kc, ks) []
  refine g_loadA act (gx gp_180 (w := 0x103) rfl (by decide) rfl) (a := 0) (n := 1) rfl rfl rfl ?_
  refine g_constI act (gx gp_180 (w := 0x40000000400000001000000000201) rfl (by decide) rfl) (n := 2) (x := (0 : Int32)) (by decide) rfl ?_
  refine r_putf act (gx gp_180 (w := 0x9000513) rfl (by decide) rfl) (n := 5) (ci := 9) (j := 0) (N := 39) rfl rfl rfl rw0.1 (by decide) (Or.inl ⟨rfl, _, rfl⟩) ?_
  have rw_1 := RW.wr (k := 124) (j := 0) (v := .int (0 : Int32)) rw0 (Or.inr (by decide))
  have f_2 := hT.ne (k := 124) (j := 0) (v := .int (0 : Int32)) (by decide)
  have f_4 := (rd_ne hs (k := 124) (j := 0) (.int (0 : Int32)) (Or.inr (by decide))).trans e10
  have f_5 := rd_same (j := 0) (v := .int (0 : Int32)) rw0.1
  have fr_6 := hfr0.wr (k := 124) (j := 0) (.int (0 : Int32)) (by unfold WT6; omega)
  clear hT e0 e10
  generalize (wr hs 124 0 (.int (0 : Int32))) = hs_7 at *
  refine g_loadA act (gx gp_180 (w := 0x603) rfl (by decide) rfl) (a := 0) (n := 6) rfl rfl rfl ?_
  refine r_getf act (gx gp_180 (w := 0x289000904) rfl (by decide) rfl) (n := 9) (ci := 9) (j := 10) (N := 39) rfl rfl rfl rw_1.1 (by decide) (v := .int L9) f_4 ?_
  refine g_constI act (gx gp_180 (w := 0x4000000a4000000a1000000000b01) rfl (by decide) rfl) (n := 11) (x := (20 : Int32)) (by decide) rfl ?_
  refine g_iadd act (gx gp_180 (w := 0xc0a) rfl (by decide) rfl) (n := 12) rfl ?_
  have v_8 := iv_addN hL9 (show (20 : Int32).toInt = ((20 : Nat) : Int) from by decide) (show (L + 20) < 2147483648 by omega)
  refine g_constI act (gx gp_180 (w := 0x4000015e4000015e1000000000f01) rfl (by decide) rfl) (n := 15) (x := (700 : Int32)) (by decide) rfl ?_
  refine g_icmpLe act (gx gp_180 (w := 0x1800123c) rfl (by decide) rfl) (tgt := 24) (n := 18) rfl rfl (fun h6 => ?_) (fun h6 => ?_)
  · simp only [i_le, show (20 : Int32).toInt = 20 from by decide, show (700 : Int32).toInt = 700 from by decide] at h6
    refine g_loadA act (gx gp_180 (w := 0x1903) rfl (by decide) rfl) (a := 0) (n := 25) rfl rfl rfl ?_
    refine g_loadI act (gx gp_180 (w := 0x1001a02) rfl (by decide) rfl) (a := 1) (n := 26) rfl rfl rfl ?_
    refine n_call tb_pres act hEnd (gx (P := G_call) gp_180 (w := 0xa00000000000080c220000d2001d0f) rfl (by decide) rfl) (d' := D_210) rfl (as := [.ref 124, .int i1]) (rest := []) (bx_four (L := L) rw_1 f_2 f_4 hL9 (by omega)) (show (2 : Nat) = fb 0xa00000000000080c220000d2001d0f % 16 by decide) (by show (2 : Nat) ≤ 3; decide) (fun _ => ⟨_, _, rfl, _, shp_at rw_1.1, Or.inr (show fb 0xa00000000000080c220000d2001d0f >>> 68 = 10 by decide)⟩) (by omega) (by show 8 + (3 + 11) + 0 ≤ R.locals; omega) (by show (0 : Nat) ≤ 8; decide) (by show kc + 0 ≤ _; omega) (by show ks + 0 ≤ _; omega) (fun r9 hs_c9 hpo hr9 => ?_) (fun x9 hs9 hx9 hpo => ?_)
    · obtain rfl : r9 = none := hr9.elim (fun q => q.2) (fun q => absurd rfl q.1)
      obtain ⟨-, L9_c9, hT_c9, e10_c9, hL_c9, fr_c9⟩ := hpo
      have rw_10 := rw_1.fr fr_c9 WT4_rw
      have f_11 := rd_fr fr_c9 f_5 (by unfold WT4; omega)
      have fr_12 := fr_6.tr (fr_c9.mono (fun k9 j9 h9 => by unfold WT4 at h9; unfold WT6; omega))
      clear rw_1 f_2 f_4 f_5 fr_6
      show WpN (gp g0 wp) CLS p l e R s m args below meth c Q D_180.2.2.1 kc0 ks0 29 [some (.ref 124), some (.int i1), some (.int i2), some (.int i3), some (.int i4), some (.int i5)] (hs_c9, kc, ks) []
      refine g_loadA act (gx gp_180 (w := 0x1e03) rfl (by decide) rfl) (a := 0) (n := 30) rfl rfl rfl ?_
      refine g_loadI act (gx gp_180 (w := 0x2001f02) rfl (by decide) rfl) (a := 2) (n := 31) rfl rfl rfl ?_
      refine n_call tb_pres act hEnd (gx (P := G_call) gp_180 (w := 0xa00000000000080c220000d200220f) rfl (by decide) rfl) (d' := D_210) rfl (as := [.ref 124, .int i2]) (rest := []) (bx_four (L := (L + 4)) rw_10 hT_c9 e10_c9 hL_c9 (by omega)) (show (2 : Nat) = fb 0xa00000000000080c220000d200220f % 16 by decide) (by show (2 : Nat) ≤ 3; decide) (fun _ => ⟨_, _, rfl, _, shp_at rw_10.1, Or.inr (show fb 0xa00000000000080c220000d200220f >>> 68 = 10 by decide)⟩) (by omega) (by show 8 + (3 + 11) + 0 ≤ R.locals; omega) (by show (0 : Nat) ≤ 8; decide) (by show kc + 0 ≤ _; omega) (by show ks + 0 ≤ _; omega) (fun r9 hs_c13 hpo hr9 => ?_) (fun x9 hs9 hx9 hpo => ?_)
      · obtain rfl : r9 = none := hr9.elim (fun q => q.2) (fun q => absurd rfl q.1)
        obtain ⟨-, L9_c13, hT_c13, e10_c13, hL_c13, fr_c13⟩ := hpo
        have rw_14 := rw_10.fr fr_c13 WT4_rw
        have f_15 := rd_fr fr_c13 f_11 (by unfold WT4; omega)
        have fr_16 := fr_12.tr (fr_c13.mono (fun k9 j9 h9 => by unfold WT4 at h9; unfold WT6; omega))
        clear rw_10 f_11 hT_c9 e10_c9 fr_12
        show WpN (gp g0 wp) CLS p l e R s m args below meth c Q D_180.2.2.1 kc0 ks0 34 [some (.ref 124), some (.int i1), some (.int i2), some (.int i3), some (.int i4), some (.int i5)] (hs_c13, kc, ks) []
        refine g_loadA act (gx gp_180 (w := 0x2303) rfl (by decide) rfl) (a := 0) (n := 35) rfl rfl rfl ?_
        refine g_loadI act (gx gp_180 (w := 0x3002402) rfl (by decide) rfl) (a := 3) (n := 36) rfl rfl rfl ?_
        refine n_call tb_pres act hEnd (gx (P := G_call) gp_180 (w := 0xa00000000000080c220000d200270f) rfl (by decide) rfl) (d' := D_210) rfl (as := [.ref 124, .int i3]) (rest := []) (bx_four (L := ((L + 4) + 4)) rw_14 hT_c13 e10_c13 hL_c13 (by omega)) (show (2 : Nat) = fb 0xa00000000000080c220000d200270f % 16 by decide) (by show (2 : Nat) ≤ 3; decide) (fun _ => ⟨_, _, rfl, _, shp_at rw_14.1, Or.inr (show fb 0xa00000000000080c220000d200270f >>> 68 = 10 by decide)⟩) (by omega) (by show 8 + (3 + 11) + 0 ≤ R.locals; omega) (by show (0 : Nat) ≤ 8; decide) (by show kc + 0 ≤ _; omega) (by show ks + 0 ≤ _; omega) (fun r9 hs_c17 hpo hr9 => ?_) (fun x9 hs9 hx9 hpo => ?_)
        · obtain rfl : r9 = none := hr9.elim (fun q => q.2) (fun q => absurd rfl q.1)
          obtain ⟨-, L9_c17, hT_c17, e10_c17, hL_c17, fr_c17⟩ := hpo
          have rw_18 := rw_14.fr fr_c17 WT4_rw
          have f_19 := rd_fr fr_c17 f_15 (by unfold WT4; omega)
          have fr_20 := fr_16.tr (fr_c17.mono (fun k9 j9 h9 => by unfold WT4 at h9; unfold WT6; omega))
          clear rw_14 f_15 hT_c13 e10_c13 fr_16
          show WpN (gp g0 wp) CLS p l e R s m args below meth c Q D_180.2.2.1 kc0 ks0 39 [some (.ref 124), some (.int i1), some (.int i2), some (.int i3), some (.int i4), some (.int i5)] (hs_c17, kc, ks) []
          refine g_loadA act (gx gp_180 (w := 0x2803) rfl (by decide) rfl) (a := 0) (n := 40) rfl rfl rfl ?_
          refine g_loadI act (gx gp_180 (w := 0x4002a02) rfl (by decide) rfl) (a := 4) (n := 42) rfl rfl rfl ?_
          refine n_call tb_pres act hEnd (gx (P := G_call) gp_180 (w := 0xa00000000000080c220000d2002d0f) rfl (by decide) rfl) (d' := D_210) rfl (as := [.ref 124, .int i4]) (rest := []) (bx_four (L := (((L + 4) + 4) + 4)) rw_18 hT_c17 e10_c17 hL_c17 (by omega)) (show (2 : Nat) = fb 0xa00000000000080c220000d2002d0f % 16 by decide) (by show (2 : Nat) ≤ 3; decide) (fun _ => ⟨_, _, rfl, _, shp_at rw_18.1, Or.inr (show fb 0xa00000000000080c220000d2002d0f >>> 68 = 10 by decide)⟩) (by omega) (by show 8 + (3 + 11) + 0 ≤ R.locals; omega) (by show (0 : Nat) ≤ 8; decide) (by show kc + 0 ≤ _; omega) (by show ks + 0 ≤ _; omega) (fun r9 hs_c21 hpo hr9 => ?_) (fun x9 hs9 hx9 hpo => ?_)
          · obtain rfl : r9 = none := hr9.elim (fun q => q.2) (fun q => absurd rfl q.1)
            obtain ⟨-, L9_c21, hT_c21, e10_c21, hL_c21, fr_c21⟩ := hpo
            have rw_22 := rw_18.fr fr_c21 WT4_rw
            have f_23 := rd_fr fr_c21 f_19 (by unfold WT4; omega)
            have fr_24 := fr_20.tr (fr_c21.mono (fun k9 j9 h9 => by unfold WT4 at h9; unfold WT6; omega))
            clear rw_18 f_19 hT_c17 e10_c17 fr_20
            show WpN (gp g0 wp) CLS p l e R s m args below meth c Q D_180.2.2.1 kc0 ks0 45 [some (.ref 124), some (.int i1), some (.int i2), some (.int i3), some (.int i4), some (.int i5)] (hs_c21, kc, ks) []
            refine g_loadA act (gx gp_180 (w := 0x2e03) rfl (by decide) rfl) (a := 0) (n := 46) rfl rfl rfl ?_
            refine g_loadI act (gx gp_180 (w := 0x5003002) rfl (by decide) rfl) (a := 5) (n := 48) rfl rfl rfl ?_
            refine n_call tb_pres act hEnd (gx (P := G_call) gp_180 (w := 0xa00000000000080c220000d200330f) rfl (by decide) rfl) (d' := D_210) rfl (as := [.ref 124, .int i5]) (rest := []) (bx_four (L := ((((L + 4) + 4) + 4) + 4)) rw_22 hT_c21 e10_c21 hL_c21 (by omega)) (show (2 : Nat) = fb 0xa00000000000080c220000d200330f % 16 by decide) (by show (2 : Nat) ≤ 3; decide) (fun _ => ⟨_, _, rfl, _, shp_at rw_22.1, Or.inr (show fb 0xa00000000000080c220000d200330f >>> 68 = 10 by decide)⟩) (by omega) (by show 8 + (3 + 11) + 0 ≤ R.locals; omega) (by show (0 : Nat) ≤ 8; decide) (by show kc + 0 ≤ _; omega) (by show ks + 0 ≤ _; omega) (fun r9 hs_c25 hpo hr9 => ?_) (fun x9 hs9 hx9 hpo => ?_)
            · obtain rfl : r9 = none := hr9.elim (fun q => q.2) (fun q => absurd rfl q.1)
              obtain ⟨-, L9_c25, hT_c25, e10_c25, hL_c25, fr_c25⟩ := hpo
              have rw_26 := rw_22.fr fr_c25 WT4_rw
              have f_27 := rd_fr fr_c25 f_23 (by unfold WT4; omega)
              have fr_28 := fr_24.tr (fr_c25.mono (fun k9 j9 h9 => by unfold WT4 at h9; unfold WT6; omega))
              clear rw_22 f_23 hT_c21 e10_c21 fr_24
              show WpN (gp g0 wp) CLS p l e R s m args below meth c Q D_180.2.2.1 kc0 ks0 51 [some (.ref 124), some (.int i1), some (.int i2), some (.int i3), some (.int i4), some (.int i5)] (hs_c25, kc, ks) []
              refine g_loadA act (gx gp_180 (w := 0x3403) rfl (by decide) rfl) (a := 0) (n := 52) rfl rfl rfl ?_
              refine r_getf act (gx gp_180 (w := 0x289003704) rfl (by decide) rfl) (n := 55) (ci := 9) (j := 10) (N := 39) rfl rfl rfl rw_26.1 (by decide) (v := .int L9_c25) e10_c25 ?_
              exact g_retI hEnd (gx gp_180 (w := 0x2f) rfl (by decide) rfl) ⟨rfl, Or.inl ⟨by omega, ⟨_, rfl, (hL_c25).trans (by omega)⟩, f_27, ⟨hT_c25, _, e10_c25, (hL_c25).trans (by omega)⟩⟩, rw_26, fr_28⟩ hk1 hk2
            · exact absurd hpo.1 (by omega)
          · exact absurd hpo.1 (by omega)
        · exact absurd hpo.1 (by omega)
      · exact absurd hpo.1 (by omega)
    · exact absurd hpo.1 (by omega)
  · simp only [i_le, show (20 : Int32).toInt = 20 from by decide, show (700 : Int32).toInt = 700 from by decide] at h6
    refine g_loadA act (gx gp_180 (w := 0x1303) rfl (by decide) rfl) (a := 0) (n := 19) rfl rfl rfl ?_
    refine g_constI act (gx gp_180 (w := 0x40000000c00000009000000001401) rfl (by decide) rfl) (n := 20) (x := (1 : Int32)) (by decide) rfl ?_
    refine n_call tb_pres act hEnd (gx (P := G_call) gp_180 (w := 0xa000000000000c08220000cd00170f) rfl (by decide) rfl) (d' := D_205) rfl (as := [.ref 124, .int (1 : Int32)]) (rest := []) (b_fails rw_1.1) (show (2 : Nat) = fb 0xa000000000000c08220000cd00170f % 16 by decide) (by show (2 : Nat) ≤ 2; decide) (fun _ => ⟨_, _, rfl, _, shp_at rw_1.1, Or.inr (show fb 0xa000000000000c08220000cd00170f >>> 68 = 10 by decide)⟩) (by omega) (by show 8 + (2 + 11) + 0 ≤ R.locals; omega) (by show (0 : Nat) ≤ 8; decide) (by show kc + 0 ≤ _; omega) (by show ks + 0 ≤ _; omega) (fun r9 h3 hpo hr9 => ?_) (fun x9 hs9 hx9 hpo => ?_)
    · obtain ⟨-, rfl, -, rfl⟩ := hpo
      have rw_30 := RW.wr (k := 124) (j := 0) (v := .int (1 : Int32)) rw_1 (Or.inr (by decide))
      have f_31 := f_2.ne (k := 124) (j := 0) (v := .int (1 : Int32)) (by decide)
      have f_32 := (rd_ne hs_7 (k := 124) (j := 0) (.int (1 : Int32)) (Or.inr (by decide))).trans f_4
      have f_34 := rd_same (j := 0) (v := .int (1 : Int32)) rw_1.1
      have fr_35 := fr_6.wr (k := 124) (j := 0) (.int (1 : Int32)) (by unfold WT6; omega)
      clear rw_1 fr_6 f_2 f_4 f_5
      generalize (wr hs_7 124 0 (.int (1 : Int32))) = hs_36 at *
      show WpN (gp g0 wp) CLS p l e R s m args below meth c Q D_180.2.2.1 kc0 ks0 23 [some (.ref 124), some (.int i1), some (.int i2), some (.int i3), some (.int i4), some (.int i5)] (hs_36, kc, ks) [.int (0 : Int32)]
      exact g_retI hEnd (gx gp_180 (w := 0x2f) rfl (by decide) rfl) ⟨rfl, Or.inr ⟨by omega, rfl, f_34, ⟨f_31, _, f_32, hL9⟩⟩, rw_30, fr_35⟩ hk1 hk2
    · exact absurd hpo.1 (by omega)

theorem bx_trunc {i1 : Int32} (rw0 : RW hs) (hL7 : L ≤ 700) (hx : ∃ x : Int32, rd hs 124 0 = .int x) (hM : MRT hs tx L) : BodyN SSX TBL g0 CLS bl xs l D_284 1 22 0 0 [.ref 124, .int i1] hs (fun kd r h2 => kd = 0 ∧ (((0 ≤ i1.toInt ∧ i1.toInt ≤ (L : Int)) ∧ (∃ x : Int32, r = some (.int x) ∧ x.toInt = ((i1.toInt.toNat : Nat) : Int)) ∧ rd h2 124 0 = .int 0 ∧ MRT h2 tx i1.toInt.toNat) ∨ (¬ (0 ≤ i1.toInt ∧ i1.toInt ≤ (L : Int)) ∧ r = some (.int 0) ∧ rd h2 124 0 = .int 1 ∧ MRT h2 tx L)) ∧ RW h2 ∧ FrS WT6 hs h2) := by
  intro wp p e R s m args below meth c Q kc0 ks0 kc ks act hf hl hc hsl hEnd
  have hf : 1 ≤ R.frames := hf
  have hl : 22 ≤ R.locals := hl
  have hk1 : kc ≤ kc + 0 := by omega
  have hk2 : ks ≤ ks + 0 := by omega
  obtain ⟨x0, e0⟩ := hx
  obtain ⟨hT, L9, e10, hL9⟩ := hM
  have hfr0 := FrS.rf WT6 hs
  show WpN (gp g0 wp) CLS p l e R s m args below meth c Q D_284.2.2.1 kc0 ks0 0 [some (.ref 124), some (.int i1)] (hs, kc, ks) []
  refine g_loadA act (gx gp_284 (w := 0x103) rfl (by decide) rfl) (a := 0) (n := 1) rfl rfl rfl ?_
  refine g_constI act (gx gp_284 (w := 0x40000000400000001000000000201) rfl (by decide) rfl) (n := 2) (x := (0 : Int32)) (by decide) rfl ?_
  refine r_putf act (gx gp_284 (w := 0x9000513) rfl (by decide) rfl) (n := 5) (ci := 9) (j := 0) (N := 39) rfl rfl rfl rw0.1 (by decide) (Or.inl ⟨rfl, _, rfl⟩) ?_
  have rw_1 := RW.wr (k := 124) (j := 0) (v := .int (0 : Int32)) rw0 (Or.inr (by decide))
  have f_2 := hT.ne (k := 124) (j := 0) (v := .int (0 : Int32)) (by decide)
  have f_4 := (rd_ne hs (k := 124) (j := 0) (.int (0 : Int32)) (Or.inr (by decide))).trans e10
  have f_5 := rd_same (j := 0) (v := .int (0 : Int32)) rw0.1
  have fr_6 := hfr0.wr (k := 124) (j := 0) (.int (0 : Int32)) (by unfold WT6; omega)
  clear hT e0 e10
  generalize (wr hs 124 0 (.int (0 : Int32))) = hs_7 at *
  refine g_loadI act (gx gp_284 (w := 0x1000602) rfl (by decide) rfl) (a := 1) (n := 6) rfl rfl rfl ?_
  refine g_constI act (gx gp_284 (w := 0x40000000400000001000000000701) rfl (by decide) rfl) (n := 7) (x := (0 : Int32)) (by decide) rfl ?_
  refine g_loadA act (gx gp_284 (w := 0x803) rfl (by decide) rfl) (a := 0) (n := 8) rfl rfl rfl ?_
  refine r_getf act (gx gp_284 (w := 0x289000b04) rfl (by decide) rfl) (n := 11) (ci := 9) (j := 10) (N := 39) rfl rfl rfl rw_1.1 (by decide) (v := .int L9) f_4 ?_
  refine n_call tb_pres act hEnd (gx (P := G_call) gp_284 (w := 0x40c330000d9000e0f) rfl (by decide) rfl) (d' := D_217) rfl (as := [.int i1, .int (0 : Int32), .int L9]) (rest := []) (b_in (rfl : Int32.toInt i1 = _) (show (0 : Int32).toInt = ((0 : Nat) : Int) from by decide) hL9) (show (3 : Nat) = fb 0x40c330000d9000e0f % 16 by decide) (by show (3 : Nat) ≤ 3; decide) (fun q => absurd q (by decide)) (by omega) (by show 8 + (3 + 11) + 0 ≤ R.locals; omega) (by show (0 : Nat) ≤ 8; decide) (by show kc + 0 ≤ _; omega) (by show ks + 0 ≤ _; omega) (fun r9 h3 hpo hr9 => ?_) (fun x9 hs9 hx9 hpo => ?_)
  · obtain ⟨-, rfl, hin9⟩ := hpo
    obtain ⟨rv_8, rfl, hr_9⟩ := in1_x hin9
    show WpN (gp g0 wp) CLS p l e R s m args below meth c Q D_284.2.2.1 kc0 ks0 14 [some (.ref 124), some (.int i1)] (hs_7, kc, ks) [.int rv_8]
    refine g_ifNe act (gx gp_284 (w := 0x1700111d) rfl (by decide) rfl) (tgt := 23) (n := 17) rfl rfl (fun h6 => ?_) (fun h6 => ?_)
    · simp only [i_eq, i0] at h6
      refine g_loadA act (gx gp_284 (w := 0x1803) rfl (by decide) rfl) (a := 0) (n := 24) rfl rfl rfl ?_
      refine g_loadI act (gx gp_284 (w := 0x1001902) rfl (by decide) rfl) (a := 1) (n := 25) rfl rfl rfl ?_
      refine r_putf act (gx gp_284 (w := 0x289001c13) rfl (by decide) rfl) (n := 28) (ci := 9) (j := 10) (N := 39) rfl rfl rfl rw_1.1 (by decide) (Or.inl ⟨rfl, _, rfl⟩) ?_
      have rw_10 := RW.wr (k := 124) (j := 10) (v := .int i1) rw_1 (Or.inr (by decide))
      have f_11 := f_2.ne (k := 124) (j := 10) (v := .int i1) (by decide)
      have f_13 := (rd_ne hs_7 (k := 124) (j := 10) (.int i1) (Or.inr (by decide))).trans f_5
      have f_14 := rd_same (j := 10) (v := .int i1) rw_1.1
      have fr_15 := fr_6.wr (k := 124) (j := 10) (.int i1) (by unfold WT6; omega)
      clear rw_1 fr_6 f_2 f_4 f_5
      generalize (wr hs_7 124 10 (.int i1)) = hs_16 at *
      refine g_loadA act (gx gp_284 (w := 0x1d03) rfl (by decide) rfl) (a := 0) (n := 29) rfl rfl rfl ?_
      refine r_getf act (gx gp_284 (w := 0x289002004) rfl (by decide) rfl) (n := 32) (ci := 9) (j := 10) (N := 39) rfl rfl rfl rw_10.1 (by decide) (v := .int i1) f_14 ?_
      exact g_retI hEnd (gx gp_284 (w := 0x2f) rfl (by decide) rfl) ⟨rfl, Or.inl ⟨by omega, ⟨_, rfl, ((rfl : Int32.toInt i1 = _)).trans (by omega)⟩, f_13, ⟨f_11, _, f_14, ((rfl : Int32.toInt i1 = _)).trans (by omega)⟩⟩, rw_10, fr_15⟩ hk1 hk2
    · simp only [i_eq, i0] at h6
      refine g_loadA act (gx gp_284 (w := 0x1203) rfl (by decide) rfl) (a := 0) (n := 18) rfl rfl rfl ?_
      refine g_constI act (gx gp_284 (w := 0x40000000c00000009000000001301) rfl (by decide) rfl) (n := 19) (x := (1 : Int32)) (by decide) rfl ?_
      refine n_call tb_pres act hEnd (gx (P := G_call) gp_284 (w := 0xa000000000000c08220000cd00160f) rfl (by decide) rfl) (d' := D_205) rfl (as := [.ref 124, .int (1 : Int32)]) (rest := []) (b_fails rw_1.1) (show (2 : Nat) = fb 0xa000000000000c08220000cd00160f % 16 by decide) (by show (2 : Nat) ≤ 2; decide) (fun _ => ⟨_, _, rfl, _, shp_at rw_1.1, Or.inr (show fb 0xa000000000000c08220000cd00160f >>> 68 = 10 by decide)⟩) (by omega) (by show 8 + (2 + 11) + 0 ≤ R.locals; omega) (by show (0 : Nat) ≤ 8; decide) (by show kc + 0 ≤ _; omega) (by show ks + 0 ≤ _; omega) (fun r9 h3 hpo hr9 => ?_) (fun x9 hs9 hx9 hpo => ?_)
      · obtain ⟨-, rfl, -, rfl⟩ := hpo
        have rw_18 := RW.wr (k := 124) (j := 0) (v := .int (1 : Int32)) rw_1 (Or.inr (by decide))
        have f_19 := f_2.ne (k := 124) (j := 0) (v := .int (1 : Int32)) (by decide)
        have f_20 := (rd_ne hs_7 (k := 124) (j := 0) (.int (1 : Int32)) (Or.inr (by decide))).trans f_4
        have f_22 := rd_same (j := 0) (v := .int (1 : Int32)) rw_1.1
        have fr_23 := fr_6.wr (k := 124) (j := 0) (.int (1 : Int32)) (by unfold WT6; omega)
        clear rw_1 fr_6 f_2 f_4 f_5
        generalize (wr hs_7 124 0 (.int (1 : Int32))) = hs_24 at *
        show WpN (gp g0 wp) CLS p l e R s m args below meth c Q D_284.2.2.1 kc0 ks0 22 [some (.ref 124), some (.int i1)] (hs_24, kc, ks) [.int (0 : Int32)]
        exact g_retI hEnd (gx gp_284 (w := 0x2f) rfl (by decide) rfl) ⟨rfl, Or.inr ⟨by omega, rfl, f_22, ⟨f_19, _, f_20, hL9⟩⟩, rw_18, fr_23⟩ hk1 hk2
      · exact absurd hpo.1 (by omega)
  · exact absurd hpo.1 (by omega)

end RAPB

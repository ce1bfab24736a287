/-! append and truncate of the class, exactly. -/
/-- the class's prices, and its reader with a text of L bytes -/
def GRT (hs : List CE) (tx : Nat → Int) (L : Nat) : Prop := shp hs 0 = some (0, 7) ∧ rd hs 0 0 = .ref 54 ∧ R54 hs ∧ TXB hs tx ∧ ∃ x : Int32, rd hs 54 0 = .int x ∧ x.toInt = (L : Int)
theorem R54.fr5 {hs h2 : List CE} (h : R54 hs) (f : FrS WT5 hs h2) : R54 h2 := ⟨(f.2.1 54).trans h.1, (f.2.1 55).trans h.2.1, (f.2.2 54 3 (fun z => by unfold WT5 at z; omega)).trans h.2.2⟩
theorem wA_ge {tx : Nat → Int} {L : Nat} {v : Int32} (h : ∀ j, 0 ≤ tx j) : ∀ i : Nat, ∀ j, 0 ≤ wB tx L v i j
  | 0, j => h j
  | i + 1, j => by
    show 0 ≤ upI (wB tx L v i) (L + i) (byt v i) j
    unfold upI
    split
    · unfold byt
      rw [and255]
      exact Int.emod_nonneg _ (by decide)
    · exact wA_ge h i j
theorem wA_nn {tx : Nat → Int} {L : Nat} {a b c d e : Int32} (h : ∀ j, 0 ≤ tx j) : ∀ j, 0 ≤ wA tx L a b c d e j := wA_ge (wA_ge (wA_ge (wA_ge (wA_ge h 4) 4) 4) 4) 4

section CRDP
variable {g0 : GG} {bl : Nat} {xs : Nat → Int32} {l : Launch} {hs : List CE} {tx : Nat → Int} {L : Nat}

theorem cx_append {i1 i2 i3 i4 i5 : Int32} (hL7 : L ≤ 700) (hG : GRT hs tx L) : BodyN SSX TBL g0 CLS bl xs l D_2 8 120 1 11 [.ref 0, .int i1, .int i2, .int i3, .int i4, .int i5] hs (fun kd r h2 => (kd = 0 ∧ L + 20 ≤ 700 ∧ (∃ x : Int32, r = some (.int x) ∧ x.toInt = ((L + 20 : Nat) : Int)) ∧ GRT h2 (wA tx L i1 i2 i3 i4 i5) (L + 20) ∧ FrS WT5 hs h2) ∨ (kd = 1 ∧ r = none ∧ 700 < L + 20 ∧ hs = h2)) := by
  intro wp p e R sW m args below meth cW Q kc0 ks0 kc ks act hf hl hc hsl hEnd
  have hf : 8 ≤ R.frames := hf
  have hl : 120 ≤ R.locals := hl
  obtain ⟨sg0, rg0, rw0, hT0, L9, e0, hL⟩ := hG
  show WpN (gp g0 wp) CLS p l e R sW m args below meth cW Q D_2.2.2.1 kc0 ks0 0 [some (.ref 0), some (.int i1), some (.int i2), some (.int i3), some (.int i4), some (.int i5)] (hs, kc, ks) []
  refine g_loadA act (gx gp_2 (w := 0x103) rfl (by decide) rfl) (a := 0) (n := 1) rfl rfl rfl ?_
  refine r_getf act (gx gp_2 (w := 0x3000000000404) rfl (by decide) rfl) (n := 4) (ci := 0) (j := 0) (N := 7) rfl rfl rfl sg0 (by decide) (v := .ref 54) rg0 ?_
  refine r_getf act (gx gp_2 (w := 0x5000704) rfl (by decide) rfl) (n := 7) (ci := 5) (j := 0) (N := 11) rfl rfl rfl rw0.1 (by decide) (v := .int L9) e0 ?_
  refine g_constI act (gx gp_2 (w := 0x4000000a4000000a1000000000901) rfl (by decide) rfl) (n := 9) (x := (20 : Int32)) (by decide) rfl ?_
  refine g_iadd act (gx gp_2 (w := 0xa0a) rfl (by decide) rfl) (n := 10) rfl ?_
  have v20 : (L9 + (20 : Int32)).toInt = (L : Int) + 20 := iv_add hL (show (20 : Int32).toInt = (20 : Int) from by decide) (by omega) (by omega)
  refine g_constI act (gx gp_2 (w := 0x4000015e4000015e1000000000d01) rfl (by decide) rfl) (n := 13) (x := (700 : Int32)) (by decide) rfl ?_
  refine g_icmpLe act (gx gp_2 (w := 0x1a00103c) rfl (by decide) rfl) (tgt := 26) (n := 16) rfl rfl (fun h4 => ?_) (fun h4 => ?_)
  · simp only [i_le, show (20 : Int32).toInt = 20 from by decide, show (700 : Int32).toInt = 700 from by decide] at h4
    refine g_loadA act (gx gp_2 (w := 0x1b03) rfl (by decide) rfl) (a := 0) (n := 27) rfl rfl rfl ?_
    refine r_getf act (gx gp_2 (w := 0x3000000001e04) rfl (by decide) rfl) (n := 30) (ci := 0) (j := 0) (N := 7) rfl rfl rfl sg0 (by decide) (v := .ref 54) rg0 ?_
    refine g_loadI act (gx gp_2 (w := 0x1001f02) rfl (by decide) rfl) (a := 1) (n := 31) rfl rfl rfl ?_
    refine n_call tb_pres act hEnd (gx (P := G_call) gp_2 (w := 0x600000000000080c2200007600220f) rfl (by decide) rfl) (d' := D_118) rfl (f' := 0) (lam' := 0) (mc := 0) (ms := 0) (as := [.ref 54, .int i1]) (rest := []) (cx_bytes (L := L) rw0 hT0 e0 hL (by omega)) (show (2 : Nat) = fb 0x600000000000080c2200007600220f % 16 by decide) (by show (2 : Nat) ≤ 3; decide) (fun _ => ⟨_, _, rfl, _, shp_at rw0.1, Or.inr (show fb 0x600000000000080c2200007600220f >>> 68 = 6 by decide)⟩) (by omega) (by show 8 + (3 + 11) + 0 ≤ R.locals; omega) (by show (0 : Nat) ≤ 8; decide) (by show kc + 0 ≤ _; omega) (by show ks + 0 ≤ _; omega) (fun r9 h1 hpo hr9 => ?_) (fun x9 hs9 hx9 hpo => ?_)
    · obtain rfl : r9 = none := hr9.elim (fun q => q.2) (fun q => absurd rfl q.1)
      obtain ⟨-, -, hT1, ⟨x1, e1, v1⟩, fr1⟩ := hpo
      have rw1 := rw0.fr5 fr1
      have ft1 := (FrS.rf WT5 hs).tr fr1
      have sg1 := (fr1.2.1 0).trans sg0
      have rg1 := (fr1.2.2 0 0 (fun z => by unfold WT5 at z; omega)).trans rg0
      show WpN (gp g0 wp) CLS p l e R sW m args below meth cW Q D_2.2.2.1 kc0 ks0 34 [some (.ref 0), some (.int i1), some (.int i2), some (.int i3), some (.int i4), some (.int i5)] (h1, kc, ks) []
      refine g_loadA act (gx gp_2 (w := 0x2303) rfl (by decide) rfl) (a := 0) (n := 35) rfl rfl rfl ?_
      refine r_getf act (gx gp_2 (w := 0x3000000002604) rfl (by decide) rfl) (n := 38) (ci := 0) (j := 0) (N := 7) rfl rfl rfl sg1 (by decide) (v := .ref 54) rg1 ?_
      refine g_loadI act (gx gp_2 (w := 0x2002702) rfl (by decide) rfl) (a := 2) (n := 39) rfl rfl rfl ?_
      refine n_call tb_pres act hEnd (gx (P := G_call) gp_2 (w := 0x600000000000080c22000076002a0f) rfl (by decide) rfl) (d' := D_118) rfl (f' := 0) (lam' := 0) (mc := 0) (ms := 0) (as := [.ref 54, .int i2]) (rest := []) (cx_bytes (L := (L + 4)) rw1 hT1 e1 v1 (by omega)) (show (2 : Nat) = fb 0x600000000000080c22000076002a0f % 16 by decide) (by show (2 : Nat) ≤ 3; decide) (fun _ => ⟨_, _, rfl, _, shp_at rw1.1, Or.inr (show fb 0x600000000000080c22000076002a0f >>> 68 = 6 by decide)⟩) (by omega) (by show 8 + (3 + 11) + 0 ≤ R.locals; omega) (by show (0 : Nat) ≤ 8; decide) (by show kc + 0 ≤ _; omega) (by show ks + 0 ≤ _; omega) (fun r9 h2 hpo hr9 => ?_) (fun x9 hs9 hx9 hpo => ?_)
      · obtain rfl : r9 = none := hr9.elim (fun q => q.2) (fun q => absurd rfl q.1)
        obtain ⟨-, -, hT2, ⟨x2, e2, v2⟩, fr2⟩ := hpo
        have rw2 := rw1.fr5 fr2
        have ft2 := ft1.tr fr2
        have sg2 := (fr2.2.1 0).trans sg1
        have rg2 := (fr2.2.2 0 0 (fun z => by unfold WT5 at z; omega)).trans rg1
        show WpN (gp g0 wp) CLS p l e R sW m args below meth cW Q D_2.2.2.1 kc0 ks0 42 [some (.ref 0), some (.int i1), some (.int i2), some (.int i3), some (.int i4), some (.int i5)] (h2, kc, ks) []
        refine g_loadA act (gx gp_2 (w := 0x2b03) rfl (by decide) rfl) (a := 0) (n := 43) rfl rfl rfl ?_
        refine r_getf act (gx gp_2 (w := 0x3000000002e04) rfl (by decide) rfl) (n := 46) (ci := 0) (j := 0) (N := 7) rfl rfl rfl sg2 (by decide) (v := .ref 54) rg2 ?_
        refine g_loadI act (gx gp_2 (w := 0x3002f02) rfl (by decide) rfl) (a := 3) (n := 47) rfl rfl rfl ?_
        refine n_call tb_pres act hEnd (gx (P := G_call) gp_2 (w := 0x600000000000080c2200007600320f) rfl (by decide) rfl) (d' := D_118) rfl (f' := 0) (lam' := 0) (mc := 0) (ms := 0) (as := [.ref 54, .int i3]) (rest := []) (cx_bytes (L := (L + 8)) rw2 hT2 e2 v2 (by omega)) (show (2 : Nat) = fb 0x600000000000080c2200007600320f % 16 by decide) (by show (2 : Nat) ≤ 3; decide) (fun _ => ⟨_, _, rfl, _, shp_at rw2.1, Or.inr (show fb 0x600000000000080c2200007600320f >>> 68 = 6 by decide)⟩) (by omega) (by show 8 + (3 + 11) + 0 ≤ R.locals; omega) (by show (0 : Nat) ≤ 8; decide) (by show kc + 0 ≤ _; omega) (by show ks + 0 ≤ _; omega) (fun r9 h3 hpo hr9 => ?_) (fun x9 hs9 hx9 hpo => ?_)
        · obtain rfl : r9 = none := hr9.elim (fun q => q.2) (fun q => absurd rfl q.1)
          obtain ⟨-, -, hT3, ⟨x3, e3, v3⟩, fr3⟩ := hpo
          have rw3 := rw2.fr5 fr3
          have ft3 := ft2.tr fr3
          have sg3 := (fr3.2.1 0).trans sg2
          have rg3 := (fr3.2.2 0 0 (fun z => by unfold WT5 at z; omega)).trans rg2
          show WpN (gp g0 wp) CLS p l e R sW m args below meth cW Q D_2.2.2.1 kc0 ks0 50 [some (.ref 0), some (.int i1), some (.int i2), some (.int i3), some (.int i4), some (.int i5)] (h3, kc, ks) []
          refine g_loadA act (gx gp_2 (w := 0x3303) rfl (by decide) rfl) (a := 0) (n := 51) rfl rfl rfl ?_
          refine r_getf act (gx gp_2 (w := 0x3000000003604) rfl (by decide) rfl) (n := 54) (ci := 0) (j := 0) (N := 7) rfl rfl rfl sg3 (by decide) (v := .ref 54) rg3 ?_
          refine g_loadI act (gx gp_2 (w := 0x4003802) rfl (by decide) rfl) (a := 4) (n := 56) rfl rfl rfl ?_
          refine n_call tb_pres act hEnd (gx (P := G_call) gp_2 (w := 0x600000000000080c22000076003b0f) rfl (by decide) rfl) (d' := D_118) rfl (f' := 0) (lam' := 0) (mc := 0) (ms := 0) (as := [.ref 54, .int i4]) (rest := []) (cx_bytes (L := (L + 12)) rw3 hT3 e3 v3 (by omega)) (show (2 : Nat) = fb 0x600000000000080c22000076003b0f % 16 by decide) (by show (2 : Nat) ≤ 3; decide) (fun _ => ⟨_, _, rfl, _, shp_at rw3.1, Or.inr (show fb 0x600000000000080c22000076003b0f >>> 68 = 6 by decide)⟩) (by omega) (by show 8 + (3 + 11) + 0 ≤ R.locals; omega) (by show (0 : Nat) ≤ 8; decide) (by show kc + 0 ≤ _; omega) (by show ks + 0 ≤ _; omega) (fun r9 h4 hpo hr9 => ?_) (fun x9 hs9 hx9 hpo => ?_)
          · obtain rfl : r9 = none := hr9.elim (fun q => q.2) (fun q => absurd rfl q.1)
            obtain ⟨-, -, hT4, ⟨x4, e4, v4⟩, fr4⟩ := hpo
            have rw4 := rw3.fr5 fr4
            have ft4 := ft3.tr fr4
            have sg4 := (fr4.2.1 0).trans sg3
            have rg4 := (fr4.2.2 0 0 (fun z => by unfold WT5 at z; omega)).trans rg3
            show WpN (gp g0 wp) CLS p l e R sW m args below meth cW Q D_2.2.2.1 kc0 ks0 59 [some (.ref 0), some (.int i1), some (.int i2), some (.int i3), some (.int i4), some (.int i5)] (h4, kc, ks) []
            refine g_loadA act (gx gp_2 (w := 0x3c03) rfl (by decide) rfl) (a := 0) (n := 60) rfl rfl rfl ?_
            refine r_getf act (gx gp_2 (w := 0x3000000003f04) rfl (by decide) rfl) (n := 63) (ci := 0) (j := 0) (N := 7) rfl rfl rfl sg4 (by decide) (v := .ref 54) rg4 ?_
            refine g_loadI act (gx gp_2 (w := 0x5004102) rfl (by decide) rfl) (a := 5) (n := 65) rfl rfl rfl ?_
            refine n_call tb_pres act hEnd (gx (P := G_call) gp_2 (w := 0x600000000000080c2200007600440f) rfl (by decide) rfl) (d' := D_118) rfl (f' := 0) (lam' := 0) (mc := 0) (ms := 0) (as := [.ref 54, .int i5]) (rest := []) (cx_bytes (L := (L + 16)) rw4 hT4 e4 v4 (by omega)) (show (2 : Nat) = fb 0x600000000000080c2200007600440f % 16 by decide) (by show (2 : Nat) ≤ 3; decide) (fun _ => ⟨_, _, rfl, _, shp_at rw4.1, Or.inr (show fb 0x600000000000080c2200007600440f >>> 68 = 6 by decide)⟩) (by omega) (by show 8 + (3 + 11) + 0 ≤ R.locals; omega) (by show (0 : Nat) ≤ 8; decide) (by show kc + 0 ≤ _; omega) (by show ks + 0 ≤ _; omega) (fun r9 h5 hpo hr9 => ?_) (fun x9 hs9 hx9 hpo => ?_)
            · obtain rfl : r9 = none := hr9.elim (fun q => q.2) (fun q => absurd rfl q.1)
              obtain ⟨-, -, hT5, ⟨x5, e5, v5⟩, fr5⟩ := hpo
              have rw5 := rw4.fr5 fr5
              have ft5 := ft4.tr fr5
              have sg5 := (fr5.2.1 0).trans sg4
              have rg5 := (fr5.2.2 0 0 (fun z => by unfold WT5 at z; omega)).trans rg4
              show WpN (gp g0 wp) CLS p l e R sW m args below meth cW Q D_2.2.2.1 kc0 ks0 68 [some (.ref 0), some (.int i1), some (.int i2), some (.int i3), some (.int i4), some (.int i5)] (h5, kc, ks) []
              refine g_loadA act (gx gp_2 (w := 0x4503) rfl (by decide) rfl) (a := 0) (n := 69) rfl rfl rfl ?_
              refine r_getf act (gx gp_2 (w := 0x3000000004804) rfl (by decide) rfl) (n := 72) (ci := 0) (j := 0) (N := 7) rfl rfl rfl sg5 (by decide) (v := .ref 54) rg5 ?_
              refine r_getf act (gx gp_2 (w := 0x5004b04) rfl (by decide) rfl) (n := 75) (ci := 5) (j := 0) (N := 11) rfl rfl rfl rw5.1 (by decide) (v := .int x5) e5 ?_
              exact g_retI hEnd (gx gp_2 (w := 0x2f) rfl (by decide) rfl) (Or.inl ⟨rfl, by omega, ⟨x5, rfl, v5⟩, ⟨sg5, rg5, rw5, hT5, x5, e5, v5⟩, ft5⟩) (by show kc ≤ kc + 1; omega) (by show ks ≤ ks + 11; omega)
            · exact absurd hpo.1 (by omega)
          · exact absurd hpo.1 (by omega)
        · exact absurd hpo.1 (by omega)
      · exact absurd hpo.1 (by omega)
    · exact absurd hpo.1 (by omega)
  · simp only [i_le, show (20 : Int32).toInt = 20 from by decide, show (700 : Int32).toInt = 700 from by decide] at h4
    exact g_throw hEnd (gx gp_2 (w := 0x38) rfl (by decide) rfl) (x := 0) rfl (Or.inr ⟨rfl, rfl, by omega, rfl⟩) (by show kc + 1 ≤ kc + 1; omega) (by show ks + 6 ≤ ks + 11; omega) (by decide) (by decide)

theorem cx_trunc {i1 : Int32} (hL7 : L ≤ 700) (hG : GRT hs tx L) : BodyN SSX TBL g0 CLS bl xs l D_67 8 120 1 11 [.ref 0, .int i1] hs (fun kd r h2 => (kd = 0 ∧ (0 ≤ i1.toInt ∧ i1.toInt ≤ (L : Int)) ∧ r = some (.int i1) ∧ GRT h2 tx i1.toInt.toNat ∧ FrS WT5 hs h2) ∨ (kd = 2 ∧ r = none ∧ ¬ (0 ≤ i1.toInt ∧ i1.toInt ≤ (L : Int)) ∧ hs = h2)) := by
  intro wp p e R sW m args below meth cW Q kc0 ks0 kc ks act hf hl hc hsl hEnd
  have hf : 8 ≤ R.frames := hf
  have hl : 120 ≤ R.locals := hl
  obtain ⟨sg0, rg0, rw0, hT0, L9, e0, hL⟩ := hG
  show WpN (gp g0 wp) CLS p l e R sW m args below meth cW Q D_67.2.2.1 kc0 ks0 0 [some (.ref 0), some (.int i1)] (hs, kc, ks) []
  refine g_loadI act (gx gp_67 (w := 0x1000102) rfl (by decide) rfl) (a := 1) (n := 1) rfl rfl rfl ?_
  refine g_ifLt act (gx gp_67 (w := 0xf00042a) rfl (by decide) rfl) (tgt := 15) (n := 4) rfl rfl (fun h2 => ?_) (fun h2 => ?_)
  · simp only [i_lt, i0] at h2
    exact g_throw hEnd (gx gp_67 (w := 0x1000038) rfl (by decide) rfl) (x := 1) rfl (Or.inr ⟨rfl, rfl, by omega, rfl⟩) (by show kc + 1 ≤ kc + 1; omega) (by show ks + 6 ≤ ks + 11; omega) (by decide) (by decide)
  · simp only [i_lt, i0] at h2
    refine g_loadI act (gx gp_67 (w := 0x1000502) rfl (by decide) rfl) (a := 1) (n := 5) rfl rfl rfl ?_
    refine g_loadA act (gx gp_67 (w := 0x603) rfl (by decide) rfl) (a := 0) (n := 6) rfl rfl rfl ?_
    refine r_getf act (gx gp_67 (w := 0x3000000000904) rfl (by decide) rfl) (n := 9) (ci := 0) (j := 0) (N := 7) rfl rfl rfl sg0 (by decide) (v := .ref 54) rg0 ?_
    refine r_getf act (gx gp_67 (w := 0x5000c04) rfl (by decide) rfl) (n := 12) (ci := 5) (j := 0) (N := 11) rfl rfl rfl rw0.1 (by decide) (v := .int L9) e0 ?_
    refine g_icmpLe act (gx gp_67 (w := 0x19000f3c) rfl (by decide) rfl) (tgt := 25) (n := 15) rfl rfl (fun h5 => ?_) (fun h5 => ?_)
    · simp only [i_le] at h5
      refine g_loadA act (gx gp_67 (w := 0x1a03) rfl (by decide) rfl) (a := 0) (n := 26) rfl rfl rfl ?_
      refine r_getf act (gx gp_67 (w := 0x3000000001d04) rfl (by decide) rfl) (n := 29) (ci := 0) (j := 0) (N := 7) rfl rfl rfl sg0 (by decide) (v := .ref 54) rg0 ?_
      refine g_loadI act (gx gp_67 (w := 0x1001e02) rfl (by decide) rfl) (a := 1) (n := 30) rfl rfl rfl ?_
      refine r_putf act (gx gp_67 (w := 0x5002113) rfl (by decide) rfl) (n := 33) (ci := 5) (j := 0) (N := 11) rfl rfl rfl rw0.1 (by decide) (Or.inl ⟨rfl, _, rfl⟩) ?_
      refine g_loadI act (gx gp_67 (w := 0x1002202) rfl (by decide) rfl) (a := 1) (n := 34) rfl rfl rfl ?_
      exact g_retI hEnd (gx gp_67 (w := 0x2f) rfl (by decide) rfl) (Or.inl ⟨rfl, ⟨by omega, by omega⟩, rfl, ⟨(shp_wr _ _ _ _ _).trans sg0, (rd_ne _ _ (Or.inl (by decide))).trans rg0, ⟨(shp_wr _ _ _ _ _).trans rw0.1, (shp_wr _ _ _ _ _).trans rw0.2.1, (rd_ne _ _ (Or.inr (by decide))).trans rw0.2.2⟩, hT0.ne (by decide), i1, rd_same rw0.1, by omega⟩, (FrS.rf WT5 hs).wr (k := 54) (j := 0) (.int i1) (Or.inr ⟨rfl, rfl⟩)⟩) (by show kc ≤ kc + 1; omega) (by show ks ≤ ks + 11; omega)
    · simp only [i_le] at h5
      exact g_throw hEnd (gx gp_67 (w := 0x1000038) rfl (by decide) rfl) (x := 1) rfl (Or.inr ⟨rfl, rfl, by omega, rfl⟩) (by show kc + 1 ≤ kc + 1; omega) (by show ks + 6 ≤ ks + 11; omega) (by decide) (by decide)

end CRDP

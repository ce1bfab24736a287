/-! The reference: targets, exactly. -/
/-- the costs behind the prices: all over one L but the first, over D0 -/
def CF (n : Nat) (Cf : Nat → Rat) (C0 : Rat) (L D0 : Nat) : Prop := 0 < L ∧ L ≤ 15000000 ∧ ¬ 128 ∣ L ∧ 0 < D0 ∧ D0 ≤ 256 ∧ (∃ c0 : Int, (D0 : Rat) * C0 = (c0 : Rat) ∧ 0 ≤ c0 ∧ c0 ≤ 99000 * (D0 : Int)) ∧ ∀ k, k ≤ n → ∃ c : Int, (L : Rat) * Cf k = (c : Rat) ∧ 0 ≤ c ∧ c ≤ 99000 * (L : Int)
section CFS
variable {n L D0 : Nat} {Cf : Nat → Rat} {C0 : Rat}
theorem CF.m0 (h : CF n Cf C0 L D0) : 0 < L * D0 ∧ L * D0 < 9223372036854775808 := by
  obtain ⟨h1, h2, -, h3, h4, -⟩ := h
  have := Nat.mul_le_mul h2 h4
  exact ⟨Nat.mul_pos h1 h3, by omega⟩
theorem CF.pn (h : CF n Cf C0 L D0) {k : Nat} (hk : k ≤ n) : PN (L * D0) (Cf k + -C0) := by
  obtain ⟨h1, h2, -, h3, h4, ⟨c0, e0, p0, p1⟩, hC⟩ := h
  obtain ⟨c, e, r0, r1⟩ := hC k hk
  refine ⟨(D0 : Int) * c - (L : Int) * c0, ?_, ?_⟩
  · rw [Rat.natCast_mul, Rat.intCast_sub, Rat.intCast_mul, Rat.intCast_mul, ← e, ← e0]
    show (L : Rat) * (D0 : Rat) * (Cf k + -C0) = (D0 : Rat) * ((L : Rat) * Cf k) - (L : Rat) * ((D0 : Rat) * C0)
    grind
  · have a1 : (D0 : Int) * c ≤ 256 * 1485000000000 := Int.mul_le_mul (by omega) (by omega) r0 (by decide)
    have a2 := Int.mul_nonneg (show (0 : Int) ≤ D0 by omega) r0
    have a3 : (L : Int) * c0 ≤ 15000000 * 25344000 := Int.mul_le_mul (by omega) (by omega) p0 (by decide)
    have a4 := Int.mul_nonneg (show (0 : Int) ≤ L by omega) p0
    omega
theorem CF.dn (h : CF n Cf C0 L D0) {k j : Nat} (hk : k ≤ n) (hj : j ≤ n) : ∃ N : Int, (L : Rat) * (Cf k + -Cf j) = (N : Rat) ∧ N.natAbs ≤ 1485000000000 := by
  obtain ⟨h1, h2, -, h3, h4, -, hC⟩ := h
  obtain ⟨c, e, r0, r1⟩ := hC k hk
  obtain ⟨c2, e2, r2, r3⟩ := hC j hj
  refine ⟨c - c2, ?_, by omega⟩
  rw [Rat.intCast_sub, ← e, ← e2]
  grind
end CFS
def TX (tl : Nat → Int) (Cf : Nat → Rat) (r : Nat) : Rat := (Cf (tl (22 + 4 * r + 2)).toNat + -Cf (tl (22 + 4 * r + 1)).toNat) * ((tl (22 + 4 * r + 3) : Int) : Rat)

theorem b_dearerX {g0 : GG} {bl : Nat} {xs : Nat → Int32} {l : Launch} {hs : List CE} {n L D0 : Nat} {Cf : Nat → Rat} {C0 : Rat} {ai bi : Int32} {a9 b9 : Nat} (hai : ai.toInt = (a9 : Int)) (hbi : bi.toInt = (b9 : Int)) (ha4 : a9 ≤ n) (hb4 : b9 ≤ n) (hn3 : n ≤ 3) (rw0 : RW hs) (hCF : CF n Cf C0 L D0) (hQ : QRng hs 144 145 0 (n + 1) (fun k9 => Cf k9 + -C0)) : BodyN SSX TBL g0 CLS bl xs l D_196 3 85 0 0 [.ref 124, .int ai, .int bi] hs (POQ hs (Cf a9 + -Cf b9)) := by
  intro wp p e R s m args below meth c Q kc0 ks0 kc ks act hf hl hc hsl hEnd
  show WpN (gp g0 wp) CLS p l e R s m args below meth c Q D_196.2.2.1 kc0 ks0 0 [some (.ref 124), some (.int ai), some (.int bi)] (hs, kc, ks) []
  refine g_loadA act (gx gp_196 (w := 0x103) rfl (by decide) rfl) (a := 0) (n := 1) rfl rfl rfl ?_
  refine g_loadA act (gx gp_196 (w := 0x203) rfl (by decide) rfl) (a := 0) (n := 2) rfl rfl rfl ?_
  refine r_getf act (gx gp_196 (w := 0x3000849000504) rfl (by decide) rfl) (n := 5) (ci := 9) (j := 33) (N := 39) rfl rfl rfl rw0.1 (by decide) (rw0.2 (33, 144, 33, 4) (by decide)).1 ?_
  refine g_loadI act (gx gp_196 (w := 0x1000602) rfl (by decide) rfl) (a := 1) (n := 6) rfl rfl rfl ?_
  obtain ⟨x_1, w_4, e_2, e_5, hx_3⟩ := hQ a9 (by omega) (by omega)
  refine r_lald act (gx gp_196 (w := 0x70d) rfl (by decide) rfl) (n := 7) (j := a9) rfl (rw0.2 (33, 144, 33, 4) (by decide)).2 hai (show a9 < 4 by omega) (v := .long x_1) e_2 ?_
  refine g_loadA act (gx gp_196 (w := 0x803) rfl (by decide) rfl) (a := 0) (n := 8) rfl rfl rfl ?_
  refine r_getf act (gx gp_196 (w := 0x3000889000b04) rfl (by decide) rfl) (n := 11) (ci := 9) (j := 34) (N := 39) rfl rfl rfl rw0.1 (by decide) (rw0.2 (34, 145, 33, 4) (by decide)).1 ?_
  refine g_loadI act (gx gp_196 (w := 0x1000c02) rfl (by decide) rfl) (a := 1) (n := 12) rfl rfl rfl ?_
  refine r_lald act (gx gp_196 (w := 0xd0d) rfl (by decide) rfl) (n := 13) (j := a9) rfl (rw0.2 (34, 145, 33, 4) (by decide)).2 hai (show a9 < 4 by omega) (v := .long w_4) e_5 ?_
  refine g_loadA act (gx gp_196 (w := 0xe03) rfl (by decide) rfl) (a := 0) (n := 14) rfl rfl rfl ?_
  refine r_getf act (gx gp_196 (w := 0x3000849001104) rfl (by decide) rfl) (n := 17) (ci := 9) (j := 33) (N := 39) rfl rfl rfl rw0.1 (by decide) (rw0.2 (33, 144, 33, 4) (by decide)).1 ?_
  refine g_loadI act (gx gp_196 (w := 0x2001202) rfl (by decide) rfl) (a := 2) (n := 18) rfl rfl rfl ?_
  obtain ⟨x_11, w_14, e_12, e_15, hx_13⟩ := hQ b9 (by omega) (by omega)
  refine r_lald act (gx gp_196 (w := 0x130d) rfl (by decide) rfl) (n := 19) (j := b9) rfl (rw0.2 (33, 144, 33, 4) (by decide)).2 hbi (show b9 < 4 by omega) (v := .long x_11) e_12 ?_
  refine g_lneg act (gx gp_196 (w := 0x1425) rfl (by decide) rfl) (n := 20) rfl ?_
  refine g_loadA act (gx gp_196 (w := 0x1503) rfl (by decide) rfl) (a := 0) (n := 21) rfl rfl rfl ?_
  refine r_getf act (gx gp_196 (w := 0x3000889001804) rfl (by decide) rfl) (n := 24) (ci := 9) (j := 34) (N := 39) rfl rfl rfl rw0.1 (by decide) (rw0.2 (34, 145, 33, 4) (by decide)).1 ?_
  refine g_loadI act (gx gp_196 (w := 0x2001902) rfl (by decide) rfl) (a := 2) (n := 25) rfl rfl rfl ?_
  refine r_lald act (gx gp_196 (w := 0x1a0d) rfl (by decide) rfl) (n := 26) (j := b9) rfl (rw0.2 (34, 145, 33, 4) (by decide)).2 hbi (show b9 < 4 by omega) (v := .long w_14) e_15 ?_
  refine n_call tb_pres act hEnd (gx (P := G_call) gp_196 (w := 0xa00000000000082c950000fc001d0f) rfl (by decide) rfl) (d' := D_252) rfl (as := [.ref 124, .long x_1, .long w_4, .long (-x_11), .long w_14]) (rest := []) (b_plusX (q1 := Cf a9 + -C0) (q2 := Cf b9 + -C0) rw0 hx_3 hx_13 hCF.m0.1 hCF.m0.2 (hCF.pn ha4) (hCF.pn hb4)) (show (5 : Nat) = fb 0xa00000000000082c950000fc001d0f % 16 by decide) (by show (9 : Nat) ≤ 11; decide) (fun _ => ⟨_, _, rfl, _, shp_at rw0.1, Or.inr (show fb 0xa00000000000082c950000fc001d0f >>> 68 = 10 by decide)⟩) (by omega) (by show 8 + (11 + 11) + 55 ≤ R.locals; omega) (by show (0 : Nat) ≤ 8; decide) (by show kc + 0 ≤ _; omega) (by show ks + 0 ≤ _; omega) (fun r9 hs_21 hpo hr9 => ?_) (fun x9 hs9 hx9 hpo => ?_)
  · obtain rfl : r9 = none := hr9.elim (fun q => q.2) (fun q => absurd rfl q.1)
    obtain ⟨-, t_22, w_23, e_24, e_25, hF_26, fr_27⟩ := hpo
    have rw_28 := rw0.fr fr_27 W0_rw
    have f_29 := hQ.fr (fun j9 _ _ => ⟨fr_27.2.2 144 j9 (by unfold W0; omega), fr_27.2.2 145 j9 (by unfold W0; omega)⟩)
    have fr_30 := (FrS.rf W0 hs).tr fr_27
    show WpN (gp g0 wp) CLS p l e R s m args below meth c Q D_196.2.2.1 kc0 ks0 29 [some (.ref 124), some (.int ai), some (.int bi)] (hs_21, kc, ks) []
    exact g_retV hEnd (gx gp_196 (w := 0x18) rfl (by decide) rfl) ⟨rfl, _, _, e_24, e_25, (by rw [show Cf a9 + -Cf b9 = Cf a9 + -C0 + -(Cf b9 + -C0) by grind]; exact hF_26), fr_30⟩ (by show kc ≤ kc + 0; omega) (by show ks ≤ ks + 0; omega)
  · exact absurd hpo.1 (by omega)

theorem b_targetsX {g0 : GG} {bl : Nat} {xs : Nat → Int32} {l : Launch} {hs : List CE} {tl wl : Nat → Int} {nl n ng nr : Nat} (hNW : NW tl wl nl n ng nr) {L D0 : Nat} {Cf : Nat → Rat} {C0 : Rat} {a : Int32} {r9 : Nat} (ha : a.toInt = (r9 : Int)) (hr : r9 < nr) (hB : BM hs tl wl) (hCF : CF n Cf C0 L D0) (hQ : QRng hs 144 145 0 (n + 1) (fun k9 => Cf k9 + -C0)) : BodyN SSX TBL g0 CLS bl xs l D_280 4 107 0 0 [.ref 124, .int a] hs (POQ hs (TX tl Cf r9)) := by
  intro wp p e R s m args below meth c Q kc0 ks0 kc ks act hf hl hc hsl hEnd
  have hN9 := hNW
  obtain ⟨n0, n1, n2, n3, n4, n5, n6, n7, n8, hG0, nL, nC, nP, nD⟩ := hN9
  have hGn := hG0.1
  have hGn3 := hG0.2.1
  have hGl := hG0.2.2.1
  obtain ⟨rw0, fTo, fW⟩ := hB
  have hr9 := n8 r9 hr
  show WpN (gp g0 wp) CLS p l e R s m args below meth c Q D_280.2.2.1 kc0 ks0 0 [some (.ref 124), some (.int a)] (hs, kc, ks) []
  refine g_loadA act (gx gp_280 (w := 0x103) rfl (by decide) rfl) (a := 0) (n := 1) rfl rfl rfl ?_
  refine g_loadA act (gx gp_280 (w := 0x203) rfl (by decide) rfl) (a := 0) (n := 2) rfl rfl rfl ?_
  refine g_loadI act (gx gp_280 (w := 0x1000302) rfl (by decide) rfl) (a := 1) (n := 3) rfl rfl rfl ?_
  refine g_constI act (gx gp_280 (w := 0x40000001400000011000000000401) rfl (by decide) rfl) (n := 4) (x := (2 : Int32)) (by decide) rfl ?_
  refine n_call tb_pres act hEnd (gx (P := G_call) gp_280 (w := 0xa000000000000c0c3300010900070f) rfl (by decide) rfl) (d' := D_265) rfl (as := [.ref 124, .int a, .int (2 : Int32)]) (rest := [.ref 124]) (b_right rw0 fTo ha (show (2 : Int32).toInt = ((2 : Nat) : Int) from by decide) (by omega) (by omega)) (show (3 : Nat) = fb 0xa000000000000c0c3300010900070f % 16 by decide) (by show (3 : Nat) ≤ 3; decide) (fun _ => ⟨_, _, rfl, _, shp_at rw0.1, Or.inr (show fb 0xa000000000000c0c3300010900070f >>> 68 = 10 by decide)⟩) (by omega) (by show 8 + (3 + 11) + 0 ≤ R.locals; omega) (by show (1 : Nat) ≤ 8; decide) (by show kc + 0 ≤ _; omega) (by show ks + 0 ≤ _; omega) (fun r9 h3 hpo hr9 => ?_) (fun x9 hs9 hx9 hpo => ?_)
  · obtain ⟨-, rfl, x_1, rfl, hx_2⟩ := hpo
    show WpN (gp g0 wp) CLS p l e R s m args below meth c Q D_280.2.2.1 kc0 ks0 7 [some (.ref 124), some (.int a)] (hs, kc, ks) [.int x_1, .ref 124]
    refine g_loadA act (gx gp_280 (w := 0x803) rfl (by decide) rfl) (a := 0) (n := 8) rfl rfl rfl ?_
    refine g_loadI act (gx gp_280 (w := 0x1000902) rfl (by decide) rfl) (a := 1) (n := 9) rfl rfl rfl ?_
    refine g_constI act (gx gp_280 (w := 0x40000000c00000009000000000a01) rfl (by decide) rfl) (n := 10) (x := (1 : Int32)) (by decide) rfl ?_
    refine n_call tb_pres act hEnd (gx (P := G_call) gp_280 (w := 0xa000000000000c0c33000109000d0f) rfl (by decide) rfl) (d' := D_265) rfl (as := [.ref 124, .int a, .int (1 : Int32)]) (rest := [.int x_1, .ref 124]) (b_right rw0 fTo ha (show (1 : Int32).toInt = ((1 : Nat) : Int) from by decide) (by omega) (by omega)) (show (3 : Nat) = fb 0xa000000000000c0c33000109000d0f % 16 by decide) (by show (3 : Nat) ≤ 3; decide) (fun _ => ⟨_, _, rfl, _, shp_at rw0.1, Or.inr (show fb 0xa000000000000c0c33000109000d0f >>> 68 = 10 by decide)⟩) (by omega) (by show 8 + (3 + 11) + 0 ≤ R.locals; omega) (by show (2 : Nat) ≤ 8; decide) (by show kc + 0 ≤ _; omega) (by show ks + 0 ≤ _; omega) (fun r9 h3 hpo hr9 => ?_) (fun x9 hs9 hx9 hpo => ?_)
    · obtain ⟨-, rfl, x_3, rfl, hx_4⟩ := hpo
      show WpN (gp g0 wp) CLS p l e R s m args below meth c Q D_280.2.2.1 kc0 ks0 13 [some (.ref 124), some (.int a)] (hs, kc, ks) [.int x_3, .int x_1, .ref 124]
      refine n_call tb_pres act hEnd (gx (P := G_call) gp_280 (w := 0xa00000000000080c330000c400100f) rfl (by decide) rfl) (d' := D_196) rfl (as := [.ref 124, .int x_1, .int x_3]) (rest := []) (b_dearerX (a9 := (tl (22 + 4 * r9 + 2)).toNat) (b9 := (tl (22 + 4 * r9 + 1)).toNat) (show _ = (((tl (22 + 4 * r9 + 2)).toNat : Nat) : Int) by have q9 := hx_2; omega) (show _ = (((tl (22 + 4 * r9 + 1)).toNat : Nat) : Int) by have q9 := hx_4; omega) (by omega) (by omega) (by omega) rw0 hCF hQ) (show (3 : Nat) = fb 0xa00000000000080c330000c400100f % 16 by decide) (by show (3 : Nat) ≤ 3; decide) (fun _ => ⟨_, _, rfl, _, shp_at rw0.1, Or.inr (show fb 0xa00000000000080c330000c400100f >>> 68 = 10 by decide)⟩) (by omega) (by show 8 + (3 + 11) + 85 ≤ R.locals; omega) (by show (0 : Nat) ≤ 8; decide) (by show kc + 0 ≤ _; omega) (by show ks + 0 ≤ _; omega) (fun r9 hs_5 hpo hr9 => ?_) (fun x9 hs9 hx9 hpo => ?_)
      · obtain rfl : r9 = none := hr9.elim (fun q => q.2) (fun q => absurd rfl q.1)
        obtain ⟨-, t_6, w_7, e_8, e_9, hF_10, fr_11⟩ := hpo
        have rw_12 := rw0.fr fr_11 W0_rw
        have f_13 := fTo.fr (fun j9 _ => fr_11.2.2 125 j9 (by unfold W0; omega))
        have f_14 := fW.fr (fun j9 _ => fr_11.2.2 127 j9 (by unfold W0; omega))
        have f_15 := hQ.fr (fun j9 _ _ => ⟨fr_11.2.2 144 j9 (by unfold W0; omega), fr_11.2.2 145 j9 (by unfold W0; omega)⟩)
        have fr_16 := (FrS.rf W0 hs).tr fr_11
        show WpN (gp g0 wp) CLS p l e R s m args below meth c Q D_280.2.2.1 kc0 ks0 16 [some (.ref 124), some (.int a)] (hs_5, kc, ks) []
        refine g_loadA act (gx gp_280 (w := 0x1103) rfl (by decide) rfl) (a := 0) (n := 17) rfl rfl rfl ?_
        refine g_loadA act (gx gp_280 (w := 0x1203) rfl (by decide) rfl) (a := 0) (n := 18) rfl rfl rfl ?_
        refine r_getf act (gx gp_280 (w := 0x20001c9001504) rfl (by decide) rfl) (n := 21) (ci := 9) (j := 7) (N := 39) rfl rfl rfl rw_12.1 (by decide) (v := .long t_6) e_8 ?_
        refine g_loadA act (gx gp_280 (w := 0x1603) rfl (by decide) rfl) (a := 0) (n := 22) rfl rfl rfl ?_
        refine r_getf act (gx gp_280 (w := 0x2000209001904) rfl (by decide) rfl) (n := 25) (ci := 9) (j := 8) (N := 39) rfl rfl rfl rw_12.1 (by decide) (v := .long w_7) e_9 ?_
        refine g_loadA act (gx gp_280 (w := 0x1a03) rfl (by decide) rfl) (a := 0) (n := 26) rfl rfl rfl ?_
        refine g_loadI act (gx gp_280 (w := 0x1001b02) rfl (by decide) rfl) (a := 1) (n := 27) rfl rfl rfl ?_
        refine g_constI act (gx gp_280 (w := 0x40000001c00000019000000001c01) rfl (by decide) rfl) (n := 28) (x := (3 : Int32)) (by decide) rfl ?_
        refine n_call tb_pres act hEnd (gx (P := G_call) gp_280 (w := 0xa000000000000c0c33000109001f0f) rfl (by decide) rfl) (d' := D_265) rfl (as := [.ref 124, .int a, .int (3 : Int32)]) (rest := [.long w_7, .long t_6, .ref 124]) (b_right rw_12 f_13 ha (show (3 : Int32).toInt = ((3 : Nat) : Int) from by decide) (by omega) (by omega)) (show (3 : Nat) = fb 0xa000000000000c0c33000109001f0f % 16 by decide) (by show (3 : Nat) ≤ 3; decide) (fun _ => ⟨_, _, rfl, _, shp_at rw_12.1, Or.inr (show fb 0xa000000000000c0c33000109001f0f >>> 68 = 10 by decide)⟩) (by omega) (by show 8 + (3 + 11) + 0 ≤ R.locals; omega) (by show (5 : Nat) ≤ 8; decide) (by show kc + 0 ≤ _; omega) (by show ks + 0 ≤ _; omega) (fun r9 h3 hpo hr9 => ?_) (fun x9 hs9 hx9 hpo => ?_)
        · obtain ⟨-, rfl, x_17, rfl, hx_18⟩ := hpo
          show WpN (gp g0 wp) CLS p l e R s m args below meth c Q D_280.2.2.1 kc0 ks0 31 [some (.ref 124), some (.int a)] (hs_5, kc, ks) [.int x_17, .long w_7, .long t_6, .ref 124]
          refine g_i2l act (gx gp_280 (w := 0x202c) rfl (by decide) rfl) (n := 32) rfl ?_
          have v_19 := lw_i2l hx_18
          refine g_constL act (gx gp_280 (w := 0x4000000000000000a000000002101) rfl (by decide) rfl) (n := 33) (x := 1) (by decide) rfl ?_
          refine n_call tb_pres act hEnd (gx (P := G_call) gp_280 (w := 0xa0000000000008349500011a00240f) rfl (by decide) rfl) (d' := D_282) rfl (as := [.ref 124, .long t_6, .long w_7, .long (x_17).toInt64, .long (1 : Int64)]) (rest := []) (b_timesZ (M := L) (z := (tl (22 + 4 * r9 + 3))) rw_12 hF_10 v_19 hCF.1 (by have q9 := hCF.2.1; omega) (by obtain ⟨N9, e9, b9⟩ := hCF.dn (k := (tl (22 + 4 * r9 + 2)).toNat) (j := (tl (22 + 4 * r9 + 1)).toNat) (by omega) (by omega); exact ⟨N9, e9, by omega⟩) (by omega) (by omega)) (show (5 : Nat) = fb 0xa0000000000008349500011a00240f % 16 by decide) (by show (9 : Nat) ≤ 13; decide) (fun _ => ⟨_, _, rfl, _, shp_at rw_12.1, Or.inr (show fb 0xa0000000000008349500011a00240f >>> 68 = 10 by decide)⟩) (by omega) (by show 8 + (13 + 11) + 55 ≤ R.locals; omega) (by show (0 : Nat) ≤ 8; decide) (by show kc + 0 ≤ _; omega) (by show ks + 0 ≤ _; omega) (fun r9 hs_20 hpo hr9 => ?_) (fun x9 hs9 hx9 hpo => ?_)
          · obtain rfl : r9 = none := hr9.elim (fun q => q.2) (fun q => absurd rfl q.1)
            obtain ⟨-, t_21, w_22, e_23, e_24, hF_25, fr_26⟩ := hpo
            have rw_27 := rw_12.fr fr_26 W0_rw
            have f_28 := f_13.fr (fun j9 _ => fr_26.2.2 125 j9 (by unfold W0; omega))
            have f_29 := f_14.fr (fun j9 _ => fr_26.2.2 127 j9 (by unfold W0; omega))
            have f_30 := f_15.fr (fun j9 _ _ => ⟨fr_26.2.2 144 j9 (by unfold W0; omega), fr_26.2.2 145 j9 (by unfold W0; omega)⟩)
            have fr_31 := fr_16.tr fr_26
            clear rw_12 f_13 f_14 f_15 e_8 e_9 fr_16
            show WpN (gp g0 wp) CLS p l e R s m args below meth c Q D_280.2.2.1 kc0 ks0 36 [some (.ref 124), some (.int a)] (hs_20, kc, ks) []
            exact g_retV hEnd (gx gp_280 (w := 0x18) rfl (by decide) rfl) ⟨rfl, _, _, e_23, e_24, hF_25, fr_31⟩ (by show kc ≤ kc + 0; omega) (by show ks ≤ ks + 0; omega)
          · exact absurd hpo.1 (by omega)
        · exact absurd hpo.1 (by omega)
      · exact absurd hpo.1 (by omega)
    · exact absurd hpo.1 (by omega)
  · exact absurd hpo.1 (by omega)

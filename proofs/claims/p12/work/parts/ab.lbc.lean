/-! The class's loadBits. -/
theorem rg7 {R : List Nat} {hs : List CE} (hT : HTy KC R hs) : ∃ (x0 : Int32) (x1 : Int32) (x2 : Int32) (x3 : Int32) (x4 : Int64) (x5 : Int32) (x6 : Int32), (rd hs 54 0 = .int x0 ∧ 0 ≤ x0.toInt ∧ x0.toInt ≤ 700) ∧ (rd hs 54 6 = .int x1 ∧ 0 ≤ x1.toInt ∧ x1.toInt ≤ 700) ∧ (rd hs 54 8 = .int x2 ∧ 0 ≤ x2.toInt ∧ x2.toInt ≤ 700) ∧ (rd hs 54 9 = .int x3 ∧ 0 ≤ x3.toInt ∧ x3.toInt ≤ 700) ∧ (rd hs 77 1 = .long x4 ∧ -9223372036854775808 ≤ x4.toInt ∧ x4.toInt ≤ 9223372036854775807) ∧ (rd hs 77 3 = .int x5 ∧ 0 ≤ x5.toInt ∧ x5.toInt ≤ 36) ∧ (rd hs 54 7 = .int x6 ∧ 0 ≤ x6.toInt ∧ x6.toInt ≤ 4) := by
  obtain ⟨-, w0, -⟩ := hT.2.2 (6, 54, 0) (by decide)
  obtain ⟨x0, e0, a0, b0⟩ := ty_int (lo := 0) (hi := 700) (j := 0) hT w0 (by decide) (by decide) (Or.inl rfl) rfl
  obtain ⟨-, w1, -⟩ := hT.2.2 (6, 54, 6) (by decide)
  obtain ⟨x1, e1, a1, b1⟩ := ty_int (lo := 0) (hi := 700) (j := 6) hT w1 (by decide) (by decide) (Or.inl rfl) rfl
  obtain ⟨-, w2, -⟩ := hT.2.2 (6, 54, 8) (by decide)
  obtain ⟨x2, e2, a2, b2⟩ := ty_int (lo := 0) (hi := 700) (j := 8) hT w2 (by decide) (by decide) (Or.inl rfl) rfl
  obtain ⟨-, w3, -⟩ := hT.2.2 (6, 54, 9) (by decide)
  obtain ⟨x3, e3, a3, b3⟩ := ty_int (lo := 0) (hi := 700) (j := 9) hT w3 (by decide) (by decide) (Or.inl rfl) rfl
  obtain ⟨-, w4, -⟩ := hT.2.2 (8, 77, 1) (by decide)
  obtain ⟨x4, e4, a4, b4, -⟩ := vt_l ((hT.2.1 77 8 w4 (by decide)).2 1 (by decide)) rfl
  obtain ⟨-, w5, -⟩ := hT.2.2 (8, 77, 3) (by decide)
  obtain ⟨x5, e5, a5, b5⟩ := ty_int (lo := 0) (hi := 36) (j := 3) hT w5 (by decide) (by decide) (Or.inl rfl) rfl
  obtain ⟨-, w6, -⟩ := hT.2.2 (6, 54, 7) (by decide)
  obtain ⟨x6, e6, a6, b6⟩ := ty_int (lo := 0) (hi := 4) (j := 7) hT w6 (by decide) (by decide) (Or.inl rfl) rfl
  exact ⟨x0, x1, x2, x3, x4, x5, x6, ⟨e0, a0, b0⟩, ⟨e1, a1, b1⟩, ⟨e2, a2, b2⟩, ⟨e3, a3, b3⟩, ⟨e4, a4, b4⟩, ⟨e5, a5, b5⟩, ⟨e6, a6, b6⟩⟩

theorem ldn1 {t w : Int64} (hw : t.toInt ≠ 0 ∨ w.toInt ≠ 0) : FP.Core.val32 (FP.fdiv (FP.l2f t) (FP.l2f w)) ≠ .nan := by
  obtain ⟨s, c, q, e, h1⟩ := l2f_c t
  obtain ⟨s2, d, r, e2, h2⟩ := l2f_c w
  rw [show FP.fdiv (FP.l2f t) (FP.l2f w) = FP.Core.fdiv (FP.l2f t) (FP.l2f w) from rfl, FP.Core.val32_fdiv, e, e2]
  exact quo_nn2 (hw.imp h1 h2)
theorem ldn2 {x : UInt32} (hx : FP.Core.val32 x ≠ .nan) {z : Int32} (hz : z.toInt ≠ 0) : FP.Core.val32 (FP.fdiv x (FP.i2f z)) ≠ .nan := by
  obtain ⟨s2, d, r, e2, h2⟩ := i2f_c z
  rw [show FP.fdiv x (FP.i2f z) = FP.Core.fdiv x (FP.i2f z) from rfl, FP.Core.val32_fdiv, e2]
  exact quo_nn hx (h2 hz)
theorem kd_hx {kp kg : Nat} {n9 : Int32} {R0 R : List Nat} {hs0 hs : List CE} (h : HX KD (InvF kp kg n9) R0 hs0 R hs) : HX KC InvC R0 hs0 R hs := ⟨kd_hty.mp h.1, h.2.1, h.2.2.1, h.2.2.2.1⟩
/-- registers end as they may -/
theorem po40_0 {R R' : List Nat} {hs h2 : List CE} {σ : Nat → Int} {x : Int32} (hE : EM ch_40.2.1.1 σ) (hX : HX KC InvC R hs R' h2) (hl : h2.length ≤ hs.length + 80) : PO9 KC InvC ch_40 R hs σ 0 (some (.int x)) h2 := by
  obtain ⟨y0, y1, y2, y3, y4, y5, y6, ⟨e0, a0, b0⟩, ⟨e1, a1, b1⟩, ⟨e2, a2, b2⟩, ⟨e3, a3, b3⟩, ⟨e4, a4, b4⟩, ⟨e5, a5, b5⟩, ⟨e6, a6, b6⟩⟩ := rg7 hX.1
  refine ⟨R', (fun s => if s < 9 then σ s else match s with | 9 => x.toInt | 10 => y0.toInt | 11 => y1.toInt | 12 => y2.toInt | 13 => y3.toInt | 14 => y4.toInt | 15 => y5.toInt | 16 => y6.toInt | _ => 0), _, List.mem_cons_self, rfl, hX, hl, fun s h => if_pos h, rfl, fun s hs9 => ?_, ⟨.int x, [], rfl, Or.inr (Or.inl ⟨rfl, x, rfl, by decide, (Int.add_zero _).symm⟩), rfl⟩, fun i q a hi ha => ?_⟩
  · match s, hs9 with
    | 0, _ => exact hE 0 (by decide)
    | 1, _ => exact hE 1 (by decide)
    | 2, _ => exact hE 2 (by decide)
    | 3, _ => exact hE 3 (by decide)
    | 4, _ => exact hE 4 (by decide)
    | 5, _ => exact hE 5 (by decide)
    | 6, _ => exact hE 6 (by decide)
    | 7, _ => exact hE 7 (by decide)
    | 8, _ => exact hE 8 (by decide)
    | 9, _ => exact ⟨(i_rng x).1, by have := (i_rng x).2; show x.toInt ≤ (2147483647 : Int); omega, fun h => by cases h⟩
    | 10, _ => exact ⟨a0, b0, fun h => by cases h⟩
    | 11, _ => exact ⟨a1, b1, fun h => by cases h⟩
    | 12, _ => exact ⟨a2, b2, fun h => by cases h⟩
    | 13, _ => exact ⟨a3, b3, fun h => by cases h⟩
    | 14, _ => exact ⟨a4, b4, fun h => by cases h⟩
    | 15, _ => exact ⟨a5, b5, fun h => by cases h⟩
    | 16, _ => exact ⟨a6, b6, fun h => by cases h⟩
    | s + 17, h => exact absurd h (by show ¬ (s + 17 < 17); omega)
  · match i, hi, ha with
    | 0, hi, ha => cases hi; cases ha; show VM _ _ _ _ _ _ _ (rd _ 54 0); rw [e0]; exact Or.inr (Or.inl ⟨rfl, _, rfl, by decide, (Int.add_zero _).symm⟩)
    | 1, hi, ha => cases hi; cases ha; show VM _ _ _ _ _ _ _ (rd _ 54 6); rw [e1]; exact Or.inr (Or.inl ⟨rfl, _, rfl, by decide, (Int.add_zero _).symm⟩)
    | 2, hi, ha => cases hi; cases ha; show VM _ _ _ _ _ _ _ (rd _ 54 8); rw [e2]; exact Or.inr (Or.inl ⟨rfl, _, rfl, by decide, (Int.add_zero _).symm⟩)
    | 3, hi, ha => cases hi; cases ha; show VM _ _ _ _ _ _ _ (rd _ 54 9); rw [e3]; exact Or.inr (Or.inl ⟨rfl, _, rfl, by decide, (Int.add_zero _).symm⟩)
    | 4, hi, ha => cases hi; cases ha; show VM _ _ _ _ _ _ _ (rd _ 77 1); rw [e4]; exact Or.inr (Or.inr (Or.inl ⟨rfl, _, rfl, by decide, rfl⟩))
    | 5, hi, ha => cases hi; cases ha; show VM _ _ _ _ _ _ _ (rd _ 77 3); rw [e5]; exact Or.inr (Or.inl ⟨rfl, _, rfl, by decide, (Int.add_zero _).symm⟩)
    | 6, hi, ha => cases hi; cases ha; show VM _ _ _ _ _ _ _ (rd _ 54 7); rw [e6]; exact Or.inr (Or.inl ⟨rfl, _, rfl, by decide, (Int.add_zero _).symm⟩)
    | i + 7, hi, _ => cases hi

theorem po40_1 {R R' : List Nat} {hs h2 : List CE} {σ : Nat → Int} (hE : EM ch_40.2.1.1 σ) (hX : HX KC InvC R hs R' h2) (hl : h2.length ≤ hs.length + 80) : PO9 KC InvC ch_40 R hs σ 1 none h2 := by
  obtain ⟨y0, y1, y2, y3, y4, y5, y6, ⟨e0, a0, b0⟩, ⟨e1, a1, b1⟩, ⟨e2, a2, b2⟩, ⟨e3, a3, b3⟩, ⟨e4, a4, b4⟩, ⟨e5, a5, b5⟩, ⟨e6, a6, b6⟩⟩ := rg7 hX.1
  refine ⟨R', (fun s => if s < 9 then σ s else match s with | 9 => y0.toInt | 10 => y1.toInt | 11 => y2.toInt | 12 => y3.toInt | 13 => y4.toInt | 14 => y5.toInt | 15 => y6.toInt | _ => 0), _, List.mem_cons_of_mem _ List.mem_cons_self, rfl, hX, hl, fun s h => if_pos h, rfl, fun s hs9 => ?_, rfl, fun i q a hi ha => ?_⟩
  · match s, hs9 with
    | 0, _ => exact hE 0 (by decide)
    | 1, _ => exact hE 1 (by decide)
    | 2, _ => exact hE 2 (by decide)
    | 3, _ => exact hE 3 (by decide)
    | 4, _ => exact hE 4 (by decide)
    | 5, _ => exact hE 5 (by decide)
    | 6, _ => exact hE 6 (by decide)
    | 7, _ => exact hE 7 (by decide)
    | 8, _ => exact hE 8 (by decide)
    | 9, _ => exact ⟨a0, b0, fun h => by cases h⟩
    | 10, _ => exact ⟨a1, b1, fun h => by cases h⟩
    | 11, _ => exact ⟨a2, b2, fun h => by cases h⟩
    | 12, _ => exact ⟨a3, b3, fun h => by cases h⟩
    | 13, _ => exact ⟨a4, b4, fun h => by cases h⟩
    | 14, _ => exact ⟨a5, b5, fun h => by cases h⟩
    | 15, _ => exact ⟨a6, b6, fun h => by cases h⟩
    | s + 16, h => exact absurd h (by show ¬ (s + 16 < 16); omega)
  · match i, hi, ha with
    | 0, hi, ha => cases hi; cases ha; show VM _ _ _ _ _ _ _ (rd _ 54 0); rw [e0]; exact Or.inr (Or.inl ⟨rfl, _, rfl, by decide, (Int.add_zero _).symm⟩)
    | 1, hi, ha => cases hi; cases ha; show VM _ _ _ _ _ _ _ (rd _ 54 6); rw [e1]; exact Or.inr (Or.inl ⟨rfl, _, rfl, by decide, (Int.add_zero _).symm⟩)
    | 2, hi, ha => cases hi; cases ha; show VM _ _ _ _ _ _ _ (rd _ 54 8); rw [e2]; exact Or.inr (Or.inl ⟨rfl, _, rfl, by decide, (Int.add_zero _).symm⟩)
    | 3, hi, ha => cases hi; cases ha; show VM _ _ _ _ _ _ _ (rd _ 54 9); rw [e3]; exact Or.inr (Or.inl ⟨rfl, _, rfl, by decide, (Int.add_zero _).symm⟩)
    | 4, hi, ha => cases hi; cases ha; show VM _ _ _ _ _ _ _ (rd _ 77 1); rw [e4]; exact Or.inr (Or.inr (Or.inl ⟨rfl, _, rfl, by decide, rfl⟩))
    | 5, hi, ha => cases hi; cases ha; show VM _ _ _ _ _ _ _ (rd _ 77 3); rw [e5]; exact Or.inr (Or.inl ⟨rfl, _, rfl, by decide, (Int.add_zero _).symm⟩)
    | 6, hi, ha => cases hi; cases ha; show VM _ _ _ _ _ _ _ (rd _ 54 7); rw [e6]; exact Or.inr (Or.inl ⟨rfl, _, rfl, by decide, (Int.add_zero _).symm⟩)
    | i + 7, hi, _ => cases hi

theorem po40_2 {R R' : List Nat} {hs h2 : List CE} {σ : Nat → Int} (hE : EM ch_40.2.1.1 σ) (hX : HX KC InvC R hs R' h2) (hl : h2.length ≤ hs.length + 80) : PO9 KC InvC ch_40 R hs σ 2 none h2 := by
  obtain ⟨y0, y1, y2, y3, y4, y5, y6, ⟨e0, a0, b0⟩, ⟨e1, a1, b1⟩, ⟨e2, a2, b2⟩, ⟨e3, a3, b3⟩, ⟨e4, a4, b4⟩, ⟨e5, a5, b5⟩, ⟨e6, a6, b6⟩⟩ := rg7 hX.1
  refine ⟨R', (fun s => if s < 9 then σ s else match s with | 9 => y0.toInt | 10 => y1.toInt | 11 => y2.toInt | 12 => y3.toInt | 13 => y4.toInt | 14 => y5.toInt | 15 => y6.toInt | _ => 0), _, List.mem_cons_of_mem _ (List.mem_cons_of_mem _ List.mem_cons_self), rfl, hX, hl, fun s h => if_pos h, rfl, fun s hs9 => ?_, rfl, fun i q a hi ha => ?_⟩
  · match s, hs9 with
    | 0, _ => exact hE 0 (by decide)
    | 1, _ => exact hE 1 (by decide)
    | 2, _ => exact hE 2 (by decide)
    | 3, _ => exact hE 3 (by decide)
    | 4, _ => exact hE 4 (by decide)
    | 5, _ => exact hE 5 (by decide)
    | 6, _ => exact hE 6 (by decide)
    | 7, _ => exact hE 7 (by decide)
    | 8, _ => exact hE 8 (by decide)
    | 9, _ => exact ⟨a0, b0, fun h => by cases h⟩
    | 10, _ => exact ⟨a1, b1, fun h => by cases h⟩
    | 11, _ => exact ⟨a2, b2, fun h => by cases h⟩
    | 12, _ => exact ⟨a3, b3, fun h => by cases h⟩
    | 13, _ => exact ⟨a4, b4, fun h => by cases h⟩
    | 14, _ => exact ⟨a5, b5, fun h => by cases h⟩
    | 15, _ => exact ⟨a6, b6, fun h => by cases h⟩
    | s + 16, h => exact absurd h (by show ¬ (s + 16 < 16); omega)
  · match i, hi, ha with
    | 0, hi, ha => cases hi; cases ha; show VM _ _ _ _ _ _ _ (rd _ 54 0); rw [e0]; exact Or.inr (Or.inl ⟨rfl, _, rfl, by decide, (Int.add_zero _).symm⟩)
    | 1, hi, ha => cases hi; cases ha; show VM _ _ _ _ _ _ _ (rd _ 54 6); rw [e1]; exact Or.inr (Or.inl ⟨rfl, _, rfl, by decide, (Int.add_zero _).symm⟩)
    | 2, hi, ha => cases hi; cases ha; show VM _ _ _ _ _ _ _ (rd _ 54 8); rw [e2]; exact Or.inr (Or.inl ⟨rfl, _, rfl, by decide, (Int.add_zero _).symm⟩)
    | 3, hi, ha => cases hi; cases ha; show VM _ _ _ _ _ _ _ (rd _ 54 9); rw [e3]; exact Or.inr (Or.inl ⟨rfl, _, rfl, by decide, (Int.add_zero _).symm⟩)
    | 4, hi, ha => cases hi; cases ha; show VM _ _ _ _ _ _ _ (rd _ 77 1); rw [e4]; exact Or.inr (Or.inr (Or.inl ⟨rfl, _, rfl, by decide, rfl⟩))
    | 5, hi, ha => cases hi; cases ha; show VM _ _ _ _ _ _ _ (rd _ 77 3); rw [e5]; exact Or.inr (Or.inl ⟨rfl, _, rfl, by decide, (Int.add_zero _).symm⟩)
    | 6, hi, ha => cases hi; cases ha; show VM _ _ _ _ _ _ _ (rd _ 54 7); rw [e6]; exact Or.inr (Or.inl ⟨rfl, _, rfl, by decide, (Int.add_zero _).symm⟩)
    | i + 7, hi, _ => cases hi

theorem b_chkJ {g0 : GG} {bl : Nat} {xs : Nat → Int32} {l : Launch} {hs : List CE} {i n9 : Int32} {kp kg : Nat} (hk : shp hs kp = some (0, 7)) (e1 : rd hs kp 6 = .ref kg) (hk2 : shp hs kg = some (4, 18)) (e2 : rd hs kg 1 = .int n9) : BodyN SSX TBL g0 CLS bl xs l D_9 9 141 1 11 [.ref kp, .int i] hs (fun kd r h2 => hs = h2 ∧ ((kd = 0 ∧ 0 ≤ i.toInt ∧ i.toInt < n9.toInt) ∨ kd = 2)) := by
  intro wp p e R s m args below meth c Q kc0 ks0 kc ks act hf hl hc hsl hEnd
  have hf : 9 ≤ R.frames := hf
  have hl : 141 ≤ R.locals := hl
  show WpN (gp g0 wp) CLS p l e R s m args below meth c Q D_9.2.2.1 kc0 ks0 0 [some (.ref kp), some (.int i)] (hs, kc, ks) []
  refine g_loadI act (gx gp_9 (w := 0x1000102) rfl (by decide) rfl) (a := 1) (n := 1) rfl rfl rfl ?_
  refine g_loadA act (gx gp_9 (w := 0x203) rfl (by decide) rfl) (a := 0) (n := 2) rfl rfl rfl ?_
  refine r_getf act (gx gp_9 (w := 0x3000180000504) rfl (by decide) rfl) (n := 5) (ci := 0) (j := 6) (N := 7) rfl rfl rfl hk (by decide) (v := .ref kg) e1 ?_
  refine r_getf act (gx gp_9 (w := 0x44000804) rfl (by decide) rfl) (n := 8) (ci := 4) (j := 1) (N := 18) rfl rfl rfl hk2 (by decide) (v := .int n9) e2 ?_
  refine n_call tb_pres act hEnd (gx (P := G_call) gp_9 (w := 0x822000008000b0f) rfl (by decide) rfl) (d' := D_8) rfl (as := [.int i, .int n9]) (rest := []) b_chkI (show (2 : Nat) = fb 0x822000008000b0f % 16 by decide) (by show (2 : Nat) ≤ 2; decide) (fun q => absurd q (by decide)) (by omega) (by show 8 + (2 + 11) + 120 ≤ R.locals; omega) (by show (0 : Nat) ≤ 8; decide) (by show kc + 1 ≤ _; omega) (by show ks + 11 ≤ _; omega) (fun r9 hs9 hpo hr9 => ?_) (fun x9 hs9 hx9 hpo => ?_)
  · obtain rfl : r9 = none := hr9.elim (fun q => q.2) (fun q => absurd rfl q.1)
    obtain ⟨rfl, hq⟩ := hpo
    obtain ⟨-, q1, q2⟩ := hq.resolve_right (by decide)
    show WpN (gp g0 wp) CLS p l e R s m args below meth c Q D_9.2.2.1 kc0 ks0 11 [some (.ref kp), some (.int i)] (hs, kc + 1, ks + 11) []
    exact g_retV hEnd (gx gp_9 (w := 0x18) rfl (by decide) rfl) ⟨rfl, Or.inl ⟨rfl, q1, q2⟩⟩ (by show kc + 1 ≤ kc + 1; omega) (by show ks + 11 ≤ ks + 11; omega)
  · obtain ⟨rfl, hq⟩ := hpo
    refine Or.inr ⟨rfl, ⟨rfl, Or.inr (by omega)⟩, by show kc + 1 ≤ kc + 1; omega, by show ks + 11 ≤ ks + 11; omega⟩

theorem sh_40 : SemC KC InvC ch_40 := by
  refine ⟨D_40, rfl, rfl, fun g0 bl xs l hs R0 σ as hTY hT hInv hlen hE hA hRg => ?_⟩
  obtain ⟨v0, S0, rfl, m0, v1, S1, rfl, m1, v2, S2, rfl, m2, hz⟩ := hA
  have hz : S2 = [] := hz
  subst hz
  obtain ⟨kp, rfl, hkp, -⟩ := (m0.rf3 rfl).one rfl
  have hkp : R0[kp]? = some 1 := hkp
  obtain ⟨i, rfl, -, ei⟩ := m1.int rfl
  obtain ⟨j, rfl, -, ej⟩ := m2.int rfl
  obtain ⟨kg, e_kg, r_kg⟩ := ty_ref (r2 := 5) (j := 6) hT hkp (by decide) (by decide) (Or.inl rfl) rfl (by decide)
  obtain ⟨ni, e_ni, ni0, ni4⟩ := ty_int (lo := 0) (hi := 4) (j := 1) hT r_kg (by decide) (by decide) (Or.inl rfl) rfl
  obtain ⟨n9, kl0, en, el, rkl0, n6, hge0⟩ := hInv.1 kg r_kg
  have hlen : hs.length + 80 ≤ 6999999999999 := hlen
  have X0 : HX KC InvC R0 hs R0 hs := ⟨hT, fun _ _ h => h, fun _ _ _ _ => rfl, hInv⟩
  have hF : InvF kp kg n9 R0 hs := ⟨hInv, hkp, r_kg, e_kg, en⟩
  obtain ⟨d26, hd26, -, hb26⟩ := sd26_0 (handsB_KD (invF_KD kp kg n9))
  obtain rfl : D_26 = d26 := Option.some.inj ((show mdx 26 = some D_26 from rfl).symm.trans hd26)
  obtain ⟨d29, hd29, -, hb29⟩ := sd29_0 (handsB_KD (invF_KD kp kg n9))
  obtain rfl : D_29 = d29 := Option.some.inj ((show mdx 29 = some D_29 from rfl).symm.trans hd29)
  obtain ⟨d79a, hd79a, -, hb79a⟩ := sd79_0 (handsB_KD (invF_KD kp kg n9))
  obtain rfl : D_79 = d79a := Option.some.inj ((show mdx 79 = some D_79 from rfl).symm.trans hd79a)
  obtain ⟨d79b, hd79b, -, hb79b⟩ := sd79_1 (handsB_KD (invF_KD kp kg n9))
  obtain rfl : D_79 = d79b := Option.some.inj ((show mdx 79 = some D_79 from rfl).symm.trans hd79b)
  intro wp p e R s m args below meth c Q kc0 ks0 kc ks act hf hl hc hsl hEnd
  have hf : 11 ≤ R.frames := hf
  have hl : 240 ≤ R.locals := hl
  have hc : kc + 80 ≤ R.cells + kc0 := hc
  have hsl : ks + 11 * 80 ≤ R.slots + ks0 := hsl
  have hTY : TYg (gp g0 wp) := hTY
  show WpN (gp g0 wp) CLS p l e R s m args below meth c Q D_40.2.2.1 kc0 ks0 0 [some (.ref kp), some (.int i), some (.int j), none] (hs, kc, ks) []
  refine g_loadA act (gx gp_40 (w := 0x103) rfl (by decide) rfl) (a := 0) (n := 1) rfl rfl rfl ?_
  refine g_loadI act (gx gp_40 (w := 0x1000202) rfl (by decide) rfl) (a := 1) (n := 2) rfl rfl rfl ?_
  refine n_call tb_pres act hEnd (gx (P := G_call) gp_40 (w := 0x10000000000008082200000900050f) rfl (by decide) rfl) (d' := D_9) rfl (as := [.ref kp, .int i]) (rest := []) (b_chkJ (kg := kg) (n9 := ni) (ty_shp hT hkp (by decide) rfl rfl) e_kg (ty_shp hT r_kg (by decide) rfl rfl) e_ni) (show (2 : Nat) = fb 0x10000000000008082200000900050f % 16 by decide) (by show (2 : Nat) ≤ 2; decide) (fun _ => ⟨_, _, rfl, _, shp_at (ty_shp hT hkp (by decide) (a := 0) (b := 7) rfl rfl), Or.inr (show fb 0x10000000000008082200000900050f >>> 68 = 1 by decide)⟩) (by omega) (by show 8 + (2 + 11) + 141 ≤ R.locals; omega) (by show (0 : Nat) ≤ 8; decide) (by show kc + 1 ≤ _; omega) (by show ks + 11 ≤ _; omega) (fun r9 hs9 hpo hr9 => ?_) (fun x9 hs9 hx9 hpo => ?_)
  · obtain rfl : r9 = none := hr9.elim (fun q => q.2) (fun q => absurd rfl q.1)
    obtain ⟨rfl, hq⟩ := hpo
    obtain ⟨-, p1, p2⟩ := hq.resolve_right (by decide)
    show WpN (gp g0 wp) CLS p l e R s m args below meth c Q D_40.2.2.1 kc0 ks0 5 [some (.ref kp), some (.int i), some (.int j), none] (hs, kc + 1, ks + 11) []
    refine g_loadA act (gx gp_40 (w := 0x603) rfl (by decide) rfl) (a := 0) (n := 6) rfl rfl rfl ?_
    refine g_loadI act (gx gp_40 (w := 0x2000702) rfl (by decide) rfl) (a := 2) (n := 7) rfl rfl rfl ?_
    refine n_call tb_pres act hEnd (gx (P := G_call) gp_40 (w := 0x10000000000008082200000a000a0f) rfl (by decide) rfl) (d' := D_10) rfl (as := [.ref kp, .int j]) (rest := []) (b_chkL (kg := kg) (n9 := n9) (ty_shp hT hkp (by decide) rfl rfl) e_kg (ty_shp hT r_kg (by decide) rfl rfl) en) (show (2 : Nat) = fb 0x10000000000008082200000a000a0f % 16 by decide) (by show (2 : Nat) ≤ 2; decide) (fun _ => ⟨_, _, rfl, _, shp_at (ty_shp hT hkp (by decide) (a := 0) (b := 7) rfl rfl), Or.inr (show fb 0x10000000000008082200000a000a0f >>> 68 = 1 by decide)⟩) (by omega) (by show 8 + (2 + 11) + 141 ≤ R.locals; omega) (by show (0 : Nat) ≤ 8; decide) (by show kc + 1 + 1 ≤ _; omega) (by show ks + 11 + 11 ≤ _; omega) (fun r9 hs9 hpo hr9 => ?_) (fun x9 hs9 hx9 hpo => ?_)
    · obtain rfl : r9 = none := hr9.elim (fun q => q.2) (fun q => absurd rfl q.1)
      obtain ⟨rfl, hq⟩ := hpo
      obtain ⟨-, q1, q2⟩ := hq.resolve_right (by decide)
      show WpN (gp g0 wp) CLS p l e R s m args below meth c Q D_40.2.2.1 kc0 ks0 10 [some (.ref kp), some (.int i), some (.int j), none] (hs, kc + 1 + 1, ks + 11 + 11) []
      refine g_loadA act (gx gp_40 (w := 0xb03) rfl (by decide) rfl) (a := 0) (n := 11) rfl rfl rfl ?_
      refine g_loadA act (gx gp_40 (w := 0xc03) rfl (by decide) rfl) (a := 0) (n := 12) rfl rfl rfl ?_
      refine g_loadI act (gx gp_40 (w := 0x1000d02) rfl (by decide) rfl) (a := 1) (n := 13) rfl rfl rfl ?_
      have FD : BodyN SSX TBL (gp g0 wp) CLS bl xs l D_26 8 190 13 143 [.ref kp, .int i] hs (fun kd r h2 => (kd = 0 ∧ ∃ (R' : List Nat) (k1 : Nat), HX KD (InvF kp kg n9) R0 hs R' h2 ∧ h2.length ≤ hs.length + 13 ∧ r = some (.ref k1) ∧ R'[k1]? = some 4) ∨ (kd = 1 ∧ ∃ R' : List Nat, HX KD (InvF kp kg n9) R0 hs R' h2 ∧ h2.length ≤ hs.length + 13)) := by
        obtain ⟨y0, y1, y2, y3, y4, y5, y6, ⟨e0, a0, b0⟩, ⟨e1, a1, b1⟩, ⟨e2, a2, b2⟩, ⟨e3, a3, b3⟩, ⟨e4, a4, b4⟩, ⟨e5, a5, b5⟩, ⟨e6, a6, b6⟩⟩ := rg7 hT
        refine BodyN.imp (hb26 (gp g0 wp) bl xs l hs R0 (fun s => match s with | 0 => i.toInt | 1 => y0.toInt | 2 => y1.toInt | 3 => y2.toInt | 4 => y3.toInt | 5 => y4.toInt | 6 => y5.toInt | 7 => y6.toInt | _ => 0) [.ref kp, .int i] hTY (kd_hty.mpr hT) hF (by show hs.length + 13 ≤ _; omega) (fun s hs9 => by
        match s, hs9 with
        | 0, _ => exact ⟨p1, (by show i.toInt ≤ (3 : Int); omega), fun h => by cases h⟩
        | 1, _ => exact ⟨a0, b0, fun h => by cases h⟩
        | 2, _ => exact ⟨a1, b1, fun h => by cases h⟩
        | 3, _ => exact ⟨a2, b2, fun h => by cases h⟩
        | 4, _ => exact ⟨a3, b3, fun h => by cases h⟩
        | 5, _ => exact ⟨a4, b4, fun h => by cases h⟩
        | 6, _ => exact ⟨a5, b5, fun h => by cases h⟩
        | 7, _ => exact ⟨a6, b6, fun h => by cases h⟩
        | s + 8, h => exact absurd h (by show ¬ (s + 8 < 8); omega)) ⟨_, _, rfl, Or.inr (Or.inr (Or.inr (Or.inl ⟨rfl, kp, 1, rfl, hkp, by decide, by decide⟩))), _, _, rfl, Or.inr (Or.inl ⟨rfl, _, rfl, by decide, (Int.add_zero _).symm⟩), rfl⟩ (fun i q a hi ha => by
        match i, hi, ha with
        | 0, hi, ha => cases hi; cases ha; show VM _ _ _ _ _ _ _ (rd _ 54 0); rw [e0]; exact Or.inr (Or.inl ⟨rfl, _, rfl, by decide, (Int.add_zero _).symm⟩)
        | 1, hi, ha => cases hi; cases ha; show VM _ _ _ _ _ _ _ (rd _ 54 6); rw [e1]; exact Or.inr (Or.inl ⟨rfl, _, rfl, by decide, (Int.add_zero _).symm⟩)
        | 2, hi, ha => cases hi; cases ha; show VM _ _ _ _ _ _ _ (rd _ 54 8); rw [e2]; exact Or.inr (Or.inl ⟨rfl, _, rfl, by decide, (Int.add_zero _).symm⟩)
        | 3, hi, ha => cases hi; cases ha; show VM _ _ _ _ _ _ _ (rd _ 54 9); rw [e3]; exact Or.inr (Or.inl ⟨rfl, _, rfl, by decide, (Int.add_zero _).symm⟩)
        | 4, hi, ha => cases hi; cases ha; show VM _ _ _ _ _ _ _ (rd _ 77 1); rw [e4]; exact Or.inr (Or.inr (Or.inl ⟨rfl, _, rfl, by decide, rfl⟩))
        | 5, hi, ha => cases hi; cases ha; show VM _ _ _ _ _ _ _ (rd _ 77 3); rw [e5]; exact Or.inr (Or.inl ⟨rfl, _, rfl, by decide, (Int.add_zero _).symm⟩)
        | 6, hi, ha => cases hi; cases ha; show VM _ _ _ _ _ _ _ (rd _ 54 7); rw [e6]; exact Or.inr (Or.inl ⟨rfl, _, rfl, by decide, (Int.add_zero _).symm⟩)
        | i + 7, hi, _ => cases hi)) ?_
        rintro kd r h2 ⟨R', σ', pt, t1, t2, t3, t5, t4, t6, t7, t9, t8⟩
        rcases List.mem_cons.mp t1 with rfl | t1
        · obtain ⟨v8, S8, t10, t11, hz8⟩ := t9
          obtain ⟨k1, rfl, t12, -⟩ := (t11.rf3 rfl).one rfl
          have hz8 : S8 = [] := hz8
          subst hz8
          refine Or.inl ⟨t2.symm, R', k1, t3, t5, ?_, t12⟩
          cases r with
          | none => cases t10
          | some w => cases t10; rfl
        · obtain rfl := List.mem_singleton.mp t1
          exact Or.inr ⟨t2.symm, R', t3, t5⟩
      refine n_call tb_pres act hEnd (gx (P := G_call) gp_40 (w := 0x1000000000000c0c2200001a00100f) rfl (by decide) rfl) (d' := D_26) rfl (as := [.ref kp, .int i]) (rest := [.ref kp]) FD (show (2 : Nat) = fb 0x1000000000000c0c2200001a00100f % 16 by decide) (by show (2 : Nat) ≤ 3; decide) (fun _ => ⟨_, _, rfl, _, shp_at (ty_shp hT hkp (by decide) (a := 0) (b := 7) rfl rfl), Or.inr (show fb 0x1000000000000c0c2200001a00100f >>> 68 = 1 by decide)⟩) (by omega) (by show 8 + (3 + 11) + 190 ≤ R.locals; omega) (by show (1 : Nat) ≤ 8; decide) (by show kc + 1 + 1 + 13 ≤ _; omega) (by show ks + 11 + 11 + 143 ≤ _; omega) (fun r9 h1 hpo hr9 => ?_) (fun x9 hs9 hx9 hpo => ?_)
      · obtain ⟨-, R1, k1, X1, ln1, rfl, rk1⟩ := hpo.resolve_right (fun z => absurd z.1 (by decide))
        have T1 := kd_hty.mp X1.1
        have hkp1 := X1.2.1 kp 1 hkp
        show WpN (gp g0 wp) CLS p l e R s m args below meth c Q D_40.2.2.1 kc0 ks0 16 [some (.ref kp), some (.int i), some (.int j), none] (h1, kc + 1 + 1 + 13, ks + 11 + 11 + 143) [.ref k1, .ref kp]
        refine g_loadA act (gx gp_40 (w := 0x1103) rfl (by decide) rfl) (a := 0) (n := 17) rfl rfl rfl ?_
        obtain ⟨kf, e_kf, r_kf⟩ := ty_ref (r2 := 2) (j := 2) T1 hkp1 (by decide) (by decide) (Or.inl rfl) rfl (by decide)
        refine r_getf act (gx gp_40 (w := 0x3000080001404) rfl (by decide) rfl) (n := 20) (ci := 0) (j := 2) (N := 7) rfl rfl rfl (ty_shp T1 hkp1 (by decide) rfl rfl) (by decide) (v := .ref kf) e_kf ?_
        refine g_loadI act (gx gp_40 (w := 0x2001502) rfl (by decide) rfl) (a := 2) (n := 21) rfl rfl rfl ?_
        have FO : BodyN SSX TBL (gp g0 wp) CLS bl xs l D_29 5 181 21 231 [.ref kp, .ref k1, .ref kf, .int j] h1 (fun kd r h9 => kd = 0 ∧ ∃ (R' : List Nat) (k2 : Nat), HX KD (InvF kp kg n9) R1 h1 R' h9 ∧ h9.length ≤ h1.length + 21 ∧ r = some (.ref k2) ∧ (R'[k2]? = some 11 ∨ R'[k2]? = some 9)) := by
          obtain ⟨y0, y1, y2, y3, y4, y5, y6, ⟨e0, a0, b0⟩, ⟨e1, a1, b1⟩, ⟨e2, a2, b2⟩, ⟨e3, a3, b3⟩, ⟨e4, a4, b4⟩, ⟨e5, a5, b5⟩, ⟨e6, a6, b6⟩⟩ := rg7 T1
          refine BodyN.imp (hb29 (gp g0 wp) bl xs l h1 R1 (fun s => match s with | 0 => j.toInt | 1 => y0.toInt | 2 => y1.toInt | 3 => y2.toInt | 4 => y3.toInt | 5 => y4.toInt | 6 => y5.toInt | 7 => y6.toInt | _ => 0) [.ref kp, .ref k1, .ref kf, .int j] hTY X1.1 X1.2.2.2 (by show h1.length + 21 ≤ _; omega) (fun s hs9 => by
          match s, hs9 with
          | 0, _ => exact ⟨q1, (by show j.toInt ≤ (5 : Int); omega), fun h => by cases h⟩
          | 1, _ => exact ⟨a0, b0, fun h => by cases h⟩
          | 2, _ => exact ⟨a1, b1, fun h => by cases h⟩
          | 3, _ => exact ⟨a2, b2, fun h => by cases h⟩
          | 4, _ => exact ⟨a3, b3, fun h => by cases h⟩
          | 5, _ => exact ⟨a4, b4, fun h => by cases h⟩
          | 6, _ => exact ⟨a5, b5, fun h => by cases h⟩
          | 7, _ => exact ⟨a6, b6, fun h => by cases h⟩
          | s + 8, h => exact absurd h (by show ¬ (s + 8 < 8); omega)) ⟨_, _, rfl, Or.inr (Or.inr (Or.inr (Or.inl ⟨rfl, kp, 1, rfl, hkp1, by decide, by decide⟩))), _, _, rfl, Or.inr (Or.inr (Or.inr (Or.inl ⟨rfl, k1, 4, rfl, rk1, by decide, by decide⟩))), _, _, rfl, Or.inr (Or.inr (Or.inr (Or.inl ⟨rfl, kf, 2, rfl, r_kf, by decide, by decide⟩))), _, _, rfl, Or.inr (Or.inl ⟨rfl, _, rfl, by decide, (Int.add_zero _).symm⟩), rfl⟩ (fun i q a hi ha => by
          match i, hi, ha with
          | 0, hi, ha => cases hi; cases ha; show VM _ _ _ _ _ _ _ (rd _ 54 0); rw [e0]; exact Or.inr (Or.inl ⟨rfl, _, rfl, by decide, (Int.add_zero _).symm⟩)
          | 1, hi, ha => cases hi; cases ha; show VM _ _ _ _ _ _ _ (rd _ 54 6); rw [e1]; exact Or.inr (Or.inl ⟨rfl, _, rfl, by decide, (Int.add_zero _).symm⟩)
          | 2, hi, ha => cases hi; cases ha; show VM _ _ _ _ _ _ _ (rd _ 54 8); rw [e2]; exact Or.inr (Or.inl ⟨rfl, _, rfl, by decide, (Int.add_zero _).symm⟩)
          | 3, hi, ha => cases hi; cases ha; show VM _ _ _ _ _ _ _ (rd _ 54 9); rw [e3]; exact Or.inr (Or.inl ⟨rfl, _, rfl, by decide, (Int.add_zero _).symm⟩)
          | 4, hi, ha => cases hi; cases ha; show VM _ _ _ _ _ _ _ (rd _ 77 1); rw [e4]; exact Or.inr (Or.inr (Or.inl ⟨rfl, _, rfl, by decide, rfl⟩))
          | 5, hi, ha => cases hi; cases ha; show VM _ _ _ _ _ _ _ (rd _ 77 3); rw [e5]; exact Or.inr (Or.inl ⟨rfl, _, rfl, by decide, (Int.add_zero _).symm⟩)
          | 6, hi, ha => cases hi; cases ha; show VM _ _ _ _ _ _ _ (rd _ 54 7); rw [e6]; exact Or.inr (Or.inl ⟨rfl, _, rfl, by decide, (Int.add_zero _).symm⟩)
          | i + 7, hi, _ => cases hi)) ?_
          rintro kd r h2 ⟨R', σ', pt, t1, t2, t3, t5, t4, t6, t7, t9, t8⟩
          rcases List.mem_cons.mp t1 with rfl | t1
          · obtain ⟨v8, S8, t10, t11, hz8⟩ := t9
            obtain ⟨k2, rfl, t12, -⟩ := (t11.rf3 rfl).one rfl
            have hz8 : S8 = [] := hz8
            subst hz8
            refine ⟨t2.symm, R', k2, t3, t5, ?_, Or.inl t12⟩
            cases r with
            | none => cases t10
            | some w => cases t10; rfl
          · obtain rfl := List.mem_singleton.mp t1
            obtain ⟨v8, S8, t10, t11, hz8⟩ := t9
            obtain ⟨k2, rfl, t12, -⟩ := (t11.rf3 rfl).one rfl
            have hz8 : S8 = [] := hz8
            subst hz8
            refine ⟨t2.symm, R', k2, t3, t5, ?_, Or.inr t12⟩
            cases r with
            | none => cases t10
            | some w => cases t10; rfl
        refine n_call tb_pres act hEnd (gx (P := G_call) gp_40 (w := 0x1000000000000c244400001d00180f) rfl (by decide) rfl) (d' := D_29) rfl (as := [.ref kp, .ref k1, .ref kf, .int j]) (rest := []) FO (show (4 : Nat) = fb 0x1000000000000c244400001d00180f % 16 by decide) (by show (4 : Nat) ≤ 9; decide) (fun _ => ⟨_, _, rfl, _, shp_at (ty_shp T1 hkp1 (by decide) (a := 0) (b := 7) rfl rfl), Or.inr (show fb 0x1000000000000c244400001d00180f >>> 68 = 1 by decide)⟩) (by omega) (by show 8 + (9 + 11) + 181 ≤ R.locals; omega) (by show (0 : Nat) ≤ 8; decide) (by show kc + 1 + 1 + 13 + 21 ≤ _; omega) (by show ks + 11 + 11 + 143 + 231 ≤ _; omega) (fun r9 h2 hpo hr9 => ?_) (fun x9 hs9 hx9 hpo => ?_)
        · obtain ⟨-, R2, k2, X2, ln2, rfl, rk2⟩ := hpo
          have T2 := kd_hty.mp X2.1
          show WpN (gp g0 wp) CLS p l e R s m args below meth c Q D_40.2.2.1 kc0 ks0 24 [some (.ref kp), some (.int i), some (.int j), none] (h2, kc + 1 + 1 + 13 + 21, ks + 11 + 11 + 143 + 231) [.ref k2]
          have FA : BodyN SSX TBL (gp g0 wp) CLS bl xs l D_79 2 36 1 11 [.ref k2] h2 (fun kd r h9 => kd = 0 ∧ ∃ (R' : List Nat) (k3 : Nat), HX KD (InvF kp kg n9) R2 h2 R' h9 ∧ h9.length ≤ h2.length + 1 ∧ r = some (.ref k3) ∧ (R'[k3]? = some 11 ∨ R'[k3]? = some 9)) := by
            obtain ⟨y0, y1, y2, y3, y4, y5, y6, ⟨e0, a0, b0⟩, ⟨e1, a1, b1⟩, ⟨e2, a2, b2⟩, ⟨e3, a3, b3⟩, ⟨e4, a4, b4⟩, ⟨e5, a5, b5⟩, ⟨e6, a6, b6⟩⟩ := rg7 T2
            rcases rk2 with rk2 | rk2
            · refine BodyN.imp (hb79a (gp g0 wp) bl xs l h2 R2 (fun s => match s with | 0 => y0.toInt | 1 => y1.toInt | 2 => y2.toInt | 3 => y3.toInt | 4 => y4.toInt | 5 => y5.toInt | 6 => y6.toInt | _ => 0) [.ref k2] hTY X2.1 X2.2.2.2 (by show h2.length + 1 ≤ _; omega) (fun s hs9 => by
            match s, hs9 with
            | 0, _ => exact ⟨a0, b0, fun h => by cases h⟩
            | 1, _ => exact ⟨a1, b1, fun h => by cases h⟩
            | 2, _ => exact ⟨a2, b2, fun h => by cases h⟩
            | 3, _ => exact ⟨a3, b3, fun h => by cases h⟩
            | 4, _ => exact ⟨a4, b4, fun h => by cases h⟩
            | 5, _ => exact ⟨a5, b5, fun h => by cases h⟩
            | 6, _ => exact ⟨a6, b6, fun h => by cases h⟩
            | s + 7, h => exact absurd h (by show ¬ (s + 7 < 7); omega)) ⟨_, _, rfl, Or.inr (Or.inr (Or.inr (Or.inl ⟨rfl, k2, 11, rfl, rk2, by decide, by decide⟩))), rfl⟩ (fun i q a hi ha => by
            match i, hi, ha with
            | 0, hi, ha => cases hi; cases ha; show VM _ _ _ _ _ _ _ (rd _ 54 0); rw [e0]; exact Or.inr (Or.inl ⟨rfl, _, rfl, by decide, (Int.add_zero _).symm⟩)
            | 1, hi, ha => cases hi; cases ha; show VM _ _ _ _ _ _ _ (rd _ 54 6); rw [e1]; exact Or.inr (Or.inl ⟨rfl, _, rfl, by decide, (Int.add_zero _).symm⟩)
            | 2, hi, ha => cases hi; cases ha; show VM _ _ _ _ _ _ _ (rd _ 54 8); rw [e2]; exact Or.inr (Or.inl ⟨rfl, _, rfl, by decide, (Int.add_zero _).symm⟩)
            | 3, hi, ha => cases hi; cases ha; show VM _ _ _ _ _ _ _ (rd _ 54 9); rw [e3]; exact Or.inr (Or.inl ⟨rfl, _, rfl, by decide, (Int.add_zero _).symm⟩)
            | 4, hi, ha => cases hi; cases ha; show VM _ _ _ _ _ _ _ (rd _ 77 1); rw [e4]; exact Or.inr (Or.inr (Or.inl ⟨rfl, _, rfl, by decide, rfl⟩))
            | 5, hi, ha => cases hi; cases ha; show VM _ _ _ _ _ _ _ (rd _ 77 3); rw [e5]; exact Or.inr (Or.inl ⟨rfl, _, rfl, by decide, (Int.add_zero _).symm⟩)
            | 6, hi, ha => cases hi; cases ha; show VM _ _ _ _ _ _ _ (rd _ 54 7); rw [e6]; exact Or.inr (Or.inl ⟨rfl, _, rfl, by decide, (Int.add_zero _).symm⟩)
            | i + 7, hi, _ => cases hi)) ?_
              rintro kd r h3 ⟨R', σ', pt, t1, t2, t3, t5, t4, t6, t7, t9, t8⟩
              obtain rfl := List.mem_singleton.mp t1
              obtain ⟨v8, S8, t10, t11, hz8⟩ := t9
              obtain ⟨k3, rfl, t12, -⟩ := (t11.rf3 rfl).one rfl
              have hz8 : S8 = [] := hz8
              subst hz8
              refine ⟨t2.symm, R', k3, t3, t5, ?_, Or.inl t12⟩
              cases r with
              | none => cases t10
              | some w => cases t10; rfl
            · refine BodyN.imp (hb79b (gp g0 wp) bl xs l h2 R2 (fun s => match s with | 0 => y0.toInt | 1 => y1.toInt | 2 => y2.toInt | 3 => y3.toInt | 4 => y4.toInt | 5 => y5.toInt | 6 => y6.toInt | _ => 0) [.ref k2] hTY X2.1 X2.2.2.2 (by show h2.length + 1 ≤ _; omega) (fun s hs9 => by
            match s, hs9 with
            | 0, _ => exact ⟨a0, b0, fun h => by cases h⟩
            | 1, _ => exact ⟨a1, b1, fun h => by cases h⟩
            | 2, _ => exact ⟨a2, b2, fun h => by cases h⟩
            | 3, _ => exact ⟨a3, b3, fun h => by cases h⟩
            | 4, _ => exact ⟨a4, b4, fun h => by cases h⟩
            | 5, _ => exact ⟨a5, b5, fun h => by cases h⟩
            | 6, _ => exact ⟨a6, b6, fun h => by cases h⟩
            | s + 7, h => exact absurd h (by show ¬ (s + 7 < 7); omega)) ⟨_, _, rfl, Or.inr (Or.inr (Or.inr (Or.inl ⟨rfl, k2, 9, rfl, rk2, by decide, by decide⟩))), rfl⟩ (fun i q a hi ha => by
            match i, hi, ha with
            | 0, hi, ha => cases hi; cases ha; show VM _ _ _ _ _ _ _ (rd _ 54 0); rw [e0]; exact Or.inr (Or.inl ⟨rfl, _, rfl, by decide, (Int.add_zero _).symm⟩)
            | 1, hi, ha => cases hi; cases ha; show VM _ _ _ _ _ _ _ (rd _ 54 6); rw [e1]; exact Or.inr (Or.inl ⟨rfl, _, rfl, by decide, (Int.add_zero _).symm⟩)
            | 2, hi, ha => cases hi; cases ha; show VM _ _ _ _ _ _ _ (rd _ 54 8); rw [e2]; exact Or.inr (Or.inl ⟨rfl, _, rfl, by decide, (Int.add_zero _).symm⟩)
            | 3, hi, ha => cases hi; cases ha; show VM _ _ _ _ _ _ _ (rd _ 54 9); rw [e3]; exact Or.inr (Or.inl ⟨rfl, _, rfl, by decide, (Int.add_zero _).symm⟩)
            | 4, hi, ha => cases hi; cases ha; show VM _ _ _ _ _ _ _ (rd _ 77 1); rw [e4]; exact Or.inr (Or.inr (Or.inl ⟨rfl, _, rfl, by decide, rfl⟩))
            | 5, hi, ha => cases hi; cases ha; show VM _ _ _ _ _ _ _ (rd _ 77 3); rw [e5]; exact Or.inr (Or.inl ⟨rfl, _, rfl, by decide, (Int.add_zero _).symm⟩)
            | 6, hi, ha => cases hi; cases ha; show VM _ _ _ _ _ _ _ (rd _ 54 7); rw [e6]; exact Or.inr (Or.inl ⟨rfl, _, rfl, by decide, (Int.add_zero _).symm⟩)
            | i + 7, hi, _ => cases hi)) ?_
              rintro kd r h3 ⟨R', σ', pt, t1, t2, t3, t5, t4, t6, t7, t9, t8⟩
              obtain rfl := List.mem_singleton.mp t1
              obtain ⟨v8, S8, t10, t11, hz8⟩ := t9
              obtain ⟨k3, rfl, t12, -⟩ := (t11.rf3 rfl).one rfl
              have hz8 : S8 = [] := hz8
              subst hz8
              refine ⟨t2.symm, R', k3, t3, t5, ?_, Or.inr t12⟩
              cases r with
              | none => cases t10
              | some w => cases t10; rfl
          have sk2 : shp h2 k2 = some (2, 2) := rk2.elim (fun h => ty_shp T2 h (by decide) rfl rfl) (fun h => ty_shp T2 h (by decide) rfl rfl)
          refine n_call tb_pres act hEnd (gx (P := G_call) gp_40 (w := 0x3000000000000c041100004f001b0f) rfl (by decide) rfl) (d' := D_79) rfl (as := [.ref k2]) (rest := []) FA (show (1 : Nat) = fb 0x3000000000000c041100004f001b0f % 16 by decide) (by show (1 : Nat) ≤ 1; decide) (fun _ => ⟨_, _, rfl, _, shp_at sk2, Or.inr (show fb 0x3000000000000c041100004f001b0f >>> 68 = 3 by decide)⟩) (by omega) (by show 8 + (1 + 11) + 36 ≤ R.locals; omega) (by show (0 : Nat) ≤ 8; decide) (by show kc + 1 + 1 + 13 + 21 + 1 ≤ _; omega) (by show ks + 11 + 11 + 143 + 231 + 11 ≤ _; omega) (fun r9 h3 hpo hr9 => ?_) (fun x9 hs9 hx9 hpo => ?_)
          · obtain ⟨-, R3, k3, X3, ln3, rfl, rk3⟩ := hpo
            have T3 := kd_hty.mp X3.1
            have sk3 : shp h3 k3 = some (2, 2) := rk3.elim (fun h => ty_shp T3 h (by decide) rfl rfl) (fun h => ty_shp T3 h (by decide) rfl rfl)
            obtain ⟨nu, de, e_nu, e_de, hnz⟩ : ∃ n d : Int64, rd h3 k3 0 = .long n ∧ rd h3 k3 1 = .long d ∧ (n.toInt ≠ 0 ∨ d.toInt ≠ 0) := by
              rcases rk3 with r9 | r9
              · obtain ⟨n, e1, -, -, h1⟩ := vt_l ((T3.2.1 k3 11 r9 (by decide)).2 0 (by decide)) rfl
                obtain ⟨d, e2, -⟩ := vt_l ((T3.2.1 k3 11 r9 (by decide)).2 1 (by decide)) rfl
                exact ⟨n, d, e1, e2, Or.inl (h1 rfl)⟩
              · obtain ⟨n, e1, -⟩ := vt_l ((T3.2.1 k3 9 r9 (by decide)).2 0 (by decide)) rfl
                obtain ⟨d, e2, -, -, h2⟩ := vt_l ((T3.2.1 k3 9 r9 (by decide)).2 1 (by decide)) rfl
                exact ⟨n, d, e1, e2, Or.inr (h2 rfl)⟩
            obtain ⟨hC3, f1, f2, f3, f4⟩ := X3.2.2.2
            obtain ⟨m9, kl, en3, el3, rkl, -, hge⟩ := hC3.1 kg f2
            have en3 := f4.symm.trans en3
            obtain rfl : n9 = m9 := by cases en3; rfl
            show WpN (gp g0 wp) CLS p l e R s m args below meth c Q D_40.2.2.1 kc0 ks0 27 [some (.ref kp), some (.int i), some (.int j), none] (h3, kc + 1 + 1 + 13 + 21 + 1, ks + 11 + 11 + 143 + 231 + 11) [.ref k3]
            refine g_storeA act (gx gp_40 (w := 0x3001c2d) rfl (by decide) rfl) (a := 3) (n := 28) rfl rfl (L2 := [some (.ref kp), some (.int i), some (.int j), some (.ref k3)]) rfl ?_
            refine g_loadA act (gx gp_40 (w := 0x3001d03) rfl (by decide) rfl) (a := 3) (n := 29) rfl rfl rfl ?_
            refine r_getf act (gx gp_40 (w := 0x2000002002004) rfl (by decide) rfl) (n := 32) (ci := 2) (j := 0) (N := 2) rfl rfl rfl sk3 (by decide) (v := .long nu) e_nu ?_
            refine g_l2f act (gx gp_40 (w := 0x2147) rfl (by decide) rfl) (n := 33) rfl ?_
            refine g_loadA act (gx gp_40 (w := 0x3002203) rfl (by decide) rfl) (a := 3) (n := 34) rfl rfl rfl ?_
            refine r_getf act (gx gp_40 (w := 0x2000042002504) rfl (by decide) rfl) (n := 37) (ci := 2) (j := 1) (N := 2) rfl rfl rfl sk3 (by decide) (v := .long de) e_de ?_
            refine g_l2f act (gx gp_40 (w := 0x2647) rfl (by decide) rfl) (n := 38) rfl ?_
            have w1 := ldn1 hnz
            refine g_fdiv act (gx gp_40 (w := 0x2746) rfl (by decide) rfl) (n := 39) (nn_of w1) rfl ?_
            refine g_loadA act (gx gp_40 (w := 0x2803) rfl (by decide) rfl) (a := 0) (n := 40) rfl rfl rfl ?_
            refine r_getf act (gx gp_40 (w := 0x3000180002b04) rfl (by decide) rfl) (n := 43) (ci := 0) (j := 6) (N := 7) rfl rfl rfl (ty_shp T3 f1 (by decide) rfl rfl) (by decide) (v := .ref kg) f3 ?_
            refine r_getf act (gx gp_40 (w := 0x3000204002e04) rfl (by decide) rfl) (n := 46) (ci := 4) (j := 8) (N := 18) rfl rfl rfl (ty_shp T3 f2 (by decide) rfl rfl) (by decide) (v := .ref kl) el3 ?_
            refine g_loadI act (gx gp_40 (w := 0x2002f02) rfl (by decide) rfl) (a := 2) (n := 47) rfl rfl rfl ?_
            obtain ⟨z9, e_z, z1⟩ := hge j.toInt.toNat (by omega)
            refine r_iald act (gx gp_40 (w := 0x301a) rfl (by decide) rfl) (n := 48) (N := 6) rfl (ty_shp T3 rkl (by decide) rfl rfl) (j := j.toInt.toNat) (by omega) (by omega) (v := .int z9) e_z ?_
            refine g_i2f act (gx gp_40 (w := 0x3148) rfl (by decide) rfl) (n := 49) rfl ?_
            have w2 := ldn2 w1 (z := z9) (by omega)
            refine g_fdiv act (gx gp_40 (w := 0x3246) rfl (by decide) rfl) (n := 50) (nn_of w2) rfl ?_
            refine n_call tb_pres act hEnd (gx (P := G_call) gp_40 (w := 0x4101100000500350f) rfl (by decide) rfl) (d' := D_5) rfl (as := [.float (FP.fdiv (FP.fdiv (FP.l2f nu) (FP.l2f de)) (FP.i2f z9))]) (rest := []) (b_bitC w2) (show (1 : Nat) = fb 0x4101100000500350f % 16 by decide) (by show (1 : Nat) ≤ 4; decide) (fun q => absurd q (by decide)) (by omega) (by show 8 + (4 + 11) + 0 ≤ R.locals; omega) (by show (0 : Nat) ≤ 8; decide) (by show kc + 1 + 1 + 13 + 21 + 1 + 0 ≤ _; omega) (by show ks + 11 + 11 + 143 + 231 + 11 + 0 ≤ _; omega) (fun r9 h9 hpo hr9 => ?_) (fun x9 hs9 hx9 hpo => ?_)
            · obtain ⟨-, rfl, b9, rfl⟩ := hpo
              show WpN (gp g0 wp) CLS p l e R s m args below meth c Q D_40.2.2.1 kc0 ks0 53 [some (.ref kp), some (.int i), some (.int j), some (.ref k3)] (h3, kc + 1 + 1 + 13 + 21 + 1, ks + 11 + 11 + 143 + 231 + 11) [.int b9]
              exact g_retI hEnd (gx gp_40 (w := 0x2f) rfl (by decide) rfl) (po40_0 hE ((kd_hx X1).tr ((kd_hx X2).tr (kd_hx X3))) (by show h3.length ≤ hs.length + 80; omega)) (by show kc + 1 + 1 + 13 + 21 + 1 ≤ kc + 80; omega) (by show ks + 11 + 11 + 143 + 231 + 11 ≤ ks + 11 * 80; omega)
            · exact absurd hpo.1 (by omega)
          · exact absurd hpo.1 (by omega)
        · exact absurd hpo.1 (by omega)
      · obtain ⟨z, R1, X1, ln1⟩ := hpo.resolve_left (fun z => absurd z.1 (by omega))
        obtain rfl : x9 = 0 := by omega
        refine Or.inr ⟨rfl, po40_1 hE (kd_hx X1) (by omega), by show kc + 1 + 1 + 13 ≤ kc + 80; omega, by show ks + 11 + 11 + 143 ≤ ks + 11 * 80; omega⟩
    · obtain ⟨rfl, hq⟩ := hpo
      obtain rfl : x9 = 1 := by omega
      refine Or.inr ⟨rfl, po40_2 hE X0 (Nat.le_add_right _ _), by show kc + 2 ≤ kc + 80; omega, by show ks + 22 ≤ ks + 11 * 80; omega⟩
  · obtain ⟨rfl, hq⟩ := hpo
    obtain rfl : x9 = 1 := by omega
    refine Or.inr ⟨rfl, po40_2 hE X0 (Nat.le_add_right _ _), by show kc + 1 ≤ kc + 80; omega, by show ks + 11 ≤ ks + 11 * 80; omega⟩


/-! loadBits of the class, the text's length kept. -/
theorem k_reg0 {K : KX} {n0 n : Nat} {R' : List Nat} {hs h2 : List CE} {σ' : Nat → Int} {y : Int32} {sym : Nat} (h : VM K n0 h2 R' n σ' (1, sym, 0, 0) (rd h2 54 0)) (hs9 : σ' sym = y.toInt) (e : rd hs 54 0 = .int y) : rd h2 54 0 = rd hs 54 0 := by
  obtain ⟨x, ex, -, hx⟩ := h.int rfl
  have hx : x.toInt = σ' sym + 0 := hx
  rw [ex, e, i_same (x := x) (y := y) (by omega)]
set_option maxHeartbeats 1000000 in
theorem b_lbX {g0 : GG} {bl : Nat} {xs : Nat → Int32} {l : Launch} {hs : List CE} {R0 : List Nat} {kp : Nat} {i j : Int32} (hTY0 : TYg g0) (hT : HTy KC R0 hs) (hInv : InvC R0 hs) (hlen : hs.length + 80 ≤ 6999999999999) (hkp : R0[kp]? = some 1) : BodyN SSX TBL g0 CLS bl xs l D_40 11 240 80 880 [.ref kp, .int i, .int j] hs (fun kd r h2 => ((kd = 0 ∧ ∃ x : Int32, r = some (.int x)) ∨ ((kd = 1 ∨ kd = 2) ∧ r = none)) ∧ ∃ R2 : List Nat, HX KC InvC R0 hs R2 h2 ∧ h2.length ≤ hs.length + 80 ∧ rd h2 54 0 = rd hs 54 0) := by
  obtain ⟨kg, e_kg, r_kg⟩ := ty_ref (r2 := 5) (j := 6) hT hkp (by decide) (by decide) (Or.inl rfl) rfl (by decide)
  obtain ⟨ni, e_ni, ni0, ni4⟩ := ty_int (lo := 0) (hi := 4) (j := 1) hT r_kg (by decide) (by decide) (Or.inl rfl) rfl
  obtain ⟨n9, kl0, en, el, rkl0, n6, hge0⟩ := hInv.1 kg r_kg
  have X0 : HX KC InvC R0 hs R0 hs := ⟨hT, fun _ _ h => h, fun _ _ _ _ => rfl, hInv⟩
  have hF : InvF kp kg n9 R0 hs := ⟨hInv, hkp, r_kg, e_kg, en⟩
  obtain ⟨d26, hd26, -, hb26⟩ := sd26_0 (handsB_KD (invF_KD kp kg n9))
  obtain rfl : D_26 = d26 := Option.some.inj ((show mdx 26 = some D_26 from rfl).symm.trans hd26)
  obtain ⟨d29, hd29, -, hb29⟩ := sd29_0 (handsB_KD (invF_KD kp kg n9))
  obtain rfl : D_29 = d29 := Option.some.inj ((show mdx 29 = some D_29 from rfl).symm.trans hd29)
  obtain ⟨d79a, hd79a, -, hb79a⟩ := sd79_0 (handsB_KD (invF_KD kp kg n9))
  obtain rfl : D_79 = d79a := Option.some.inj ((show mdx 79 = some D_79 from rfl).symm.trans hd79a)
  obtain ⟨d79b, hd79b, -, hb79b⟩ := sd79_1 (handsB_KD (invF_KD kp kg n9))
  obtain rfl : D_79 = d79b := Option.some.inj ((show mdx 79 = some D_79 from rfl).symm.trans hd79b)
  intro wp p e R s m args below meth c Q kc0 ks0 kc ks act hf hl hc hsl hEnd
  have hf : 11 ≤ R.frames := hf
  have hl : 240 ≤ R.locals := hl
  have hc : kc + 80 ≤ R.cells + kc0 := hc
  have hsl : ks + 11 * 80 ≤ R.slots + ks0 := hsl
  have hTY : TYg (gp g0 wp) := hTY0
  show WpN (gp g0 wp) CLS p l e R s m args below meth c Q D_40.2.2.1 kc0 ks0 0 [some (.ref kp), some (.int i), some (.int j), none] (hs, kc, ks) []
  refine g_loadA act (gx gp_40 (w := 0x103) rfl (by decide) rfl) (a := 0) (n := 1) rfl rfl rfl ?_
  refine g_loadI act (gx gp_40 (w := 0x1000202) rfl (by decide) rfl) (a := 1) (n := 2) rfl rfl rfl ?_
  refine n_call tb_pres act hEnd (gx (P := G_call) gp_40 (w := 0x10000000000008082200000900050f) rfl (by decide) rfl) (d' := D_9) rfl (as := [.ref kp, .int i]) (rest := []) (b_chkJ (kg := kg) (n9 := ni) (ty_shp hT hkp (by decide) rfl rfl) e_kg (ty_shp hT r_kg (by decide) rfl rfl) e_ni) (show (2 : Nat) = fb 0x10000000000008082200000900050f % 16 by decide) (by show (2 : Nat) ≤ 2; decide) (fun _ => ⟨_, _, rfl, _, shp_at (ty_shp hT hkp (by decide) (a := 0) (b := 7) rfl rfl), Or.inr (show fb 0x10000000000008082200000900050f >>> 68 = 1 by decide)⟩) (by omega) (by show 8 + (2 + 11) + 141 ≤ R.locals; omega) (by show (0 : Nat) ≤ 8; decide) (by show kc + 1 ≤ _; omega) (by show ks + 11 ≤ _; omega) (fun r9 hs9 hpo hr9 => ?_) (fun x9 hs9 hx9 hpo => ?_)
  · obtain rfl : r9 = none := hr9.elim (fun q => q.2) (fun q => absurd rfl q.1)
    obtain ⟨rfl, hq⟩ := hpo
    obtain ⟨-, p1, p2⟩ := hq.resolve_right (by decide)
    show WpN (gp g0 wp) CLS p l e R s m args below meth c Q D_40.2.2.1 kc0 ks0 5 [some (.ref kp), some (.int i), some (.int j), none] (hs, kc + 1, ks + 11) []
    refine g_loadA act (gx gp_40 (w := 0x603) rfl (by decide) rfl) (a := 0) (n := 6) rfl rfl rfl ?_
    refine g_loadI act (gx gp_40 (w := 0x2000702) rfl (by decide) rfl) (a := 2) (n := 7) rfl rfl rfl ?_
    refine n_call tb_pres act hEnd (gx (P := G_call) gp_40 (w := 0x10000000000008082200000a000a0f) rfl (by decide) rfl) (d' := D_10) rfl (as := [.ref kp, .int j]) (rest := []) (b_chkL (kg := kg) (n9 := n9) (ty_shp hT hkp (by decide) rfl rfl) e_kg (ty_shp hT r_kg (by decide) rfl rfl) en) (show (2 : Nat) = fb 0x10000000000008082200000a000a0f % 16 by decide) (by show (2 : Nat) ≤ 2; decide) (fun _ => ⟨_, _, rfl, _, shp_at (ty_shp hT hkp (by decide) (a := 0) (b := 7) rfl rfl), Or.inr (show fb 0x10000000000008082200000a000a0f >>> 68 = 1 by decide)⟩) (by omega) (by show 8 + (2 + 11) + 141 ≤ R.locals; omega) (by show (0 : Nat) ≤ 8; decide) (by show kc + 1 + 1 ≤ _; omega) (by show ks + 11 + 11 ≤ _; omega) (fun r9 hs9 hpo hr9 => ?_) (fun x9 hs9 hx9 hpo => ?_)
    · obtain rfl : r9 = none := hr9.elim (fun q => q.2) (fun q => absurd rfl q.1)
      obtain ⟨rfl, hq⟩ := hpo
      obtain ⟨-, q1, q2⟩ := hq.resolve_right (by decide)
      show WpN (gp g0 wp) CLS p l e R s m args below meth c Q D_40.2.2.1 kc0 ks0 10 [some (.ref kp), some (.int i), some (.int j), none] (hs, kc + 1 + 1, ks + 11 + 11) []
      refine g_loadA act (gx gp_40 (w := 0xb03) rfl (by decide) rfl) (a := 0) (n := 11) rfl rfl rfl ?_
      refine g_loadA act (gx gp_40 (w := 0xc03) rfl (by decide) rfl) (a := 0) (n := 12) rfl rfl rfl ?_
      refine g_loadI act (gx gp_40 (w := 0x1000d02) rfl (by decide) rfl) (a := 1) (n := 13) rfl rfl rfl ?_
      have FD : BodyN SSX TBL (gp g0 wp) CLS bl xs l D_26 8 190 13 143 [.ref kp, .int i] hs (fun kd r h2 => (kd = 0 ∧ ∃ (R' : List Nat) (k1 : Nat), rd h2 54 0 = rd hs 54 0 ∧ HX KD (InvF kp kg n9) R0 hs R' h2 ∧ h2.length ≤ hs.length + 13 ∧ r = some (.ref k1) ∧ R'[k1]? = some 4) ∨ (kd = 1 ∧ ∃ R' : List Nat, rd h2 54 0 = rd hs 54 0 ∧ HX KD (InvF kp kg n9) R0 hs R' h2 ∧ h2.length ≤ hs.length + 13)) := by
        obtain ⟨y0, y1, y2, y3, y4, y5, y6, ⟨e0, a0, b0⟩, ⟨e1, a1, b1⟩, ⟨e2, a2, b2⟩, ⟨e3, a3, b3⟩, ⟨e4, a4, b4⟩, ⟨e5, a5, b5⟩, ⟨e6, a6, b6⟩⟩ := rg7 hT
        refine BodyN.imp (hb26 (gp g0 wp) bl xs l hs R0 (fun s => match s with | 0 => i.toInt | 1 => y0.toInt | 2 => y1.toInt | 3 => y2.toInt | 4 => y3.toInt | 5 => y4.toInt | 6 => y5.toInt | 7 => y6.toInt | _ => 0) [.ref kp, .int i] hTY (kd_hty.mpr hT) hF (by show hs.length + 13 ≤ _; omega) (fun s hs9 => by
        match s, hs9 with
        | 0, _ => exact ⟨p1, (by show i.toInt ≤ (3 : Int); omega), fun h => by cases h⟩
        | 1, _ => exact ⟨a0, b0, fun h => by cases h⟩
        | 2, _ => exact ⟨a1, b1, fun h => by cases h⟩
        | 3, _ => exact ⟨a2, b2, fun h => by cases h⟩
        | 4, _ => exact ⟨a3, b3, fun h => by cases h⟩
        | 5, _ => exact ⟨a4, b4, fun h => by cases h⟩
        | 6, _ => exact ⟨a5, b5, fun h => by cases h⟩
        | 7, _ => exact ⟨a6, b6, fun h => by cases h⟩
        | s + 8, h => exact absurd h (by show ¬ (s + 8 < 8); omega)) ⟨_, _, rfl, Or.inr (Or.inr (Or.inr (Or.inl ⟨rfl, kp, 1, rfl, hkp, by decide, by decide⟩))), _, _, rfl, Or.inr (Or.inl ⟨rfl, _, rfl, by decide, (Int.add_zero _).symm⟩), rfl⟩ (fun i q a hi ha => by
        match i, hi, ha with
        | 0, hi, ha => cases hi; cases ha; show VM _ _ _ _ _ _ _ (rd _ 54 0); rw [e0]; exact Or.inr (Or.inl ⟨rfl, _, rfl, by decide, (Int.add_zero _).symm⟩)
        | 1, hi, ha => cases hi; cases ha; show VM _ _ _ _ _ _ _ (rd _ 54 6); rw [e1]; exact Or.inr (Or.inl ⟨rfl, _, rfl, by decide, (Int.add_zero _).symm⟩)
        | 2, hi, ha => cases hi; cases ha; show VM _ _ _ _ _ _ _ (rd _ 54 8); rw [e2]; exact Or.inr (Or.inl ⟨rfl, _, rfl, by decide, (Int.add_zero _).symm⟩)
        | 3, hi, ha => cases hi; cases ha; show VM _ _ _ _ _ _ _ (rd _ 54 9); rw [e3]; exact Or.inr (Or.inl ⟨rfl, _, rfl, by decide, (Int.add_zero _).symm⟩)
        | 4, hi, ha => cases hi; cases ha; show VM _ _ _ _ _ _ _ (rd _ 77 1); rw [e4]; exact Or.inr (Or.inr (Or.inl ⟨rfl, _, rfl, by decide, rfl⟩))
        | 5, hi, ha => cases hi; cases ha; show VM _ _ _ _ _ _ _ (rd _ 77 3); rw [e5]; exact Or.inr (Or.inl ⟨rfl, _, rfl, by decide, (Int.add_zero _).symm⟩)
        | 6, hi, ha => cases hi; cases ha; show VM _ _ _ _ _ _ _ (rd _ 54 7); rw [e6]; exact Or.inr (Or.inl ⟨rfl, _, rfl, by decide, (Int.add_zero _).symm⟩)
        | i + 7, hi, _ => cases hi)) ?_
        rintro kd r h2 ⟨R', σ', pt, t1, t2, t3, t5, t4, t6, t7, t9, t8⟩
        rcases List.mem_cons.mp t1 with rfl | t1
        · obtain ⟨v8, S8, t10, t11, hz8⟩ := t9
          obtain ⟨k1, rfl, t12, -⟩ := (t11.rf3 rfl).one rfl
          have hz8 : S8 = [] := hz8
          subst hz8
          refine Or.inl ⟨t2.symm, R', k1, (k_reg0 (sym := 1) (t8 0 (6, 54, 0) (1, 1, 0, 0) rfl rfl) (t4 1 (by decide)) e0), t3, t5, ?_, t12⟩
          cases r with
          | none => cases t10
          | some w => cases t10; rfl
        · obtain rfl := List.mem_singleton.mp t1
          exact Or.inr ⟨t2.symm, R', (k_reg0 (sym := 1) (t8 0 (6, 54, 0) (1, 1, 0, 0) rfl rfl) (t4 1 (by decide)) e0), t3, t5⟩
      refine n_call tb_pres act hEnd (gx (P := G_call) gp_40 (w := 0x1000000000000c0c2200001a00100f) rfl (by decide) rfl) (d' := D_26) rfl (as := [.ref kp, .int i]) (rest := [.ref kp]) FD (show (2 : Nat) = fb 0x1000000000000c0c2200001a00100f % 16 by decide) (by show (2 : Nat) ≤ 3; decide) (fun _ => ⟨_, _, rfl, _, shp_at (ty_shp hT hkp (by decide) (a := 0) (b := 7) rfl rfl), Or.inr (show fb 0x1000000000000c0c2200001a00100f >>> 68 = 1 by decide)⟩) (by omega) (by show 8 + (3 + 11) + 190 ≤ R.locals; omega) (by show (1 : Nat) ≤ 8; decide) (by show kc + 1 + 1 + 13 ≤ _; omega) (by show ks + 11 + 11 + 143 ≤ _; omega) (fun r9 h1 hpo hr9 => ?_) (fun x9 hs9 hx9 hpo => ?_)
      · obtain ⟨-, R1, k1, rg1, X1, ln1, rfl, rk1⟩ := hpo.resolve_right (fun z => absurd z.1 (by decide))
        have T1 := kd_hty.mp X1.1
        have hkp1 := X1.2.1 kp 1 hkp
        show WpN (gp g0 wp) CLS p l e R s m args below meth c Q D_40.2.2.1 kc0 ks0 16 [some (.ref kp), some (.int i), some (.int j), none] (h1, kc + 1 + 1 + 13, ks + 11 + 11 + 143) [.ref k1, .ref kp]
        refine g_loadA act (gx gp_40 (w := 0x1103) rfl (by decide) rfl) (a := 0) (n := 17) rfl rfl rfl ?_
        obtain ⟨kf, e_kf, r_kf⟩ := ty_ref (r2 := 2) (j := 2) T1 hkp1 (by decide) (by decide) (Or.inl rfl) rfl (by decide)
        refine r_getf act (gx gp_40 (w := 0x3000080001404) rfl (by decide) rfl) (n := 20) (ci := 0) (j := 2) (N := 7) rfl rfl rfl (ty_shp T1 hkp1 (by decide) rfl rfl) (by decide) (v := .ref kf) e_kf ?_
        refine g_loadI act (gx gp_40 (w := 0x2001502) rfl (by decide) rfl) (a := 2) (n := 21) rfl rfl rfl ?_
        have FO : BodyN SSX TBL (gp g0 wp) CLS bl xs l D_29 5 181 21 231 [.ref kp, .ref k1, .ref kf, .int j] h1 (fun kd r h9 => kd = 0 ∧ ∃ (R' : List Nat) (k2 : Nat), rd h9 54 0 = rd h1 54 0 ∧ HX KD (InvF kp kg n9) R1 h1 R' h9 ∧ h9.length ≤ h1.length + 21 ∧ r = some (.ref k2) ∧ (R'[k2]? = some 11 ∨ R'[k2]? = some 9)) := by
          obtain ⟨y0, y1, y2, y3, y4, y5, y6, ⟨e0, a0, b0⟩, ⟨e1, a1, b1⟩, ⟨e2, a2, b2⟩, ⟨e3, a3, b3⟩, ⟨e4, a4, b4⟩, ⟨e5, a5, b5⟩, ⟨e6, a6, b6⟩⟩ := rg7 T1
          refine BodyN.imp (hb29 (gp g0 wp) bl xs l h1 R1 (fun s => match s with | 0 => j.toInt | 1 => y0.toInt | 2 => y1.toInt | 3 => y2.toInt | 4 => y3.toInt | 5 => y4.toInt | 6 => y5.toInt | 7 => y6.toInt | _ => 0) [.ref kp, .ref k1, .ref kf, .int j] hTY X1.1 X1.2.2.2 (by show h1.length + 21 ≤ _; omega) (fun s hs9 => by
          match s, hs9 with
          | 0, _ => exact ⟨q1, (by show j.toInt ≤ (5 : Int); omega), fun h => by cases h⟩
          | 1, _ => exact ⟨a0, b0, fun h => by cases h⟩
          | 2, _ => exact ⟨a1, b1, fun h => by cases h⟩
          | 3, _ => exact ⟨a2, b2, fun h => by cases h⟩
          | 4, _ => exact ⟨a3, b3, fun h => by cases h⟩
          | 5, _ => exact ⟨a4, b4, fun h => by cases h⟩
          | 6, _ => exact ⟨a5, b5, fun h => by cases h⟩
          | 7, _ => exact ⟨a6, b6, fun h => by cases h⟩
          | s + 8, h => exact absurd h (by show ¬ (s + 8 < 8); omega)) ⟨_, _, rfl, Or.inr (Or.inr (Or.inr (Or.inl ⟨rfl, kp, 1, rfl, hkp1, by decide, by decide⟩))), _, _, rfl, Or.inr (Or.inr (Or.inr (Or.inl ⟨rfl, k1, 4, rfl, rk1, by decide, by decide⟩))), _, _, rfl, Or.inr (Or.inr (Or.inr (Or.inl ⟨rfl, kf, 2, rfl, r_kf, by decide, by decide⟩))), _, _, rfl, Or.inr (Or.inl ⟨rfl, _, rfl, by decide, (Int.add_zero _).symm⟩), rfl⟩ (fun i q a hi ha => by
          match i, hi, ha with
          | 0, hi, ha => cases hi; cases ha; show VM _ _ _ _ _ _ _ (rd _ 54 0); rw [e0]; exact Or.inr (Or.inl ⟨rfl, _, rfl, by decide, (Int.add_zero _).symm⟩)
          | 1, hi, ha => cases hi; cases ha; show VM _ _ _ _ _ _ _ (rd _ 54 6); rw [e1]; exact Or.inr (Or.inl ⟨rfl, _, rfl, by decide, (Int.add_zero _).symm⟩)
          | 2, hi, ha => cases hi; cases ha; show VM _ _ _ _ _ _ _ (rd _ 54 8); rw [e2]; exact Or.inr (Or.inl ⟨rfl, _, rfl, by decide, (Int.add_zero _).symm⟩)
          | 3, hi, ha => cases hi; cases ha; show VM _ _ _ _ _ _ _ (rd _ 54 9); rw [e3]; exact Or.inr (Or.inl ⟨rfl, _, rfl, by decide, (Int.add_zero _).symm⟩)
          | 4, hi, ha => cases hi; cases ha; show VM _ _ _ _ _ _ _ (rd _ 77 1); rw [e4]; exact Or.inr (Or.inr (Or.inl ⟨rfl, _, rfl, by decide, rfl⟩))
          | 5, hi, ha => cases hi; cases ha; show VM _ _ _ _ _ _ _ (rd _ 77 3); rw [e5]; exact Or.inr (Or.inl ⟨rfl, _, rfl, by decide, (Int.add_zero _).symm⟩)
          | 6, hi, ha => cases hi; cases ha; show VM _ _ _ _ _ _ _ (rd _ 54 7); rw [e6]; exact Or.inr (Or.inl ⟨rfl, _, rfl, by decide, (Int.add_zero _).symm⟩)
          | i + 7, hi, _ => cases hi)) ?_
          rintro kd r h2 ⟨R', σ', pt, t1, t2, t3, t5, t4, t6, t7, t9, t8⟩
          rcases List.mem_cons.mp t1 with rfl | t1
          · obtain ⟨v8, S8, t10, t11, hz8⟩ := t9
            obtain ⟨k2, rfl, t12, -⟩ := (t11.rf3 rfl).one rfl
            have hz8 : S8 = [] := hz8
            subst hz8
            refine ⟨t2.symm, R', k2, (k_reg0 (sym := 1) (t8 0 (6, 54, 0) (1, 1, 0, 0) rfl rfl) (t4 1 (by decide)) e0), t3, t5, ?_, Or.inl t12⟩
            cases r with
            | none => cases t10
            | some w => cases t10; rfl
          · obtain rfl := List.mem_singleton.mp t1
            obtain ⟨v8, S8, t10, t11, hz8⟩ := t9
            obtain ⟨k2, rfl, t12, -⟩ := (t11.rf3 rfl).one rfl
            have hz8 : S8 = [] := hz8
            subst hz8
            refine ⟨t2.symm, R', k2, (k_reg0 (sym := 1) (t8 0 (6, 54, 0) (1, 1, 0, 0) rfl rfl) (t4 1 (by decide)) e0), t3, t5, ?_, Or.inr t12⟩
            cases r with
            | none => cases t10
            | some w => cases t10; rfl
        refine n_call tb_pres act hEnd (gx (P := G_call) gp_40 (w := 0x1000000000000c244400001d00180f) rfl (by decide) rfl) (d' := D_29) rfl (as := [.ref kp, .ref k1, .ref kf, .int j]) (rest := []) FO (show (4 : Nat) = fb 0x1000000000000c244400001d00180f % 16 by decide) (by show (4 : Nat) ≤ 9; decide) (fun _ => ⟨_, _, rfl, _, shp_at (ty_shp T1 hkp1 (by decide) (a := 0) (b := 7) rfl rfl), Or.inr (show fb 0x1000000000000c244400001d00180f >>> 68 = 1 by decide)⟩) (by omega) (by show 8 + (9 + 11) + 181 ≤ R.locals; omega) (by show (0 : Nat) ≤ 8; decide) (by show kc + 1 + 1 + 13 + 21 ≤ _; omega) (by show ks + 11 + 11 + 143 + 231 ≤ _; omega) (fun r9 h2 hpo hr9 => ?_) (fun x9 hs9 hx9 hpo => ?_)
        · obtain ⟨-, R2, k2, rg2, X2, ln2, rfl, rk2⟩ := hpo
          have T2 := kd_hty.mp X2.1
          show WpN (gp g0 wp) CLS p l e R s m args below meth c Q D_40.2.2.1 kc0 ks0 24 [some (.ref kp), some (.int i), some (.int j), none] (h2, kc + 1 + 1 + 13 + 21, ks + 11 + 11 + 143 + 231) [.ref k2]
          have FA : BodyN SSX TBL (gp g0 wp) CLS bl xs l D_79 2 36 1 11 [.ref k2] h2 (fun kd r h9 => kd = 0 ∧ ∃ (R' : List Nat) (k3 : Nat), rd h9 54 0 = rd h2 54 0 ∧ HX KD (InvF kp kg n9) R2 h2 R' h9 ∧ h9.length ≤ h2.length + 1 ∧ r = some (.ref k3) ∧ (R'[k3]? = some 11 ∨ R'[k3]? = some 9)) := by
            obtain ⟨y0, y1, y2, y3, y4, y5, y6, ⟨e0, a0, b0⟩, ⟨e1, a1, b1⟩, ⟨e2, a2, b2⟩, ⟨e3, a3, b3⟩, ⟨e4, a4, b4⟩, ⟨e5, a5, b5⟩, ⟨e6, a6, b6⟩⟩ := rg7 T2
            rcases rk2 with rk2 | rk2
            · refine BodyN.imp (hb79a (gp g0 wp) bl xs l h2 R2 (fun s => match s with | 0 => y0.toInt | 1 => y1.toInt | 2 => y2.toInt | 3 => y3.toInt | 4 => y4.toInt | 5 => y5.toInt | 6 => y6.toInt | _ => 0) [.ref k2] hTY X2.1 X2.2.2.2 (by show h2.length + 1 ≤ _; omega) (fun s hs9 => by
            match s, hs9 with
            | 0, _ => exact ⟨a0, b0, fun h => by cases h⟩
            | 1, _ => exact ⟨a1, b1, fun h => by cases h⟩
            | 2, _ => exact ⟨a2, b2, fun h => by cases h⟩
            | 3, _ => exact ⟨a3, b3, fun h => by cases h⟩
            | 4, _ => exact ⟨a4, b4, fun h => by cases h⟩
            | 5, _ => exact ⟨a5, b5, fun h => by cases h⟩
            | 6, _ => exact ⟨a6, b6, fun h => by cases h⟩
            | s + 7, h => exact absurd h (by show ¬ (s + 7 < 7); omega)) ⟨_, _, rfl, Or.inr (Or.inr (Or.inr (Or.inl ⟨rfl, k2, 11, rfl, rk2, by decide, by decide⟩))), rfl⟩ (fun i q a hi ha => by
            match i, hi, ha with
            | 0, hi, ha => cases hi; cases ha; show VM _ _ _ _ _ _ _ (rd _ 54 0); rw [e0]; exact Or.inr (Or.inl ⟨rfl, _, rfl, by decide, (Int.add_zero _).symm⟩)
            | 1, hi, ha => cases hi; cases ha; show VM _ _ _ _ _ _ _ (rd _ 54 6); rw [e1]; exact Or.inr (Or.inl ⟨rfl, _, rfl, by decide, (Int.add_zero _).symm⟩)
            | 2, hi, ha => cases hi; cases ha; show VM _ _ _ _ _ _ _ (rd _ 54 8); rw [e2]; exact Or.inr (Or.inl ⟨rfl, _, rfl, by decide, (Int.add_zero _).symm⟩)
            | 3, hi, ha => cases hi; cases ha; show VM _ _ _ _ _ _ _ (rd _ 54 9); rw [e3]; exact Or.inr (Or.inl ⟨rfl, _, rfl, by decide, (Int.add_zero _).symm⟩)
            | 4, hi, ha => cases hi; cases ha; show VM _ _ _ _ _ _ _ (rd _ 77 1); rw [e4]; exact Or.inr (Or.inr (Or.inl ⟨rfl, _, rfl, by decide, rfl⟩))
            | 5, hi, ha => cases hi; cases ha; show VM _ _ _ _ _ _ _ (rd _ 77 3); rw [e5]; exact Or.inr (Or.inl ⟨rfl, _, rfl, by decide, (Int.add_zero _).symm⟩)
            | 6, hi, ha => cases hi; cases ha; show VM _ _ _ _ _ _ _ (rd _ 54 7); rw [e6]; exact Or.inr (Or.inl ⟨rfl, _, rfl, by decide, (Int.add_zero _).symm⟩)
            | i + 7, hi, _ => cases hi)) ?_
              rintro kd r h3 ⟨R', σ', pt, t1, t2, t3, t5, t4, t6, t7, t9, t8⟩
              obtain rfl := List.mem_singleton.mp t1
              obtain ⟨v8, S8, t10, t11, hz8⟩ := t9
              obtain ⟨k3, rfl, t12, -⟩ := (t11.rf3 rfl).one rfl
              have hz8 : S8 = [] := hz8
              subst hz8
              refine ⟨t2.symm, R', k3, (k_reg0 (sym := 0) (t8 0 (6, 54, 0) (1, 0, 0, 0) rfl rfl) (t4 0 (by decide)) e0), t3, t5, ?_, Or.inl t12⟩
              cases r with
              | none => cases t10
              | some w => cases t10; rfl
            · refine BodyN.imp (hb79b (gp g0 wp) bl xs l h2 R2 (fun s => match s with | 0 => y0.toInt | 1 => y1.toInt | 2 => y2.toInt | 3 => y3.toInt | 4 => y4.toInt | 5 => y5.toInt | 6 => y6.toInt | _ => 0) [.ref k2] hTY X2.1 X2.2.2.2 (by show h2.length + 1 ≤ _; omega) (fun s hs9 => by
            match s, hs9 with
            | 0, _ => exact ⟨a0, b0, fun h => by cases h⟩
            | 1, _ => exact ⟨a1, b1, fun h => by cases h⟩
            | 2, _ => exact ⟨a2, b2, fun h => by cases h⟩
            | 3, _ => exact ⟨a3, b3, fun h => by cases h⟩
            | 4, _ => exact ⟨a4, b4, fun h => by cases h⟩
            | 5, _ => exact ⟨a5, b5, fun h => by cases h⟩
            | 6, _ => exact ⟨a6, b6, fun h => by cases h⟩
            | s + 7, h => exact absurd h (by show ¬ (s + 7 < 7); omega)) ⟨_, _, rfl, Or.inr (Or.inr (Or.inr (Or.inl ⟨rfl, k2, 9, rfl, rk2, by decide, by decide⟩))), rfl⟩ (fun i q a hi ha => by
            match i, hi, ha with
            | 0, hi, ha => cases hi; cases ha; show VM _ _ _ _ _ _ _ (rd _ 54 0); rw [e0]; exact Or.inr (Or.inl ⟨rfl, _, rfl, by decide, (Int.add_zero _).symm⟩)
            | 1, hi, ha => cases hi; cases ha; show VM _ _ _ _ _ _ _ (rd _ 54 6); rw [e1]; exact Or.inr (Or.inl ⟨rfl, _, rfl, by decide, (Int.add_zero _).symm⟩)
            | 2, hi, ha => cases hi; cases ha; show VM _ _ _ _ _ _ _ (rd _ 54 8); rw [e2]; exact Or.inr (Or.inl ⟨rfl, _, rfl, by decide, (Int.add_zero _).symm⟩)
            | 3, hi, ha => cases hi; cases ha; show VM _ _ _ _ _ _ _ (rd _ 54 9); rw [e3]; exact Or.inr (Or.inl ⟨rfl, _, rfl, by decide, (Int.add_zero _).symm⟩)
            | 4, hi, ha => cases hi; cases ha; show VM _ _ _ _ _ _ _ (rd _ 77 1); rw [e4]; exact Or.inr (Or.inr (Or.inl ⟨rfl, _, rfl, by decide, rfl⟩))
            | 5, hi, ha => cases hi; cases ha; show VM _ _ _ _ _ _ _ (rd _ 77 3); rw [e5]; exact Or.inr (Or.inl ⟨rfl, _, rfl, by decide, (Int.add_zero _).symm⟩)
            | 6, hi, ha => cases hi; cases ha; show VM _ _ _ _ _ _ _ (rd _ 54 7); rw [e6]; exact Or.inr (Or.inl ⟨rfl, _, rfl, by decide, (Int.add_zero _).symm⟩)
            | i + 7, hi, _ => cases hi)) ?_
              rintro kd r h3 ⟨R', σ', pt, t1, t2, t3, t5, t4, t6, t7, t9, t8⟩
              obtain rfl := List.mem_singleton.mp t1
              obtain ⟨v8, S8, t10, t11, hz8⟩ := t9
              obtain ⟨k3, rfl, t12, -⟩ := (t11.rf3 rfl).one rfl
              have hz8 : S8 = [] := hz8
              subst hz8
              refine ⟨t2.symm, R', k3, (k_reg0 (sym := 0) (t8 0 (6, 54, 0) (1, 0, 0, 0) rfl rfl) (t4 0 (by decide)) e0), t3, t5, ?_, Or.inr t12⟩
              cases r with
              | none => cases t10
              | some w => cases t10; rfl
          have sk2 : shp h2 k2 = some (2, 2) := rk2.elim (fun h => ty_shp T2 h (by decide) rfl rfl) (fun h => ty_shp T2 h (by decide) rfl rfl)
          refine n_call tb_pres act hEnd (gx (P := G_call) gp_40 (w := 0x3000000000000c041100004f001b0f) rfl (by decide) rfl) (d' := D_79) rfl (as := [.ref k2]) (rest := []) FA (show (1 : Nat) = fb 0x3000000000000c041100004f001b0f % 16 by decide) (by show (1 : Nat) ≤ 1; decide) (fun _ => ⟨_, _, rfl, _, shp_at sk2, Or.inr (show fb 0x3000000000000c041100004f001b0f >>> 68 = 3 by decide)⟩) (by omega) (by show 8 + (1 + 11) + 36 ≤ R.locals; omega) (by show (0 : Nat) ≤ 8; decide) (by show kc + 1 + 1 + 13 + 21 + 1 ≤ _; omega) (by show ks + 11 + 11 + 143 + 231 + 11 ≤ _; omega) (fun r9 h3 hpo hr9 => ?_) (fun x9 hs9 hx9 hpo => ?_)
          · obtain ⟨-, R3, k3, rg3, X3, ln3, rfl, rk3⟩ := hpo
            have T3 := kd_hty.mp X3.1
            have sk3 : shp h3 k3 = some (2, 2) := rk3.elim (fun h => ty_shp T3 h (by decide) rfl rfl) (fun h => ty_shp T3 h (by decide) rfl rfl)
            obtain ⟨nu, de, e_nu, e_de, hnz⟩ : ∃ n d : Int64, rd h3 k3 0 = .long n ∧ rd h3 k3 1 = .long d ∧ (n.toInt ≠ 0 ∨ d.toInt ≠ 0) := by
              rcases rk3 with r9 | r9
              · obtain ⟨n, e1, -, -, h1⟩ := vt_l ((T3.2.1 k3 11 r9 (by decide)).2 0 (by decide)) rfl
                obtain ⟨d, e2, -⟩ := vt_l ((T3.2.1 k3 11 r9 (by decide)).2 1 (by decide)) rfl
                exact ⟨n, d, e1, e2, Or.inl (h1 rfl)⟩
              · obtain ⟨n, e1, -⟩ := vt_l ((T3.2.1 k3 9 r9 (by decide)).2 0 (by decide)) rfl
                obtain ⟨d, e2, -, -, h2⟩ := vt_l ((T3.2.1 k3 9 r9 (by decide)).2 1 (by decide)) rfl
                exact ⟨n, d, e1, e2, Or.inr (h2 rfl)⟩
            obtain ⟨hC3, f1, f2, f3, f4⟩ := X3.2.2.2
            obtain ⟨m9, kl, en3, el3, rkl, -, hge⟩ := hC3.1 kg f2
            have en3 := f4.symm.trans en3
            obtain rfl : n9 = m9 := by cases en3; rfl
            show WpN (gp g0 wp) CLS p l e R s m args below meth c Q D_40.2.2.1 kc0 ks0 27 [some (.ref kp), some (.int i), some (.int j), none] (h3, kc + 1 + 1 + 13 + 21 + 1, ks + 11 + 11 + 143 + 231 + 11) [.ref k3]
            refine g_storeA act (gx gp_40 (w := 0x3001c2d) rfl (by decide) rfl) (a := 3) (n := 28) rfl rfl (L2 := [some (.ref kp), some (.int i), some (.int j), some (.ref k3)]) rfl ?_
            refine g_loadA act (gx gp_40 (w := 0x3001d03) rfl (by decide) rfl) (a := 3) (n := 29) rfl rfl rfl ?_
            refine r_getf act (gx gp_40 (w := 0x2000002002004) rfl (by decide) rfl) (n := 32) (ci := 2) (j := 0) (N := 2) rfl rfl rfl sk3 (by decide) (v := .long nu) e_nu ?_
            refine g_l2f act (gx gp_40 (w := 0x2147) rfl (by decide) rfl) (n := 33) rfl ?_
            refine g_loadA act (gx gp_40 (w := 0x3002203) rfl (by decide) rfl) (a := 3) (n := 34) rfl rfl rfl ?_
            refine r_getf act (gx gp_40 (w := 0x2000042002504) rfl (by decide) rfl) (n := 37) (ci := 2) (j := 1) (N := 2) rfl rfl rfl sk3 (by decide) (v := .long de) e_de ?_
            refine g_l2f act (gx gp_40 (w := 0x2647) rfl (by decide) rfl) (n := 38) rfl ?_
            have w1 := ldn1 hnz
            refine g_fdiv act (gx gp_40 (w := 0x2746) rfl (by decide) rfl) (n := 39) (nn_of w1) rfl ?_
            refine g_loadA act (gx gp_40 (w := 0x2803) rfl (by decide) rfl) (a := 0) (n := 40) rfl rfl rfl ?_
            refine r_getf act (gx gp_40 (w := 0x3000180002b04) rfl (by decide) rfl) (n := 43) (ci := 0) (j := 6) (N := 7) rfl rfl rfl (ty_shp T3 f1 (by decide) rfl rfl) (by decide) (v := .ref kg) f3 ?_
            refine r_getf act (gx gp_40 (w := 0x3000204002e04) rfl (by decide) rfl) (n := 46) (ci := 4) (j := 8) (N := 18) rfl rfl rfl (ty_shp T3 f2 (by decide) rfl rfl) (by decide) (v := .ref kl) el3 ?_
            refine g_loadI act (gx gp_40 (w := 0x2002f02) rfl (by decide) rfl) (a := 2) (n := 47) rfl rfl rfl ?_
            obtain ⟨z9, e_z, z1⟩ := hge j.toInt.toNat (by omega)
            refine r_iald act (gx gp_40 (w := 0x301a) rfl (by decide) rfl) (n := 48) (N := 6) rfl (ty_shp T3 rkl (by decide) rfl rfl) (j := j.toInt.toNat) (by omega) (by omega) (v := .int z9) e_z ?_
            refine g_i2f act (gx gp_40 (w := 0x3148) rfl (by decide) rfl) (n := 49) rfl ?_
            have w2 := ldn2 w1 (z := z9) (by omega)
            refine g_fdiv act (gx gp_40 (w := 0x3246) rfl (by decide) rfl) (n := 50) (nn_of w2) rfl ?_
            refine n_call tb_pres act hEnd (gx (P := G_call) gp_40 (w := 0x4101100000500350f) rfl (by decide) rfl) (d' := D_5) rfl (as := [.float (FP.fdiv (FP.fdiv (FP.l2f nu) (FP.l2f de)) (FP.i2f z9))]) (rest := []) (b_bitC w2) (show (1 : Nat) = fb 0x4101100000500350f % 16 by decide) (by show (1 : Nat) ≤ 4; decide) (fun q => absurd q (by decide)) (by omega) (by show 8 + (4 + 11) + 0 ≤ R.locals; omega) (by show (0 : Nat) ≤ 8; decide) (by show kc + 1 + 1 + 13 + 21 + 1 + 0 ≤ _; omega) (by show ks + 11 + 11 + 143 + 231 + 11 + 0 ≤ _; omega) (fun r9 h9 hpo hr9 => ?_) (fun x9 hs9 hx9 hpo => ?_)
            · obtain ⟨-, rfl, b9, rfl⟩ := hpo
              show WpN (gp g0 wp) CLS p l e R s m args below meth c Q D_40.2.2.1 kc0 ks0 53 [some (.ref kp), some (.int i), some (.int j), some (.ref k3)] (h3, kc + 1 + 1 + 13 + 21 + 1, ks + 11 + 11 + 143 + 231 + 11) [.int b9]
              exact g_retI hEnd (gx gp_40 (w := 0x2f) rfl (by decide) rfl) (⟨Or.inl ⟨rfl, _, rfl⟩, _, ((kd_hx X1).tr ((kd_hx X2).tr (kd_hx X3))), (by show h3.length ≤ hs.length + 80; omega), rg3.trans (rg2.trans rg1)⟩) (by show kc + 1 + 1 + 13 + 21 + 1 ≤ kc + 80; omega) (by show ks + 11 + 11 + 143 + 231 + 11 ≤ ks + 11 * 80; omega)
            · exact absurd hpo.1 (by omega)
          · exact absurd hpo.1 (by omega)
        · exact absurd hpo.1 (by omega)
      · obtain ⟨z, R1, rg1, X1, ln1⟩ := hpo.resolve_left (fun z => absurd z.1 (by omega))
        obtain rfl : x9 = 0 := by omega
        refine Or.inr ⟨rfl, ⟨Or.inr ⟨Or.inl rfl, rfl⟩, R1, (kd_hx X1), (by omega), rg1⟩, by show kc + 1 + 1 + 13 ≤ kc + 80; omega, by show ks + 11 + 11 + 143 ≤ ks + 11 * 80; omega⟩
    · obtain ⟨rfl, hq⟩ := hpo
      obtain rfl : x9 = 1 := by omega
      refine Or.inr ⟨rfl, ⟨Or.inr ⟨Or.inr rfl, rfl⟩, R0, X0, Nat.le_add_right _ _, rfl⟩, by show kc + 2 ≤ kc + 80; omega, by show ks + 22 ≤ ks + 11 * 80; omega⟩
  · obtain ⟨rfl, hq⟩ := hpo
    obtain rfl : x9 = 1 := by omega
    refine Or.inr ⟨rfl, ⟨Or.inr ⟨Or.inr rfl, rfl⟩, R0, X0, Nat.le_add_right _ _, rfl⟩, by show kc + 1 ≤ kc + 80; omega, by show ks + 11 ≤ ks + 11 * 80; omega⟩
section WRB
variable {g0 : GG} {bl : Nat} {xs : Nat → Int32} {l : Launch} {hs : List CE} {R0 : List Nat} {kp ko : Nat}
theorem b_wLb {i1 i2 : Int32} (hTY0 : TYg g0) (hT : HTy KC R0 hs) (hInv : InvC R0 hs) (hlen : hs.length + 80 ≤ 6999999999999) (hkp : R0[kp]? = some 1) (hko : R0[ko]? = some 55) : BodyN SSX TBL g0 CLS bl xs l D_155 12 270 80 880 [.ref kp, .int i1, .int i2, .ref ko] hs (fun kd r h2 => kd = 0 ∧ ∃ R2 : List Nat, HX KC InvC R0 hs R2 h2 ∧ h2.length ≤ hs.length + 80 ∧ (∃ x : Int32, r = some (.int x)) ∧ rd h2 54 0 = rd hs 54 0) := by
  intro wp p e R s m args below meth c Q kc0 ks0 kc ks act hf hl hc hsl hEnd
  have hf : 12 ≤ R.frames := hf
  have hl : 270 ≤ R.locals := hl
  have hTY : TYg (gp g0 wp) := hTY0
  show WpN (gp g0 wp) CLS p l e R s m args below meth c Q D_155.2.2.1 kc0 ks0 0 [some (.ref kp), some (.int i1), some (.int i2), some (.ref ko), none] (hs, kc, ks) []
  refine g_loadA act (gx gp_155 (w := 0x3000103) rfl (by decide) rfl) (a := 3) (n := 1) rfl rfl rfl ?_
  refine g_constI act (gx gp_155 (w := 0x40000000400000001000000000201) rfl (by decide) rfl) (n := 2) (x := (0 : Int32)) (by decide) rfl ?_
  refine g_loadA act (gx gp_155 (w := 0x303) rfl (by decide) rfl) (a := 0) (n := 3) rfl rfl rfl ?_
  refine g_loadI act (gx gp_155 (w := 0x1000402) rfl (by decide) rfl) (a := 1) (n := 4) rfl rfl rfl ?_
  refine g_loadI act (gx gp_155 (w := 0x2000502) rfl (by decide) rfl) (a := 2) (n := 5) rfl rfl rfl ?_
  refine n_call tb_pres act hEnd (gx (P := G_call) gp_155 (w := 0x100000000d011c103300002800080f) rfl (by decide) rfl) (d' := D_40) rfl (f' := 11) (lam' := 240) (mc := 80) (ms := 880) (as := [.ref kp, .int i1, .int i2]) (rest := [.int (0 : Int32), .ref ko]) (b_lbX hTY hT hInv hlen hkp) (show (3 : Nat) = fb 0x100000000d011c103300002800080f % 16 by decide) (by show (3 : Nat) ≤ 4; decide) (fun _ => ⟨_, _, rfl, _, shp_at (ty_shp hT hkp (by decide) (a := 0) (b := 7) rfl rfl), Or.inr (show fb 0x100000000d011c103300002800080f >>> 68 = 1 by decide)⟩) (by omega) (by show 8 + (4 + 11) + 240 ≤ R.locals; omega) (by show (2 : Nat) ≤ 8; decide) (by show kc + 80 ≤ _; omega) (by show ks + 880 ≤ _; omega) (fun r9 h1 hpo hr9 => ?_) (fun x9 hs9 hx9 hpo => ?_)
  · obtain ⟨hc9, R2, hX, hln, hc3⟩ := hpo
    obtain ⟨-, x9, rfl⟩ := hc9.resolve_right (fun z => by have := z.1; omega)
    show WpN (gp g0 wp) CLS p l e R s m args below meth c Q D_155.2.2.1 kc0 ks0 8 [some (.ref kp), some (.int i1), some (.int i2), some (.ref ko), none] (h1, kc + 80, ks + 880) [.int x9, .int (0 : Int32), .ref ko]
    refine g_i2l act (gx gp_155 (w := 0x92c) rfl (by decide) rfl) (n := 9) rfl ?_
    refine r_last act (gx gp_155 (w := 0xa05) rfl (by decide) rfl) (n := 10) (N := 1) (j := 0) rfl (ty_shp (hX.1) (hX.2.1 _ _ hko) (by decide) (a := 33) (b := 1) rfl rfl) rfl (by decide) ?_
    refine g_goto act (gx gp_155 (w := 0x1507) rfl (by decide) rfl) (n := 21) rfl ?_
    refine g_constI act (gx gp_155 (w := 0x40000000400000001000000001601) rfl (by decide) rfl) (n := 22) (x := (0 : Int32)) (by decide) rfl ?_
    exact g_retI hEnd (gx gp_155 (w := 0x2f) rfl (by decide) rfl) ⟨rfl, R2, hx_out hX (hX.2.1 _ _ hko) _, by rw [wr_len]; exact hln, ⟨_, rfl⟩, (hx_rd0 hX.1 (hX.2.1 _ _ hko) _).trans hc3⟩ (by show kc + 80 ≤ kc + 80; omega) (by show ks + 880 ≤ ks + 880; omega)
  · obtain ⟨hc9, R2, hX, hln, hc3⟩ := hpo
    obtain ⟨hc1, -⟩ := hc9.resolve_left (fun z => by have := z.1; omega)
    rcases (show x9 = 0 ∨ x9 = 1 by omega) with rfl | rfl
    · refine Or.inl ⟨by decide, ?_⟩
      show WpN (gp g0 wp) CLS p l e R s m args below meth c Q D_155.2.2.1 kc0 ks0 17 [some (.ref kp), some (.int i1), some (.int i2), some (.ref ko), none] (hs9, kc + 80, ks + 880) [.ref 7000000000001]
      refine g_storeA act (gx gp_155 (w := 0x400132d) rfl (by decide) rfl) (a := 4) (n := 19) rfl rfl (L2 := [some (.ref kp), some (.int i1), some (.int i2), some (.ref ko), some (.ref 7000000000001)]) rfl ?_
      refine g_constI act (gx gp_155 (w := 0x40000001400000011000000001401) rfl (by decide) rfl) (n := 20) (x := (2 : Int32)) (by decide) rfl ?_
      exact g_retI hEnd (gx gp_155 (w := 0x2f) rfl (by decide) rfl) ⟨rfl, R2, hX, hln, ⟨_, rfl⟩, hc3⟩ (by show kc + 80 ≤ kc + 80; omega) (by show ks + 880 ≤ ks + 880; omega)
    · refine Or.inl ⟨by decide, ?_⟩
      show WpN (gp g0 wp) CLS p l e R s m args below meth c Q D_155.2.2.1 kc0 ks0 13 [some (.ref kp), some (.int i1), some (.int i2), some (.ref ko), none] (hs9, kc + 80, ks + 880) [.ref 7000000000001]
      refine g_storeA act (gx gp_155 (w := 0x4000f2d) rfl (by decide) rfl) (a := 4) (n := 15) rfl rfl (L2 := [some (.ref kp), some (.int i1), some (.int i2), some (.ref ko), some (.ref 7000000000001)]) rfl ?_
      refine g_constI act (gx gp_155 (w := 0x40000000c00000009000000001001) rfl (by decide) rfl) (n := 16) (x := (1 : Int32)) (by decide) rfl ?_
      exact g_retI hEnd (gx gp_155 (w := 0x2f) rfl (by decide) rfl) ⟨rfl, R2, hX, hln, ⟨_, rfl⟩, hc3⟩ (by show kc + 80 ≤ kc + 80; omega) (by show ks + 880 ≤ ks + 880; omega)

end WRB
section LAWD
variable {g0 : GG} {bl : Nat} {xs : Nat → Int32} {l : Launch} {wp : va_W} {p : Program} {e : Env} {R : Room} {s : State} {m : MethodId} {args : Array Value} {below : List Frame} {meth : Method} {c : Code} {Q : State → Prop} {kc0 ks0 KC9 KS9 kc ks t : Nat} {hs : List CE} {R0 : List Nat} {A : Int} {i : Int32} {v6 v7 v8 : Option Value}
theorem lb_1247 (hTY : TYg g0) (act : Act SSX TBL (gp g0 wp) CLS bl xs D_0 p l s m args meth c) (hEnd : EndN SSX TBL (gp g0 wp) CLS D_0 p l e R s m args below meth c Q kc0 ks0 15 616 KC9 KS9 PE) (hf : 15 ≤ R.frames) (hl : 616 ≤ R.locals) (hc : 638008 ≤ R.cells + kc0) (hsl : 7182079 ≤ R.slots + ks0) (hI : LI hs R0 A A) (hP : PT kc ks hs.length A t) (ht : t ≤ 511) (hi : i.toInt = 6 * (t : Int)) (hib : i.toInt + 6 ≤ (bl : Int)) (K : ∀ (h2 : List CE) (R2 : List Nat) (A2 : Int) (kc2 ks2 : Nat) (v6 v7 v8 : Option Value), LI h2 R2 A2 A2 → PT kc2 ks2 h2.length A2 (t + 1) → WpN (gp g0 wp) CLS p l e R s m args below meth c Q D_0.2.2.1 kc0 ks0 1829 [some (.ref 7000000000003), some (.ref 0), some (.ref 124), some (.ref 146), some (.ref 147), some (.int i), v6, v7, v8] (h2, kc2, ks2) []) : WpN (gp g0 wp) CLS p l e R s m args below meth c Q D_0.2.2.1 kc0 ks0 1247 [some (.ref 7000000000003), some (.ref 0), some (.ref 124), some (.ref 146), some (.ref 147), some (.int i), v6, v7, v8] (hs, kc, ks) [] := by
  have hTY9 : TYg (gp g0 wp) := hTY
  obtain ⟨p1, p2, p3, p4⟩ := id hP
  have j1 := i_k (i := i) (k := 1) (by omega) (by omega) (by decide) (by decide)
  have j2 := i_k (i := i) (k := 2) (by omega) (by omega) (by decide) (by decide)
  have j3 := i_k (i := i) (k := 3) (by omega) (by omega) (by decide) (by decide)
  have j4 := i_k (i := i) (k := 4) (by omega) (by omega) (by decide) (by decide)
  have j5 := i_k (i := i) (k := 5) (by omega) (by omega) (by decide) (by decide)
  rw [show (1 : Int32).toInt = 1 from rfl] at j1
  rw [show (2 : Int32).toInt = 2 from rfl] at j2
  rw [show (3 : Int32).toInt = 3 from rfl] at j3
  rw [show (4 : Int32).toInt = 4 from rfl] at j4
  rw [show (5 : Int32).toInt = 5 from rfl] at j5
  refine g_loadA act (gx gp_0 (w := 0x104e003) rfl (by decide) rfl) (a := 1) (n := 1248) rfl rfl rfl ?_
  refine g_loadA act (gx gp_0 (w := 0x4e103) rfl (by decide) rfl) (a := 0) (n := 1249) rfl rfl rfl ?_
  refine g_loadI act (gx gp_0 (w := 0x504e302) rfl (by decide) rfl) (a := 5) (n := 1251) rfl rfl rfl ?_
  refine g_constI act (gx gp_0 (w := 0x40000000c0000000900000004e401) rfl (by decide) rfl) (n := 1252) (x := (1 : Int32)) (by decide) rfl ?_
  refine g_iadd act (gx gp_0 (w := 0x4e50a) rfl (by decide) rfl) (n := 1253) rfl ?_
  refine g_sald act (gx gp_0 (w := 0x4e61a) rfl (by decide) rfl) (n := 1254) rfl (by omega) (by omega) ?_
  refine g_loadA act (gx gp_0 (w := 0x4e703) rfl (by decide) rfl) (a := 0) (n := 1255) rfl rfl rfl ?_
  refine g_loadI act (gx gp_0 (w := 0x504e902) rfl (by decide) rfl) (a := 5) (n := 1257) rfl rfl rfl ?_
  refine g_constI act (gx gp_0 (w := 0x4000000140000001100000004ea01) rfl (by decide) rfl) (n := 1258) (x := (2 : Int32)) (by decide) rfl ?_
  refine g_iadd act (gx gp_0 (w := 0x4eb0a) rfl (by decide) rfl) (n := 1259) rfl ?_
  refine g_sald act (gx gp_0 (w := 0x4ec1a) rfl (by decide) rfl) (n := 1260) rfl (by omega) (by omega) ?_
  refine g_loadA act (gx gp_0 (w := 0x304ed03) rfl (by decide) rfl) (a := 3) (n := 1261) rfl rfl rfl ?_
  refine n_call tb_pres act hEnd (gx (P := G_call) gp_0 (w := 0x400000000000004144400009b04f00f) rfl (by decide) rfl) (d' := D_155) rfl (f' := 12) (lam' := 270) (mc := 80) (ms := 880) (as := [.ref 0, .int (xs (i + (1 : Int32)).toInt.toNat), .int (xs (i + (2 : Int32)).toInt.toNat), .ref 146]) (rest := []) (b_wLb hTY9 hI.1 hI.2.1 (by show hs.length + 80 ≤ _; omega) hI.2.2.1 hI.2.2.2.2.1) (show (4 : Nat) = fb 0x400000000000004144400009b04f00f % 16 by decide) (by show (4 : Nat) ≤ 5; decide) (fun q => absurd q (by decide)) (by omega) (by show 8 + (5 + 11) + 270 ≤ R.locals; omega) (by show (0 : Nat) ≤ 8; decide) (by show kc + 80 ≤ _; omega) (by show ks + 880 ≤ _; omega) (fun r9 h2 hpo hr9 => ?_) (fun x9 hs9 hx9 hpo => ?_)
  · obtain ⟨-, R2, hX, hln, ⟨a6, rfl⟩, hrg⟩ := hpo
    have hI2 := hI.hx hX (A2 := A) (by show ∃ x : Int32, rd h2 54 0 = .int x ∧ _; rw [hrg]; exact hI.2.2.2.2.2.2.2)
    show WpN (gp g0 wp) CLS p l e R s m args below meth c Q D_0.2.2.1 kc0 ks0 1264 [some (.ref 7000000000003), some (.ref 0), some (.ref 124), some (.ref 146), some (.ref 147), some (.int i), v6, v7, v8] (h2, kc + 80, ks + 880) [.int a6]
    refine g_storeI act (gx gp_0 (w := 0x604f210) rfl (by decide) rfl) (a := 6) (n := 1266) rfl rfl (L2 := [some (.ref 7000000000003), some (.ref 0), some (.ref 124), some (.ref 146), some (.ref 147), some (.int i), some (.int a6), v7, v8]) rfl ?_
    refine g_loadA act (gx gp_0 (w := 0x204f303) rfl (by decide) rfl) (a := 2) (n := 1267) rfl rfl rfl ?_
    refine g_loadA act (gx gp_0 (w := 0x4f403) rfl (by decide) rfl) (a := 0) (n := 1268) rfl rfl rfl ?_
    refine g_loadI act (gx gp_0 (w := 0x504f602) rfl (by decide) rfl) (a := 5) (n := 1270) rfl rfl rfl ?_
    refine g_constI act (gx gp_0 (w := 0x40000000c0000000900000004f701) rfl (by decide) rfl) (n := 1271) (x := (1 : Int32)) (by decide) rfl ?_
    refine g_iadd act (gx gp_0 (w := 0x4f80a) rfl (by decide) rfl) (n := 1272) rfl ?_
    refine g_sald act (gx gp_0 (w := 0x4f91a) rfl (by decide) rfl) (n := 1273) rfl (by omega) (by omega) ?_
    refine g_loadA act (gx gp_0 (w := 0x4fa03) rfl (by decide) rfl) (a := 0) (n := 1274) rfl rfl rfl ?_
    refine g_loadI act (gx gp_0 (w := 0x504fc02) rfl (by decide) rfl) (a := 5) (n := 1276) rfl rfl rfl ?_
    refine g_constI act (gx gp_0 (w := 0x4000000140000001100000004fd01) rfl (by decide) rfl) (n := 1277) (x := (2 : Int32)) (by decide) rfl ?_
    refine g_iadd act (gx gp_0 (w := 0x4fe0a) rfl (by decide) rfl) (n := 1278) rfl ?_
    refine g_sald act (gx gp_0 (w := 0x4ff1a) rfl (by decide) rfl) (n := 1279) rfl (by omega) (by omega) ?_
    obtain ⟨tl, wl, nl, n, ng, nr, hNW, hL1, hB, hM⟩ := num_use hI2
    have hs124 := hB.1.1
    refine n_call tb_pres act hEnd (gx (P := G_call) gp_0 (w := 0xa000000000000c14330000f005020f) rfl (by decide) rfl) (d' := D_240) rfl (f' := 10) (lam' := 251) (mc := 0) (ms := 0) (as := [.ref 124, .int (xs (i + (1 : Int32)).toInt.toNat), .int (xs (i + (2 : Int32)).toInt.toNat)]) (rest := []) (b_loadBits hNW hL1 hB hM) (show (3 : Nat) = fb 0xa000000000000c14330000f005020f % 16 by decide) (by show (3 : Nat) ≤ 5; decide) (fun _ => ⟨_, _, rfl, _, shp_at hB.1.1, Or.inr (show fb 0xa000000000000c14330000f005020f >>> 68 = 10 by decide)⟩) (by omega) (by show 8 + (5 + 11) + 251 ≤ R.locals; omega) (by show (0 : Nat) ≤ 8; decide) (by show kc + 80 + 0 ≤ _; omega) (by show ks + 880 + 0 ≤ _; omega) (fun r9 h3 hpo hr9 => ?_) (fun x9 hs9 hx9 hpo => ?_)
    · obtain ⟨-, ⟨b7, rfl⟩, hM3, f3⟩ := hpo
      have hI3 := hI2.wm f3 hM3
      have ln3 : h3.length = h2.length := f3.1
      show WpN (gp g0 wp) CLS p l e R s m args below meth c Q D_0.2.2.1 kc0 ks0 1282 [some (.ref 7000000000003), some (.ref 0), some (.ref 124), some (.ref 146), some (.ref 147), some (.int i), some (.int a6), v7, v8] (h3, kc + 80, ks + 880) [.int b7]
      refine g_storeI act (gx gp_0 (w := 0x7050410) rfl (by decide) rfl) (a := 7) (n := 1284) rfl rfl (L2 := [some (.ref 7000000000003), some (.ref 0), some (.ref 124), some (.ref 146), some (.ref 147), some (.int i), some (.int a6), some (.int b7), v8]) rfl ?_
      refine g_goto act (gx gp_0 (w := 0x72507) rfl (by decide) rfl) (n := 1829) rfl ?_
      exact K _ _ _ _ _ _ _ _ hI3 (pt_step hP (by decide) (by decide) (by rw [ln3]; exact hln))
    · exact absurd hpo.1 (by omega)
  · exact absurd hpo.1 (by omega)
end LAWD

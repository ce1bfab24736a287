/-! append and truncate exactly; the law's wrappers of append, truncate, undo. -/
theorem hx_out {R0 R : List Nat} {hs h1 : List CE} {ko : Nat} (h : HX KC InvC R0 hs R h1) (hk : R[ko]? = some 55) (x : Int64) : HX KC InvC R0 hs R (wr h1 ko 0 (.long x)) :=
  HX.wr invC_KC h hk (by decide) (by decide) (vw_of (Or.inr (Or.inr (Or.inl ⟨rfl, x, rfl, x.le_toInt, Int.le_of_lt_add_one x.toInt_lt, fun z => absurd z (by decide)⟩))) (by decide))
theorem hx_rd0 {R : List Nat} {hs : List CE} (hT : HTy KC R hs) {ko : Nat} (hk : R[ko]? = some 55) (v : Value) : rd (wr hs ko 0 v) 54 0 = rd hs 54 0 :=
  rd_ne _ _ (Or.inl fun z => by
    subst z
    rw [(hT.2.2 (6, 54, 0) (by decide)).2.1] at hk
    cases hk)
section WRA
variable {g0 : GG} {bl : Nat} {xs : Nat → Int32} {l : Launch} {hs : List CE} {R0 : List Nat} {kp ko : Nat} {L9 : Int32}
theorem b_appX {i1 i2 i3 i4 i5 : Int32} (hTY : TYg g0) (hT : HTy KC R0 hs) (hInv : InvC R0 hs) (hlen : hs.length + 1 ≤ 6999999999999) (hkp : R0[kp]? = some 1) (e0 : rd hs 54 0 = .int L9) :
    BodyN SSX TBL g0 CLS bl xs l D_2 8 120 1 11 [.ref kp, .int i1, .int i2, .int i3, .int i4, .int i5] hs (fun kd r h2 => ((kd = 0 ∧ L9.toInt + 20 ≤ 700 ∧ ∃ x : Int32, r = some (.int x) ∧ x.toInt = L9.toInt + 20 ∧ rd h2 54 0 = .int x) ∨ (kd = 1 ∧ r = none ∧ 700 < L9.toInt + 20 ∧ rd h2 54 0 = .int L9)) ∧ ∃ R2 : List Nat, HX KC InvC R0 hs R2 h2 ∧ h2.length ≤ hs.length + 1) := by
  obtain ⟨d', hd', -, hb⟩ := sc2_0 (handsB_KC invC_KC)
  obtain rfl : D_2 = d' := Option.some.inj hd'
  obtain ⟨σ, s1, s2, s3, y, ey, sy⟩ := reg_sig hT [i1, i2, i3, i4, i5] [(-2147483648, 2147483647, false), (-2147483648, 2147483647, false), (-2147483648, 2147483647, false), (-2147483648, 2147483647, false), (-2147483648, 2147483647, false)] rfl (fun i hi => by
    match i, hi with
    | 0, _ => exact ⟨i1.le_toInt, i1.toInt_le, rfl⟩
    | 1, _ => exact ⟨i2.le_toInt, i2.toInt_le, rfl⟩
    | 2, _ => exact ⟨i3.le_toInt, i3.toInt_le, rfl⟩
    | 3, _ => exact ⟨i4.le_toInt, i4.toInt_le, rfl⟩
    | 4, _ => exact ⟨i5.le_toInt, i5.toInt_le, rfl⟩)
  obtain rfl : L9 = y := by rw [ey] at e0; cases e0; rfl
  have sy : σ 5 = L9.toInt := sy
  have hA : AVs R0 c2_0.2.1.2.1 [.ref kp, .int i1, .int i2, .int i3, .int i4, .int i5] [i1, i2, i3, i4, i5] 0 := Or.inl ⟨rfl, ⟨kp, 1, rfl, hkp, by decide, by decide⟩, Or.inr ⟨i1, [i2, i3, i4, i5], rfl, rfl, rfl, Or.inr ⟨i2, [i3, i4, i5], rfl, rfl, rfl, Or.inr ⟨i3, [i4, i5], rfl, rfl, rfl, Or.inr ⟨i4, [i5], rfl, rfl, rfl, Or.inr ⟨i5, [], rfl, rfl, rfl, trivial⟩⟩⟩⟩⟩⟩
  refine (hb g0 bl xs l hs R0 σ _ hTY hT hInv hlen s2 (hA.sv (n := 12) (fun j hj => by rw [Nat.zero_add]; exact s1 j hj) (by show 0 + 5 ≤ 12; decide)) s3).imp ?_
  rintro kd r h2 ⟨R', σ', pt, hm, hk, hX, hln, hσ, hpl, hE, hS, hRg⟩
  have s5 : σ' 5 = L9.toInt := (hσ 5 (by decide)).trans sy
  have hm : pt = c2_0.2.2.1.head (by decide) ∨ pt = c2_0.2.2.1.getLast (by decide) := by
    rcases List.mem_cons.mp hm with h | h
    · exact Or.inl h
    · exact Or.inr (List.mem_singleton.mp h)
  refine ⟨?_, R', hX, hln⟩
  rcases hm with rfl | rfl
  · obtain ⟨v, S', e1, h2', h3⟩ := hS
    obtain ⟨x, rfl, -, hx⟩ := h2'.int rfl
    have hx : x.toInt = σ' 5 + 20 := hx
    have h3 : S' = [] := h3
    subst h3
    obtain ⟨x', ex, -, hx'⟩ := (hRg 0 (6, 54, 0) (1, 5, 0, 20) rfl rfl).int rfl
    have ex : rd h2 54 0 = .int x' := ex
    have hx' : x'.toInt = σ' 5 + 20 := hx'
    have q := hE 5 (by decide)
    have q1 : σ' 5 ≤ 680 := q.2.1
    obtain rfl : x = x' := i_same (by omega)
    refine Or.inl ⟨hk.symm, by omega, x, ?_, by omega, ex⟩
    cases r with
    | none => cases e1
    | some z => cases e1; rfl
  · obtain ⟨x', ex, -, hx'⟩ := (hRg 0 (6, 54, 0) (1, 5, 0, 0) rfl rfl).int rfl
    have ex : rd h2 54 0 = .int x' := ex
    have hx' : x'.toInt = σ' 5 + 0 := hx'
    have q := hE 5 (by decide)
    have q1 : 681 ≤ σ' 5 := q.1
    obtain rfl : L9 = x' := i_same (by omega)
    refine Or.inr ⟨hk.symm, ?_, by omega, ex⟩
    have hS : r.toList = [] := hS
    cases r with
    | none => rfl
    | some z => cases hS

theorem b_trcX {i1 : Int32} (hTY0 : TYg g0) (hT : HTy KC R0 hs) (hInv : InvC R0 hs) (hlen : hs.length + 1 ≤ 6999999999999) (hkp : R0[kp]? = some 1) (e0 : rd hs 54 0 = .int L9) : BodyN SSX TBL g0 CLS bl xs l D_67 8 120 1 11 [.ref kp, .int i1] hs (fun kd r h2 => ((kd = 0 ∧ (0 ≤ i1.toInt ∧ i1.toInt ≤ L9.toInt) ∧ r = some (.int i1) ∧ rd h2 54 0 = .int i1) ∨ (kd = 2 ∧ r = none ∧ ¬ (0 ≤ i1.toInt ∧ i1.toInt ≤ L9.toInt) ∧ rd h2 54 0 = .int L9)) ∧ ∃ R2 : List Nat, HX KC InvC R0 hs R2 h2 ∧ h2.length ≤ hs.length + 1) := by
  obtain ⟨kr, e_r, rkr⟩ := ty_ref (r2 := 6) (j := 0) hT hkp (by decide) (by decide) (Or.inl rfl) rfl (by decide)
  obtain rfl : kr = 54 := (hT.2.2 (6, 54, 0) (by decide)).2.2 kr rkr
  obtain ⟨y, ey, y1, y2⟩ := ty_int (j := 0) (lo := 0) (hi := 700) hT rkr (by decide) (by decide) (Or.inl rfl) rfl
  obtain rfl : L9 = y := by rw [ey] at e0; cases e0; rfl
  have hk := ty_shp hT hkp (by decide) (a := 0) (b := 7) rfl rfl
  have hk2 := ty_shp hT rkr (by decide) (a := 5) (b := 11) rfl rfl
  have X0 : HX KC InvC R0 hs R0 hs := ⟨hT, fun _ _ h => h, fun _ _ _ _ => rfl, hInv⟩
  intro wp p e R s m args below meth c Q kc0 ks0 kc ks act hf hl hc hsl hEnd
  have hf : 8 ≤ R.frames := hf
  have hl : 120 ≤ R.locals := hl
  show WpN (gp g0 wp) CLS p l e R s m args below meth c Q D_67.2.2.1 kc0 ks0 0 [some (.ref kp), some (.int i1)] (hs, kc, ks) []
  refine g_loadI act (gx gp_67 (w := 0x1000102) rfl (by decide) rfl) (a := 1) (n := 1) rfl rfl rfl ?_
  refine g_ifLt act (gx gp_67 (w := 0xf00042a) rfl (by decide) rfl) (tgt := 15) (n := 4) rfl rfl (fun h2 => ?_) (fun h2 => ?_)
  · simp only [i_lt, i0] at h2
    exact g_throw hEnd (gx gp_67 (w := 0x1000038) rfl (by decide) rfl) (x := 1) rfl ⟨Or.inr ⟨rfl, rfl, by omega, e0⟩, R0, X0, Nat.le_succ _⟩ (by show kc + 1 ≤ kc + 1; omega) (by show ks + 6 ≤ ks + 11; omega) (by decide) (by decide)
  · simp only [i_lt, i0] at h2
    refine g_loadI act (gx gp_67 (w := 0x1000502) rfl (by decide) rfl) (a := 1) (n := 5) rfl rfl rfl ?_
    refine g_loadA act (gx gp_67 (w := 0x603) rfl (by decide) rfl) (a := 0) (n := 6) rfl rfl rfl ?_
    refine r_getf act (gx gp_67 (w := 0x3000000000904) rfl (by decide) rfl) (n := 9) (ci := 0) (j := 0) (N := 7) rfl rfl rfl hk (by decide) (v := .ref 54) e_r ?_
    refine r_getf act (gx gp_67 (w := 0x5000c04) rfl (by decide) rfl) (n := 12) (ci := 5) (j := 0) (N := 11) rfl rfl rfl hk2 (by decide) (v := .int L9) e0 ?_
    refine g_icmpLe act (gx gp_67 (w := 0x19000f3c) rfl (by decide) rfl) (tgt := 25) (n := 15) rfl rfl (fun h5 => ?_) (fun h5 => ?_)
    · simp only [i_le] at h5
      refine g_loadA act (gx gp_67 (w := 0x1a03) rfl (by decide) rfl) (a := 0) (n := 26) rfl rfl rfl ?_
      refine r_getf act (gx gp_67 (w := 0x3000000001d04) rfl (by decide) rfl) (n := 29) (ci := 0) (j := 0) (N := 7) rfl rfl rfl hk (by decide) (v := .ref 54) e_r ?_
      refine g_loadI act (gx gp_67 (w := 0x1001e02) rfl (by decide) rfl) (a := 1) (n := 30) rfl rfl rfl ?_
      refine r_putf act (gx gp_67 (w := 0x5002113) rfl (by decide) rfl) (n := 33) (ci := 5) (j := 0) (N := 11) rfl rfl rfl hk2 (by decide) (Or.inl ⟨rfl, _, rfl⟩) ?_
      refine g_loadI act (gx gp_67 (w := 0x1002202) rfl (by decide) rfl) (a := 1) (n := 34) rfl rfl rfl ?_
      exact g_retI hEnd (gx gp_67 (w := 0x2f) rfl (by decide) rfl) ⟨Or.inl ⟨rfl, ⟨by omega, by omega⟩, rfl, rd_same hk2⟩, R0, HX.wr invC_KC X0 rkr (by decide) (by decide) (vw_of (Or.inr (Or.inl ⟨rfl, i1, rfl, by show (0 : Int) ≤ _; omega, by show _ ≤ (700 : Int); omega⟩)) (by decide)), by rw [wr_len]; exact Nat.le_succ _⟩ (by show kc ≤ kc + 1; omega) (by show ks ≤ ks + 11; omega)
    · simp only [i_le] at h5
      exact g_throw hEnd (gx gp_67 (w := 0x1000038) rfl (by decide) rfl) (x := 1) rfl ⟨Or.inr ⟨rfl, rfl, by omega, e0⟩, R0, X0, Nat.le_succ _⟩ (by show kc + 1 ≤ kc + 1; omega) (by show ks + 6 ≤ ks + 11; omega) (by decide) (by decide)

theorem b_wApp {i1 i2 i3 i4 i5 : Int32} (hTY0 : TYg g0) (hT : HTy KC R0 hs) (hInv : InvC R0 hs) (hlen : hs.length + 1 ≤ 6999999999999) (hkp : R0[kp]? = some 1) (hko : R0[ko]? = some 55) (e0 : rd hs 54 0 = .int L9) : BodyN SSX TBL g0 CLS bl xs l D_139 9 145 1 11 [.ref kp, .int i1, .int i2, .int i3, .int i4, .int i5, .ref ko] hs (fun kd r h2 => kd = 0 ∧ ∃ R2 : List Nat, HX KC InvC R0 hs R2 h2 ∧ h2.length ≤ hs.length + 1 ∧ ((L9.toInt + 20 ≤ 700 ∧ r = some (.int 0) ∧ ∃ x : Int32, rd h2 ko 0 = .long x.toInt64 ∧ x.toInt = L9.toInt + 20 ∧ rd h2 54 0 = .int x) ∨ (700 < L9.toInt + 20 ∧ r = some (.int 1) ∧ rd h2 54 0 = .int L9))) := by
  intro wp p e R s m args below meth c Q kc0 ks0 kc ks act hf hl hc hsl hEnd
  have hf : 9 ≤ R.frames := hf
  have hl : 145 ≤ R.locals := hl
  have hTY : TYg (gp g0 wp) := hTY0
  show WpN (gp g0 wp) CLS p l e R s m args below meth c Q D_139.2.2.1 kc0 ks0 0 [some (.ref kp), some (.int i1), some (.int i2), some (.int i3), some (.int i4), some (.int i5), some (.ref ko), none] (hs, kc, ks) []
  refine g_loadA act (gx gp_139 (w := 0x6000203) rfl (by decide) rfl) (a := 6) (n := 2) rfl rfl rfl ?_
  refine g_constI act (gx gp_139 (w := 0x40000000400000001000000000301) rfl (by decide) rfl) (n := 3) (x := (0 : Int32)) (by decide) rfl ?_
  refine g_loadA act (gx gp_139 (w := 0x403) rfl (by decide) rfl) (a := 0) (n := 4) rfl rfl rfl ?_
  refine g_loadI act (gx gp_139 (w := 0x1000502) rfl (by decide) rfl) (a := 1) (n := 5) rfl rfl rfl ?_
  refine g_loadI act (gx gp_139 (w := 0x2000602) rfl (by decide) rfl) (a := 2) (n := 6) rfl rfl rfl ?_
  refine g_loadI act (gx gp_139 (w := 0x3000702) rfl (by decide) rfl) (a := 3) (n := 7) rfl rfl rfl ?_
  refine g_loadI act (gx gp_139 (w := 0x4000902) rfl (by decide) rfl) (a := 4) (n := 9) rfl rfl rfl ?_
  refine g_loadI act (gx gp_139 (w := 0x5000b02) rfl (by decide) rfl) (a := 5) (n := 11) rfl rfl rfl ?_
  refine n_call tb_pres act hEnd (gx (P := G_call) gp_139 (w := 0x1000000000013c1866000002000e0f) rfl (by decide) rfl) (d' := D_2) rfl (f' := 8) (lam' := 120) (mc := 1) (ms := 11) (as := [.ref kp, .int i1, .int i2, .int i3, .int i4, .int i5]) (rest := [.int (0 : Int32), .ref ko]) (b_appX hTY hT hInv hlen hkp e0) (show (6 : Nat) = fb 0x1000000000013c1866000002000e0f % 16 by decide) (by show (6 : Nat) ≤ 6; decide) (fun _ => ⟨_, _, rfl, _, shp_at (ty_shp hT hkp (by decide) (a := 0) (b := 7) rfl rfl), Or.inr (show fb 0x1000000000013c1866000002000e0f >>> 68 = 1 by decide)⟩) (by omega) (by show 8 + (6 + 11) + 120 ≤ R.locals; omega) (by show (2 : Nat) ≤ 8; decide) (by show kc + 1 ≤ _; omega) (by show ks + 11 ≤ _; omega) (fun r9 h1 hpo hr9 => ?_) (fun x9 hs9 hx9 hpo => ?_)
  · obtain ⟨hc9, R2, hX, hln⟩ := hpo
    obtain ⟨-, hc1, x9, rfl, hx9, ex9⟩ := hc9.resolve_right (fun z => absurd z.1 (by decide))
    show WpN (gp g0 wp) CLS p l e R s m args below meth c Q D_139.2.2.1 kc0 ks0 14 [some (.ref kp), some (.int i1), some (.int i2), some (.int i3), some (.int i4), some (.int i5), some (.ref ko), none] (h1, kc + 1, ks + 11) [.int x9, .int (0 : Int32), .ref ko]
    refine g_i2l act (gx gp_139 (w := 0xf2c) rfl (by decide) rfl) (n := 15) rfl ?_
    refine r_last act (gx gp_139 (w := 0x1005) rfl (by decide) rfl) (n := 16) (N := 1) (j := 0) rfl (ty_shp (hX.1) (hX.2.1 _ _ hko) (by decide) (a := 33) (b := 1) rfl rfl) rfl (by decide) ?_
    refine g_goto act (gx gp_139 (w := 0x1707) rfl (by decide) rfl) (n := 23) rfl ?_
    refine g_constI act (gx gp_139 (w := 0x40000000400000001000000001801) rfl (by decide) rfl) (n := 24) (x := (0 : Int32)) (by decide) rfl ?_
    exact g_retI hEnd (gx gp_139 (w := 0x2f) rfl (by decide) rfl) ⟨rfl, R2, hx_out hX (hX.2.1 _ _ hko) _, by rw [wr_len]; exact hln, Or.inl ⟨hc1, rfl, x9, rd_same (ty_shp (hX.1) (hX.2.1 _ _ hko) (by decide) (a := 33) (b := 1) rfl rfl), hx9, (hx_rd0 hX.1 (hX.2.1 _ _ hko) _).trans ex9⟩⟩ (by show kc + 1 ≤ kc + 1; omega) (by show ks + 11 ≤ ks + 11; omega)
  · obtain ⟨hc9, R2, hX, hln⟩ := hpo
    obtain ⟨hc1, -, hc2, hc3⟩ := hc9.resolve_left (fun z => absurd z.1 (by omega))
    obtain rfl : x9 = 0 := by omega
    refine Or.inl ⟨by decide, ?_⟩
    show WpN (gp g0 wp) CLS p l e R s m args below meth c Q D_139.2.2.1 kc0 ks0 19 [some (.ref kp), some (.int i1), some (.int i2), some (.int i3), some (.int i4), some (.int i5), some (.ref ko), none] (hs9, kc + 1, ks + 11) [.ref 7000000000001]
    refine g_storeA act (gx gp_139 (w := 0x700152d) rfl (by decide) rfl) (a := 7) (n := 21) rfl rfl (L2 := [some (.ref kp), some (.int i1), some (.int i2), some (.int i3), some (.int i4), some (.int i5), some (.ref ko), some (.ref 7000000000001)]) rfl ?_
    refine g_constI act (gx gp_139 (w := 0x40000000c00000009000000001601) rfl (by decide) rfl) (n := 22) (x := (1 : Int32)) (by decide) rfl ?_
    exact g_retI hEnd (gx gp_139 (w := 0x2f) rfl (by decide) rfl) ⟨rfl, R2, hX, hln, Or.inr ⟨hc2, rfl, hc3⟩⟩ (by show kc + 1 ≤ kc + 1; omega) (by show ks + 11 ≤ ks + 11; omega)

theorem b_wTrc {i1 : Int32} (hTY0 : TYg g0) (hT : HTy KC R0 hs) (hInv : InvC R0 hs) (hlen : hs.length + 1 ≤ 6999999999999) (hkp : R0[kp]? = some 1) (hko : R0[ko]? = some 55) (e0 : rd hs 54 0 = .int L9) : BodyN SSX TBL g0 CLS bl xs l D_173 9 141 1 11 [.ref kp, .int i1, .ref ko] hs (fun kd r h2 => kd = 0 ∧ ∃ R2 : List Nat, HX KC InvC R0 hs R2 h2 ∧ h2.length ≤ hs.length + 1 ∧ (((0 ≤ i1.toInt ∧ i1.toInt ≤ L9.toInt) ∧ r = some (.int 0) ∧ rd h2 ko 0 = .long i1.toInt64 ∧ rd h2 54 0 = .int i1) ∨ (¬ (0 ≤ i1.toInt ∧ i1.toInt ≤ L9.toInt) ∧ r = some (.int 1) ∧ rd h2 54 0 = .int L9))) := by
  intro wp p e R s m args below meth c Q kc0 ks0 kc ks act hf hl hc hsl hEnd
  have hf : 9 ≤ R.frames := hf
  have hl : 141 ≤ R.locals := hl
  have hTY : TYg (gp g0 wp) := hTY0
  show WpN (gp g0 wp) CLS p l e R s m args below meth c Q D_173.2.2.1 kc0 ks0 0 [some (.ref kp), some (.int i1), some (.ref ko), none] (hs, kc, ks) []
  refine g_loadA act (gx gp_173 (w := 0x2000103) rfl (by decide) rfl) (a := 2) (n := 1) rfl rfl rfl ?_
  refine g_constI act (gx gp_173 (w := 0x40000000400000001000000000201) rfl (by decide) rfl) (n := 2) (x := (0 : Int32)) (by decide) rfl ?_
  refine g_loadA act (gx gp_173 (w := 0x303) rfl (by decide) rfl) (a := 0) (n := 3) rfl rfl rfl ?_
  refine g_loadI act (gx gp_173 (w := 0x1000402) rfl (by decide) rfl) (a := 1) (n := 4) rfl rfl rfl ?_
  refine n_call tb_pres act hEnd (gx (P := G_call) gp_173 (w := 0x100000000c000c082200004300070f) rfl (by decide) rfl) (d' := D_67) rfl (f' := 8) (lam' := 120) (mc := 1) (ms := 11) (as := [.ref kp, .int i1]) (rest := [.int (0 : Int32), .ref ko]) (b_trcX hTY hT hInv hlen hkp e0) (show (2 : Nat) = fb 0x100000000c000c082200004300070f % 16 by decide) (by show (2 : Nat) ≤ 2; decide) (fun _ => ⟨_, _, rfl, _, shp_at (ty_shp hT hkp (by decide) (a := 0) (b := 7) rfl rfl), Or.inr (show fb 0x100000000c000c082200004300070f >>> 68 = 1 by decide)⟩) (by omega) (by show 8 + (2 + 11) + 120 ≤ R.locals; omega) (by show (2 : Nat) ≤ 8; decide) (by show kc + 1 ≤ _; omega) (by show ks + 11 ≤ _; omega) (fun r9 h1 hpo hr9 => ?_) (fun x9 hs9 hx9 hpo => ?_)
  · obtain ⟨hc9, R2, hX, hln⟩ := hpo
    obtain ⟨-, hc1, hx9, ex9⟩ := hc9.resolve_right (fun z => absurd z.1 (by decide))
    subst hx9
    show WpN (gp g0 wp) CLS p l e R s m args below meth c Q D_173.2.2.1 kc0 ks0 7 [some (.ref kp), some (.int i1), some (.ref ko), none] (h1, kc + 1, ks + 11) [.int i1, .int (0 : Int32), .ref ko]
    refine g_i2l act (gx gp_173 (w := 0x82c) rfl (by decide) rfl) (n := 8) rfl ?_
    refine r_last act (gx gp_173 (w := 0x905) rfl (by decide) rfl) (n := 9) (N := 1) (j := 0) rfl (ty_shp (hX.1) (hX.2.1 _ _ hko) (by decide) (a := 33) (b := 1) rfl rfl) rfl (by decide) ?_
    refine g_goto act (gx gp_173 (w := 0xf07) rfl (by decide) rfl) (n := 15) rfl ?_
    refine g_constI act (gx gp_173 (w := 0x40000000400000001000000001001) rfl (by decide) rfl) (n := 16) (x := (0 : Int32)) (by decide) rfl ?_
    exact g_retI hEnd (gx gp_173 (w := 0x2f) rfl (by decide) rfl) ⟨rfl, R2, hx_out hX (hX.2.1 _ _ hko) _, by rw [wr_len]; exact hln, Or.inl ⟨hc1, rfl, rd_same (ty_shp (hX.1) (hX.2.1 _ _ hko) (by decide) (a := 33) (b := 1) rfl rfl), (hx_rd0 hX.1 (hX.2.1 _ _ hko) _).trans ex9⟩⟩ (by show kc + 1 ≤ kc + 1; omega) (by show ks + 11 ≤ ks + 11; omega)
  · obtain ⟨hc9, R2, hX, hln⟩ := hpo
    obtain ⟨hc1, -, hc2, hc3⟩ := hc9.resolve_left (fun z => absurd z.1 (by omega))
    obtain rfl : x9 = 1 := by omega
    refine Or.inl ⟨by decide, ?_⟩
    show WpN (gp g0 wp) CLS p l e R s m args below meth c Q D_173.2.2.1 kc0 ks0 12 [some (.ref kp), some (.int i1), some (.ref ko), none] (hs9, kc + 1, ks + 11) [.ref 7000000000001]
    refine g_storeA act (gx gp_173 (w := 0x3000d2d) rfl (by decide) rfl) (a := 3) (n := 13) rfl rfl (L2 := [some (.ref kp), some (.int i1), some (.ref ko), some (.ref 7000000000001)]) rfl ?_
    refine g_constI act (gx gp_173 (w := 0x40000000c00000009000000000e01) rfl (by decide) rfl) (n := 14) (x := (1 : Int32)) (by decide) rfl ?_
    exact g_retI hEnd (gx gp_173 (w := 0x2f) rfl (by decide) rfl) ⟨rfl, R2, hX, hln, Or.inr ⟨hc2, rfl, hc3⟩⟩ (by show kc + 1 ≤ kc + 1; omega) (by show ks + 11 ≤ ks + 11; omega)

theorem b_wUnd (hTY0 : TYg g0) (hT : HTy KC R0 hs) (hInv : InvC R0 hs) (hlen : hs.length + 1 ≤ 6999999999999) (hkp : R0[kp]? = some 1) (hko : R0[ko]? = some 55) : BodyN SSX TBL g0 CLS bl xs l D_174 9 170 1 11 [.ref kp, .ref ko] hs (fun kd r h2 => kd = 0 ∧ ∃ R2 : List Nat, HX KC InvC R0 hs R2 h2 ∧ h2.length ≤ hs.length + 1 ∧ (∃ x : Int32, r = some (.int x)) ∧ rd h2 54 0 = rd hs 54 0) := by
  intro wp p e R s m args below meth c Q kc0 ks0 kc ks act hf hl hc hsl hEnd
  have hf : 9 ≤ R.frames := hf
  have hl : 170 ≤ R.locals := hl
  have hTY : TYg (gp g0 wp) := hTY0
  show WpN (gp g0 wp) CLS p l e R s m args below meth c Q D_174.2.2.1 kc0 ks0 0 [some (.ref kp), some (.ref ko), none] (hs, kc, ks) []
  refine g_loadA act (gx gp_174 (w := 0x1000103) rfl (by decide) rfl) (a := 1) (n := 1) rfl rfl rfl ?_
  refine g_constI act (gx gp_174 (w := 0x40000000400000001000000000201) rfl (by decide) rfl) (n := 2) (x := (0 : Int32)) (by decide) rfl ?_
  refine g_loadA act (gx gp_174 (w := 0x303) rfl (by decide) rfl) (a := 0) (n := 3) rfl rfl rfl ?_
  refine n_call tb_pres act hEnd (gx (P := G_call) gp_174 (w := 0x100000000000bc041100004400060f) rfl (by decide) rfl) (d' := D_68) rfl (f' := 8) (lam' := 140) (mc := 1) (ms := 11) (as := [.ref kp]) (rest := [.int (0 : Int32), .ref ko]) (b_undo hTY hT hInv hlen hkp) (show (1 : Nat) = fb 0x100000000000bc041100004400060f % 16 by decide) (by show (1 : Nat) ≤ 1; decide) (fun _ => ⟨_, _, rfl, _, shp_at (ty_shp hT hkp (by decide) (a := 0) (b := 7) rfl rfl), Or.inr (show fb 0x100000000000bc041100004400060f >>> 68 = 1 by decide)⟩) (by omega) (by show 8 + (1 + 11) + 140 ≤ R.locals; omega) (by show (2 : Nat) ≤ 8; decide) (by show kc + 1 ≤ _; omega) (by show ks + 11 ≤ _; omega) (fun r9 h1 hpo hr9 => ?_) (fun x9 hs9 hx9 hpo => ?_)
  · obtain ⟨hc9, R2, hX, hln, hc3⟩ := hpo
    obtain ⟨-, x9, rfl⟩ := hc9.resolve_right (fun z => absurd z.1 (by decide))
    show WpN (gp g0 wp) CLS p l e R s m args below meth c Q D_174.2.2.1 kc0 ks0 6 [some (.ref kp), some (.ref ko), none] (h1, kc + 1, ks + 11) [.int x9, .int (0 : Int32), .ref ko]
    refine g_i2l act (gx gp_174 (w := 0x72c) rfl (by decide) rfl) (n := 7) rfl ?_
    refine r_last act (gx gp_174 (w := 0x805) rfl (by decide) rfl) (n := 8) (N := 1) (j := 0) rfl (ty_shp (hX.1) (hX.2.1 _ _ hko) (by decide) (a := 33) (b := 1) rfl rfl) rfl (by decide) ?_
    refine g_goto act (gx gp_174 (w := 0xe07) rfl (by decide) rfl) (n := 14) rfl ?_
    refine g_constI act (gx gp_174 (w := 0x40000000400000001000000000f01) rfl (by decide) rfl) (n := 15) (x := (0 : Int32)) (by decide) rfl ?_
    exact g_retI hEnd (gx gp_174 (w := 0x2f) rfl (by decide) rfl) ⟨rfl, R2, hx_out hX (hX.2.1 _ _ hko) _, by rw [wr_len]; exact hln, ⟨_, rfl⟩, (hx_rd0 hX.1 (hX.2.1 _ _ hko) _).trans hc3⟩ (by show kc + 1 ≤ kc + 1; omega) (by show ks + 11 ≤ ks + 11; omega)
  · obtain ⟨hc9, R2, hX, hln, hc3⟩ := hpo
    obtain ⟨hc1, -⟩ := hc9.resolve_left (fun z => absurd z.1 (by omega))
    obtain rfl : x9 = 0 := by omega
    refine Or.inl ⟨by decide, ?_⟩
    show WpN (gp g0 wp) CLS p l e R s m args below meth c Q D_174.2.2.1 kc0 ks0 11 [some (.ref kp), some (.ref ko), none] (hs9, kc + 1, ks + 11) [.ref 7000000000001]
    refine g_storeA act (gx gp_174 (w := 0x2000c2d) rfl (by decide) rfl) (a := 2) (n := 12) rfl rfl (L2 := [some (.ref kp), some (.ref ko), some (.ref 7000000000001)]) rfl ?_
    refine g_constI act (gx gp_174 (w := 0x40000000c00000009000000000d01) rfl (by decide) rfl) (n := 13) (x := (1 : Int32)) (by decide) rfl ?_
    exact g_retI hEnd (gx gp_174 (w := 0x2f) rfl (by decide) rfl) ⟨rfl, R2, hX, hln, ⟨_, rfl⟩, hc3⟩ (by show kc + 1 ≤ kc + 1; omega) (by show ks + 11 ≤ ks + 11; omega)

end WRA

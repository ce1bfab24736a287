/-! ArrayList.clear. -/
/-- only the list's cells change -/
def LSX (R : List Nat) (hs0 hs : List CE) : Prop := HTy KC R hs ∧ (∀ k r : Nat, R[k]? = some r → r ≠ 401 → r ≠ 402 → hs[k]? = hs0[k]?) ∧ hs.length = hs0.length
theorem lsx_wr {R : List Nat} {hs0 hs : List CE} (h : LSX R hs0 hs) {k r j : Nat} {v : Value} (hk : R[k]? = some r) (hr : r = 401 ∨ r = 402) : LSX R hs0 (wr hs k j v) := by
  obtain ⟨a, b, c⟩ := h
  refine ⟨a.wr hk (by omega) (by rcases hr with rfl | rfl <;> exact Or.inl rfl), fun k' r' h1 h2 h3 => ?_, by rw [wr_len]; exact c⟩
  rw [wr_ne (fun z => by subst z; rw [hk] at h1; cases h1; omega)]
  exact b k' r' h1 h2 h3
theorem lsx_hx {R : List Nat} {hs0 hs : List CE} (h : LSX R hs0 hs) (hInv : InvC R hs0) (hL : InvL R hs) : HX KC InvC R hs0 R hs := by
  obtain ⟨a, b, c⟩ := h
  refine ⟨a, fun _ _ h => h, fun k r h1 h2 => b k r h1 (fun z => by subst z; exact absurd h2 (by decide)) (fun z => by subst z; exact absurd h2 (by decide)), fun k hk => ?_, hL⟩
  obtain ⟨n, kl, e1, e2, e3, e4, e5⟩ := hInv.1 k hk
  have q1 : ∀ j, rd hs k j = rd hs0 k j := fun j => by unfold rd; rw [b k 5 hk (by decide) (by decide)]
  have q2 : ∀ j, rd hs kl j = rd hs0 kl j := fun j => by unfold rd; rw [b kl 46 e3 (by decide) (by decide)]
  exact ⟨n, kl, (q1 2).trans e1, (q1 8).trans e2, e3, e4, fun j hj => by rw [q2]; exact e5 j hj⟩
theorem lsx_rg {R : List Nat} {hs0 hs : List CE} (h : LSX R hs0 hs) : ∀ q ∈ KC.2.2, rd hs q.2.1 q.2.2 = rd hs0 q.2.1 q.2.2 := fun q hq => by
  obtain ⟨w1, w2, -⟩ := h.1.2.2 q hq
  have : q.1 = 6 ∨ q.1 = 8 := by
    have hh : ∀ q ∈ KC.2.2, q.1 = 6 ∨ q.1 = 8 := by decide
    exact hh q hq
  unfold rd
  rw [h.2.1 q.2.1 q.1 w2 (by omega) (by omega)]

theorem clrL_loop {g0 : GG} {bl : Nat} {xs : Nat → Int32} {l : Launch} {wp : va_W} {p : Program} {e : Env} {R : Room} {s : State} {m : MethodId} {args : Array Value} {below : List Frame} {meth : Method} {c : Code} {Q : State → Prop} {kc0 ks0 kc ks f lam KC9 KS : Nat}  {R0 : List Nat} {hs0 : List CE} {k ka : Nat} {n9 m9 : Int32} {ea : Value} (act : Act SSX TBL (gp g0 wp) CLS bl xs D_295 p l s m args meth c) (hEnd : EndN SSX TBL (gp g0 wp) CLS D_295 p l e R s m args below meth c Q kc0 ks0 f lam KC9 KS (fun kd r h2 => kd = 0 ∧ r = none ∧ LSX R0 hs0 h2 ∧ rd h2 k 1 = .int 0 ∧ rd h2 k 0 = ea ∧ ∃ m : Int32, rd h2 k 2 = .int m)) (hk1 : kc ≤ KC9) (hk2 : ks ≤ KS) (hk4 : R0[k]? = some 401) (ra : R0[ka]? = some 402) (hn : n9.toInt ≤ 10) : ∀ (N : Nat) (i : Int32) (hs : List CE), 0 ≤ i.toInt → i.toInt + (N : Int) = 10 → LSX R0 hs0 hs → rd hs k 1 = .int 0 → rd hs k 0 = ea → rd hs k 2 = .int m9 → WpN (gp g0 wp) CLS p l e R s m args below meth c Q D_295.2.2.1 kc0 ks0 27 [some (.ref k), some (.ref ka), some (.int n9), some (.int i)] (hs, kc, ks) [] := by
  intro N
  induction N with
  | zero =>
    intro i hs i0 hi hX e1 e0 e2
    refine g_loadI act (gx gp_295 (w := 0x3001c02) rfl (by decide) rfl) (a := 3) (n := 28) rfl rfl rfl ?_
    refine g_loadI act (gx gp_295 (w := 0x2001d02) rfl (by decide) rfl) (a := 2) (n := 29) rfl rfl rfl ?_
    refine g_icmpGe act (gx gp_295 (w := 0x2a002008) rfl (by decide) rfl) (tgt := 42) (n := 32) rfl rfl (fun h3 => ?_) (fun h3 => ?_)
    · simp only [i_le] at h3
      exact g_retV hEnd (gx gp_295 (w := 0x18) rfl (by decide) rfl) ⟨rfl, rfl, hX, e1, e0, m9, e2⟩ hk1 hk2
    · simp only [i_le] at h3
      exfalso; omega
  | succ N ih =>
    intro i hs i0 hi hX e1 e0 e2
    have ei : (i + (1 : Int32)).toInt = i.toInt + 1 := i_add (by show _ ≤ _ + (1 : Int); omega) (by show _ + (1 : Int) < _; omega)
    refine g_loadI act (gx gp_295 (w := 0x3001c02) rfl (by decide) rfl) (a := 3) (n := 28) rfl rfl rfl ?_
    refine g_loadI act (gx gp_295 (w := 0x2001d02) rfl (by decide) rfl) (a := 2) (n := 29) rfl rfl rfl ?_
    refine g_icmpGe act (gx gp_295 (w := 0x2a002008) rfl (by decide) rfl) (tgt := 42) (n := 32) rfl rfl (fun h3 => ?_) (fun h3 => ?_)
    · simp only [i_le] at h3
      exact g_retV hEnd (gx gp_295 (w := 0x18) rfl (by decide) rfl) ⟨rfl, rfl, hX, e1, e0, m9, e2⟩ hk1 hk2
    · simp only [i_le] at h3
      refine g_loadA act (gx gp_295 (w := 0x1002103) rfl (by decide) rfl) (a := 1) (n := 33) rfl rfl rfl ?_
      refine g_loadI act (gx gp_295 (w := 0x3002202) rfl (by decide) rfl) (a := 3) (n := 34) rfl rfl rfl ?_
      refine g_null act (gx gp_295 (w := 0x4000000002301) rfl (by decide) rfl) (n := 35) (by decide) rfl ?_
      refine r_aastN act (gx gp_295 (w := 0x2435) rfl (by decide) rfl) (n := 36) (N := 10) (c9 := 39) rfl (ty_shp hX.1 ra (by decide) rfl rfl) (by decide) (j := i.toInt.toNat) (by omega) (by omega) ?_
      refine g_iinc act (gx gp_295 (w := 0x80000001000003002709) rfl (by decide) rfl) (a := 3) (i := (1 : Int32)) (n := 39) rfl (by decide) rfl rfl (L2 := [some (.ref k), some (.ref ka), some (.int n9), some (.int (i + (1 : Int32)))]) rfl ?_
      refine g_goto act (gx gp_295 (w := 0x1b07) rfl (by decide) rfl) (n := 27) rfl ?_
      exact ih (i + (1 : Int32)) _ (by omega) (by omega) (lsx_wr hX ra (Or.inr rfl)) (by rw [rd_ne _ _ (Or.inl (role_ne hk4 ra (by decide)))]; exact e1) (by rw [rd_ne _ _ (Or.inl (role_ne hk4 ra (by decide)))]; exact e0) (by rw [rd_ne _ _ (Or.inl (role_ne hk4 ra (by decide)))]; exact e2)

theorem b_clrA {g0 : GG} {bl : Nat} {xs : Nat → Int32} {l : Launch} {R0 : List Nat} {hs0 hs : List CE} {k ka : Nat} {n9 m9 : Int32} (h0 : LSX R0 hs0 hs) (hk4 : R0[k]? = some 401) (e0 : rd hs k 0 = .ref ka) (e1 : rd hs k 1 = .int n9) (e2 : rd hs k 2 = .int m9) (ra : R0[ka]? = some 402) (hn : n9.toInt ≤ 10) : BodyN SSX TBL g0 CLS bl xs l D_295 0 0 0 0 [.ref k] hs (fun kd r h2 => kd = 0 ∧ r = none ∧ LSX R0 hs0 h2 ∧ rd h2 k 1 = .int 0 ∧ rd h2 k 0 = .ref ka ∧ ∃ m : Int32, rd h2 k 2 = .int m) := by
  have hk : shp hs k = some (10, 3) := ty_shp h0.1 hk4 (by decide) rfl rfl
  intro wp p e R s m args below meth c Q kc0 ks0 kc ks act hf hl hc hsl hEnd
  show WpN (gp g0 wp) CLS p l e R s m args below meth c Q D_295.2.2.1 kc0 ks0 0 [some (.ref k), none, none, none] (hs, kc, ks) []
  refine g_loadA act (gx gp_295 (w := 0x103) rfl (by decide) rfl) (a := 0) (n := 1) rfl rfl rfl ?_
  refine g_dup act (gx gp_295 (w := 0x222) rfl (by decide) rfl) (n := 2) rfl rfl ?_
  refine r_getf act (gx gp_295 (w := 0x8a000504) rfl (by decide) rfl) (n := 5) (ci := 10) (j := 2) (N := 3) rfl rfl rfl hk (by decide) (v := .int m9) e2 ?_
  refine g_constI act (gx gp_295 (w := 0x40000000c00000009000000000601) rfl (by decide) rfl) (n := 6) (x := (1 : Int32)) (by decide) rfl ?_
  refine g_iadd act (gx gp_295 (w := 0x70a) rfl (by decide) rfl) (n := 7) rfl ?_
  refine r_putf act (gx gp_295 (w := 0x8a000a13) rfl (by decide) rfl) (n := 10) (ci := 10) (j := 2) (N := 3) rfl rfl rfl hk (by decide) (Or.inl ⟨rfl, _, rfl⟩) ?_
  refine g_loadA act (gx gp_295 (w := 0xb03) rfl (by decide) rfl) (a := 0) (n := 11) rfl rfl rfl ?_
  refine r_getf act (gx gp_295 (w := 0x300000a000e04) rfl (by decide) rfl) (n := 14) (ci := 10) (j := 0) (N := 3) rfl rfl rfl (by rw [shp_wr]; exact hk) (by decide) (v := (.ref ka)) (by rw [rd_ne _ _ (Or.inr (by decide))]; exact e0) ?_
  refine g_storeA act (gx gp_295 (w := 0x1000f2d) rfl (by decide) rfl) (a := 1) (n := 15) rfl rfl (L2 := [some (.ref k), some (.ref ka), none, none]) rfl ?_
  refine g_loadA act (gx gp_295 (w := 0x1003) rfl (by decide) rfl) (a := 0) (n := 16) rfl rfl rfl ?_
  refine r_getf act (gx gp_295 (w := 0x4a001304) rfl (by decide) rfl) (n := 19) (ci := 10) (j := 1) (N := 3) rfl rfl rfl (by rw [shp_wr]; exact hk) (by decide) (v := .int n9) (by rw [rd_ne _ _ (Or.inr (by decide))]; exact e1) ?_
  refine g_storeI act (gx gp_295 (w := 0x2001410) rfl (by decide) rfl) (a := 2) (n := 20) rfl rfl (L2 := [some (.ref k), some (.ref ka), some (.int n9), none]) rfl ?_
  refine g_loadA act (gx gp_295 (w := 0x1503) rfl (by decide) rfl) (a := 0) (n := 21) rfl rfl rfl ?_
  refine g_constI act (gx gp_295 (w := 0x40000000400000001000000001601) rfl (by decide) rfl) (n := 22) (x := (0 : Int32)) (by decide) rfl ?_
  refine g_dupx1 act (gx gp_295 (w := 0x174f) rfl (by decide) rfl) (n := 23) rfl rfl rfl ?_
  refine r_putf act (gx gp_295 (w := 0x4a001a13) rfl (by decide) rfl) (n := 26) (ci := 10) (j := 1) (N := 3) rfl rfl rfl ((shp_wr _ _ _ _ _).trans hk) (by decide) (Or.inl ⟨rfl, _, rfl⟩) ?_
  refine g_storeI act (gx gp_295 (w := 0x3001b10) rfl (by decide) rfl) (a := 3) (n := 27) rfl rfl (L2 := [some (.ref k), some (.ref ka), some (.int n9), some (.int (0 : Int32))]) rfl ?_
  exact clrL_loop act hEnd (by omega) (by omega) hk4 ra hn 10 0 _ (by decide) (by decide) (lsx_wr (lsx_wr h0 hk4 (Or.inl rfl)) hk4 (Or.inl rfl)) (rd_same (by rw [shp_wr]; exact hk)) (by rw [rd_ne _ _ (Or.inr (by decide)), rd_ne _ _ (Or.inr (by decide))]; exact e0) (by rw [rd_ne _ _ (Or.inr (by decide))]; exact rd_same hk)

theorem b_clrB {g0 : GG} {bl : Nat} {xs : Nat → Int32} {l : Launch} {R0 : List Nat} {hs0 hs : List CE} {k : Nat} {n9 m9 : Int32} (h0 : LSX R0 hs0 hs) (hk4 : R0[k]? = some 401) (e0 : rd hs k 0 = .ref 7000000000002) (e1 : rd hs k 1 = .int n9) (e2 : rd hs k 2 = .int m9) (hn : n9.toInt = 0) : BodyN SSX TBL g0 CLS bl xs l D_295 0 0 0 0 [.ref k] hs (fun kd r h2 => kd = 0 ∧ r = none ∧ LSX R0 hs0 h2 ∧ rd h2 k 1 = .int 0 ∧ rd h2 k 0 = .ref 7000000000002 ∧ ∃ m : Int32, rd h2 k 2 = .int m) := by
  have hk : shp hs k = some (10, 3) := ty_shp h0.1 hk4 (by decide) rfl rfl
  intro wp p e R s m args below meth c Q kc0 ks0 kc ks act hf hl hc hsl hEnd
  show WpN (gp g0 wp) CLS p l e R s m args below meth c Q D_295.2.2.1 kc0 ks0 0 [some (.ref k), none, none, none] (hs, kc, ks) []
  refine g_loadA act (gx gp_295 (w := 0x103) rfl (by decide) rfl) (a := 0) (n := 1) rfl rfl rfl ?_
  refine g_dup act (gx gp_295 (w := 0x222) rfl (by decide) rfl) (n := 2) rfl rfl ?_
  refine r_getf act (gx gp_295 (w := 0x8a000504) rfl (by decide) rfl) (n := 5) (ci := 10) (j := 2) (N := 3) rfl rfl rfl hk (by decide) (v := .int m9) e2 ?_
  refine g_constI act (gx gp_295 (w := 0x40000000c00000009000000000601) rfl (by decide) rfl) (n := 6) (x := (1 : Int32)) (by decide) rfl ?_
  refine g_iadd act (gx gp_295 (w := 0x70a) rfl (by decide) rfl) (n := 7) rfl ?_
  refine r_putf act (gx gp_295 (w := 0x8a000a13) rfl (by decide) rfl) (n := 10) (ci := 10) (j := 2) (N := 3) rfl rfl rfl hk (by decide) (Or.inl ⟨rfl, _, rfl⟩) ?_
  refine g_loadA act (gx gp_295 (w := 0xb03) rfl (by decide) rfl) (a := 0) (n := 11) rfl rfl rfl ?_
  refine r_getf act (gx gp_295 (w := 0x300000a000e04) rfl (by decide) rfl) (n := 14) (ci := 10) (j := 0) (N := 3) rfl rfl rfl (by rw [shp_wr]; exact hk) (by decide) (v := (.ref 7000000000002)) (by rw [rd_ne _ _ (Or.inr (by decide))]; exact e0) ?_
  refine g_storeA act (gx gp_295 (w := 0x1000f2d) rfl (by decide) rfl) (a := 1) (n := 15) rfl rfl (L2 := [some (.ref k), some (.ref 7000000000002), none, none]) rfl ?_
  refine g_loadA act (gx gp_295 (w := 0x1003) rfl (by decide) rfl) (a := 0) (n := 16) rfl rfl rfl ?_
  refine r_getf act (gx gp_295 (w := 0x4a001304) rfl (by decide) rfl) (n := 19) (ci := 10) (j := 1) (N := 3) rfl rfl rfl (by rw [shp_wr]; exact hk) (by decide) (v := .int n9) (by rw [rd_ne _ _ (Or.inr (by decide))]; exact e1) ?_
  refine g_storeI act (gx gp_295 (w := 0x2001410) rfl (by decide) rfl) (a := 2) (n := 20) rfl rfl (L2 := [some (.ref k), some (.ref 7000000000002), some (.int n9), none]) rfl ?_
  refine g_loadA act (gx gp_295 (w := 0x1503) rfl (by decide) rfl) (a := 0) (n := 21) rfl rfl rfl ?_
  refine g_constI act (gx gp_295 (w := 0x40000000400000001000000001601) rfl (by decide) rfl) (n := 22) (x := (0 : Int32)) (by decide) rfl ?_
  refine g_dupx1 act (gx gp_295 (w := 0x174f) rfl (by decide) rfl) (n := 23) rfl rfl rfl ?_
  refine r_putf act (gx gp_295 (w := 0x4a001a13) rfl (by decide) rfl) (n := 26) (ci := 10) (j := 1) (N := 3) rfl rfl rfl ((shp_wr _ _ _ _ _).trans hk) (by decide) (Or.inl ⟨rfl, _, rfl⟩) ?_
  refine g_storeI act (gx gp_295 (w := 0x3001b10) rfl (by decide) rfl) (a := 3) (n := 27) rfl rfl (L2 := [some (.ref k), some (.ref 7000000000002), some (.int n9), some (.int (0 : Int32))]) rfl ?_
  refine g_loadI act (gx gp_295 (w := 0x3001c02) rfl (by decide) rfl) (a := 3) (n := 28) rfl rfl rfl ?_
  refine g_loadI act (gx gp_295 (w := 0x2001d02) rfl (by decide) rfl) (a := 2) (n := 29) rfl rfl rfl ?_
  refine g_icmpGe act (gx gp_295 (w := 0x2a002008) rfl (by decide) rfl) (tgt := 42) (n := 32) rfl rfl (fun h15 => ?_) (fun h15 => ?_)
  · simp only [i_le, show (0 : Int32).toInt = 0 from by decide] at h15
    exact g_retV hEnd (gx gp_295 (w := 0x18) rfl (by decide) rfl) ⟨rfl, rfl, lsx_wr (lsx_wr h0 hk4 (Or.inl rfl)) hk4 (Or.inl rfl), rd_same (by rw [shp_wr]; exact hk), by rw [rd_ne _ _ (Or.inr (by decide)), rd_ne _ _ (Or.inr (by decide))]; exact e0, _, by rw [rd_ne _ _ (Or.inr (by decide))]; exact rd_same hk⟩ (by show kc ≤ kc + 0; omega) (by show ks ≤ ks + 0; omega)
  · simp only [i_le, show (0 : Int32).toInt = 0 from by decide] at h15
    exfalso; have z0 : (0 : Int32).toInt = 0 := by decide
    omega

theorem sh_295 : SemC KC InvC ch_295 := by
  refine ⟨D_295, rfl, rfl, fun g0 bl xs l hs R0 σ as hTY hT hInv hlen hE hA hRg => ?_⟩
  obtain ⟨v0, S0, rfl, m0, hz⟩ := hA
  have hz : S0 = [] := hz
  subst hz
  obtain ⟨k, rfl, hk4, -⟩ := (m0.rf3 rfl).one rfl
  have hk4 : R0[k]? = some 401 := hk4
  have hX : LSX R0 hs hs := ⟨hT, fun _ _ _ _ _ => rfl, rfl⟩
  obtain ⟨n, m, e1, e2, e3, e4, e5⟩ := hInv.2.2 k hk4
  have fin : ∀ {h2 : List CE} {m2 : Int32} {ea : Value}, LSX R0 hs h2 → rd h2 k 1 = .int 0 → rd h2 k 0 = ea → rd h2 k 2 = .int m2 → (ea = .ref 7000000000002 ∨ ∃ ka : Nat, ea = .ref ka ∧ R0[ka]? = some 402) → PO9 KC InvC ch_295 R0 hs σ 0 none h2 := by
    intro h2 m2 ea x1 x2 x3 x4 x5
    refine po_void (by decide) (by decide) (lsx_hx x1 hInv ⟨hInv.2.1, fun k' hk' => ?_⟩) (by rw [x1.2.2]; exact Nat.le_add_right _ _) hE hRg (lsx_rg x1)
    obtain rfl := hInv.2.1 k k' hk4 hk'
    refine ⟨0, m2, x2, x4, by decide, by decide, ?_⟩
    rcases x5 with rfl | ⟨ka, rfl, ra⟩
    · exact Or.inl ⟨x3, by decide⟩
    · exact Or.inr ⟨ka, x3, ra, fun j hj => absurd hj (by show ¬ ((j : Int) < 0); omega)⟩
  rcases e5 with ⟨e5, e6⟩ | ⟨ka, e5, ra, -⟩
  · refine ((b_clrB hX hk4 e5 e1 e2 e6).up (by decide) (by decide)).imp ?_
    rintro kd r h2 ⟨rfl, rfl, y1, y2, y3, m2, y4⟩
    exact fin y1 y2 y3 y4 (Or.inl rfl)
  · refine ((b_clrA hX hk4 e5 e1 e2 ra e4).up (by decide) (by decide)).imp ?_
    rintro kd r h2 ⟨rfl, rfl, y1, y2, y3, m2, y4⟩
    exact fin y1 y2 y3 y4 (Or.inr ⟨ka, rfl, ra⟩)


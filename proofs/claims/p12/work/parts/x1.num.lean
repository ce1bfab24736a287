/-! The class's grid as an image; words, numbers, nodes. -/
def GST : List (Nat × Nat × Nat × Nat) := [(6, 1, 32, 6), (7, 2, 32, 6), (8, 3, 32, 6), (9, 4, 32, 6), (10, 5, 32, 5), (11, 6, 32, 5), (12, 7, 32, 5), (13, 8, 37, 4), (14, 13, 32, 6), (15, 14, 32, 6), (16, 15, 32, 6), (17, 16, 32, 6)]
/-- where the ints of a grid lie -/
def gpl (a j : Nat) : Prop := (a = 0 ∧ j < 6) ∨ (1 ≤ a ∧ a ≤ 4 ∧ j < 6) ∨ (5 ≤ a ∧ a ≤ 7 ∧ j < 5) ∨ (9 ≤ a ∧ a ≤ 12 ∧ j < 4) ∨ (13 ≤ a ∧ a ≤ 16 ∧ j < 6)
/-- a grid's cells: seventeen in a row -/
def GLS (hs : List CE) (g : Nat) : Prop := (g = 37 ∨ 148 ≤ g) ∧ shp hs g = some (4, 18) ∧ (∀ q ∈ GST, rd hs g q.1 = .ref (g + q.2.1) ∧ shp hs (g + q.2.1) = some (q.2.2.1, q.2.2.2)) ∧ ∀ i, i < 4 → rd hs (g + 8) i = .ref (g + (9 + i)) ∧ shp hs (g + (9 + i)) = some (32, 4)
def GIM (hs : List CE) (g : Nat) (F : Nat → Nat → Int32) : Prop := GLS hs g ∧ ∀ a j, gpl a j → rd hs (g + a) j = .int (F a j)
def upF (F : Nat → Nat → Int32) (a j : Nat) (x : Int32) : Nat → Nat → Int32 := fun a' j' => if a' = a ∧ j' = j then x else F a' j'
theorem gst_rng : ∀ q ∈ GST, 6 ≤ q.1 ∧ 1 ≤ q.2.1 ∧ q.2.1 ≤ 16 ∧ ¬ (9 ≤ q.2.1 ∧ q.2.1 ≤ 12) := by decide
theorem GLS.sh {hs : List CE} {g a j : Nat} (h : GLS hs g) (hp : gpl a j) : ∃ c N : Nat, shp hs (g + a) = some (c, N) := by
  unfold gpl at hp
  by_cases h0 : a = 0
  · subst h0; exact ⟨_, _, h.2.1⟩
  · by_cases h9 : 9 ≤ a ∧ a ≤ 12
    · refine ⟨32, 4, ?_⟩
      have := (h.2.2.2 (a - 9) (by omega)).2
      rw [show g + (9 + (a - 9)) = g + a by omega] at this
      exact this
    · have : ∀ b : Fin 17, b.val ≠ 0 → ¬ (9 ≤ b.val ∧ b.val ≤ 12) → ∃ q ∈ GST, q.2.1 = b.val := by decide
      obtain ⟨q, q1, q2⟩ := this ⟨a, by omega⟩ h0 h9
      have q2 : q.2.1 = a := q2
      exact ⟨_, _, by rw [← q2]; exact (h.2.2.1 q q1).2⟩
theorem GLS.wr {hs : List CE} {g k j : Nat} {v : Value} (h : GLS hs g) (h1 : k ≠ g ∨ j < 6) (h2 : k ≠ g + 8) : GLS (wr hs k j v) g := by
  refine ⟨h.1, (shp_wr _ _ _ _ _).trans h.2.1, fun q hq => ?_, fun i hi => ?_⟩
  · have r := gst_rng q hq
    exact ⟨(rd_ne _ _ (h1.elim (fun z => Or.inl (fun y => z y.symm)) (fun z => Or.inr (by omega)))).trans (h.2.2.1 q hq).1, (shp_wr _ _ _ _ _).trans (h.2.2.1 q hq).2⟩
  · exact ⟨(rd_ne _ _ (Or.inl (fun y => h2 y.symm))).trans (h.2.2.2 i hi).1, (shp_wr _ _ _ _ _).trans (h.2.2.2 i hi).2⟩
theorem GLS.fr {W : Nat → Nat → Prop} {hs h2 : List CE} {g : Nat} (h : GLS hs g) (f : FrS W hs h2) (hw : ∀ j, 6 ≤ j → ¬ W g j) (hw8 : ∀ j, ¬ W (g + 8) j) : GLS h2 g :=
  ⟨h.1, (f.2.1 _).trans h.2.1, fun q hq => ⟨(f.2.2 _ _ (hw _ (gst_rng q hq).1)).trans (h.2.2.1 q hq).1, (f.2.1 _).trans (h.2.2.1 q hq).2⟩, fun i hi => ⟨(f.2.2 _ _ (hw8 i)).trans (h.2.2.2 i hi).1, (f.2.1 _).trans (h.2.2.2 i hi).2⟩⟩
theorem GIM.put {hs : List CE} {g a j : Nat} {F : Nat → Nat → Int32} {x : Int32} (h : GIM hs g F) (hp : gpl a j) : GIM (wr hs (g + a) j (.int x)) g (upF F a j x) := by
  have hp' := hp
  unfold gpl at hp'
  refine ⟨h.1.wr (by omega) (by omega), fun a' j' hp2 => ?_⟩
  unfold upF
  split
  · rename_i q
    obtain ⟨rfl, rfl⟩ := q
    obtain ⟨c, N, hs9⟩ := h.1.sh hp
    exact rd_same hs9
  · rename_i q
    exact (rd_ne _ _ (by omega)).trans (h.2 a' j' hp2)
theorem GIM.put0 {hs : List CE} {g j : Nat} {F : Nat → Nat → Int32} {x : Int32} (h : GIM hs g F) (hj : j < 6) : GIM (wr hs g j (.int x)) g (upF F 0 j x) := h.put (a := 0) (Or.inl ⟨rfl, hj⟩)
theorem GIM.n54 {hs : List CE} {g j : Nat} {F : Nat → Nat → Int32} {v : Value} (h : GIM hs g F) : GIM (wr hs 54 j v) g F := by
  have h0 := h.1.1
  refine ⟨h.1.wr (Or.inl (by omega)) (by omega), fun a' j' hp2 => (rd_ne _ _ (Or.inl ?_)).trans (h.2 a' j' hp2)⟩
  unfold gpl at hp2
  omega
theorem GIM.frW {W : Nat → Nat → Prop} {hs h2 : List CE} {g : Nat} {F : Nat → Nat → Int32} (h : GIM hs g F) (f : FrS W hs h2) (hw : ∀ k j, W k j → k = 54 ∨ k = 55) : GIM h2 g F := by
  have h0 := h.1.1
  refine ⟨h.1.fr f (fun j _ z => ?_) (fun j z => ?_), fun a j hp => (f.2.2 _ _ (fun z => ?_)).trans (h.2 a j hp)⟩
  · have := hw _ _ z; omega
  · have := hw _ _ z; omega
  · have := hw _ _ z; unfold gpl at hp; omega
/-- within the grid's ints -/
def WGr (g : Nat) (k j : Nat) : Prop := g ≤ k ∧ k ≤ g + 16 ∧ (k = g → j < 6) ∧ k ≠ g + 8
def WKG (g : Nat) (k j : Nat) : Prop := WKr k j ∨ WGr g k j
theorem RWC.wrG {hs : List CE} {g k j : Nat} {v : Value} (h : RWC hs g) (hk : k ≠ 54) : RWC (wr hs k j v) g :=
  ⟨(shp_wr _ _ _ _ _).trans h.1, (shp_wr _ _ _ _ _).trans h.2.1, (rd_ne _ _ (Or.inl (fun z => hk z.symm))).trans h.2.2.1, (rd_ne _ _ (Or.inl (fun z => hk z.symm))).trans h.2.2.2.1, (rd_ne _ _ (Or.inl (fun z => hk z.symm))).trans h.2.2.2.2⟩
/-- what a reading step leaves: r says it -/
def RTk (hs : List CE) (tx : Nat → Int) (g : Nat) (L s ec ep : Int) (r : Int × Int × Int) (kd : Nat) (rv : Option Value) (h2 : List CE) : Prop := (kd = 0 ∧ r.1 = 0 ∧ (∃ x : Int32, rv = some (.int x) ∧ x.toInt = r.2.2) ∧ CT h2 tx g L r.2.1 s ec ep ∧ FrS WKr hs h2) ∨ (kd = 3 ∧ rv = none ∧ r.1 ≠ 0 ∧ ER h2 tx g L r.1 r.2.1 ∧ FrS WKr hs h2)
def RU (hs : List CE) (tx : Nat → Int) (g : Nat) (L s ec ep : Int) (r : Int × Int) (kd : Nat) (rv : Option Value) (h2 : List CE) : Prop := (kd = 0 ∧ r.1 = 0 ∧ rv = none ∧ CT h2 tx g L r.2 s ec ep ∧ FrS WKr hs h2) ∨ (kd = 3 ∧ rv = none ∧ r.1 ≠ 0 ∧ ER h2 tx g L r.1 r.2 ∧ FrS WKr hs h2)
theorem CT.sk {hs : List CE} {tx : Nat → Int} {g : Nat} {L s ec ep t : Int} (h : CT hs tx g L (skp tx L (tkE tx L t)) s ec ep) : CT hs tx g L (nxs tx L t) s ec ep := h
/-- a word of the class as a number -/
def lwd (i : Nat) : Int := wvN (fun j => ((LBT.getD i []).getD j 0).toInt) 0 (LBT.getD i []).length
theorem lwd_pos : ∀ i, i < 20 → 12 ≤ i → 1 ≤ lwd i := by decide
theorem lwd_all : lwd 12 = wGENERATOR ∧ lwd 13 = wDEMAND ∧ lwd 14 = wRIGHT ∧ lwd 15 = wOUTAGE ∧ lwd 16 = wLINE ∧ lwd 17 = wEMERGENCY ∧ lwd 18 = wNODES ∧ lwd 19 = wINTERVALS := by decide
theorem lbt_let : ∀ i, i < 20 → 12 ≤ i → (LBT.getD i []).length ≤ 9 ∧ ∀ j, j < (LBT.getD i []).length → 97 ≤ ((LBT.getD i []).getD j 0).toInt ∧ ((LBT.getD i []).getD j 0).toInt ≤ 122 ∧ litC (LBT.getD i []) j = (LBT.getD i []).getD j 0 := by decide
theorem lit_ix : ∀ (k i : Nat) (t : String), SSX.1[k]? = some ("GridPrices$Reader", i, t) → (i = 138 → k = 12) ∧ (i = 140 → k = 13) ∧ (i = 142 → k = 14) ∧ (i = 144 → k = 15) ∧ (i = 112 → k = 16) ∧ (i = 132 → k = 17) ∧ (i = 94 → k = 18) ∧ (i = 105 → k = 19) := by
  intro k i t h
  have hk : k < 21 := (List.getElem?_eq_some_iff.mp h).1
  have : ∀ k9 : Nat, k9 < 21 → ∀ q : String × Nat × String, SSX.1[k9]? = some q → (q.2.1 = 138 → k9 = 12) ∧ (q.2.1 = 140 → k9 = 13) ∧ (q.2.1 = 142 → k9 = 14) ∧ (q.2.1 = 144 → k9 = 15 ∨ q.1 ≠ "GridPrices$Reader") ∧ (q.2.1 = 112 → k9 = 16) ∧ (q.2.1 = 132 → k9 = 17) ∧ (q.2.1 = 94 → k9 = 18) ∧ (q.2.1 = 105 → k9 = 19) := by
    intro k9 hk9 q hq
    match k9, hk9, hq with
    | 0, _, hq => obtain rfl := Option.some.inj hq; decide
    | 1, _, hq => obtain rfl := Option.some.inj hq; decide
    | 2, _, hq => obtain rfl := Option.some.inj hq; decide
    | 3, _, hq => obtain rfl := Option.some.inj hq; decide
    | 4, _, hq => obtain rfl := Option.some.inj hq; decide
    | 5, _, hq => obtain rfl := Option.some.inj hq; decide
    | 6, _, hq => obtain rfl := Option.some.inj hq; decide
    | 7, _, hq => obtain rfl := Option.some.inj hq; decide
    | 8, _, hq => obtain rfl := Option.some.inj hq; decide
    | 9, _, hq => obtain rfl := Option.some.inj hq; decide
    | 10, _, hq => obtain rfl := Option.some.inj hq; decide
    | 11, _, hq => obtain rfl := Option.some.inj hq; decide
    | 12, _, hq => obtain rfl := Option.some.inj hq; decide
    | 13, _, hq => obtain rfl := Option.some.inj hq; decide
    | 14, _, hq => obtain rfl := Option.some.inj hq; decide
    | 15, _, hq => obtain rfl := Option.some.inj hq; decide
    | 16, _, hq => obtain rfl := Option.some.inj hq; decide
    | 17, _, hq => obtain rfl := Option.some.inj hq; decide
    | 18, _, hq => obtain rfl := Option.some.inj hq; decide
    | 19, _, hq => obtain rfl := Option.some.inj hq; decide
    | 20, _, hq => obtain rfl := Option.some.inj hq; decide
    | n + 21, h, _ => exact absurd h (by omega)
  obtain ⟨a, b, c, d, e, f, g, h9⟩ := this k hk _ h
  exact ⟨a, b, c, fun z => (d z).resolve_right (fun y => y rfl), e, f, g, h9⟩

section CRDW
variable {g0 : GG} {bl : Nat} {xs : Nat → Int32} {l : Launch} {hs : List CE} {tx : Nat → Int} {g : Nat} {L k s A P ec ep : Int}

theorem cx_number {lo9 hi9 : Int32} {lo hi : Int} (hlo : lo9.toInt = lo) (hhi : hi9.toInt = hi) (hC : CT hs tx g L s P ec ep) : BodyN SSX TBL g0 CLS bl xs l D_128 9 142 1 11 [.ref 54, .int lo9, .int hi9] hs (RTk hs tx g L s ec ep (sNum tx L lo hi s)) := by
  intro wp p e R sW m args below meth c Q kc0 ks0 kc ks act hf hl hc hsl hEnd
  have hf : 9 ≤ R.frames := hf
  have hl : 142 ≤ R.locals := hl
  obtain ⟨hP_t1, qt_1, qu_1⟩ := hC
  have qv_1 := tkE_le (T := tx) (L := L) (s := s) (by omega)
  obtain ⟨rw_2, hT_2, ⟨x1_2, e1_2, a1_2⟩, ⟨x2_2, e2_2, a2_2⟩, ⟨x6_2, e6_2, a6_2⟩, ⟨x7_2, e7_2, a7_2⟩, ⟨x8_2, e8_2, a8_2⟩, ⟨x9_2, e9_2, a9_2⟩, ⟨x10_2, e10_2, a10_2⟩, q1_2, q2_2, q3_2, q4_2⟩ := hP_t1
  have hfr0 := FrS.rf WKr hs
  show WpN (gp g0 wp) CLS p l e R sW m args below meth c Q D_128.2.2.1 kc0 ks0 0 [some (.ref 54), some (.int lo9), some (.int hi9), none] (hs, kc, ks) []
  refine g_loadA act (gx gp_128 (w := 0x103) rfl (by decide) rfl) (a := 0) (n := 1) rfl rfl rfl ?_
  refine r_getf act (gx gp_128 (w := 0x1c5000404) rfl (by decide) rfl) (n := 4) (ci := 5) (j := 7) (N := 11) rfl rfl rfl rw_2.1 (by decide) (v := .int x7_2) e7_2 ?_
  refine g_constI act (gx gp_128 (w := 0x40000000c00000009000000000501) rfl (by decide) rfl) (n := 5) (x := (1 : Int32)) (by decide) rfl ?_
  refine g_icmpEq act (gx gp_128 (w := 0x1100082e) rfl (by decide) rfl) (tgt := 17) (n := 8) rfl rfl (fun h3 => ?_) (fun h3 => ?_)
  · simp only [i_eq, show (1 : Int32).toInt = 1 from by decide] at h3
    refine g_loadA act (gx gp_128 (w := 0x1203) rfl (by decide) rfl) (a := 0) (n := 18) rfl rfl rfl ?_
    refine n_call tb_pres act hEnd (gx (P := G_call) gp_128 (w := 0x6000000000000c0c1100008a00150f) rfl (by decide) rfl) (d' := D_138) rfl (f' := 0) (lam' := 0) (mc := 0) (ms := 0) (as := [.ref 54]) (rest := []) (cx_value (s := s) (by omega) (by omega) (show CRD hs tx g L (tkK tx L s) s (tkE tx L s) P ec ep from ⟨rw_2, hT_2, ⟨_, e1_2, a1_2⟩, ⟨_, e2_2, a2_2⟩, ⟨_, e6_2, a6_2⟩, ⟨_, e7_2, a7_2⟩, ⟨_, e8_2, a8_2⟩, ⟨_, e9_2, a9_2⟩, ⟨_, e10_2, a10_2⟩, by omega, by omega, by omega, by omega⟩)) (show (1 : Nat) = fb 0x6000000000000c0c1100008a00150f % 16 by decide) (by show (1 : Nat) ≤ 3; decide) (fun _ => ⟨_, _, rfl, _, shp_at rw_2.1, Or.inr (show fb 0x6000000000000c0c1100008a00150f >>> 68 = 6 by decide)⟩) (by omega) (by show 8 + (3 + 11) + 0 ≤ R.locals; omega) (by show (0 : Nat) ≤ 8; decide) (by show kc + 0 ≤ _; omega) (by show ks + 0 ≤ _; omega) (fun r9 h3 hpo hr9 => ?_) (fun x9 hs9 hx9 hpo => ?_)
    · obtain ⟨-, rfl, xv_c3, rfl, hv_c3⟩ := hpo
      show WpN (gp g0 wp) CLS p l e R sW m args below meth c Q D_128.2.2.1 kc0 ks0 21 [some (.ref 54), some (.int lo9), some (.int hi9), none] (hs, kc, ks) [.int xv_c3]
      refine g_storeI act (gx gp_128 (w := 0x3001610) rfl (by decide) rfl) (a := 3) (n := 22) rfl rfl (L2 := [some (.ref 54), some (.int lo9), some (.int hi9), some (.int xv_c3)]) rfl ?_
      refine g_loadI act (gx gp_128 (w := 0x3001702) rfl (by decide) rfl) (a := 3) (n := 23) rfl rfl rfl ?_
      refine g_loadI act (gx gp_128 (w := 0x1001802) rfl (by decide) rfl) (a := 1) (n := 24) rfl rfl rfl ?_
      refine g_icmpLt act (gx gp_128 (w := 0x20001b20) rfl (by decide) rfl) (tgt := 32) (n := 27) rfl rfl (fun h8 => ?_) (fun h8 => ?_)
      · simp only [i_lt] at h8
        refine g_loadA act (gx gp_128 (w := 0x2103) rfl (by decide) rfl) (a := 0) (n := 33) rfl rfl rfl ?_
        refine g_constI act (gx gp_128 (w := 0x40000001400000011000000002201) rfl (by decide) rfl) (n := 34) (x := (2 : Int32)) (by decide) rfl ?_
        refine g_loadA act (gx gp_128 (w := 0x2303) rfl (by decide) rfl) (a := 0) (n := 35) rfl rfl rfl ?_
        refine r_getf act (gx gp_128 (w := 0x205002604) rfl (by decide) rfl) (n := 38) (ci := 5) (j := 8) (N := 11) rfl rfl rfl rw_2.1 (by decide) (v := .int x8_2) e8_2 ?_
        refine n_call tb_pres act hEnd (gx (P := G_call) gp_128 (w := 0x600000000000080c3300008800290f) rfl (by decide) rfl) (d' := D_136) rfl (f' := 8) (lam' := 120) (mc := 1) (ms := 11) (as := [.ref 54, .int (2 : Int32), .int x8_2]) (rest := []) (cx_refuse (c1 := (2 : Int32)) (c2 := x8_2) (show CRD hs tx g L (tkK tx L s) s (tkE tx L s) P ec ep from ⟨rw_2, hT_2, ⟨_, e1_2, a1_2⟩, ⟨_, e2_2, a2_2⟩, ⟨_, e6_2, a6_2⟩, ⟨_, e7_2, a7_2⟩, ⟨_, e8_2, a8_2⟩, ⟨_, e9_2, a9_2⟩, ⟨_, e10_2, a10_2⟩, by omega, by omega, by omega, by omega⟩)) (show (3 : Nat) = fb 0x600000000000080c3300008800290f % 16 by decide) (by show (3 : Nat) ≤ 3; decide) (fun _ => ⟨_, _, rfl, _, shp_at rw_2.1, Or.inr (show fb 0x600000000000080c3300008800290f >>> 68 = 6 by decide)⟩) (by omega) (by show 8 + (3 + 11) + 120 ≤ R.locals; omega) (by show (0 : Nat) ≤ 8; decide) (by show kc + 1 ≤ _; omega) (by show ks + 11 ≤ _; omega) (fun r9 h3 hpo hr9 => ?_) (fun x9 hs9 hx9 hpo => ?_)
        · obtain rfl : r9 = none := hr9.elim (fun q => q.2) (fun q => absurd rfl q.1)
          exact absurd hpo.1 (by decide)
        · obtain ⟨hk_c4, -, hD_c4, fr_c4⟩ := hpo
          rw [(show (2 : Int32).toInt = ((2 : Nat) : Int) from by decide), a8_2] at hD_c4
          have hE_c4 : ER hs9 tx g L ((2 : Nat) : Int) s := ⟨_, _, _, _, hD_c4⟩
          have ft_c4 := hfr0.tr fr_c4
          have hR : (sNum tx L lo hi s) = (((2 : Nat) : Int), s, 0) := sNum_rg (by omega) (by omega)
          refine Or.inr ⟨rfl, Or.inr ⟨by omega, rfl, by rw [hR]; show (((2 : Nat) : Int) : Int) ≠ 0; decide, by rw [hR]; exact hE_c4, ft_c4⟩, by show kc + 1 ≤ kc + 1; omega, by show ks + 11 ≤ ks + 11; omega⟩
      · simp only [i_lt] at h8
        refine g_loadI act (gx gp_128 (w := 0x3001c02) rfl (by decide) rfl) (a := 3) (n := 28) rfl rfl rfl ?_
        refine g_loadI act (gx gp_128 (w := 0x2001d02) rfl (by decide) rfl) (a := 2) (n := 29) rfl rfl rfl ?_
        refine g_icmpLe act (gx gp_128 (w := 0x2900203c) rfl (by decide) rfl) (tgt := 41) (n := 32) rfl rfl (fun h14 => ?_) (fun h14 => ?_)
        · simp only [i_le] at h14
          refine g_loadA act (gx gp_128 (w := 0x2a03) rfl (by decide) rfl) (a := 0) (n := 42) rfl rfl rfl ?_
          refine n_call tb_pres act hEnd (gx (P := G_call) gp_128 (w := 0x600000000000080811000077002d0f) rfl (by decide) rfl) (d' := D_119) rfl (f' := 1) (lam' := 22) (mc := 0) (ms := 0) (as := [.ref 54]) (rest := []) (cx_advance (show CRD hs tx g L (tkK tx L s) s (tkE tx L s) P ec ep from ⟨rw_2, hT_2, ⟨_, e1_2, a1_2⟩, ⟨_, e2_2, a2_2⟩, ⟨_, e6_2, a6_2⟩, ⟨_, e7_2, a7_2⟩, ⟨_, e8_2, a8_2⟩, ⟨_, e9_2, a9_2⟩, ⟨_, e10_2, a10_2⟩, by omega, by omega, by omega, by omega⟩)) (show (1 : Nat) = fb 0x600000000000080811000077002d0f % 16 by decide) (by show (1 : Nat) ≤ 2; decide) (fun _ => ⟨_, _, rfl, _, shp_at rw_2.1, Or.inr (show fb 0x600000000000080811000077002d0f >>> 68 = 6 by decide)⟩) (by omega) (by show 8 + (2 + 11) + 22 ≤ R.locals; omega) (by show (0 : Nat) ≤ 8; decide) (by show kc + 0 ≤ _; omega) (by show ks + 0 ≤ _; omega) (fun r9 hs_c5 hpo hr9 => ?_) (fun x9 hs9 hx9 hpo => ?_)
          · obtain rfl : r9 = none := hr9.elim (fun q => q.2) (fun q => absurd rfl q.1)
            obtain ⟨-, -, hD_c5, fr_c5⟩ := hpo
            obtain ⟨s_c5, es_c5, hC_c5⟩ : ∃ z : Int, z = nxs tx L s ∧ CT hs_c5 tx g L z s ec ep := ⟨_, rfl, hD_c5⟩
            obtain ⟨⟨-, -, ⟨x1_c5, e1_c5, a1_c5⟩, ⟨x2_c5, e2_c5, a2_c5⟩, ⟨x6_c5, e6_c5, a6_c5⟩, ⟨x7_c5, e7_c5, a7_c5⟩, ⟨x8_c5, e8_c5, a8_c5⟩, ⟨x9_c5, e9_c5, a9_c5⟩, ⟨x10_c5, e10_c5, a10_c5⟩, q1_c5, q2_c5, q3_c5, q4_c5⟩, qs_c5, qt_c5⟩ := hC_c5
            have rw_6 := rw_2.fr fr_c5 (fun j9 _ _ => by unfold WKr; omega)
            have f_7 := hT_2.fr fr_c5 (fun j9 => by unfold WKr; omega)
            have fr_15 := hfr0.tr fr_c5
            clear rw_2 hT_2 e1_2 e2_2 e6_2 e7_2 e8_2 e9_2 e10_2 hfr0
            show WpN (gp g0 wp) CLS p l e R sW m args below meth c Q D_128.2.2.1 kc0 ks0 45 [some (.ref 54), some (.int lo9), some (.int hi9), some (.int xv_c3)] (hs_c5, kc, ks) []
            refine g_loadI act (gx gp_128 (w := 0x3002e02) rfl (by decide) rfl) (a := 3) (n := 46) rfl rfl rfl ?_
            have hR : (sNum tx L lo hi s) = (0, nxs tx L s, vlT tx L s) := sNum_ok (by omega) ⟨by omega, by omega⟩
            exact g_retI hEnd (gx gp_128 (w := 0x2f) rfl (by decide) rfl) (Or.inl ⟨rfl, by rw [hR], ⟨_, rfl, by rw [hR]; omega⟩, by rw [hR, ← es_c5]; exact (show CT hs_c5 tx g L s_c5 s ec ep from ⟨(show CRD hs_c5 tx g L (tkK tx L s_c5) s_c5 (tkE tx L s_c5) s ec ep from ⟨rw_6, f_7, ⟨_, e1_c5, (by have q9 := a1_c5; omega)⟩, ⟨_, e2_c5, (by have q9 := a2_c5; omega)⟩, ⟨_, e6_c5, (by have q9 := a6_c5; omega)⟩, ⟨_, e7_c5, (by have q9 := a7_c5; omega)⟩, ⟨_, e8_c5, (by have q9 := a8_c5; omega)⟩, ⟨_, e9_c5, (by have q9 := a9_c5; omega)⟩, ⟨_, e10_c5, (by have q9 := a10_c5; omega)⟩, by omega, by omega, by omega, by omega⟩), by omega, by omega⟩), fr_15⟩) (by show kc ≤ kc + 1; omega) (by show ks ≤ ks + 11; omega)
          · exact absurd hpo.1 (by omega)
        · simp only [i_le] at h14
          refine g_loadA act (gx gp_128 (w := 0x2103) rfl (by decide) rfl) (a := 0) (n := 33) rfl rfl rfl ?_
          refine g_constI act (gx gp_128 (w := 0x40000001400000011000000002201) rfl (by decide) rfl) (n := 34) (x := (2 : Int32)) (by decide) rfl ?_
          refine g_loadA act (gx gp_128 (w := 0x2303) rfl (by decide) rfl) (a := 0) (n := 35) rfl rfl rfl ?_
          refine r_getf act (gx gp_128 (w := 0x205002604) rfl (by decide) rfl) (n := 38) (ci := 5) (j := 8) (N := 11) rfl rfl rfl rw_2.1 (by decide) (v := .int x8_2) e8_2 ?_
          refine n_call tb_pres act hEnd (gx (P := G_call) gp_128 (w := 0x600000000000080c3300008800290f) rfl (by decide) rfl) (d' := D_136) rfl (f' := 8) (lam' := 120) (mc := 1) (ms := 11) (as := [.ref 54, .int (2 : Int32), .int x8_2]) (rest := []) (cx_refuse (c1 := (2 : Int32)) (c2 := x8_2) (show CRD hs tx g L (tkK tx L s) s (tkE tx L s) P ec ep from ⟨rw_2, hT_2, ⟨_, e1_2, a1_2⟩, ⟨_, e2_2, a2_2⟩, ⟨_, e6_2, a6_2⟩, ⟨_, e7_2, a7_2⟩, ⟨_, e8_2, a8_2⟩, ⟨_, e9_2, a9_2⟩, ⟨_, e10_2, a10_2⟩, by omega, by omega, by omega, by omega⟩)) (show (3 : Nat) = fb 0x600000000000080c3300008800290f % 16 by decide) (by show (3 : Nat) ≤ 3; decide) (fun _ => ⟨_, _, rfl, _, shp_at rw_2.1, Or.inr (show fb 0x600000000000080c3300008800290f >>> 68 = 6 by decide)⟩) (by omega) (by show 8 + (3 + 11) + 120 ≤ R.locals; omega) (by show (0 : Nat) ≤ 8; decide) (by show kc + 1 ≤ _; omega) (by show ks + 11 ≤ _; omega) (fun r9 h3 hpo hr9 => ?_) (fun x9 hs9 hx9 hpo => ?_)
          · obtain rfl : r9 = none := hr9.elim (fun q => q.2) (fun q => absurd rfl q.1)
            exact absurd hpo.1 (by decide)
          · obtain ⟨hk_c16, -, hD_c16, fr_c16⟩ := hpo
            rw [(show (2 : Int32).toInt = ((2 : Nat) : Int) from by decide), a8_2] at hD_c16
            have hE_c16 : ER hs9 tx g L ((2 : Nat) : Int) s := ⟨_, _, _, _, hD_c16⟩
            have ft_c16 := hfr0.tr fr_c16
            have hR : (sNum tx L lo hi s) = (((2 : Nat) : Int), s, 0) := sNum_rg (by omega) (by omega)
            refine Or.inr ⟨rfl, Or.inr ⟨by omega, rfl, by rw [hR]; show (((2 : Nat) : Int) : Int) ≠ 0; decide, by rw [hR]; exact hE_c16, ft_c16⟩, by show kc + 1 ≤ kc + 1; omega, by show ks + 11 ≤ ks + 11; omega⟩
    · exact absurd hpo.1 (by omega)
  · simp only [i_eq, show (1 : Int32).toInt = 1 from by decide] at h3
    refine g_loadA act (gx gp_128 (w := 0x903) rfl (by decide) rfl) (a := 0) (n := 9) rfl rfl rfl ?_
    refine g_constI act (gx gp_128 (w := 0x40000000c00000009000000000a01) rfl (by decide) rfl) (n := 10) (x := (1 : Int32)) (by decide) rfl ?_
    refine g_loadA act (gx gp_128 (w := 0xb03) rfl (by decide) rfl) (a := 0) (n := 11) rfl rfl rfl ?_
    refine r_getf act (gx gp_128 (w := 0x205000e04) rfl (by decide) rfl) (n := 14) (ci := 5) (j := 8) (N := 11) rfl rfl rfl rw_2.1 (by decide) (v := .int x8_2) e8_2 ?_
    refine n_call tb_pres act hEnd (gx (P := G_call) gp_128 (w := 0x600000000000080c3300008800110f) rfl (by decide) rfl) (d' := D_136) rfl (f' := 8) (lam' := 120) (mc := 1) (ms := 11) (as := [.ref 54, .int (1 : Int32), .int x8_2]) (rest := []) (cx_refuse (c1 := (1 : Int32)) (c2 := x8_2) (show CRD hs tx g L (tkK tx L s) s (tkE tx L s) P ec ep from ⟨rw_2, hT_2, ⟨_, e1_2, a1_2⟩, ⟨_, e2_2, a2_2⟩, ⟨_, e6_2, a6_2⟩, ⟨_, e7_2, a7_2⟩, ⟨_, e8_2, a8_2⟩, ⟨_, e9_2, a9_2⟩, ⟨_, e10_2, a10_2⟩, by omega, by omega, by omega, by omega⟩)) (show (3 : Nat) = fb 0x600000000000080c3300008800110f % 16 by decide) (by show (3 : Nat) ≤ 3; decide) (fun _ => ⟨_, _, rfl, _, shp_at rw_2.1, Or.inr (show fb 0x600000000000080c3300008800110f >>> 68 = 6 by decide)⟩) (by omega) (by show 8 + (3 + 11) + 120 ≤ R.locals; omega) (by show (0 : Nat) ≤ 8; decide) (by show kc + 1 ≤ _; omega) (by show ks + 11 ≤ _; omega) (fun r9 h3 hpo hr9 => ?_) (fun x9 hs9 hx9 hpo => ?_)
    · obtain rfl : r9 = none := hr9.elim (fun q => q.2) (fun q => absurd rfl q.1)
      exact absurd hpo.1 (by decide)
    · obtain ⟨hk_c17, -, hD_c17, fr_c17⟩ := hpo
      rw [(show (1 : Int32).toInt = ((1 : Nat) : Int) from by decide), a8_2] at hD_c17
      have hE_c17 : ER hs9 tx g L ((1 : Nat) : Int) s := ⟨_, _, _, _, hD_c17⟩
      have ft_c17 := hfr0.tr fr_c17
      have hR : (sNum tx L lo hi s) = (((1 : Nat) : Int), s, 0) := sNum_no (by omega)
      refine Or.inr ⟨rfl, Or.inr ⟨by omega, rfl, by rw [hR]; show (((1 : Nat) : Int) : Int) ≠ 0; decide, by rw [hR]; exact hE_c17, ft_c17⟩, by show kc + 1 ≤ kc + 1; omega, by show ks + 11 ≤ ks + 11; omega⟩

theorem cx_semi (hC : CT hs tx g L s P ec ep) : BodyN SSX TBL g0 CLS bl xs l D_132 9 142 1 11 [.ref 54] hs (RU hs tx g L s ec ep (sSem tx L s)) := by
  intro wp p e R sW m args below meth c Q kc0 ks0 kc ks act hf hl hc hsl hEnd
  have hf : 9 ≤ R.frames := hf
  have hl : 142 ≤ R.locals := hl
  obtain ⟨hP_t1, qt_1, qu_1⟩ := hC
  have qv_1 := tkE_le (T := tx) (L := L) (s := s) (by omega)
  obtain ⟨rw_2, hT_2, ⟨x1_2, e1_2, a1_2⟩, ⟨x2_2, e2_2, a2_2⟩, ⟨x6_2, e6_2, a6_2⟩, ⟨x7_2, e7_2, a7_2⟩, ⟨x8_2, e8_2, a8_2⟩, ⟨x9_2, e9_2, a9_2⟩, ⟨x10_2, e10_2, a10_2⟩, q1_2, q2_2, q3_2, q4_2⟩ := hP_t1
  have hfr0 := FrS.rf WKr hs
  show WpN (gp g0 wp) CLS p l e R sW m args below meth c Q D_132.2.2.1 kc0 ks0 0 [some (.ref 54)] (hs, kc, ks) []
  refine g_loadA act (gx gp_132 (w := 0x103) rfl (by decide) rfl) (a := 0) (n := 1) rfl rfl rfl ?_
  refine r_getf act (gx gp_132 (w := 0x1c5000404) rfl (by decide) rfl) (n := 4) (ci := 5) (j := 7) (N := 11) rfl rfl rfl rw_2.1 (by decide) (v := .int x7_2) e7_2 ?_
  refine g_constI act (gx gp_132 (w := 0x40000001400000011000000000501) rfl (by decide) rfl) (n := 5) (x := (2 : Int32)) (by decide) rfl ?_
  refine g_icmpEq act (gx gp_132 (w := 0x1100082e) rfl (by decide) rfl) (tgt := 17) (n := 8) rfl rfl (fun h3 => ?_) (fun h3 => ?_)
  · simp only [i_eq, show (2 : Int32).toInt = 2 from by decide] at h3
    refine g_loadA act (gx gp_132 (w := 0x1203) rfl (by decide) rfl) (a := 0) (n := 18) rfl rfl rfl ?_
    refine n_call tb_pres act hEnd (gx (P := G_call) gp_132 (w := 0x60000000000008081100007700150f) rfl (by decide) rfl) (d' := D_119) rfl (f' := 1) (lam' := 22) (mc := 0) (ms := 0) (as := [.ref 54]) (rest := []) (cx_advance (show CRD hs tx g L (tkK tx L s) s (tkE tx L s) P ec ep from ⟨rw_2, hT_2, ⟨_, e1_2, a1_2⟩, ⟨_, e2_2, a2_2⟩, ⟨_, e6_2, a6_2⟩, ⟨_, e7_2, a7_2⟩, ⟨_, e8_2, a8_2⟩, ⟨_, e9_2, a9_2⟩, ⟨_, e10_2, a10_2⟩, by omega, by omega, by omega, by omega⟩)) (show (1 : Nat) = fb 0x60000000000008081100007700150f % 16 by decide) (by show (1 : Nat) ≤ 2; decide) (fun _ => ⟨_, _, rfl, _, shp_at rw_2.1, Or.inr (show fb 0x60000000000008081100007700150f >>> 68 = 6 by decide)⟩) (by omega) (by show 8 + (2 + 11) + 22 ≤ R.locals; omega) (by show (0 : Nat) ≤ 8; decide) (by show kc + 0 ≤ _; omega) (by show ks + 0 ≤ _; omega) (fun r9 hs_c3 hpo hr9 => ?_) (fun x9 hs9 hx9 hpo => ?_)
    · obtain rfl : r9 = none := hr9.elim (fun q => q.2) (fun q => absurd rfl q.1)
      obtain ⟨-, -, hD_c3, fr_c3⟩ := hpo
      obtain ⟨s_c3, es_c3, hC_c3⟩ : ∃ z : Int, z = nxs tx L s ∧ CT hs_c3 tx g L z s ec ep := ⟨_, rfl, hD_c3⟩
      obtain ⟨⟨-, -, ⟨x1_c3, e1_c3, a1_c3⟩, ⟨x2_c3, e2_c3, a2_c3⟩, ⟨x6_c3, e6_c3, a6_c3⟩, ⟨x7_c3, e7_c3, a7_c3⟩, ⟨x8_c3, e8_c3, a8_c3⟩, ⟨x9_c3, e9_c3, a9_c3⟩, ⟨x10_c3, e10_c3, a10_c3⟩, q1_c3, q2_c3, q3_c3, q4_c3⟩, qs_c3, qt_c3⟩ := hC_c3
      have rw_4 := rw_2.fr fr_c3 (fun j9 _ _ => by unfold WKr; omega)
      have f_5 := hT_2.fr fr_c3 (fun j9 => by unfold WKr; omega)
      have fr_13 := hfr0.tr fr_c3
      clear rw_2 hT_2 e1_2 e2_2 e6_2 e7_2 e8_2 e9_2 e10_2 hfr0
      show WpN (gp g0 wp) CLS p l e R sW m args below meth c Q D_132.2.2.1 kc0 ks0 21 [some (.ref 54)] (hs_c3, kc, ks) []
      have hR : (sSem tx L s) = (0, nxs tx L s) := if_pos (by omega)
      exact g_retV hEnd (gx gp_132 (w := 0x18) rfl (by decide) rfl) (Or.inl ⟨rfl, by rw [hR], rfl, by rw [hR, ← es_c3]; exact (show CT hs_c3 tx g L s_c3 s ec ep from ⟨(show CRD hs_c3 tx g L (tkK tx L s_c3) s_c3 (tkE tx L s_c3) s ec ep from ⟨rw_4, f_5, ⟨_, e1_c3, (by have q9 := a1_c3; omega)⟩, ⟨_, e2_c3, (by have q9 := a2_c3; omega)⟩, ⟨_, e6_c3, (by have q9 := a6_c3; omega)⟩, ⟨_, e7_c3, (by have q9 := a7_c3; omega)⟩, ⟨_, e8_c3, (by have q9 := a8_c3; omega)⟩, ⟨_, e9_c3, (by have q9 := a9_c3; omega)⟩, ⟨_, e10_c3, (by have q9 := a10_c3; omega)⟩, by omega, by omega, by omega, by omega⟩), by omega, by omega⟩), fr_13⟩) (by show kc ≤ kc + 1; omega) (by show ks ≤ ks + 11; omega)
    · exact absurd hpo.1 (by omega)
  · simp only [i_eq, show (2 : Int32).toInt = 2 from by decide] at h3
    refine g_loadA act (gx gp_132 (w := 0x903) rfl (by decide) rfl) (a := 0) (n := 9) rfl rfl rfl ?_
    refine g_constI act (gx gp_132 (w := 0x40000000c00000009000000000a01) rfl (by decide) rfl) (n := 10) (x := (1 : Int32)) (by decide) rfl ?_
    refine g_loadA act (gx gp_132 (w := 0xb03) rfl (by decide) rfl) (a := 0) (n := 11) rfl rfl rfl ?_
    refine r_getf act (gx gp_132 (w := 0x205000e04) rfl (by decide) rfl) (n := 14) (ci := 5) (j := 8) (N := 11) rfl rfl rfl rw_2.1 (by decide) (v := .int x8_2) e8_2 ?_
    refine n_call tb_pres act hEnd (gx (P := G_call) gp_132 (w := 0x600000000000080c3300008800110f) rfl (by decide) rfl) (d' := D_136) rfl (f' := 8) (lam' := 120) (mc := 1) (ms := 11) (as := [.ref 54, .int (1 : Int32), .int x8_2]) (rest := []) (cx_refuse (c1 := (1 : Int32)) (c2 := x8_2) (show CRD hs tx g L (tkK tx L s) s (tkE tx L s) P ec ep from ⟨rw_2, hT_2, ⟨_, e1_2, a1_2⟩, ⟨_, e2_2, a2_2⟩, ⟨_, e6_2, a6_2⟩, ⟨_, e7_2, a7_2⟩, ⟨_, e8_2, a8_2⟩, ⟨_, e9_2, a9_2⟩, ⟨_, e10_2, a10_2⟩, by omega, by omega, by omega, by omega⟩)) (show (3 : Nat) = fb 0x600000000000080c3300008800110f % 16 by decide) (by show (3 : Nat) ≤ 3; decide) (fun _ => ⟨_, _, rfl, _, shp_at rw_2.1, Or.inr (show fb 0x600000000000080c3300008800110f >>> 68 = 6 by decide)⟩) (by omega) (by show 8 + (3 + 11) + 120 ≤ R.locals; omega) (by show (0 : Nat) ≤ 8; decide) (by show kc + 1 ≤ _; omega) (by show ks + 11 ≤ _; omega) (fun r9 h3 hpo hr9 => ?_) (fun x9 hs9 hx9 hpo => ?_)
    · obtain rfl : r9 = none := hr9.elim (fun q => q.2) (fun q => absurd rfl q.1)
      exact absurd hpo.1 (by decide)
    · obtain ⟨hk_c14, -, hD_c14, fr_c14⟩ := hpo
      rw [(show (1 : Int32).toInt = ((1 : Nat) : Int) from by decide), a8_2] at hD_c14
      have hE_c14 : ER hs9 tx g L ((1 : Nat) : Int) s := ⟨_, _, _, _, hD_c14⟩
      have ft_c14 := hfr0.tr fr_c14
      have hR : (sSem tx L s) = (1, s) := if_neg (by omega)
      refine Or.inr ⟨rfl, Or.inr ⟨by omega, rfl, by rw [hR]; show (1 : Int) ≠ 0; decide, by rw [hR]; exact hE_c14, ft_c14⟩, by show kc + 1 ≤ kc + 1; omega, by show ks + 11 ≤ ks + 11; omega⟩

theorem cx_room {u9 m9 : Int32} {us mo : Int} (hus : u9.toInt = us) (hmo : m9.toInt = mo) (hC : CT hs tx g L s P ec ep) : BodyN SSX TBL g0 CLS bl xs l D_121 9 142 1 11 [.ref 54, .int u9, .int m9] hs (fun kd r h2 => (kd = 0 ∧ r = none ∧ us < mo ∧ hs = h2) ∨ (kd = 3 ∧ r = none ∧ mo ≤ us ∧ ER h2 tx g L 3 s ∧ FrS WKr hs h2)) := by
  intro wp p e R sW m args below meth c Q kc0 ks0 kc ks act hf hl hc hsl hEnd
  have hf : 9 ≤ R.frames := hf
  have hl : 142 ≤ R.locals := hl
  obtain ⟨hP_t1, qt_1, qu_1⟩ := hC
  have qv_1 := tkE_le (T := tx) (L := L) (s := s) (by omega)
  obtain ⟨rw_2, hT_2, ⟨x1_2, e1_2, a1_2⟩, ⟨x2_2, e2_2, a2_2⟩, ⟨x6_2, e6_2, a6_2⟩, ⟨x7_2, e7_2, a7_2⟩, ⟨x8_2, e8_2, a8_2⟩, ⟨x9_2, e9_2, a9_2⟩, ⟨x10_2, e10_2, a10_2⟩, q1_2, q2_2, q3_2, q4_2⟩ := hP_t1
  have hfr0 := FrS.rf WKr hs
  show WpN (gp g0 wp) CLS p l e R sW m args below meth c Q D_121.2.2.1 kc0 ks0 0 [some (.ref 54), some (.int u9), some (.int m9)] (hs, kc, ks) []
  refine g_loadI act (gx gp_121 (w := 0x1000102) rfl (by decide) rfl) (a := 1) (n := 1) rfl rfl rfl ?_
  refine g_loadI act (gx gp_121 (w := 0x2000202) rfl (by decide) rfl) (a := 2) (n := 2) rfl rfl rfl ?_
  refine g_icmpLt act (gx gp_121 (w := 0xe000520) rfl (by decide) rfl) (tgt := 14) (n := 5) rfl rfl (fun h3 => ?_) (fun h3 => ?_)
  · simp only [i_lt] at h3
    exact g_retV hEnd (gx gp_121 (w := 0x18) rfl (by decide) rfl) (Or.inl ⟨rfl, rfl, by omega, rfl⟩) (by show kc ≤ kc + 1; omega) (by show ks ≤ ks + 11; omega)
  · simp only [i_lt] at h3
    refine g_loadA act (gx gp_121 (w := 0x603) rfl (by decide) rfl) (a := 0) (n := 6) rfl rfl rfl ?_
    refine g_constI act (gx gp_121 (w := 0x40000001c00000019000000000701) rfl (by decide) rfl) (n := 7) (x := (3 : Int32)) (by decide) rfl ?_
    refine g_loadA act (gx gp_121 (w := 0x803) rfl (by decide) rfl) (a := 0) (n := 8) rfl rfl rfl ?_
    refine r_getf act (gx gp_121 (w := 0x205000b04) rfl (by decide) rfl) (n := 11) (ci := 5) (j := 8) (N := 11) rfl rfl rfl rw_2.1 (by decide) (v := .int x8_2) e8_2 ?_
    refine n_call tb_pres act hEnd (gx (P := G_call) gp_121 (w := 0x600000000000080c33000088000e0f) rfl (by decide) rfl) (d' := D_136) rfl (f' := 8) (lam' := 120) (mc := 1) (ms := 11) (as := [.ref 54, .int (3 : Int32), .int x8_2]) (rest := []) (cx_refuse (c1 := (3 : Int32)) (c2 := x8_2) (show CRD hs tx g L (tkK tx L s) s (tkE tx L s) P ec ep from ⟨rw_2, hT_2, ⟨_, e1_2, a1_2⟩, ⟨_, e2_2, a2_2⟩, ⟨_, e6_2, a6_2⟩, ⟨_, e7_2, a7_2⟩, ⟨_, e8_2, a8_2⟩, ⟨_, e9_2, a9_2⟩, ⟨_, e10_2, a10_2⟩, by omega, by omega, by omega, by omega⟩)) (show (3 : Nat) = fb 0x600000000000080c33000088000e0f % 16 by decide) (by show (3 : Nat) ≤ 3; decide) (fun _ => ⟨_, _, rfl, _, shp_at rw_2.1, Or.inr (show fb 0x600000000000080c33000088000e0f >>> 68 = 6 by decide)⟩) (by omega) (by show 8 + (3 + 11) + 120 ≤ R.locals; omega) (by show (0 : Nat) ≤ 8; decide) (by show kc + 1 ≤ _; omega) (by show ks + 11 ≤ _; omega) (fun r9 h3 hpo hr9 => ?_) (fun x9 hs9 hx9 hpo => ?_)
    · obtain rfl : r9 = none := hr9.elim (fun q => q.2) (fun q => absurd rfl q.1)
      exact absurd hpo.1 (by decide)
    · obtain ⟨hk_c3, -, hD_c3, fr_c3⟩ := hpo
      rw [(show (3 : Int32).toInt = ((3 : Nat) : Int) from by decide), a8_2] at hD_c3
      have hE_c3 : ER hs9 tx g L ((3 : Nat) : Int) s := ⟨_, _, _, _, hD_c3⟩
      have ft_c3 := hfr0.tr fr_c3
      refine Or.inr ⟨rfl, Or.inr ⟨by omega, rfl, by omega, hE_c3, ft_c3⟩, by show kc + 1 ≤ kc + 1; omega, by show ks + 11 ≤ ks + 11; omega⟩

theorem isw_at {tx : Nat → Int} {L s : Int} {i : Nat} (h1 : 12 ≤ i) (h2 : i < 20) (hs : 0 ≤ s) : (rnn tx L 97 122 s - s = ((LBT.getD i []).length : Int) ∧ ∀ k : Nat, k < (LBT.getD i []).length → tx (s.toNat + k) = ((LBT.getD i []).getD k 0).toInt) ↔ wrd tx L s = lwd i := by
  obtain ⟨h9, hl⟩ := lbt_let i h2 h1
  have hge := rnn_ge (T := tx) (L := L) (lo := 97) (hi := 122) (A := s)
  have hT : ∀ k, k < (rnn tx L 97 122 s - s).toNat → 97 ≤ tx (s.toNat + k) ∧ tx (s.toNat + k) ≤ 122 := fun k hk => by
    have := (rnn_in (T := tx) (L := L) (lo := 97) (hi := 122) (A := s) (j := s + k) (by omega) (by omega)).2
    rw [show (s + (k : Int)).toNat = s.toNat + k by omega] at this
    exact this
  have hW : ∀ k, k < (LBT.getD i []).length → 97 ≤ (fun j => ((LBT.getD i []).getD j 0).toInt) (0 + k) ∧ (fun j => ((LBT.getD i []).getD j 0).toInt) (0 + k) ≤ 122 := fun k hk => by
    rw [Nat.zero_add]
    exact ⟨(hl k hk).1, (hl k hk).2.1⟩
  constructor
  · rintro ⟨e1, e2⟩
    unfold wrd lwd
    rw [if_pos (by omega), show (rnn tx L 97 122 s - s).toNat = (LBT.getD i []).length by omega]
    exact wvN_cong fun k hk => by rw [Nat.zero_add]; exact e2 k hk
  · intro e
    have hp := lwd_pos i h2 h1
    unfold wrd at e
    by_cases q : rnn tx L 97 122 s - s ≤ 9
    · rw [if_pos q] at e
      obtain ⟨e1, e2⟩ := wvN_inj hT hW e
      refine ⟨by omega, fun k hk => ?_⟩
      have := e2 k (by omega)
      rw [Nat.zero_add] at this
      exact this
    · rw [if_neg q] at e
      omega
theorem cx_isw {i : Nat} (hi1 : 12 ≤ i) (hi2 : i < 20) (hC : CT hs tx g L s P ec ep) : BodyN SSX TBL g0 CLS bl xs l D_123 4 100 0 0 [.ref 54, .ref (litK i)] hs (fun kd r h2 => kd = 0 ∧ hs = h2 ∧ ∃ x : Int32, r = some (.int x) ∧ ((x.toInt = 1 ∧ wrd tx L s = lwd i) ∨ (x.toInt = 0 ∧ wrd tx L s ≠ lwd i))) := by
  intro wp p e R sW m args below meth c Q kc0 ks0 kc ks act hf hl hc hsl hEnd
  have hf : 4 ≤ R.frames := hf
  have hl : 100 ≤ R.locals := hl
  obtain ⟨⟨rw0, hT, -, -, -, ⟨x7, e7, a7⟩, ⟨x8, e8, a8⟩, ⟨x9, e9, a9⟩, -, q1, q2, q3, q4⟩, qs, qt⟩ := hC
  have qv := tkE_le (T := tx) (L := L) (s := s) (by omega)
  have hq : SSX.1[i]? = some (SSX.1[i]'(by show i < 21; omega)) := List.getElem?_eq_getElem _
  obtain ⟨hN9, hlet⟩ := lbt_let i hi2 hi1
  have hN := lbt_len i (by omega)
  have eN : (Int32.ofNat (LBT.getD i []).length).toInt = ((LBT.getD i []).length : Int) := Int32.toInt_ofNat_of_lt (by omega)
  have hk7 : ¬ tkK tx L s = 0 → ¬ wrd tx L s = lwd i := fun z q => by
    have hp := lwd_pos i hi2 hi1
    obtain ⟨w1, w2, w3⟩ := wrd_word (T := tx) (L := L) (s := s) (by omega)
    exact z (tk_wrd w1 w2 w3).1
  have hkE : tkK tx L s = 0 → tkE tx L s = rnn tx L 97 122 s := fun z => by
    by_cases w1 : s < L
    · by_cases w2 : 97 ≤ tx s.toNat ∧ tx s.toNat ≤ 122
      · exact (tk_wrd w1 w2.1 w2.2).2
      · exfalso
        by_cases w3 : 48 ≤ tx s.toNat ∧ tx s.toNat ≤ 57
        · obtain ⟨-, t2, t3⟩ := tk_num w1 w3.1 w3.2
          by_cases w4 : rnn tx L 48 57 s - s ≤ 4
          · have := t2 w4; omega
          · have := t3 w4; omega
        · obtain ⟨-, t2, t3⟩ := tk_oth w1 w2 w3
          by_cases w4 : tx s.toNat = 59
          · have := t2 w4; omega
          · have := t3 w4; omega
    · exfalso
      have := (tk_end (T := tx) (L := L) (s := s) (by omega)).1
      omega
  show WpN (gp g0 wp) CLS p l e R sW m args below meth c Q D_123.2.2.1 kc0 ks0 0 [some (.ref 54), some (.ref (litK i)), none] (hs, kc, ks) []
  refine g_loadA act (gx gp_123 (w := 0x103) rfl (by decide) rfl) (a := 0) (n := 1) rfl rfl rfl ?_
  refine r_getf act (gx gp_123 (w := 0x1c5000404) rfl (by decide) rfl) (n := 4) (ci := 5) (j := 7) (N := 11) rfl rfl rfl rw0.1 (by decide) (v := .int x7) e7 ?_
  refine g_ifNe act (gx gp_123 (w := 0x1700071d) rfl (by decide) rfl) (tgt := 23) (n := 7) rfl rfl (fun h2 => ?_) (fun h2 => ?_)
  · simp only [i_eq, i0] at h2
    refine g_constI act (gx gp_123 (w := 0x40000000400000001000000001801) rfl (by decide) rfl) (n := 24) (x := (0 : Int32)) (by decide) rfl ?_
    exact g_retZ hEnd (gx gp_123 (w := 0x23) rfl (by decide) rfl) (Or.inl rfl) ⟨rfl, rfl, _, rfl, Or.inr ⟨by decide, fun q => hk7 (by omega) q⟩⟩ (by show kc ≤ kc + 0; omega) (by show ks ≤ ks + 0; omega)
  · simp only [i_eq, i0] at h2
    refine g_loadA act (gx gp_123 (w := 0x803) rfl (by decide) rfl) (a := 0) (n := 8) rfl rfl rfl ?_
    refine r_getf act (gx gp_123 (w := 0x245000b04) rfl (by decide) rfl) (n := 11) (ci := 5) (j := 9) (N := 11) rfl rfl rfl rw0.1 (by decide) (v := .int x9) e9 ?_
    refine g_loadA act (gx gp_123 (w := 0xc03) rfl (by decide) rfl) (a := 0) (n := 12) rfl rfl rfl ?_
    refine r_getf act (gx gp_123 (w := 0x205000f04) rfl (by decide) rfl) (n := 15) (ci := 5) (j := 8) (N := 11) rfl rfl rfl rw0.1 (by decide) (v := .int x8) e8 ?_
    have kE := hkE (by omega)
    have es : (x9 - x8).toInt = x9.toInt - x8.toInt := i_sub (by omega) (by omega)
    refine g_isub act (gx gp_123 (w := 0x1026) rfl (by decide) rfl) (n := 16) rfl ?_
    refine g_loadA act (gx gp_123 (w := 0x1001103) rfl (by decide) rfl) (a := 1) (n := 17) rfl rfl rfl ?_
    refine n_strlen act (ix := 175) (i := i) hq (by decide +kernel) tw_647b (by omega) (by omega) (by show (1 : Nat) ≤ 8; decide) (by show kc ≤ _; omega) (by show ks ≤ _; omega) (n := 20) rfl ?_
    refine g_icmpEq act (gx gp_123 (w := 0x1900172e) rfl (by decide) rfl) (tgt := 25) (n := 23) rfl rfl (fun h7 => ?_) (fun h7 => ?_)
    · simp only [i_eq] at h7
      refine g_constI act (gx gp_123 (w := 0x40000000400000001000000001a01) rfl (by decide) rfl) (n := 26) (x := (0 : Int32)) (by decide) rfl ?_
      refine g_storeI act (gx gp_123 (w := 0x2001b10) rfl (by decide) rfl) (a := 2) (n := 27) rfl rfl (L2 := [some (.ref 54), some (.ref (litK i)), some (.int (0 : Int32))]) rfl ?_
      simp only [eN] at h7
      have loop : ∀ j : Int32, 0 ≤ j.toInt → j.toInt ≤ ((LBT.getD i []).length : Int) → (∀ k : Nat, k < j.toInt.toNat → tx (s.toNat + k) = ((LBT.getD i []).getD k 0).toInt) → WpN (gp g0 wp) CLS p l e R sW m args below meth c Q D_123.2.2.1 kc0 ks0 27 [some (.ref 54), some (.ref (litK i)), some (.int j)] (hs, kc, ks) [] := by
          intro j h0 h1 hall
          generalize hm : (((LBT.getD i []).length : Int) - j.toInt).toNat = m
          induction m using Nat.strongRecOn generalizing j with
          | _ m ih =>
          subst hm
          refine g_loadI act (gx gp_123 (w := 0x2001c02) rfl (by decide) rfl) (a := 2) (n := 28) rfl rfl rfl ?_
          refine g_loadA act (gx gp_123 (w := 0x1001d03) rfl (by decide) rfl) (a := 1) (n := 29) rfl rfl rfl ?_
          refine n_strlen act (ix := 175) (i := i) hq (by decide +kernel) tw_647b (by omega) (by omega) (by show (1 : Nat) ≤ 8; decide) (by show kc ≤ _; omega) (by show ks ≤ _; omega) (n := 32) rfl ?_
          refine g_icmpGe act (gx gp_123 (w := 0x3e002308) rfl (by decide) rfl) (tgt := 62) (n := 35) rfl rfl (fun h3 => ?_) (fun h3 => ?_)
          · simp only [i_le] at h3
            refine g_constI act (gx gp_123 (w := 0x40000000c00000009000000003f01) rfl (by decide) rfl) (n := 63) (x := (1 : Int32)) (by decide) rfl ?_
            exact g_retZ hEnd (gx gp_123 (w := 0x23) rfl (by decide) rfl) (Or.inr rfl) ⟨rfl, rfl, _, rfl, Or.inl ⟨by decide, (isw_at hi1 hi2 (by omega)).mp ⟨by omega, fun k hk => hall k (by omega)⟩⟩⟩ (by show kc ≤ kc + 0; omega) (by show ks ≤ ks + 0; omega)
          · simp only [i_le] at h3
            refine g_loadA act (gx gp_123 (w := 0x2403) rfl (by decide) rfl) (a := 0) (n := 36) rfl rfl rfl ?_
            refine r_getf act (gx gp_123 (w := 0x30000c5002704) rfl (by decide) rfl) (n := 39) (ci := 5) (j := 3) (N := 11) rfl rfl rfl rw0.1 (by decide) (v := .ref 55) rw0.2.2.1 ?_
            refine g_loadA act (gx gp_123 (w := 0x2803) rfl (by decide) rfl) (a := 0) (n := 40) rfl rfl rfl ?_
            refine r_getf act (gx gp_123 (w := 0x205002b04) rfl (by decide) rfl) (n := 43) (ci := 5) (j := 8) (N := 11) rfl rfl rfl rw0.1 (by decide) (v := .int x8) e8 ?_
            refine g_loadI act (gx gp_123 (w := 0x2002c02) rfl (by decide) rfl) (a := 2) (n := 44) rfl rfl rfl ?_
            refine g_iadd act (gx gp_123 (w := 0x2d0a) rfl (by decide) rfl) (n := 45) rfl ?_
            simp only [eN] at h3
            have ea : (x8 + j).toInt = x8.toInt + j.toInt := i_add (by omega) (by omega)
            obtain ⟨cx, ecx, lo_x, hi_x, tb_x⟩ := hT (s + j.toInt).toNat (by omega)
            refine r_bald act (gx gp_123 (w := 0x2e40) rfl (by decide) rfl) (n := 46) (N := 700) (j := (s + j.toInt).toNat) rfl rw0.2.1 (by omega) (by omega) ecx ?_
            refine g_loadA act (gx gp_123 (w := 0x1002f03) rfl (by decide) rfl) (a := 1) (n := 47) rfl rfl rfl ?_
            refine g_loadI act (gx gp_123 (w := 0x2003002) rfl (by decide) rfl) (a := 2) (n := 48) rfl rfl rfl ?_
            refine n_strchr act (ix := 179) (i := i) (k := j.toInt.toNat) hq (by omega) (by omega) (by omega) (by decide +kernel) tw_657b (by omega) (by omega) (by show (1 : Nat) ≤ 8; decide) (by show kc ≤ _; omega) (by show ks ≤ _; omega) (n := 51) rfl ?_
            refine g_icmpEq act (gx gp_123 (w := 0x3800362e) rfl (by decide) rfl) (tgt := 56) (n := 54) rfl rfl (fun h10 => ?_) (fun h10 => ?_)
            · simp only [i_eq] at h10
              rw [(hlet j.toInt.toNat (by omega)).2.2] at h10
              have l9 := hlet j.toInt.toNat (by omega)
              have heq : tx (s.toNat + j.toInt.toNat) = ((LBT.getD i []).getD j.toInt.toNat 0).toInt := by rw [show s.toNat + j.toInt.toNat = (s + j.toInt).toNat by omega]; omega
              have ej : (j + (1 : Int32)).toInt = j.toInt + 1 := by
                rw [i_add (by show _ ≤ _ + (1 : Int); omega) (by show _ + (1 : Int) < _; omega)]
                rfl
              refine g_iinc act (gx gp_123 (w := 0x80000001000002003b09) rfl (by decide) rfl) (a := 2) (i := (1 : Int32)) (n := 59) rfl (by decide) rfl rfl (L2 := [some (.ref 54), some (.ref (litK i)), some (.int (j + (1 : Int32)))]) rfl ?_
              refine g_goto act (gx gp_123 (w := 0x1b07) rfl (by decide) rfl) (n := 27) rfl ?_
              exact ih _ (by omega) _ (by omega) (by omega) (fun k hk => by
                by_cases z : k = j.toInt.toNat
                · rw [z]; exact heq
                · exact hall k (by omega)) rfl
            · simp only [i_eq] at h10
              rw [(hlet j.toInt.toNat (by omega)).2.2] at h10
              have l9 := hlet j.toInt.toNat (by omega)
              have hne : ¬ tx (s.toNat + j.toInt.toNat) = ((LBT.getD i []).getD j.toInt.toNat 0).toInt := fun q => h10 (by rw [show s.toNat + j.toInt.toNat = (s + j.toInt).toNat by omega] at q; omega)
              refine g_constI act (gx gp_123 (w := 0x40000000400000001000000003701) rfl (by decide) rfl) (n := 55) (x := (0 : Int32)) (by decide) rfl ?_
              exact g_retZ hEnd (gx gp_123 (w := 0x23) rfl (by decide) rfl) (Or.inl rfl) ⟨rfl, rfl, _, rfl, Or.inr ⟨by decide, fun q => hne (((isw_at hi1 hi2 (by omega)).mpr q).2 j.toInt.toNat (by omega))⟩⟩ (by show kc ≤ kc + 0; omega) (by show ks ≤ ks + 0; omega)
      exact loop (0 : Int32) (by decide) (by show (0 : Int) ≤ _; omega) (fun k hk => by have : (0 : Int32).toInt = 0 := rfl; omega)
    · simp only [i_eq] at h7
      refine g_constI act (gx gp_123 (w := 0x40000000400000001000000001801) rfl (by decide) rfl) (n := 24) (x := (0 : Int32)) (by decide) rfl ?_
      exact g_retZ hEnd (gx gp_123 (w := 0x23) rfl (by decide) rfl) (Or.inl rfl) ⟨rfl, rfl, _, rfl, Or.inr ⟨by decide, fun q => by have z := ((isw_at hi1 hi2 (by omega)).mpr q).1; rw [eN] at h7; omega⟩⟩ (by show kc ≤ kc + 0; omega) (by show ks ≤ ks + 0; omega)

theorem cx_word {i : Nat} {c9 : Int} (hi1 : 12 ≤ i) (hi2 : i < 20) (hc9 : lwd i = c9) (hC : CT hs tx g L s P ec ep) : BodyN SSX TBL g0 CLS bl xs l D_135 9 142 1 11 [.ref 54, .ref (litK i)] hs (RU hs tx g L s ec ep (sWrd tx L c9 s)) := by
  intro wp p e R sW m args below meth c Q kc0 ks0 kc ks act hf hl hc hsl hEnd
  have hf : 9 ≤ R.frames := hf
  have hl : 142 ≤ R.locals := hl
  subst hc9
  obtain ⟨hP_t1, qt_1, qu_1⟩ := hC
  have qv_1 := tkE_le (T := tx) (L := L) (s := s) (by omega)
  obtain ⟨rw_2, hT_2, ⟨x1_2, e1_2, a1_2⟩, ⟨x2_2, e2_2, a2_2⟩, ⟨x6_2, e6_2, a6_2⟩, ⟨x7_2, e7_2, a7_2⟩, ⟨x8_2, e8_2, a8_2⟩, ⟨x9_2, e9_2, a9_2⟩, ⟨x10_2, e10_2, a10_2⟩, q1_2, q2_2, q3_2, q4_2⟩ := hP_t1
  have hfr0 := FrS.rf WKr hs
  show WpN (gp g0 wp) CLS p l e R sW m args below meth c Q D_135.2.2.1 kc0 ks0 0 [some (.ref 54), some (.ref (litK i))] (hs, kc, ks) []
  refine g_loadA act (gx gp_135 (w := 0x103) rfl (by decide) rfl) (a := 0) (n := 1) rfl rfl rfl ?_
  refine g_loadA act (gx gp_135 (w := 0x1000203) rfl (by decide) rfl) (a := 1) (n := 2) rfl rfl rfl ?_
  refine n_call tb_pres act hEnd (gx (P := G_call) gp_135 (w := 0x6000000000000c0c2200007b00050f) rfl (by decide) rfl) (d' := D_123) rfl (f' := 4) (lam' := 100) (mc := 0) (ms := 0) (as := [.ref 54, .ref (litK i)]) (rest := []) (cx_isw (i := i) hi1 hi2 (show CT hs tx g L s P ec ep from ⟨(show CRD hs tx g L (tkK tx L s) s (tkE tx L s) P ec ep from ⟨rw_2, hT_2, ⟨_, e1_2, (by have q9 := a1_2; omega)⟩, ⟨_, e2_2, (by have q9 := a2_2; omega)⟩, ⟨_, e6_2, (by have q9 := a6_2; omega)⟩, ⟨_, e7_2, (by have q9 := a7_2; omega)⟩, ⟨_, e8_2, (by have q9 := a8_2; omega)⟩, ⟨_, e9_2, (by have q9 := a9_2; omega)⟩, ⟨_, e10_2, (by have q9 := a10_2; omega)⟩, by omega, by omega, by omega, by omega⟩), by omega, by omega⟩)) (show (2 : Nat) = fb 0x6000000000000c0c2200007b00050f % 16 by decide) (by show (2 : Nat) ≤ 3; decide) (fun _ => ⟨_, _, rfl, _, shp_at rw_2.1, Or.inr (show fb 0x6000000000000c0c2200007b00050f >>> 68 = 6 by decide)⟩) (by omega) (by show 8 + (3 + 11) + 100 ≤ R.locals; omega) (by show (0 : Nat) ≤ 8; decide) (by show kc + 0 ≤ _; omega) (by show ks + 0 ≤ _; omega) (fun r9 h3 hpo hr9 => ?_) (fun x9 hs9 hx9 hpo => ?_)
  · obtain ⟨-, rfl, xv_c3, rfl, hw_c3⟩ := hpo
    show WpN (gp g0 wp) CLS p l e R sW m args below meth c Q D_135.2.2.1 kc0 ks0 5 [some (.ref 54), some (.ref (litK i))] (hs, kc, ks) [.int xv_c3]
    refine g_ifNe act (gx gp_135 (w := 0x1100081d) rfl (by decide) rfl) (tgt := 17) (n := 8) rfl rfl (fun h3 => ?_) (fun h3 => ?_)
    · simp only [i_eq, i0] at h3
      refine g_loadA act (gx gp_135 (w := 0x1203) rfl (by decide) rfl) (a := 0) (n := 18) rfl rfl rfl ?_
      refine n_call tb_pres act hEnd (gx (P := G_call) gp_135 (w := 0x60000000000008081100007700150f) rfl (by decide) rfl) (d' := D_119) rfl (f' := 1) (lam' := 22) (mc := 0) (ms := 0) (as := [.ref 54]) (rest := []) (cx_advance (show CRD hs tx g L (tkK tx L s) s (tkE tx L s) P ec ep from ⟨rw_2, hT_2, ⟨_, e1_2, a1_2⟩, ⟨_, e2_2, a2_2⟩, ⟨_, e6_2, a6_2⟩, ⟨_, e7_2, a7_2⟩, ⟨_, e8_2, a8_2⟩, ⟨_, e9_2, a9_2⟩, ⟨_, e10_2, a10_2⟩, by omega, by omega, by omega, by omega⟩)) (show (1 : Nat) = fb 0x60000000000008081100007700150f % 16 by decide) (by show (1 : Nat) ≤ 2; decide) (fun _ => ⟨_, _, rfl, _, shp_at rw_2.1, Or.inr (show fb 0x60000000000008081100007700150f >>> 68 = 6 by decide)⟩) (by omega) (by show 8 + (2 + 11) + 22 ≤ R.locals; omega) (by show (0 : Nat) ≤ 8; decide) (by show kc + 0 ≤ _; omega) (by show ks + 0 ≤ _; omega) (fun r9 hs_c4 hpo hr9 => ?_) (fun x9 hs9 hx9 hpo => ?_)
      · obtain rfl : r9 = none := hr9.elim (fun q => q.2) (fun q => absurd rfl q.1)
        obtain ⟨-, -, hD_c4, fr_c4⟩ := hpo
        obtain ⟨s_c4, es_c4, hC_c4⟩ : ∃ z : Int, z = nxs tx L s ∧ CT hs_c4 tx g L z s ec ep := ⟨_, rfl, hD_c4⟩
        obtain ⟨⟨-, -, ⟨x1_c4, e1_c4, a1_c4⟩, ⟨x2_c4, e2_c4, a2_c4⟩, ⟨x6_c4, e6_c4, a6_c4⟩, ⟨x7_c4, e7_c4, a7_c4⟩, ⟨x8_c4, e8_c4, a8_c4⟩, ⟨x9_c4, e9_c4, a9_c4⟩, ⟨x10_c4, e10_c4, a10_c4⟩, q1_c4, q2_c4, q3_c4, q4_c4⟩, qs_c4, qt_c4⟩ := hC_c4
        have rw_5 := rw_2.fr fr_c4 (fun j9 _ _ => by unfold WKr; omega)
        have f_6 := hT_2.fr fr_c4 (fun j9 => by unfold WKr; omega)
        have fr_14 := hfr0.tr fr_c4
        clear rw_2 hT_2 e1_2 e2_2 e6_2 e7_2 e8_2 e9_2 e10_2 hfr0
        show WpN (gp g0 wp) CLS p l e R sW m args below meth c Q D_135.2.2.1 kc0 ks0 21 [some (.ref 54), some (.ref (litK i))] (hs_c4, kc, ks) []
        have hR : (sWrd tx L (lwd i) s) = (0, nxs tx L s) := if_pos (by omega)
        exact g_retV hEnd (gx gp_135 (w := 0x18) rfl (by decide) rfl) (Or.inl ⟨rfl, by rw [hR], rfl, by rw [hR, ← es_c4]; exact (show CT hs_c4 tx g L s_c4 s ec ep from ⟨(show CRD hs_c4 tx g L (tkK tx L s_c4) s_c4 (tkE tx L s_c4) s ec ep from ⟨rw_5, f_6, ⟨_, e1_c4, (by have q9 := a1_c4; omega)⟩, ⟨_, e2_c4, (by have q9 := a2_c4; omega)⟩, ⟨_, e6_c4, (by have q9 := a6_c4; omega)⟩, ⟨_, e7_c4, (by have q9 := a7_c4; omega)⟩, ⟨_, e8_c4, (by have q9 := a8_c4; omega)⟩, ⟨_, e9_c4, (by have q9 := a9_c4; omega)⟩, ⟨_, e10_c4, (by have q9 := a10_c4; omega)⟩, by omega, by omega, by omega, by omega⟩), by omega, by omega⟩), fr_14⟩) (by show kc ≤ kc + 1; omega) (by show ks ≤ ks + 11; omega)
      · exact absurd hpo.1 (by omega)
    · simp only [i_eq, i0] at h3
      refine g_loadA act (gx gp_135 (w := 0x903) rfl (by decide) rfl) (a := 0) (n := 9) rfl rfl rfl ?_
      refine g_constI act (gx gp_135 (w := 0x40000000c00000009000000000a01) rfl (by decide) rfl) (n := 10) (x := (1 : Int32)) (by decide) rfl ?_
      refine g_loadA act (gx gp_135 (w := 0xb03) rfl (by decide) rfl) (a := 0) (n := 11) rfl rfl rfl ?_
      refine r_getf act (gx gp_135 (w := 0x205000e04) rfl (by decide) rfl) (n := 14) (ci := 5) (j := 8) (N := 11) rfl rfl rfl rw_2.1 (by decide) (v := .int x8_2) e8_2 ?_
      refine n_call tb_pres act hEnd (gx (P := G_call) gp_135 (w := 0x600000000000080c3300008800110f) rfl (by decide) rfl) (d' := D_136) rfl (f' := 8) (lam' := 120) (mc := 1) (ms := 11) (as := [.ref 54, .int (1 : Int32), .int x8_2]) (rest := []) (cx_refuse (c1 := (1 : Int32)) (c2 := x8_2) (show CRD hs tx g L (tkK tx L s) s (tkE tx L s) P ec ep from ⟨rw_2, hT_2, ⟨_, e1_2, a1_2⟩, ⟨_, e2_2, a2_2⟩, ⟨_, e6_2, a6_2⟩, ⟨_, e7_2, a7_2⟩, ⟨_, e8_2, a8_2⟩, ⟨_, e9_2, a9_2⟩, ⟨_, e10_2, a10_2⟩, by omega, by omega, by omega, by omega⟩)) (show (3 : Nat) = fb 0x600000000000080c3300008800110f % 16 by decide) (by show (3 : Nat) ≤ 3; decide) (fun _ => ⟨_, _, rfl, _, shp_at rw_2.1, Or.inr (show fb 0x600000000000080c3300008800110f >>> 68 = 6 by decide)⟩) (by omega) (by show 8 + (3 + 11) + 120 ≤ R.locals; omega) (by show (0 : Nat) ≤ 8; decide) (by show kc + 1 ≤ _; omega) (by show ks + 11 ≤ _; omega) (fun r9 h3 hpo hr9 => ?_) (fun x9 hs9 hx9 hpo => ?_)
      · obtain rfl : r9 = none := hr9.elim (fun q => q.2) (fun q => absurd rfl q.1)
        exact absurd hpo.1 (by decide)
      · obtain ⟨hk_c15, -, hD_c15, fr_c15⟩ := hpo
        rw [(show (1 : Int32).toInt = ((1 : Nat) : Int) from by decide), a8_2] at hD_c15
        have hE_c15 : ER hs9 tx g L ((1 : Nat) : Int) s := ⟨_, _, _, _, hD_c15⟩
        have ft_c15 := hfr0.tr fr_c15
        have hR : (sWrd tx L (lwd i) s) = (1, s) := if_neg (by omega)
        refine Or.inr ⟨rfl, Or.inr ⟨by omega, rfl, by rw [hR]; show (1 : Int) ≠ 0; decide, by rw [hR]; exact hE_c15, ft_c15⟩, by show kc + 1 ≤ kc + 1; omega, by show ks + 11 ≤ ks + 11; omega⟩
  · exact absurd hpo.1 (by omega)

theorem cx_node {F : Nat → Nat → Int32} {n0 : Int} (hG : GIM hs g F) (hn : (F 0 0).toInt = n0) (hn1 : 1 ≤ n0) (hn2 : n0 ≤ 6) (hC : CT hs tx g L s P ec ep) : BodyN SSX TBL g0 CLS bl xs l D_127 10 165 1 11 [.ref 54] hs (RTk hs tx g L s ec ep (sNum tx L 0 (n0 - 1) s)) := by
  intro wp p e R sW m args below meth c Q kc0 ks0 kc ks act hf hl hc hsl hEnd
  have hf : 10 ≤ R.frames := hf
  have hl : 165 ≤ R.locals := hl
  obtain ⟨hP_t1, qt_1, qu_1⟩ := hC
  have qv_1 := tkE_le (T := tx) (L := L) (s := s) (by omega)
  obtain ⟨rw_2, hT_2, ⟨x1_2, e1_2, a1_2⟩, ⟨x2_2, e2_2, a2_2⟩, ⟨x6_2, e6_2, a6_2⟩, ⟨x7_2, e7_2, a7_2⟩, ⟨x8_2, e8_2, a8_2⟩, ⟨x9_2, e9_2, a9_2⟩, ⟨x10_2, e10_2, a10_2⟩, q1_2, q2_2, q3_2, q4_2⟩ := hP_t1
  have hfr0 := FrS.rf WKr hs
  show WpN (gp g0 wp) CLS p l e R sW m args below meth c Q D_127.2.2.1 kc0 ks0 0 [some (.ref 54)] (hs, kc, ks) []
  refine g_loadA act (gx gp_127 (w := 0x103) rfl (by decide) rfl) (a := 0) (n := 1) rfl rfl rfl ?_
  refine g_constI act (gx gp_127 (w := 0x40000000400000001000000000201) rfl (by decide) rfl) (n := 2) (x := (0 : Int32)) (by decide) rfl ?_
  refine g_loadA act (gx gp_127 (w := 0x303) rfl (by decide) rfl) (a := 0) (n := 3) rfl rfl rfl ?_
  refine r_getf act (gx gp_127 (w := 0x3000145000604) rfl (by decide) rfl) (n := 6) (ci := 5) (j := 5) (N := 11) rfl rfl rfl rw_2.1 (by decide) (v := .ref g) rw_2.2.2.2.2 ?_
  refine r_getf act (gx gp_127 (w := 0x4000904) rfl (by decide) rfl) (n := 9) (ci := 4) (j := 0) (N := 18) rfl rfl rfl hG.1.2.1 (by decide) (v := .int (F 0 0)) (hG.2 0 0 (Or.inl ⟨rfl, by decide⟩)) ?_
  refine g_constI act (gx gp_127 (w := 0x40000000c00000009000000000a01) rfl (by decide) rfl) (n := 10) (x := (1 : Int32)) (by decide) rfl ?_
  refine g_isub act (gx gp_127 (w := 0xb26) rfl (by decide) rfl) (n := 11) rfl ?_
  have v_3 := iv_sub hn (show (1 : Int32).toInt = ((1 : Nat) : Int) from by decide) (show -2147483648 ≤ (n0 - ((1 : Nat) : Int)) by omega) (show (n0 - ((1 : Nat) : Int)) < 2147483648 by omega)
  refine n_call tb_pres act hEnd (gx (P := G_call) gp_127 (w := 0x6000000000000c1033000080000e0f) rfl (by decide) rfl) (d' := D_128) rfl (f' := 9) (lam' := 142) (mc := 1) (ms := 11) (as := [.ref 54, .int (0 : Int32), .int ((F 0 0) - (1 : Int32))]) (rest := []) (cx_number (lo := 0) (hi := n0 - 1) (by decide) (by omega) (show CT hs tx g L s P ec ep from ⟨(show CRD hs tx g L (tkK tx L s) s (tkE tx L s) P ec ep from ⟨rw_2, hT_2, ⟨_, e1_2, (by have q9 := a1_2; omega)⟩, ⟨_, e2_2, (by have q9 := a2_2; omega)⟩, ⟨_, e6_2, (by have q9 := a6_2; omega)⟩, ⟨_, e7_2, (by have q9 := a7_2; omega)⟩, ⟨_, e8_2, (by have q9 := a8_2; omega)⟩, ⟨_, e9_2, (by have q9 := a9_2; omega)⟩, ⟨_, e10_2, (by have q9 := a10_2; omega)⟩, by omega, by omega, by omega, by omega⟩), by omega, by omega⟩)) (show (3 : Nat) = fb 0x6000000000000c1033000080000e0f % 16 by decide) (by show (3 : Nat) ≤ 4; decide) (fun _ => ⟨_, _, rfl, _, shp_at rw_2.1, Or.inr (show fb 0x6000000000000c1033000080000e0f >>> 68 = 6 by decide)⟩) (by omega) (by show 8 + (4 + 11) + 142 ≤ R.locals; omega) (by show (0 : Nat) ≤ 8; decide) (by show kc + 1 ≤ _; omega) (by show ks + 11 ≤ _; omega) (fun r9 hs_c4 hpo hr9 => ?_) (fun x9 hs9 hx9 hpo => ?_)
  · obtain ⟨-, hr_c4, ⟨xv_c4, rfl, hv_c4⟩, hD_c4, fr_c4⟩ := hpo.resolve_right (fun z => absurd z.1 (by decide))
    obtain ⟨s_c4, es_c4, hC_c4⟩ : ∃ z : Int, z = ((sNum tx L 0 (n0 - 1) s)).2.1 ∧ CT hs_c4 tx g L z s ec ep := ⟨_, rfl, hD_c4⟩
    obtain ⟨⟨-, -, ⟨x1_c4, e1_c4, a1_c4⟩, ⟨x2_c4, e2_c4, a2_c4⟩, ⟨x6_c4, e6_c4, a6_c4⟩, ⟨x7_c4, e7_c4, a7_c4⟩, ⟨x8_c4, e8_c4, a8_c4⟩, ⟨x9_c4, e9_c4, a9_c4⟩, ⟨x10_c4, e10_c4, a10_c4⟩, q1_c4, q2_c4, q3_c4, q4_c4⟩, qs_c4, qt_c4⟩ := hC_c4
    have rw_5 := rw_2.fr fr_c4 (fun j9 _ _ => by unfold WKr; omega)
    have f_6 := hT_2.fr fr_c4 (fun j9 => by unfold WKr; omega)
    have f_14 := hG.frW fr_c4 (fun k9 j9 h9 => by unfold WKr at h9; omega)
    have fr_15 := hfr0.tr fr_c4
    clear rw_2 hT_2 e1_2 e2_2 e6_2 e7_2 e8_2 e9_2 e10_2 hfr0
    show WpN (gp g0 wp) CLS p l e R sW m args below meth c Q D_127.2.2.1 kc0 ks0 14 [some (.ref 54)] (hs_c4, kc + 1, ks + 11) [.int xv_c4]
    exact g_retI hEnd (gx gp_127 (w := 0x2f) rfl (by decide) rfl) (Or.inl ⟨rfl, hr_c4, ⟨_, rfl, hv_c4⟩, by rw [← es_c4]; exact (show CT hs_c4 tx g L s_c4 s ec ep from ⟨(show CRD hs_c4 tx g L (tkK tx L s_c4) s_c4 (tkE tx L s_c4) s ec ep from ⟨rw_5, f_6, ⟨_, e1_c4, (by have q9 := a1_c4; omega)⟩, ⟨_, e2_c4, (by have q9 := a2_c4; omega)⟩, ⟨_, e6_c4, (by have q9 := a6_c4; omega)⟩, ⟨_, e7_c4, (by have q9 := a7_c4; omega)⟩, ⟨_, e8_c4, (by have q9 := a8_c4; omega)⟩, ⟨_, e9_c4, (by have q9 := a9_c4; omega)⟩, ⟨_, e10_c4, (by have q9 := a10_c4; omega)⟩, by omega, by omega, by omega, by omega⟩), by omega, by omega⟩), fr_15⟩) (by show kc + 1 ≤ kc + 1; omega) (by show ks + 11 ≤ ks + 11; omega)
  · obtain ⟨hk_c4, -, hn_c4, hE_c4, fr_c4⟩ := hpo.resolve_left (fun z => absurd z.1 (by omega))
    have ft_c4 := hfr0.tr fr_c4
    refine Or.inr ⟨rfl, Or.inr ⟨by omega, rfl, hn_c4, hE_c4, ft_c4⟩, by show kc + 1 ≤ kc + 1; omega, by show ks + 11 ≤ ks + 11; omega⟩

theorem cx_other {F : Nat → Nat → Int32} {n0 : Int} (hG : GIM hs g F) (hn : (F 0 0).toInt = n0) (hn1 : 1 ≤ n0) (hn2 : n0 ≤ 6) {z9 : Int32} {z0 : Int} (hz : z9.toInt = z0) (hC : CT hs tx g L s P ec ep) : BodyN SSX TBL g0 CLS bl xs l D_129 10 165 2 22 [.ref 54, .int z9] hs (RTk hs tx g L s ec ep (sOth tx L (n0 - 1) z0 s)) := by
  intro wp p e R sW m args below meth c Q kc0 ks0 kc ks act hf hl hc hsl hEnd
  have hf : 10 ≤ R.frames := hf
  have hl : 165 ≤ R.locals := hl
  obtain ⟨hP_t1, qt_1, qu_1⟩ := hC
  have qv_1 := tkE_le (T := tx) (L := L) (s := s) (by omega)
  obtain ⟨rw_2, hT_2, ⟨x1_2, e1_2, a1_2⟩, ⟨x2_2, e2_2, a2_2⟩, ⟨x6_2, e6_2, a6_2⟩, ⟨x7_2, e7_2, a7_2⟩, ⟨x8_2, e8_2, a8_2⟩, ⟨x9_2, e9_2, a9_2⟩, ⟨x10_2, e10_2, a10_2⟩, q1_2, q2_2, q3_2, q4_2⟩ := hP_t1
  have hfr0 := FrS.rf WKr hs
  show WpN (gp g0 wp) CLS p l e R sW m args below meth c Q D_129.2.2.1 kc0 ks0 0 [some (.ref 54), some (.int z9), none] (hs, kc, ks) []
  refine g_loadA act (gx gp_129 (w := 0x103) rfl (by decide) rfl) (a := 0) (n := 1) rfl rfl rfl ?_
  refine g_constI act (gx gp_129 (w := 0x40000000400000001000000000201) rfl (by decide) rfl) (n := 2) (x := (0 : Int32)) (by decide) rfl ?_
  refine g_loadA act (gx gp_129 (w := 0x303) rfl (by decide) rfl) (a := 0) (n := 3) rfl rfl rfl ?_
  refine r_getf act (gx gp_129 (w := 0x3000145000604) rfl (by decide) rfl) (n := 6) (ci := 5) (j := 5) (N := 11) rfl rfl rfl rw_2.1 (by decide) (v := .ref g) rw_2.2.2.2.2 ?_
  refine r_getf act (gx gp_129 (w := 0x4000904) rfl (by decide) rfl) (n := 9) (ci := 4) (j := 0) (N := 18) rfl rfl rfl hG.1.2.1 (by decide) (v := .int (F 0 0)) (hG.2 0 0 (Or.inl ⟨rfl, by decide⟩)) ?_
  refine g_constI act (gx gp_129 (w := 0x40000000c00000009000000000a01) rfl (by decide) rfl) (n := 10) (x := (1 : Int32)) (by decide) rfl ?_
  refine g_isub act (gx gp_129 (w := 0xb26) rfl (by decide) rfl) (n := 11) rfl ?_
  have v_3 := iv_sub hn (show (1 : Int32).toInt = ((1 : Nat) : Int) from by decide) (show -2147483648 ≤ (n0 - ((1 : Nat) : Int)) by omega) (show (n0 - ((1 : Nat) : Int)) < 2147483648 by omega)
  refine n_call tb_pres act hEnd (gx (P := G_call) gp_129 (w := 0x6000000000000c1033000080000e0f) rfl (by decide) rfl) (d' := D_128) rfl (f' := 9) (lam' := 142) (mc := 1) (ms := 11) (as := [.ref 54, .int (0 : Int32), .int ((F 0 0) - (1 : Int32))]) (rest := []) (cx_number (lo := 0) (hi := n0 - 1) (by decide) (by omega) (show CT hs tx g L s P ec ep from ⟨(show CRD hs tx g L (tkK tx L s) s (tkE tx L s) P ec ep from ⟨rw_2, hT_2, ⟨_, e1_2, (by have q9 := a1_2; omega)⟩, ⟨_, e2_2, (by have q9 := a2_2; omega)⟩, ⟨_, e6_2, (by have q9 := a6_2; omega)⟩, ⟨_, e7_2, (by have q9 := a7_2; omega)⟩, ⟨_, e8_2, (by have q9 := a8_2; omega)⟩, ⟨_, e9_2, (by have q9 := a9_2; omega)⟩, ⟨_, e10_2, (by have q9 := a10_2; omega)⟩, by omega, by omega, by omega, by omega⟩), by omega, by omega⟩)) (show (3 : Nat) = fb 0x6000000000000c1033000080000e0f % 16 by decide) (by show (3 : Nat) ≤ 4; decide) (fun _ => ⟨_, _, rfl, _, shp_at rw_2.1, Or.inr (show fb 0x6000000000000c1033000080000e0f >>> 68 = 6 by decide)⟩) (by omega) (by show 8 + (4 + 11) + 142 ≤ R.locals; omega) (by show (0 : Nat) ≤ 8; decide) (by show kc + 1 ≤ _; omega) (by show ks + 11 ≤ _; omega) (fun r9 hs_c4 hpo hr9 => ?_) (fun x9 hs9 hx9 hpo => ?_)
  · obtain ⟨-, hr_c4, ⟨xv_c4, rfl, hv_c4⟩, hD_c4, fr_c4⟩ := hpo.resolve_right (fun z => absurd z.1 (by decide))
    obtain ⟨s_c4, es_c4, hC_c4⟩ : ∃ z : Int, z = ((sNum tx L 0 (n0 - 1) s)).2.1 ∧ CT hs_c4 tx g L z s ec ep := ⟨_, rfl, hD_c4⟩
    obtain ⟨⟨-, -, ⟨x1_c4, e1_c4, a1_c4⟩, ⟨x2_c4, e2_c4, a2_c4⟩, ⟨x6_c4, e6_c4, a6_c4⟩, ⟨x7_c4, e7_c4, a7_c4⟩, ⟨x8_c4, e8_c4, a8_c4⟩, ⟨x9_c4, e9_c4, a9_c4⟩, ⟨x10_c4, e10_c4, a10_c4⟩, q1_c4, q2_c4, q3_c4, q4_c4⟩, qs_c4, qt_c4⟩ := hC_c4
    have rw_5 := rw_2.fr fr_c4 (fun j9 _ _ => by unfold WKr; omega)
    have f_6 := hT_2.fr fr_c4 (fun j9 => by unfold WKr; omega)
    have f_14 := hG.frW fr_c4 (fun k9 j9 h9 => by unfold WKr at h9; omega)
    have fr_15 := hfr0.tr fr_c4
    clear rw_2 hT_2 e1_2 e2_2 e6_2 e7_2 e8_2 e9_2 e10_2 hfr0
    show WpN (gp g0 wp) CLS p l e R sW m args below meth c Q D_129.2.2.1 kc0 ks0 14 [some (.ref 54), some (.int z9), none] (hs_c4, kc + 1, ks + 11) [.int xv_c4]
    refine g_storeI act (gx gp_129 (w := 0x2000f10) rfl (by decide) rfl) (a := 2) (n := 15) rfl rfl (L2 := [some (.ref 54), some (.int z9), some (.int xv_c4)]) rfl ?_
    refine g_loadI act (gx gp_129 (w := 0x2001002) rfl (by decide) rfl) (a := 2) (n := 16) rfl rfl rfl ?_
    refine g_loadI act (gx gp_129 (w := 0x1001102) rfl (by decide) rfl) (a := 1) (n := 17) rfl rfl rfl ?_
    refine g_icmpNe act (gx gp_129 (w := 0x1d001421) rfl (by decide) rfl) (tgt := 29) (n := 20) rfl rfl (fun h8 => ?_) (fun h8 => ?_)
    · simp only [i_eq] at h8
      refine g_loadI act (gx gp_129 (w := 0x2001e02) rfl (by decide) rfl) (a := 2) (n := 30) rfl rfl rfl ?_
      have hR : (sOth tx L (n0 - 1) z0 s) = (sNum tx L 0 (n0 - 1) s) := if_neg (by omega)
      exact g_retI hEnd (gx gp_129 (w := 0x2f) rfl (by decide) rfl) (Or.inl ⟨rfl, by rw [hR]; exact hr_c4, ⟨_, rfl, by rw [hR]; exact hv_c4⟩, by rw [hR, ← es_c4]; exact (show CT hs_c4 tx g L s_c4 s ec ep from ⟨(show CRD hs_c4 tx g L (tkK tx L s_c4) s_c4 (tkE tx L s_c4) s ec ep from ⟨rw_5, f_6, ⟨_, e1_c4, (by have q9 := a1_c4; omega)⟩, ⟨_, e2_c4, (by have q9 := a2_c4; omega)⟩, ⟨_, e6_c4, (by have q9 := a6_c4; omega)⟩, ⟨_, e7_c4, (by have q9 := a7_c4; omega)⟩, ⟨_, e8_c4, (by have q9 := a8_c4; omega)⟩, ⟨_, e9_c4, (by have q9 := a9_c4; omega)⟩, ⟨_, e10_c4, (by have q9 := a10_c4; omega)⟩, by omega, by omega, by omega, by omega⟩), by omega, by omega⟩), fr_15⟩) (by show kc + 1 ≤ kc + 2; omega) (by show ks + 11 ≤ ks + 22; omega)
    · simp only [i_eq] at h8
      refine g_loadA act (gx gp_129 (w := 0x1503) rfl (by decide) rfl) (a := 0) (n := 21) rfl rfl rfl ?_
      refine g_constI act (gx gp_129 (w := 0x40000001400000011000000001601) rfl (by decide) rfl) (n := 22) (x := (2 : Int32)) (by decide) rfl ?_
      refine g_loadA act (gx gp_129 (w := 0x1703) rfl (by decide) rfl) (a := 0) (n := 23) rfl rfl rfl ?_
      refine r_getf act (gx gp_129 (w := 0x285001a04) rfl (by decide) rfl) (n := 26) (ci := 5) (j := 10) (N := 11) rfl rfl rfl rw_5.1 (by decide) (v := .int x10_c4) e10_c4 ?_
      refine n_call tb_pres act hEnd (gx (P := G_call) gp_129 (w := 0x600000000000080c33000088001d0f) rfl (by decide) rfl) (d' := D_136) rfl (f' := 8) (lam' := 120) (mc := 1) (ms := 11) (as := [.ref 54, .int (2 : Int32), .int x10_c4]) (rest := []) (cx_refuse (c1 := (2 : Int32)) (c2 := x10_c4) (show CRD hs_c4 tx g L (tkK tx L s_c4) s_c4 (tkE tx L s_c4) s ec ep from ⟨rw_5, f_6, ⟨_, e1_c4, a1_c4⟩, ⟨_, e2_c4, a2_c4⟩, ⟨_, e6_c4, a6_c4⟩, ⟨_, e7_c4, a7_c4⟩, ⟨_, e8_c4, a8_c4⟩, ⟨_, e9_c4, a9_c4⟩, ⟨_, e10_c4, a10_c4⟩, by omega, by omega, by omega, by omega⟩)) (show (3 : Nat) = fb 0x600000000000080c33000088001d0f % 16 by decide) (by show (3 : Nat) ≤ 3; decide) (fun _ => ⟨_, _, rfl, _, shp_at rw_5.1, Or.inr (show fb 0x600000000000080c33000088001d0f >>> 68 = 6 by decide)⟩) (by omega) (by show 8 + (3 + 11) + 120 ≤ R.locals; omega) (by show (0 : Nat) ≤ 8; decide) (by show kc + 1 + 1 ≤ _; omega) (by show ks + 11 + 11 ≤ _; omega) (fun r9 h3 hpo hr9 => ?_) (fun x9 hs9 hx9 hpo => ?_)
      · obtain rfl : r9 = none := hr9.elim (fun q => q.2) (fun q => absurd rfl q.1)
        exact absurd hpo.1 (by decide)
      · obtain ⟨hk_c16, -, hD_c16, fr_c16⟩ := hpo
        rw [(show (2 : Int32).toInt = ((2 : Nat) : Int) from by decide), a10_c4] at hD_c16
        have hE_c16 : ER hs9 tx g L ((2 : Nat) : Int) s := ⟨_, _, _, _, hD_c16⟩
        have ft_c16 := fr_15.tr fr_c16
        have hR : (sOth tx L (n0 - 1) z0 s) = (2, s, 0) := if_pos (by omega)
        refine Or.inr ⟨rfl, Or.inr ⟨by omega, rfl, by rw [hR]; show (2 : Int) ≠ 0; decide, by rw [hR]; exact hE_c16, ft_c16⟩, by show kc + 1 + 1 ≤ kc + 2; omega, by show ks + 11 + 11 ≤ ks + 22; omega⟩
  · obtain ⟨hk_c4, -, hn_c4, hE_c4, fr_c4⟩ := hpo.resolve_left (fun z => absurd z.1 (by omega))
    have ft_c4 := hfr0.tr fr_c4
    have hR : (sOth tx L (n0 - 1) z0 s) = (sNum tx L 0 (n0 - 1) s) := if_neg (fun q => hn_c4 q.1)
    rw [← hR] at hE_c4 hn_c4
    refine Or.inr ⟨rfl, Or.inr ⟨by omega, rfl, hn_c4, hE_c4, ft_c4⟩, by show kc + 1 ≤ kc + 2; omega, by show ks + 11 ≤ ks + 22; omega⟩

end CRDW

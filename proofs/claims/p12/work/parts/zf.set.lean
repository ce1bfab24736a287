/-! The class's setters and undo, exactly. -/
def WK2 (k0 j0 k j : Nat) : Prop := k = k0 ∧ j = j0
theorem REL.lim {F : Nat → Nat → Int32} {fv gv : Nat → Int} {o : Int} (h : REL F fv gv o) {i9 : Nat} {x : Int32} (hi9 : i9 < 6) : REL (upF F 3 i9 x) fv (upI gv (i9) x.toInt) o := by
  obtain ⟨h0, h1, h2, h3, h4, h5, h7, h8, h9, h10, h11, h12, h13, h14, h15, h16, h17, h18⟩ := h
  refine ⟨?_, ?_, ?_, ?_, ?_, ?_, fun l hl => ?_, fun l hl => ?_, fun l hl => ?_, fun l hl => ?_, fun l hl => ?_, fun l hl => ?_, fun l hl => ?_, fun i n hi hn => ?_, fun l hl => ?_, fun l hl => ?_, fun l hl => ?_, fun l hl => ?_⟩
  · have q9 := h0
    unfold upF
    try unfold upI
    (repeat' split) <;> omega
  · have q9 := h1
    unfold upF
    try unfold upI
    (repeat' split) <;> omega
  · have q9 := h2
    unfold upF
    try unfold upI
    (repeat' split) <;> omega
  · have q9 := h3
    unfold upF
    try unfold upI
    (repeat' split) <;> omega
  · have q9 := h4
    unfold upF
    try unfold upI
    (repeat' split) <;> omega
  · have q9 := h5
    unfold upF
    try unfold upI
    (repeat' split) <;> omega
  · have q9 := h7 l hl
    unfold upF
    try unfold upI
    (repeat' split) <;> omega
  · have q9 := h8 l hl
    unfold upF
    try unfold upI
    (repeat' split) <;> omega
  · have q9 := h9 l hl
    unfold upF
    try unfold upI
    (repeat' split) <;> omega
  · have q9 := h10 l hl
    unfold upF
    try unfold upI
    (repeat' split) <;> omega
  · have q9 := h11 l hl
    unfold upF
    try unfold upI
    (repeat' split) <;> omega
  · have q9 := h12 l hl
    unfold upF
    try unfold upI
    (repeat' split) <;> omega
  · have q9 := h13 l hl
    unfold upF
    try unfold upI
    (repeat' split) <;> omega
  · have q9 := h14 i n hi hn
    unfold upF
    try unfold upI
    (repeat' split) <;> omega
  · have q9 := h15 l hl
    unfold upF
    try unfold upI
    (repeat' split) <;> omega
  · have q9 := h16 l hl
    unfold upF
    try unfold upI
    (repeat' split) <;> omega
  · have q9 := h17 l hl
    unfold upF
    try unfold upI
    (repeat' split) <;> omega
  · have q9 := h18 l hl
    unfold upF
    try unfold upI
    (repeat' split) <;> omega
theorem REL.eme {F : Nat → Nat → Int32} {fv gv : Nat → Int} {o : Int} (h : REL F fv gv o) {i9 : Nat} {x : Int32} (hi9 : i9 < 6) : REL (upF F 4 i9 x) fv (upI gv (6 + i9) x.toInt) o := by
  obtain ⟨h0, h1, h2, h3, h4, h5, h7, h8, h9, h10, h11, h12, h13, h14, h15, h16, h17, h18⟩ := h
  refine ⟨?_, ?_, ?_, ?_, ?_, ?_, fun l hl => ?_, fun l hl => ?_, fun l hl => ?_, fun l hl => ?_, fun l hl => ?_, fun l hl => ?_, fun l hl => ?_, fun i n hi hn => ?_, fun l hl => ?_, fun l hl => ?_, fun l hl => ?_, fun l hl => ?_⟩
  · have q9 := h0
    unfold upF
    try unfold upI
    (repeat' split) <;> omega
  · have q9 := h1
    unfold upF
    try unfold upI
    (repeat' split) <;> omega
  · have q9 := h2
    unfold upF
    try unfold upI
    (repeat' split) <;> omega
  · have q9 := h3
    unfold upF
    try unfold upI
    (repeat' split) <;> omega
  · have q9 := h4
    unfold upF
    try unfold upI
    (repeat' split) <;> omega
  · have q9 := h5
    unfold upF
    try unfold upI
    (repeat' split) <;> omega
  · have q9 := h7 l hl
    unfold upF
    try unfold upI
    (repeat' split) <;> omega
  · have q9 := h8 l hl
    unfold upF
    try unfold upI
    (repeat' split) <;> omega
  · have q9 := h9 l hl
    unfold upF
    try unfold upI
    (repeat' split) <;> omega
  · have q9 := h10 l hl
    unfold upF
    try unfold upI
    (repeat' split) <;> omega
  · have q9 := h11 l hl
    unfold upF
    try unfold upI
    (repeat' split) <;> omega
  · have q9 := h12 l hl
    unfold upF
    try unfold upI
    (repeat' split) <;> omega
  · have q9 := h13 l hl
    unfold upF
    try unfold upI
    (repeat' split) <;> omega
  · have q9 := h14 i n hi hn
    unfold upF
    try unfold upI
    (repeat' split) <;> omega
  · have q9 := h15 l hl
    unfold upF
    try unfold upI
    (repeat' split) <;> omega
  · have q9 := h16 l hl
    unfold upF
    try unfold upI
    (repeat' split) <;> omega
  · have q9 := h17 l hl
    unfold upF
    try unfold upI
    (repeat' split) <;> omega
  · have q9 := h18 l hl
    unfold upF
    try unfold upI
    (repeat' split) <;> omega
theorem REL.cst {F : Nat → Nat → Int32} {fv gv : Nat → Int} {o : Int} (h : REL F fv gv o) {i9 : Nat} {x : Int32} (hi9 : i9 < 5) : REL (upF F 6 i9 x) fv (upI gv (12 + i9) x.toInt) o := by
  obtain ⟨h0, h1, h2, h3, h4, h5, h7, h8, h9, h10, h11, h12, h13, h14, h15, h16, h17, h18⟩ := h
  refine ⟨?_, ?_, ?_, ?_, ?_, ?_, fun l hl => ?_, fun l hl => ?_, fun l hl => ?_, fun l hl => ?_, fun l hl => ?_, fun l hl => ?_, fun l hl => ?_, fun i n hi hn => ?_, fun l hl => ?_, fun l hl => ?_, fun l hl => ?_, fun l hl => ?_⟩
  · have q9 := h0
    unfold upF
    try unfold upI
    (repeat' split) <;> omega
  · have q9 := h1
    unfold upF
    try unfold upI
    (repeat' split) <;> omega
  · have q9 := h2
    unfold upF
    try unfold upI
    (repeat' split) <;> omega
  · have q9 := h3
    unfold upF
    try unfold upI
    (repeat' split) <;> omega
  · have q9 := h4
    unfold upF
    try unfold upI
    (repeat' split) <;> omega
  · have q9 := h5
    unfold upF
    try unfold upI
    (repeat' split) <;> omega
  · have q9 := h7 l hl
    unfold upF
    try unfold upI
    (repeat' split) <;> omega
  · have q9 := h8 l hl
    unfold upF
    try unfold upI
    (repeat' split) <;> omega
  · have q9 := h9 l hl
    unfold upF
    try unfold upI
    (repeat' split) <;> omega
  · have q9 := h10 l hl
    unfold upF
    try unfold upI
    (repeat' split) <;> omega
  · have q9 := h11 l hl
    unfold upF
    try unfold upI
    (repeat' split) <;> omega
  · have q9 := h12 l hl
    unfold upF
    try unfold upI
    (repeat' split) <;> omega
  · have q9 := h13 l hl
    unfold upF
    try unfold upI
    (repeat' split) <;> omega
  · have q9 := h14 i n hi hn
    unfold upF
    try unfold upI
    (repeat' split) <;> omega
  · have q9 := h15 l hl
    unfold upF
    try unfold upI
    (repeat' split) <;> omega
  · have q9 := h16 l hl
    unfold upF
    try unfold upI
    (repeat' split) <;> omega
  · have q9 := h17 l hl
    unfold upF
    try unfold upI
    (repeat' split) <;> omega
  · have q9 := h18 l hl
    unfold upF
    try unfold upI
    (repeat' split) <;> omega
theorem REL.cap {F : Nat → Nat → Int32} {fv gv : Nat → Int} {o : Int} (h : REL F fv gv o) {i9 : Nat} {x : Int32} (hi9 : i9 < 5) : REL (upF F 7 i9 x) fv (upI gv (17 + i9) x.toInt) o := by
  obtain ⟨h0, h1, h2, h3, h4, h5, h7, h8, h9, h10, h11, h12, h13, h14, h15, h16, h17, h18⟩ := h
  refine ⟨?_, ?_, ?_, ?_, ?_, ?_, fun l hl => ?_, fun l hl => ?_, fun l hl => ?_, fun l hl => ?_, fun l hl => ?_, fun l hl => ?_, fun l hl => ?_, fun i n hi hn => ?_, fun l hl => ?_, fun l hl => ?_, fun l hl => ?_, fun l hl => ?_⟩
  · have q9 := h0
    unfold upF
    try unfold upI
    (repeat' split) <;> omega
  · have q9 := h1
    unfold upF
    try unfold upI
    (repeat' split) <;> omega
  · have q9 := h2
    unfold upF
    try unfold upI
    (repeat' split) <;> omega
  · have q9 := h3
    unfold upF
    try unfold upI
    (repeat' split) <;> omega
  · have q9 := h4
    unfold upF
    try unfold upI
    (repeat' split) <;> omega
  · have q9 := h5
    unfold upF
    try unfold upI
    (repeat' split) <;> omega
  · have q9 := h7 l hl
    unfold upF
    try unfold upI
    (repeat' split) <;> omega
  · have q9 := h8 l hl
    unfold upF
    try unfold upI
    (repeat' split) <;> omega
  · have q9 := h9 l hl
    unfold upF
    try unfold upI
    (repeat' split) <;> omega
  · have q9 := h10 l hl
    unfold upF
    try unfold upI
    (repeat' split) <;> omega
  · have q9 := h11 l hl
    unfold upF
    try unfold upI
    (repeat' split) <;> omega
  · have q9 := h12 l hl
    unfold upF
    try unfold upI
    (repeat' split) <;> omega
  · have q9 := h13 l hl
    unfold upF
    try unfold upI
    (repeat' split) <;> omega
  · have q9 := h14 i n hi hn
    unfold upF
    try unfold upI
    (repeat' split) <;> omega
  · have q9 := h15 l hl
    unfold upF
    try unfold upI
    (repeat' split) <;> omega
  · have q9 := h16 l hl
    unfold upF
    try unfold upI
    (repeat' split) <;> omega
  · have q9 := h17 l hl
    unfold upF
    try unfold upI
    (repeat' split) <;> omega
  · have q9 := h18 l hl
    unfold upF
    try unfold upI
    (repeat' split) <;> omega
theorem REL.cong {F : Nat → Nat → Int32} {fv gv gv2 : Nat → Int} {o : Int} (h : REL F fv gv o) (e : ∀ j, j < 38 → gv2 j = gv j) : REL F fv gv2 o := by
  obtain ⟨h0, h1, h2, h3, h4, h5, h7, h8, h9, h10, h11, h12, h13, h14, h15, h16, h17, h18⟩ := h
  refine ⟨?_, ?_, ?_, ?_, ?_, ?_, fun l hl => ?_, fun l hl => ?_, fun l hl => ?_, fun l hl => ?_, fun l hl => ?_, fun l hl => ?_, fun l hl => ?_, fun i n hi hn => ?_, fun l hl => ?_, fun l hl => ?_, fun l hl => ?_, fun l hl => ?_⟩
  · exact h0
  · exact h1
  · exact h2
  · exact h3
  · exact h4
  · exact h5
  · exact h7 l hl
  · exact h8 l hl
  · exact (h9 l hl).trans (e _ (by omega)).symm
  · exact (h10 l hl).trans (e _ (by omega)).symm
  · exact h11 l hl
  · exact (h12 l hl).trans (e _ (by omega)).symm
  · exact (h13 l hl).trans (e _ (by omega)).symm
  · exact (h14 i n hi hn).trans (e _ (by omega)).symm
  · exact h15 l hl
  · exact h16 l hl
  · exact h17 l hl
  · exact h18 l hl
theorem GLS.kd {hs : List CE} {g a j : Nat} (h : GLS hs g) (hp : gpl a j) : ∃ c N : Nat, shp hs (g + a) = some (c, N) ∧ (c = 4 ∨ c = 32) := by
  unfold gpl at hp
  by_cases h0 : a = 0
  · subst h0; exact ⟨_, _, h.2.1, Or.inl rfl⟩
  · by_cases h9 : 9 ≤ a ∧ a ≤ 12
    · refine ⟨32, 4, ?_, Or.inr rfl⟩
      have := (h.2.2.2 (a - 9) (by omega)).2
      rw [show g + (9 + (a - 9)) = g + a by omega] at this
      exact this
    · have : ∀ b : Fin 17, b.val ≠ 0 → b.val ≠ 8 → ¬ (9 ≤ b.val ∧ b.val ≤ 12) → ∃ q ∈ GST, q.2.1 = b.val ∧ q.2.2.1 = 32 := by decide
      obtain ⟨q, q1, q2, q3⟩ := this ⟨a, by omega⟩ h0 (show a ≠ 8 by omega) h9
      have q2 : q.2.1 = a := q2
      exact ⟨_, _, by rw [← q2]; exact (h.2.2.1 q q1).2, Or.inr q3⟩
theorem GLS.kd2 {hs : List CE} {g k : Nat} (h : GLS hs g) (h1 : g ≤ k) (h2 : k ≤ g + 16) : ∃ c N : Nat, shp hs k = some (c, N) ∧ (c = 4 ∨ c = 32 ∨ c = 37) := by
  by_cases h8 : k = g + 8
  · subst h8; exact ⟨37, 4, (h.2.2.1 (13, 8, 37, 4) (by decide)).2, Or.inr (Or.inr rfl)⟩
  · have hp : gpl (k - g) 0 := by unfold gpl; omega
    obtain ⟨c, N, e, q⟩ := h.kd hp
    rw [show g + (k - g) = k by omega] at e
    exact ⟨c, N, e, by omega⟩
theorem GIM.cells {hs h2 : List CE} {g : Nat} {F : Nat → Nat → Int32} (h : GIM hs g F) (e : ∀ k, g ≤ k → k ≤ g + 16 → h2[k]? = hs[k]?) : GIM h2 g F := by
  refine ⟨⟨h.1.1, (shp_eqc (e _ (by omega) (by omega))).trans h.1.2.1, fun q hq => ?_, fun i hi => ?_⟩, fun a j hp => ?_⟩
  · have r := gst_rng q hq
    exact ⟨(rd_of (e _ (by omega) (by omega)) _).trans (h.1.2.2.1 q hq).1, (shp_eqc (e _ (by omega) (by omega))).trans (h.1.2.2.1 q hq).2⟩
  · exact ⟨(rd_of (e _ (by omega) (by omega)) _).trans (h.1.2.2.2 i hi).1, (shp_eqc (e _ (by omega) (by omega))).trans (h.1.2.2.2 i hi).2⟩
  · have hp2 := hp
    unfold gpl at hp2
    exact (rd_of (e _ (by omega) (by omega)) _).trans (h.2 a j hp)
theorem RD0.cells {hs h2 : List CE} {tx : Nat → Int} {L ec ep : Int} (h : RD0 hs tx L ec ep) (e4 : h2[54]? = hs[54]?) (e5 : h2[55]? = hs[55]?) : RD0 h2 tx L ec ep := by
  obtain ⟨s54, s55, r3, r4, hT, ⟨xL, e0, qL⟩, ⟨x1, e1, q1⟩, ⟨x2, e2, q2⟩, ⟨x7, e7⟩, ⟨x8, e8⟩, ⟨x10, e10⟩, hL0, hL7⟩ := h
  refine ⟨(shp_eqc e4).trans s54, (shp_eqc e5).trans s55, (rd_of e4 3).trans r3, (rd_of e4 4).trans r4, fun j hj => ?_, ⟨xL, (rd_of e4 0).trans e0, qL⟩, ⟨x1, (rd_of e4 1).trans e1, q1⟩, ⟨x2, (rd_of e4 2).trans e2, q2⟩, ⟨x7, (rd_of e4 7).trans e7⟩, ⟨x8, (rd_of e4 8).trans e8⟩, ⟨x10, (rd_of e4 10).trans e10⟩, hL0, hL7⟩
  obtain ⟨x, y1, y2⟩ := hT j hj
  exact ⟨x, (rd_of e5 j).trans y1, y2⟩
theorem TR9.cell {hs h2 : List CE} {b : Nat} {d : Int} (h : TR9 hs b d) (e : rd h2 b 0 = rd hs b 0) : TR9 h2 b d := by
  obtain ⟨t, q1, q2⟩ := h
  exact ⟨t, e.trans q1, q2⟩
theorem FLS.kd {hs : List CE} {b k j : Nat} (h : FLS hs b) (hw : WFr b k j) : ∃ c N : Nat, shp hs k = some (c, N) ∧ (c = 1 ∨ c = 33) := by
  obtain ⟨-, h1, -, -, r1, r2, r3⟩ := h
  unfold WFr at hw
  by_cases q0 : k = b
  · subst q0; exact ⟨_, _, h1, Or.inl rfl⟩
  · by_cases q1 : k ≤ b + 7
    · have := (r1 (k - b - 2) (by omega)).2
      rw [show b + (2 + (k - b - 2)) = k by omega] at this
      exact ⟨_, _, this, Or.inr rfl⟩
    · by_cases q2 : k ≤ b + 11
      · have := (r2 (k - b - 9) (by omega)).2
        rw [show b + (9 + (k - b - 9)) = k by omega] at this
        exact ⟨_, _, this, Or.inr rfl⟩
      · have := (r3 (k - b - 13) (by omega)).2
        rw [show b + (13 + (k - b - 13)) = k by omega] at this
        exact ⟨_, _, this, Or.inr rfl⟩
/-- the class between two calls but for the list of changes and the trees -/
def CLN (hs : List CE) (tx : Nat → Int) (L ec ep : Int) (g : Nat) (F : Nat → Nat → Int32) (fv gv : Nat → Int) (o : Int) (nl ng nr n : Nat) : Prop := GP9 hs ∧ rd hs 0 6 = .ref g ∧ RD0 hs tx L ec ep ∧ GIM hs g F ∧ REL F fv gv o ∧ SPR fv o nl ng nr n ∧ FLS hs 1 ∧ FLS hs 18 ∧ FLS hs 56
/-- the trees of both factors -/
def TRS (hs : List CE) (fv : Nat → Int) (o : Int) (nl : Nat) : Prop := TR9 hs 1 (det3 (mT fv (fv 0) (-1) nl)) ∧ TR9 hs 18 (det3 (mT fv (fv 0) o nl))
section CSETA
variable {hs h2 : List CE} {tx : Nat → Int} {L ec ep : Int} {g : Nat} {F : Nat → Nat → Int32} {fv gv : Nat → Int} {o : Int} {nl ng nr n nc : Nat} {ch : Nat → Nat → Int}
theorem CLN.g0 (h : CLN hs tx L ec ep g F fv gv o nl ng nr n) : g = 37 ∨ 148 ≤ g := h.2.2.2.1.1.1
theorem CLN.cells (h : CLN hs tx L ec ep g F fv gv o nl ng nr n) (e0 : h2[0]? = hs[0]?) (e36 : shp h2 36 = some (40, 4)) (ef : ∀ k, (1 ≤ k ∧ k ≤ 34) ∨ (54 ≤ k ∧ k ≤ 72) ∨ (g ≤ k ∧ k ≤ g + 16) → h2[k]? = hs[k]?) : CLN h2 tx L ec ep g F fv gv o nl ng nr n := by
  obtain ⟨P, e6, D, Gm, R, S, f1, f18, f56⟩ := h
  exact ⟨⟨(shp_eqc e0).trans P.1, (rd_of e0 0).trans P.2.1, (rd_of e0 1).trans P.2.2.1, (rd_of e0 2).trans P.2.2.2.1, (rd_of e0 3).trans P.2.2.2.2.1, (rd_of e0 4).trans P.2.2.2.2.2.1, (rd_of e0 5).trans P.2.2.2.2.2.2.1, e36⟩, (rd_of e0 6).trans e6, D.cells (ef 54 (by omega)) (ef 55 (by omega)), Gm.cells (fun k q1 q2 => ef k (by omega)), R, S, f1.cellb (fun k q1 q2 => ef k (by omega)), f18.cellb (fun k q1 q2 => ef k (by omega)), f56.cellb (fun k q1 q2 => ef k (by omega))⟩
theorem TRS.cells (h : TRS hs fv o nl) (e1 : rd h2 1 0 = rd hs 1 0) (e18 : rd h2 18 0 = rd hs 18 0) : TRS h2 fv o nl := ⟨h.1.cell e1, h.2.cell e18⟩
/-- the class's cells are old ones -/
theorem CLN.lt (h : CLN hs tx L ec ep g F fv gv o nl ng nr n) {k : Nat} (hk : k = 0 ∨ k = 36 ∨ (1 ≤ k ∧ k ≤ 34) ∨ (54 ≤ k ∧ k ≤ 72) ∨ (g ≤ k ∧ k ≤ g + 16)) : k < hs.length := by
  have a := shp_lt h.1.2.2.2.2.2.2.2
  have b := shp_lt (h.2.2.2.2.2.2.2.2.2.2.2.2.2.2 3 (by decide)).2
  have c := shp_lt (h.2.2.2.1.1.2.2.1 (17, 16, 32, 6) (by decide)).2
  have b : 56 + (13 + 3) < hs.length := b
  have c : g + 16 < hs.length := c
  omega
theorem CLN.app (h : CLN hs tx L ec ep g F fv gv o nl ng nr n) (e : ∀ k, k < hs.length → h2[k]? = hs[k]?) : CLN h2 tx L ec ep g F fv gv o nl ng nr n :=
  h.cells (e 0 (h.lt (by omega))) ((shp_eqc (e 36 (h.lt (by omega)))).trans h.1.2.2.2.2.2.2.2) (fun k hk => e k (h.lt (by omega)))
theorem LSA.cells {ka : Nat} (h : LSA hs ka nc ch) (e : ∀ k c N, shp hs k = some (c, N) → c = 8 ∨ c = 10 ∨ c = 39 → h2[k]? = hs[k]?) : LSA h2 ka nc ch := by
  obtain ⟨a, ⟨m, b⟩, ⟨x, c, c2⟩, d, e1, f9, g9⟩ := h
  have e35 := e _ _ _ a (by omega)
  have eka := e _ _ _ f9 (by omega)
  refine ⟨(shp_eqc e35).trans a, ⟨m, (rd_of e35 2).trans b⟩, ⟨x, (rd_of e35 1).trans c, c2⟩, (rd_of e35 0).trans d, e1, (shp_eqc eka).trans f9, fun j hj => ?_⟩
  obtain ⟨kc, q1, q2⟩ := g9 j hj
  have ekc := e _ _ _ q2.1 (by omega)
  exact ⟨kc, (rd_of eka j).trans q1, q2.same (shp_eqc ekc) (fun j9 => rd_of ekc j9)⟩
theorem LSC.cells (h : LSC hs nc ch) (e : ∀ k c N, shp hs k = some (c, N) → c = 8 ∨ c = 10 ∨ c = 39 → h2[k]? = hs[k]?) : LSC h2 nc ch := by
  obtain ⟨h10, ⟨a, ⟨m, b⟩, c, d, z⟩ | ⟨ka, q⟩⟩ := h
  · have e35 := e _ _ _ a (by omega)
    exact ⟨h10, Or.inl ⟨(shp_eqc e35).trans a, ⟨m, (rd_of e35 2).trans b⟩, (rd_of e35 1).trans c, (rd_of e35 0).trans d, z⟩⟩
  · exact ⟨h10, Or.inr ⟨ka, q.cells e⟩⟩
theorem LSC.app (h : LSC hs nc ch) (e : ∀ k, k < hs.length → h2[k]? = hs[k]?) : LSC h2 nc ch := h.cells (fun k c N q _ => e k (shp_lt q))
theorem LSC.s35 (h : LSC hs nc ch) : shp hs 35 = some (10, 3) := by
  obtain ⟨-, ⟨a, -⟩ | ⟨ka, q⟩⟩ := h
  · exact a
  · exact q.1
theorem LSC.arr (h : LSC hs nc ch) {a : Nat} (e : rd hs 35 0 = .ref a) : 148 ≤ a ∧ (a < 7000000000002 → shp hs a = some (39, 10)) := by
  obtain ⟨-, ⟨-, -, -, d, -⟩ | ⟨ka, q⟩⟩ := h
  · rw [d] at e
    cases e
    exact ⟨by omega, fun z => absurd z (by omega)⟩
  · rw [q.2.2.2.1] at e
    cases e
    exact ⟨q.2.2.2.2.1, fun _ => q.2.2.2.2.2.1⟩
/-- what the list's change leaves of the class -/
theorem CLN.rmb_eq (h : CLN hs tx L ec ep g F fv gv o nl ng nr n) (hL : LSC hs nc ch) (hlen : hs.length ≤ 6999999999999) (k3 : KPR hs h2) : ∀ k, k = 0 ∨ (1 ≤ k ∧ k ≤ 34) ∨ (54 ≤ k ∧ k ≤ 72) ∨ (g ≤ k ∧ k ≤ g + 16) → h2[k]? = hs[k]? := fun k hk => by
  have g0 := h.g0
  have hl := h.lt (k := k) (by omega)
  refine k3 k hl (by omega) (by omega) (fun a z q => ?_)
  obtain ⟨a1, a2⟩ := hL.arr z
  subst q
  have s := a2 (by omega)
  obtain ⟨c, N, e, q⟩ := h.2.2.2.1.1.kd2 (k := k) (by omega) (by omega)
  rw [e] at s
  cases s
  omega
theorem CLN.rmb (h : CLN hs tx L ec ep g F fv gv o nl ng nr n) (hL : LSC hs nc ch) (hlen : hs.length ≤ 6999999999999) (k3 : KPR hs h2) (P3 : GP9 h2) : CLN h2 tx L ec ep g F fv gv o nl ng nr n :=
  h.cells (h.rmb_eq hL hlen k3 0 (by omega)) P3.2.2.2.2.2.2.2 (fun k hk => h.rmb_eq hL hlen k3 k (by omega))
/-- one of the grid's ints is laid anew -/
theorem CLN.pw {a j : Nat} {x : Int32} {gv2 : Nat → Int} {o2 : Int} (h : CLN hs tx L ec ep g F fv gv o nl ng nr n) (hp : gpl a j) (hR : REL (upF F a j x) fv gv2 o2) (hS : SPR fv o2 nl ng nr n) : CLN (wr hs (g + a) j (.int x)) tx L ec ep g (upF F a j x) fv gv2 o2 nl ng nr n := by
  have g0 := h.g0
  have hp2 := hp
  unfold gpl at hp2
  obtain ⟨P, e6, D, Gm, R, S, f1, f18, f56⟩ := h
  have e : ∀ k, k ≠ g + a → (wr hs (g + a) j (.int x))[k]? = hs[k]? := fun k hk => wr_ne (fun z => hk z.symm)
  exact ⟨P.cell (e 0 (by omega)) (e 36 (by omega)), (rd_of (e 0 (by omega)) 6).trans e6, D.cells (e 54 (by omega)) (e 55 (by omega)), Gm.put hp, hR, hS, f1.cellb (fun k q1 q2 => e k (by omega)), f18.cellb (fun k q1 q2 => e k (by omega)), f56.cellb (fun k q1 q2 => e k (by omega))⟩
theorem TRS.gwr {a j : Nat} {v : Value} (h : TRS hs fv o nl) (g0 : g = 37 ∨ 148 ≤ g) : TRS (wr hs (g + a) j v) fv o nl :=
  h.cells (rd_of (wr_ne (by omega)) 0) (rd_of (wr_ne (by omega)) 0)
theorem LSA.gwr {ka a j : Nat} {v : Value} (h : LSA hs ka nc ch) (hG : GLS hs g) (hp : gpl a j) : LSA (wr hs (g + a) j v) ka nc ch :=
  h.cells (fun k c N e q => wr_ne (fun z => by
    obtain ⟨c2, N2, e2, q2⟩ := hG.kd hp
    rw [z, e] at e2
    cases e2
    omega))
theorem LSA.fac {ka : Nat} (h : LSA hs ka nc ch) (f : FrS W118 hs h2) (h1 : FLS hs 1) (h18 : FLS hs 18) : LSA h2 ka nc ch :=
  h.cells (fun k c N e q => frs_cell f (shp_lt e) (fun j z => by
    rcases z with z | z
    · obtain ⟨c2, N2, e2, q2⟩ := h1.kd z
      rw [e] at e2
      cases e2
      omega
    · obtain ⟨c2, N2, e2, q2⟩ := h18.kd z
      rw [e] at e2
      cases e2
      omega))
/-- what a setter leaves of the old cells -/
def KPS (g : Nat) (hs h2 : List CE) : Prop := ∀ k, k < hs.length → k ≠ 35 → k ≠ 36 → ¬ (1 ≤ k ∧ k ≤ 34) → ¬ (g ≤ k ∧ k ≤ g + 16) → ¬ (56 ≤ k ∧ k ≤ 72) → (∀ a : Nat, rd hs 35 0 = .ref a → k ≠ a) → h2[k]? = hs[k]?
theorem N36.gwr {a j : Nat} {v : Value} (h : N36 hs) (g0 : g = 37 ∨ 148 ≤ g) : N36 (wr hs (g + a) j v) := fun q hq => (rd_of (wr_ne (by omega)) q).trans (h q hq)
theorem N36.fac (h : N36 hs) (f : FrS W118 hs h2) : N36 h2 := fun q hq => (f.2.2 36 q (fun z => by unfold W118 WFr at z; omega)).trans (h q hq)
theorem KPS.rf (hs : List CE) : KPS g hs hs := fun _ _ _ _ _ _ _ _ => rfl
theorem KPS.gwr {h3 : List CE} {a j : Nat} {v : Value} (h : KPS g hs h3) (ha : a ≤ 16) : KPS g hs (wr h3 (g + a) j v) := fun k q1 q2 q3 q4 q5 q7 q6 => (wr_ne (by omega)).trans (h k q1 q2 q3 q4 q5 q7 q6)
theorem KPS.fac {h3 h4 : List CE} (h : KPS g hs h3) (hl : hs.length ≤ h3.length) (f : FrS W118 h3 h4) : KPS g hs h4 := fun k q1 q2 q3 q4 q5 q7 q6 => (frs_cell f (by omega) (fun j z => by unfold W118 WFr at z; omega)).trans (h k q1 q2 q3 q4 q5 q7 q6)
theorem KPS.frg {h3 h4 : List CE} (h : KPS g hs h3) (hl : hs.length ≤ h3.length) (f : FrS W36 h3 h4) : KPS g hs h4 := fun k q1 q2 q3 q4 q5 q7 q6 => (frs_cell f (by omega) (fun j z => by unfold W36 at z; omega)).trans (h k q1 q2 q3 q4 q5 q7 q6)
theorem KPS.ls {h3 : List CE} {ka : Nat} (f : FrS (WLs ka) hs h3) (e : rd hs 35 0 = .ref ka) : KPS g hs h3 := fun k q1 q2 q3 q4 q5 q7 q6 => frs_cell f q1 (fun j z => by
  rcases z with z | z
  · exact q2 z
  · exact q6 ka e z)
theorem KPS.tr {h3 h4 : List CE} (h : KPS g hs h3) (hl : hs.length ≤ h3.length) (e : rd h3 35 0 = rd hs 35 0) (h' : KPS g h3 h4) : KPS g hs h4 := fun k q1 q2 q3 q4 q5 q7 q6 => (h' k (by omega) q2 q3 q4 q5 q7 (fun a z => q6 a (e.symm.trans z))).trans (h k q1 q2 q3 q4 q5 q7 q6)
/-- the factors are computed anew -/
theorem CLN.fac (h : CLN hs tx L ec ep g F fv gv o nl ng nr n) (f : FrS W118 hs h2) (F1 : FLS h2 1) (F18 : FLS h2 18) : CLN h2 tx L ec ep g F fv gv o nl ng nr n := by
  have g0 := h.g0
  have e : ∀ k, k = 0 ∨ k = 36 ∨ (54 ≤ k ∧ k ≤ 72) ∨ (g ≤ k ∧ k ≤ g + 16) → h2[k]? = hs[k]? := fun k hk => frs_cell f (h.lt (by omega)) (fun j z => by unfold W118 WFr at z; omega)
  obtain ⟨P, e6, D, Gm, R, S, f1, f18, f56⟩ := h
  exact ⟨P.cell (e 0 (by omega)) (e 36 (by omega)), (rd_of (e 0 (by omega)) 6).trans e6, D.cells (e 54 (by omega)) (e 55 (by omega)), Gm.cells (fun k q1 q2 => e k (by omega)), R, S, F1, F18, f56.cellb (fun k q1 q2 => e k (by omega))⟩
theorem CLN.frg (h : CLN hs tx L ec ep g F fv gv o nl ng nr n) (f : FrS W36 hs h2) : CLN h2 tx L ec ep g F fv gv o nl ng nr n := by
  have g0 := h.g0
  have e : ∀ k, k = 0 ∨ (1 ≤ k ∧ k ≤ 34) ∨ (54 ≤ k ∧ k ≤ 72) ∨ (g ≤ k ∧ k ≤ g + 16) → h2[k]? = hs[k]? := fun k hk => frs_cell f (h.lt (by omega)) (fun j z => by unfold W36 at z; omega)
  exact h.cells (e 0 (by omega)) ((f.2.1 36).trans h.1.2.2.2.2.2.2.2) (fun k hk => e k (by omega))
/-- a cut is looked for -/
theorem CLN.con (h : CLN hs tx L ec ep g F fv gv o nl ng nr n) (f : FrS (WFr 56) hs h2) (F56 : FLS h2 56) : CLN h2 tx L ec ep g F fv gv o nl ng nr n := by
  have g0 := h.g0
  have e : ∀ k, k = 0 ∨ k = 36 ∨ (1 ≤ k ∧ k ≤ 34) ∨ k = 54 ∨ k = 55 ∨ (g ≤ k ∧ k ≤ g + 16) → h2[k]? = hs[k]? := fun k hk => frs_cell f (h.lt (by omega)) (fun j z => by unfold WFr at z; omega)
  obtain ⟨P, e6, D, Gm, R, S, f1, f18, f56⟩ := h
  exact ⟨P.cell (e 0 (by omega)) (e 36 (by omega)), (rd_of (e 0 (by omega)) 6).trans e6, D.cells (e 54 (by omega)) (e 55 (by omega)), Gm.cells (fun k q1 q2 => e k (by omega)), R, S, f1.cellb (fun k q1 q2 => e k (by omega)), f18.cellb (fun k q1 q2 => e k (by omega)), F56⟩
theorem KPS.con (f : FrS (WFr 56) hs h2) : KPS g hs h2 := fun k q1 q2 q3 q4 q5 q7 q6 => frs_cell f q1 (fun j z => by unfold WFr at z; omega)
theorem LSC.con (h : LSC hs nc ch) (f : FrS (WFr 56) hs h2) (F56 : FLS hs 56) : LSC h2 nc ch :=
  h.cells (fun k c N e q => frs_cell f (shp_lt e) (fun j z => by
    obtain ⟨c2, N2, e2, q2⟩ := F56.kd z
    rw [e] at e2
    cases e2
    omega))
theorem LSA.c36 {ka : Nat} (h : LSA hs ka nc ch) : nc ≤ 10 → LSC hs nc ch := fun q => ⟨q, Or.inr ⟨ka, h⟩⟩
/-- a good end: what holds now -/
def COk (hs h2 : List CE) (tx : Nat → Int) (L ec ep : Int) (g : Nat) (fv W2 : Nat → Int) (o2 : Int) (nl ng nr n nc2 : Nat) (ch2 : Nat → Nat → Int) : Prop := (∃ F2 : Nat → Nat → Int32, CLN h2 tx L ec ep g F2 fv W2 o2 nl ng nr n) ∧ TRS h2 fv o2 nl ∧ (∃ ka : Nat, LSA h2 ka nc2 ch2) ∧ hs.length ≤ h2.length ∧ h2.length ≤ hs.length + 2 ∧ KPS g hs h2 ∧ N36 h2
end CSETA
/-- a limit laid anew -/
def wLim (w : Nat → Int) (i : Nat) (v : Int) : Nat → Int := if w (6 + i) < v then upI (upI w i v) (6 + i) v else upI w i v
theorem wLimC {w : Nat → Int} {i : Nat} {E v : Int32} (hE : E.toInt = w (6 + i)) : upI (upI w i v.toInt) (6 + i) (if E < v then v else E).toInt = wLim w i v.toInt := by
  unfold wLim
  by_cases q : E < v
  · rw [if_pos q, if_pos (by rw [← hE]; exact i_lt.mp q)]
  · rw [if_neg q, if_neg (fun z => q (i_lt.mpr (by rw [hE]; exact z)))]
    funext j
    unfold upI
    by_cases q1 : j = 6 + i
    · rw [if_pos q1, if_neg (by omega), hE, q1]
    · rw [if_neg q1]

section CSETB
variable {g0 : GG} {bl : Nat} {xs : Nat → Int32} {l : Launch} {hs : List CE} {tx : Nat → Int} {L ec ep : Int} {g : Nat} {F : Nat → Nat → Int32} {fv gv : Nat → Int} {o : Int} {nl ng nr n nc : Nat} {ch : Nat → Nat → Int} {a b lo hi i n9 : Int32}

theorem cc_chkI  : BodyN SSX TBL g0 CLS bl xs l D_8 8 120 1 11 [.int a, .int b] hs (fun kd r h2 => hs = h2 ∧ ((kd = 0 ∧ 0 ≤ a.toInt ∧ a.toInt < b.toInt) ∨ (kd = 2 ∧ ¬ (0 ≤ a.toInt ∧ a.toInt < b.toInt)))) := by
  intro wp p e R sW m args below meth cW Q kc0 ks0 kc ks act hf hl hc hsl hEnd
  have hf : 8 ≤ R.frames := hf
  have hl : 120 ≤ R.locals := hl
  show WpN (gp g0 wp) CLS p l e R sW m args below meth cW Q D_8.2.2.1 kc0 ks0 0 [some (.int a), some (.int b)] (hs, kc, ks) []
  refine g_loadI act (gx gp_8 (w := 0x102) rfl (by decide) rfl) (a := 0) (n := 1) rfl rfl rfl ?_
  refine g_ifLt act (gx gp_8 (w := 0x900042a) rfl (by decide) rfl) (tgt := 9) (n := 4) rfl rfl (fun h2 => ?_) (fun h2 => ?_)
  · simp only [i_lt, i0] at h2
    exact g_throw hEnd (gx gp_8 (w := 0x1000038) rfl (by decide) rfl) (x := 1) rfl ⟨rfl, Or.inr ⟨rfl, by omega⟩⟩ (by show kc + 1 ≤ kc + 1; omega) (by show ks + 6 ≤ ks + 11; omega) (by decide) (by decide)
  · simp only [i_lt, i0] at h2
    refine g_loadI act (gx gp_8 (w := 0x502) rfl (by decide) rfl) (a := 0) (n := 5) rfl rfl rfl ?_
    refine g_loadI act (gx gp_8 (w := 0x1000602) rfl (by decide) rfl) (a := 1) (n := 6) rfl rfl rfl ?_
    refine g_icmpLt act (gx gp_8 (w := 0x14000920) rfl (by decide) rfl) (tgt := 20) (n := 9) rfl rfl (fun h5 => ?_) (fun h5 => ?_)
    · simp only [i_lt] at h5
      exact g_retV hEnd (gx gp_8 (w := 0x18) rfl (by decide) rfl) ⟨rfl, Or.inl ⟨rfl, by omega, by omega⟩⟩ (by show kc ≤ kc + 1; omega) (by show ks ≤ ks + 11; omega)
    · simp only [i_lt] at h5
      exact g_throw hEnd (gx gp_8 (w := 0x1000038) rfl (by decide) rfl) (x := 1) rfl ⟨rfl, Or.inr ⟨rfl, by omega⟩⟩ (by show kc + 1 ≤ kc + 1; omega) (by show ks + 6 ≤ ks + 11; omega) (by decide) (by decide)

theorem cc_chkR  : BodyN SSX TBL g0 CLS bl xs l D_14 8 120 1 11 [.int a, .int lo, .int hi] hs (fun kd r h2 => hs = h2 ∧ ((kd = 0 ∧ lo.toInt ≤ a.toInt ∧ a.toInt ≤ hi.toInt) ∨ (kd = 3 ∧ ¬ (lo.toInt ≤ a.toInt ∧ a.toInt ≤ hi.toInt)))) := by
  intro wp p e R sW m args below meth cW Q kc0 ks0 kc ks act hf hl hc hsl hEnd
  have hf : 8 ≤ R.frames := hf
  have hl : 120 ≤ R.locals := hl
  show WpN (gp g0 wp) CLS p l e R sW m args below meth cW Q D_14.2.2.1 kc0 ks0 0 [some (.int a), some (.int lo), some (.int hi)] (hs, kc, ks) []
  refine g_loadI act (gx gp_14 (w := 0x102) rfl (by decide) rfl) (a := 0) (n := 1) rfl rfl rfl ?_
  refine g_loadI act (gx gp_14 (w := 0x1000202) rfl (by decide) rfl) (a := 1) (n := 2) rfl rfl rfl ?_
  refine g_icmpLt act (gx gp_14 (w := 0xa000520) rfl (by decide) rfl) (tgt := 10) (n := 5) rfl rfl (fun h3 => ?_) (fun h3 => ?_)
  · simp only [i_lt] at h3
    exact g_throw hEnd (gx gp_14 (w := 0x2000038) rfl (by decide) rfl) (x := 2) rfl ⟨rfl, Or.inr ⟨rfl, by omega⟩⟩ (by show kc + 1 ≤ kc + 1; omega) (by show ks + 6 ≤ ks + 11; omega) (by decide) (by decide)
  · simp only [i_lt] at h3
    refine g_loadI act (gx gp_14 (w := 0x602) rfl (by decide) rfl) (a := 0) (n := 6) rfl rfl rfl ?_
    refine g_loadI act (gx gp_14 (w := 0x2000702) rfl (by decide) rfl) (a := 2) (n := 7) rfl rfl rfl ?_
    refine g_icmpLe act (gx gp_14 (w := 0x15000a3c) rfl (by decide) rfl) (tgt := 21) (n := 10) rfl rfl (fun h6 => ?_) (fun h6 => ?_)
    · simp only [i_le] at h6
      exact g_retV hEnd (gx gp_14 (w := 0x18) rfl (by decide) rfl) ⟨rfl, Or.inl ⟨rfl, by omega, by omega⟩⟩ (by show kc ≤ kc + 1; omega) (by show ks ≤ ks + 11; omega)
    · simp only [i_le] at h6
      exact g_throw hEnd (gx gp_14 (w := 0x2000038) rfl (by decide) rfl) (x := 2) rfl ⟨rfl, Or.inr ⟨rfl, by omega⟩⟩ (by show kc + 1 ≤ kc + 1; omega) (by show ks + 6 ≤ ks + 11; omega) (by decide) (by decide)

theorem cc_chk0 (hk : shp hs 0 = some (0, 7)) (e1 : rd hs 0 6 = .ref g) (hk2 : shp hs g = some (4, 18)) (e2 : rd hs g 0 = .int n9) : BodyN SSX TBL g0 CLS bl xs l D_11 9 141 1 11 [.ref 0, .int i] hs (fun kd r h2 => hs = h2 ∧ ((kd = 0 ∧ 0 ≤ i.toInt ∧ i.toInt < n9.toInt) ∨ (kd = 2 ∧ ¬ (0 ≤ i.toInt ∧ i.toInt < n9.toInt)))) := by
  intro wp p e R sW m args below meth cW Q kc0 ks0 kc ks act hf hl hc hsl hEnd
  have hf : 9 ≤ R.frames := hf
  have hl : 141 ≤ R.locals := hl
  show WpN (gp g0 wp) CLS p l e R sW m args below meth cW Q D_11.2.2.1 kc0 ks0 0 [some (.ref 0), some (.int i)] (hs, kc, ks) []
  refine g_loadI act (gx gp_11 (w := 0x1000102) rfl (by decide) rfl) (a := 1) (n := 1) rfl rfl rfl ?_
  refine g_loadA act (gx gp_11 (w := 0x203) rfl (by decide) rfl) (a := 0) (n := 2) rfl rfl rfl ?_
  refine r_getf act (gx gp_11 (w := 0x3000180000504) rfl (by decide) rfl) (n := 5) (ci := 0) (j := 6) (N := 7) rfl rfl rfl hk (by decide) (v := .ref g) e1 ?_
  refine r_getf act (gx gp_11 (w := 0x4000804) rfl (by decide) rfl) (n := 8) (ci := 4) (j := 0) (N := 18) rfl rfl rfl hk2 (by decide) (v := .int n9) e2 ?_
  refine n_call tb_pres act hEnd (gx (P := G_call) gp_11 (w := 0x822000008000b0f) rfl (by decide) rfl) (d' := D_8) rfl (as := [.int i, .int n9]) (rest := []) cc_chkI (show (2 : Nat) = fb 0x822000008000b0f % 16 by decide) (by show (2 : Nat) ≤ 2; decide) (fun q => absurd q (by decide)) (by omega) (by show 8 + (2 + 11) + 120 ≤ R.locals; omega) (by show (0 : Nat) ≤ 8; decide) (by show kc + 1 ≤ _; omega) (by show ks + 11 ≤ _; omega) (fun r9 hs9 hpo hr9 => ?_) (fun x9 hs9 hx9 hpo => ?_)
  · obtain rfl : r9 = none := hr9.elim (fun q => q.2) (fun q => absurd rfl q.1)
    obtain ⟨rfl, hq⟩ := hpo
    obtain ⟨-, q1, q2⟩ := hq.resolve_right (fun z => absurd z.1 (by decide))
    show WpN (gp g0 wp) CLS p l e R sW m args below meth cW Q D_11.2.2.1 kc0 ks0 11 [some (.ref 0), some (.int i)] (hs, kc + 1, ks + 11) []
    exact g_retV hEnd (gx gp_11 (w := 0x18) rfl (by decide) rfl) ⟨rfl, Or.inl ⟨rfl, q1, q2⟩⟩ (by show kc + 1 ≤ kc + 1; omega) (by show ks + 11 ≤ ks + 11; omega)
  · obtain ⟨rfl, hq⟩ := hpo
    obtain ⟨hx1, hqn⟩ := hq.resolve_left (fun z => by omega)
    obtain rfl : x9 = 1 := by omega
    refine Or.inr ⟨rfl, ⟨rfl, Or.inr ⟨rfl, hqn⟩⟩, by show kc + 1 ≤ kc + 1; omega, by show ks + 11 ≤ ks + 11; omega⟩

theorem cc_chk1 (hk : shp hs 0 = some (0, 7)) (e1 : rd hs 0 6 = .ref g) (hk2 : shp hs g = some (4, 18)) (e2 : rd hs g 1 = .int n9) : BodyN SSX TBL g0 CLS bl xs l D_9 9 141 1 11 [.ref 0, .int i] hs (fun kd r h2 => hs = h2 ∧ ((kd = 0 ∧ 0 ≤ i.toInt ∧ i.toInt < n9.toInt) ∨ (kd = 2 ∧ ¬ (0 ≤ i.toInt ∧ i.toInt < n9.toInt)))) := by
  intro wp p e R sW m args below meth cW Q kc0 ks0 kc ks act hf hl hc hsl hEnd
  have hf : 9 ≤ R.frames := hf
  have hl : 141 ≤ R.locals := hl
  show WpN (gp g0 wp) CLS p l e R sW m args below meth cW Q D_9.2.2.1 kc0 ks0 0 [some (.ref 0), some (.int i)] (hs, kc, ks) []
  refine g_loadI act (gx gp_9 (w := 0x1000102) rfl (by decide) rfl) (a := 1) (n := 1) rfl rfl rfl ?_
  refine g_loadA act (gx gp_9 (w := 0x203) rfl (by decide) rfl) (a := 0) (n := 2) rfl rfl rfl ?_
  refine r_getf act (gx gp_9 (w := 0x3000180000504) rfl (by decide) rfl) (n := 5) (ci := 0) (j := 6) (N := 7) rfl rfl rfl hk (by decide) (v := .ref g) e1 ?_
  refine r_getf act (gx gp_9 (w := 0x44000804) rfl (by decide) rfl) (n := 8) (ci := 4) (j := 1) (N := 18) rfl rfl rfl hk2 (by decide) (v := .int n9) e2 ?_
  refine n_call tb_pres act hEnd (gx (P := G_call) gp_9 (w := 0x822000008000b0f) rfl (by decide) rfl) (d' := D_8) rfl (as := [.int i, .int n9]) (rest := []) cc_chkI (show (2 : Nat) = fb 0x822000008000b0f % 16 by decide) (by show (2 : Nat) ≤ 2; decide) (fun q => absurd q (by decide)) (by omega) (by show 8 + (2 + 11) + 120 ≤ R.locals; omega) (by show (0 : Nat) ≤ 8; decide) (by show kc + 1 ≤ _; omega) (by show ks + 11 ≤ _; omega) (fun r9 hs9 hpo hr9 => ?_) (fun x9 hs9 hx9 hpo => ?_)
  · obtain rfl : r9 = none := hr9.elim (fun q => q.2) (fun q => absurd rfl q.1)
    obtain ⟨rfl, hq⟩ := hpo
    obtain ⟨-, q1, q2⟩ := hq.resolve_right (fun z => absurd z.1 (by decide))
    show WpN (gp g0 wp) CLS p l e R sW m args below meth cW Q D_9.2.2.1 kc0 ks0 11 [some (.ref 0), some (.int i)] (hs, kc + 1, ks + 11) []
    exact g_retV hEnd (gx gp_9 (w := 0x18) rfl (by decide) rfl) ⟨rfl, Or.inl ⟨rfl, q1, q2⟩⟩ (by show kc + 1 ≤ kc + 1; omega) (by show ks + 11 ≤ ks + 11; omega)
  · obtain ⟨rfl, hq⟩ := hpo
    obtain ⟨hx1, hqn⟩ := hq.resolve_left (fun z => by omega)
    obtain rfl : x9 = 1 := by omega
    refine Or.inr ⟨rfl, ⟨rfl, Or.inr ⟨rfl, hqn⟩⟩, by show kc + 1 ≤ kc + 1; omega, by show ks + 11 ≤ ks + 11; omega⟩

theorem cc_chk2 (hk : shp hs 0 = some (0, 7)) (e1 : rd hs 0 6 = .ref g) (hk2 : shp hs g = some (4, 18)) (e2 : rd hs g 2 = .int n9) : BodyN SSX TBL g0 CLS bl xs l D_10 9 141 1 11 [.ref 0, .int i] hs (fun kd r h2 => hs = h2 ∧ ((kd = 0 ∧ 0 ≤ i.toInt ∧ i.toInt < n9.toInt) ∨ (kd = 2 ∧ ¬ (0 ≤ i.toInt ∧ i.toInt < n9.toInt)))) := by
  intro wp p e R sW m args below meth cW Q kc0 ks0 kc ks act hf hl hc hsl hEnd
  have hf : 9 ≤ R.frames := hf
  have hl : 141 ≤ R.locals := hl
  show WpN (gp g0 wp) CLS p l e R sW m args below meth cW Q D_10.2.2.1 kc0 ks0 0 [some (.ref 0), some (.int i)] (hs, kc, ks) []
  refine g_loadI act (gx gp_10 (w := 0x1000102) rfl (by decide) rfl) (a := 1) (n := 1) rfl rfl rfl ?_
  refine g_loadA act (gx gp_10 (w := 0x203) rfl (by decide) rfl) (a := 0) (n := 2) rfl rfl rfl ?_
  refine r_getf act (gx gp_10 (w := 0x3000180000504) rfl (by decide) rfl) (n := 5) (ci := 0) (j := 6) (N := 7) rfl rfl rfl hk (by decide) (v := .ref g) e1 ?_
  refine r_getf act (gx gp_10 (w := 0x84000804) rfl (by decide) rfl) (n := 8) (ci := 4) (j := 2) (N := 18) rfl rfl rfl hk2 (by decide) (v := .int n9) e2 ?_
  refine n_call tb_pres act hEnd (gx (P := G_call) gp_10 (w := 0x822000008000b0f) rfl (by decide) rfl) (d' := D_8) rfl (as := [.int i, .int n9]) (rest := []) cc_chkI (show (2 : Nat) = fb 0x822000008000b0f % 16 by decide) (by show (2 : Nat) ≤ 2; decide) (fun q => absurd q (by decide)) (by omega) (by show 8 + (2 + 11) + 120 ≤ R.locals; omega) (by show (0 : Nat) ≤ 8; decide) (by show kc + 1 ≤ _; omega) (by show ks + 11 ≤ _; omega) (fun r9 hs9 hpo hr9 => ?_) (fun x9 hs9 hx9 hpo => ?_)
  · obtain rfl : r9 = none := hr9.elim (fun q => q.2) (fun q => absurd rfl q.1)
    obtain ⟨rfl, hq⟩ := hpo
    obtain ⟨-, q1, q2⟩ := hq.resolve_right (fun z => absurd z.1 (by decide))
    show WpN (gp g0 wp) CLS p l e R sW m args below meth cW Q D_10.2.2.1 kc0 ks0 11 [some (.ref 0), some (.int i)] (hs, kc + 1, ks + 11) []
    exact g_retV hEnd (gx gp_10 (w := 0x18) rfl (by decide) rfl) ⟨rfl, Or.inl ⟨rfl, q1, q2⟩⟩ (by show kc + 1 ≤ kc + 1; omega) (by show ks + 11 ≤ ks + 11; omega)
  · obtain ⟨rfl, hq⟩ := hpo
    obtain ⟨hx1, hqn⟩ := hq.resolve_left (fun z => by omega)
    obtain rfl : x9 = 1 := by omega
    refine Or.inr ⟨rfl, ⟨rfl, Or.inr ⟨rfl, hqn⟩⟩, by show kc + 1 ≤ kc + 1; omega, by show ks + 11 ≤ ks + 11; omega⟩

theorem cc_chk3 (hk : shp hs 0 = some (0, 7)) (e1 : rd hs 0 6 = .ref g) (hk2 : shp hs g = some (4, 18)) (e2 : rd hs g 3 = .int n9) : BodyN SSX TBL g0 CLS bl xs l D_7 9 141 1 11 [.ref 0, .int i] hs (fun kd r h2 => hs = h2 ∧ ((kd = 0 ∧ 0 ≤ i.toInt ∧ i.toInt < n9.toInt) ∨ (kd = 2 ∧ ¬ (0 ≤ i.toInt ∧ i.toInt < n9.toInt)))) := by
  intro wp p e R sW m args below meth cW Q kc0 ks0 kc ks act hf hl hc hsl hEnd
  have hf : 9 ≤ R.frames := hf
  have hl : 141 ≤ R.locals := hl
  show WpN (gp g0 wp) CLS p l e R sW m args below meth cW Q D_7.2.2.1 kc0 ks0 0 [some (.ref 0), some (.int i)] (hs, kc, ks) []
  refine g_loadI act (gx gp_7 (w := 0x1000102) rfl (by decide) rfl) (a := 1) (n := 1) rfl rfl rfl ?_
  refine g_loadA act (gx gp_7 (w := 0x203) rfl (by decide) rfl) (a := 0) (n := 2) rfl rfl rfl ?_
  refine r_getf act (gx gp_7 (w := 0x3000180000504) rfl (by decide) rfl) (n := 5) (ci := 0) (j := 6) (N := 7) rfl rfl rfl hk (by decide) (v := .ref g) e1 ?_
  refine r_getf act (gx gp_7 (w := 0xc4000804) rfl (by decide) rfl) (n := 8) (ci := 4) (j := 3) (N := 18) rfl rfl rfl hk2 (by decide) (v := .int n9) e2 ?_
  refine n_call tb_pres act hEnd (gx (P := G_call) gp_7 (w := 0x822000008000b0f) rfl (by decide) rfl) (d' := D_8) rfl (as := [.int i, .int n9]) (rest := []) cc_chkI (show (2 : Nat) = fb 0x822000008000b0f % 16 by decide) (by show (2 : Nat) ≤ 2; decide) (fun q => absurd q (by decide)) (by omega) (by show 8 + (2 + 11) + 120 ≤ R.locals; omega) (by show (0 : Nat) ≤ 8; decide) (by show kc + 1 ≤ _; omega) (by show ks + 11 ≤ _; omega) (fun r9 hs9 hpo hr9 => ?_) (fun x9 hs9 hx9 hpo => ?_)
  · obtain rfl : r9 = none := hr9.elim (fun q => q.2) (fun q => absurd rfl q.1)
    obtain ⟨rfl, hq⟩ := hpo
    obtain ⟨-, q1, q2⟩ := hq.resolve_right (fun z => absurd z.1 (by decide))
    show WpN (gp g0 wp) CLS p l e R sW m args below meth cW Q D_7.2.2.1 kc0 ks0 11 [some (.ref 0), some (.int i)] (hs, kc + 1, ks + 11) []
    exact g_retV hEnd (gx gp_7 (w := 0x18) rfl (by decide) rfl) ⟨rfl, Or.inl ⟨rfl, q1, q2⟩⟩ (by show kc + 1 ≤ kc + 1; omega) (by show ks + 11 ≤ ks + 11; omega)
  · obtain ⟨rfl, hq⟩ := hpo
    obtain ⟨hx1, hqn⟩ := hq.resolve_left (fun z => by omega)
    obtain rfl : x9 = 1 := by omega
    refine Or.inr ⟨rfl, ⟨rfl, Or.inr ⟨rfl, hqn⟩⟩, by show kc + 1 ≤ kc + 1; omega, by show ks + 11 ≤ ks + 11; omega⟩

end CSETB

section RMBT
variable {g0 : GG} {bl : Nat} {xs : Nat → Int32} {l : Launch} {hs : List CE} {nc : Nat} {ch : Nat → Nat → Int} {c : Nat → Int} {ke : Nat}
theorem cx_remb (hTY9 : TYg g0) (h148 : 148 ≤ hs.length) (hlen : hs.length + 1 ≤ 6999999999999) (hP : GP9 hs) (hL : LSC hs nc ch) (he : CHC hs ke c) : BodyN SSX TBL g0 CLS bl xs l D_51 5 113 1 11 [.ref 0, .ref ke] hs (fun kd r h2 => kd = 0 ∧ r = none ∧ (∃ ka : Nat, LSA h2 ka (if nc = 10 then 10 else nc + 1) (RMB nc ch c)) ∧ hs.length ≤ h2.length ∧ h2.length ≤ hs.length + 1 ∧ KPR hs h2 ∧ GP9 h2 ∧ N36 h2) := by
  intro wp p e R sW m args below meth cW Q kc0 ks0 kc ks act hf hl hc hsl hEnd
  have hf : 5 ≤ R.frames := hf
  have hl : 113 ≤ R.locals := hl
  have hLh : ∀ a : Nat, rd hs 35 0 = .ref a → 148 ≤ a := fun a z => by
    obtain ⟨-, ⟨-, -, -, q, -⟩ | ⟨ka, q⟩⟩ := hL
    · have z := q.symm.trans z
      cases z
      omega
    · have z := q.2.2.2.1.symm.trans z
      cases z
      exact q.2.2.2.2.1
  obtain ⟨n9, h35, e1, hn9⟩ : ∃ x : Int32, shp hs 35 = some (10, 3) ∧ rd hs 35 1 = .int x ∧ x.toInt = (nc : Int) := by
    obtain ⟨-, ⟨q1, -, q2, -, q3⟩ | ⟨ka, q⟩⟩ := hL
    · exact ⟨0, q1, q2, by rw [q3]; rfl⟩
    · obtain ⟨x, q2, q3⟩ := q.2.2.1
      exact ⟨x, q.1, q2, q3⟩
  have h10 := hL.1
  have hfull : nc = 10 → ∃ ka : Nat, LSA hs ka 10 ch := fun z => by
    obtain ⟨-, ⟨-, -, -, -, q⟩ | ⟨ka, q⟩⟩ := hL
    · omega
    · exact ⟨ka, by rw [← z]; exact q⟩
  have t21 : ∀ (h1 : List CE) (n1 : Nat) (ch1 : Nat → Nat → Int), GP9 h1 → LSC h1 n1 ch1 → n1 ≤ 9 → CHC h1 ke c → 148 ≤ h1.length → h1.length + 1 ≤ 6999999999999 → (∀ a : Nat, rd h1 35 0 = .ref a → 148 ≤ a) → (∀ h3 : List CE, (∃ ka : Nat, LSA h3 ka (n1 + 1) (fun j => if j = n1 then c else ch1 j)) → h1.length ≤ h3.length → h3.length ≤ h1.length + 1 → KPR h1 h3 → GP9 h3 → N36 h3 → (fun (kd : Nat) (r : Option Value) (h2 : List CE) => kd = 0 ∧ r = none ∧ (∃ ka : Nat, LSA h2 ka (if nc = 10 then 10 else nc + 1) (RMB nc ch c)) ∧ hs.length ≤ h2.length ∧ h2.length ≤ hs.length + 1 ∧ KPR hs h2 ∧ GP9 h2 ∧ N36 h2) 0 none h3) → WpN (gp g0 wp) CLS p l e R sW m args below meth cW Q D_51.2.2.1 kc0 ks0 21 [some (.ref 0), some (.ref ke)] (h1, kc, ks) [] := by
    intro h1 n1 ch1 hP1 hL1 hn1 he1 h148a hlena hLa K
    have h35a : shp h1 35 = some (10, 3) := by
      obtain ⟨-, ⟨q1, -⟩ | ⟨ka, q⟩⟩ := hL1
      · exact q1
      · exact q.1
    refine g_loadA act (gx gp_51 (w := 0x1603) rfl (by decide) rfl) (a := 0) (n := 22) rfl rfl rfl ?_
    refine r_getf act (gx gp_51 (w := 0x3000100001904) rfl (by decide) rfl) (n := 25) (ci := 0) (j := 4) (N := 7) rfl rfl rfl hP1.1 (by decide) (v := .ref 35) hP1.2.2.2.2.2.1 ?_
    refine g_loadA act (gx gp_51 (w := 0x1001a03) rfl (by decide) rfl) (a := 1) (n := 26) rfl rfl rfl ?_
    refine n_call tb_pres act hEnd (gx (P := G_call) gp_51 (w := 0xb000000000000c0822000125001d0f) rfl (by decide) rfl) (d' := D_293) rfl (f' := 4) (lam' := 87) (mc := 1) (ms := 10) (as := [.ref 35, .ref ke]) (rest := []) (cx_adds hTY9 (by omega) h148a hL1 hn1 he1) (show (2 : Nat) = fb 0xb000000000000c0822000125001d0f % 16 by decide) (by show (2 : Nat) ≤ 2; decide) (fun _ => ⟨_, _, rfl, _, shp_at h35a, Or.inr (show fb 0xb000000000000c0822000125001d0f >>> 68 = 11 by decide)⟩) (by omega) (by show 8 + (2 + 11) + 87 ≤ R.locals; omega) (by show (0 : Nat) ≤ 8; decide) (by show kc + 1 ≤ _; omega) (by show ks + 10 ≤ _; omega) (fun r9 h2 hpo hr9 => ?_) (fun x9 hs9 hx9 hpo => ?_)
    · obtain ⟨-, rfl, ⟨ka2, hA2⟩, hl1, hl2, hk2⟩ := hpo
      have hk2 : KP1 h1 h2 := hk2
      have hl1 : h1.length ≤ h2.length := hl1
      have hl2 : h2.length ≤ h1.length + 1 := hl2
      have hP2 : GP9 h2 := hP1.cell (hk2 0 (by omega) (by decide) (fun a z q => by have := hLa a z; omega)) (hk2 36 (by omega) (by decide) (fun a z q => by have := hLa a z; omega))
      show WpN (gp g0 wp) CLS p l e R sW m args below meth cW Q D_51.2.2.1 kc0 ks0 29 [some (.ref 0), some (.ref ke)] (h2, kc + 1, ks + 10) [.int 1]
      refine g_pop act (gx gp_51 (w := 0x1e3f) rfl (by decide) rfl) (n := 30) rfl rfl ?_
      refine g_loadA act (gx gp_51 (w := 0x1f03) rfl (by decide) rfl) (a := 0) (n := 31) rfl rfl rfl ?_
      refine n_call tb_pres act hEnd (gx (P := G_call) gp_51 (w := 0x10000000000008081100001e00220f) rfl (by decide) rfl) (d' := D_30) rfl (f' := 0) (lam' := 0) (mc := 0) (ms := 0) (as := [.ref 0]) (rest := []) (cx_forget hP2.1 hP2.2.2.2.2.2.2.2 hP2.2.2.2.2.2.2.1) (show (1 : Nat) = fb 0x10000000000008081100001e00220f % 16 by decide) (by show (1 : Nat) ≤ 2; decide) (fun _ => ⟨_, _, rfl, _, shp_at hP2.1, Or.inr (show fb 0x10000000000008081100001e00220f >>> 68 = 1 by decide)⟩) (by omega) (by show 8 + (2 + 11) + 0 ≤ R.locals; omega) (by show (0 : Nat) ≤ 8; decide) (by show kc + 1 + 0 ≤ _; omega) (by show ks + 10 + 0 ≤ _; omega) (fun r9 h3 hpo hr9 => ?_) (fun x9 hs9 hx9 hpo => ?_)
      · obtain rfl : r9 = none := hr9.elim (fun q => q.2) (fun q => absurd rfl q.1)
        obtain ⟨-, -, f3, n3⟩ := hpo
        have hA3 := hA2.fr f3 (fun k j z => z) ⟨4, hP2.2.2.2.2.2.2.2⟩
        show WpN (gp g0 wp) CLS p l e R sW m args below meth cW Q D_51.2.2.1 kc0 ks0 34 [some (.ref 0), some (.ref ke)] (h3, kc + 1, ks + 10) []
        exact g_retV hEnd (gx gp_51 (w := 0x18) rfl (by decide) rfl) (K h3 ⟨ka2, hA3⟩ (by rw [f3.1]; exact hl1) (by rw [f3.1]; exact hl2) (fun k q1 q2 q3 q4 => (frs_cell f3 (show k < h2.length by omega) (fun j z => q3 z)).trans (hk2 k q1 q2 q4)) (hP2.fr f3 (fun j hj z => by unfold W36 at z; omega)) n3) (by show kc + 1 ≤ kc + 1; omega) (by show ks + 10 ≤ ks + 11; omega)
      · exact absurd hpo.1 (by omega)
    · exact absurd hpo.1 (by omega)
  show WpN (gp g0 wp) CLS p l e R sW m args below meth cW Q D_51.2.2.1 kc0 ks0 0 [some (.ref 0), some (.ref ke)] (hs, kc, ks) []
  refine g_loadA act (gx gp_51 (w := 0x103) rfl (by decide) rfl) (a := 0) (n := 1) rfl rfl rfl ?_
  refine r_getf act (gx gp_51 (w := 0x3000100000404) rfl (by decide) rfl) (n := 4) (ci := 0) (j := 4) (N := 7) rfl rfl rfl hP.1 (by decide) (v := .ref 35) hP.2.2.2.2.2.1 ?_
  refine n_call tb_pres act hEnd (gx (P := G_call) gp_51 (w := 0xb000000000000c041100012d00070f) rfl (by decide) rfl) (d' := D_301) rfl (f' := 0) (lam' := 0) (mc := 0) (ms := 0) (as := [.ref 35]) (rest := []) (b_siz (n9 := n9) h35 e1) (show (1 : Nat) = fb 0xb000000000000c041100012d00070f % 16 by decide) (by show (1 : Nat) ≤ 1; decide) (fun _ => ⟨_, _, rfl, _, shp_at h35, Or.inr (show fb 0xb000000000000c041100012d00070f >>> 68 = 11 by decide)⟩) (by omega) (by show 8 + (1 + 11) + 0 ≤ R.locals; omega) (by show (0 : Nat) ≤ 8; decide) (by show kc + 0 ≤ _; omega) (by show ks + 0 ≤ _; omega) (fun r9 h9 hpo hr9 => ?_) (fun x9 hs9 hx9 hpo => ?_)
  · obtain ⟨-, rfl, rfl⟩ := hpo
    show WpN (gp g0 wp) CLS p l e R sW m args below meth cW Q D_51.2.2.1 kc0 ks0 7 [some (.ref 0), some (.ref ke)] (hs, kc, ks) [.int n9]
    refine g_constI act (gx gp_51 (w := 0x40000005400000051000000000901) rfl (by decide) rfl) (n := 9) (x := (10 : Int32)) (by decide) rfl ?_
    refine g_icmpLt act (gx gp_51 (w := 0x15000c20) rfl (by decide) rfl) (tgt := 21) (n := 12) rfl rfl (fun h3 => ?_) (fun h3 => ?_)
    · simp only [i_lt, show (10 : Int32).toInt = 10 from by decide] at h3
      exact t21 hs nc ch hP hL (by omega) he h148 hlen hLh (fun h3 y1 y0 y2 y3 y4 y5 => ⟨rfl, rfl, by
        obtain ⟨ka, y⟩ := y1
        rw [if_neg (show ¬ nc = 10 by omega)]
        exact ⟨ka, y.cong (fun j hj => if_neg (show ¬ nc = 10 by omega))⟩, y0, y2, y3, y4, y5⟩)
    · simp only [i_lt, show (10 : Int32).toInt = 10 from by decide] at h3
      refine g_loadA act (gx gp_51 (w := 0xd03) rfl (by decide) rfl) (a := 0) (n := 13) rfl rfl rfl ?_
      refine r_getf act (gx gp_51 (w := 0x3000100001004) rfl (by decide) rfl) (n := 16) (ci := 0) (j := 4) (N := 7) rfl rfl rfl hP.1 (by decide) (v := .ref 35) hP.2.2.2.2.2.1 ?_
      refine g_constI act (gx gp_51 (w := 0x40000000400000001000000001101) rfl (by decide) rfl) (n := 17) (x := (0 : Int32)) (by decide) rfl ?_
      obtain ⟨ka0, hA10⟩ := hfull (by omega)
      refine n_call tb_pres act hEnd (gx (P := G_call) gp_51 (w := 0xb000000000000c102200012c00140f) rfl (by decide) rfl) (d' := D_300) rfl (f' := 3) (lam' := 90) (mc := 0) (ms := 0) (as := [.ref 35, .int (0 : Int32)]) (rest := []) (cx_rm0 hA10) (show (2 : Nat) = fb 0xb000000000000c102200012c00140f % 16 by decide) (by show (2 : Nat) ≤ 4; decide) (fun _ => ⟨_, _, rfl, _, shp_at h35, Or.inr (show fb 0xb000000000000c102200012c00140f >>> 68 = 11 by decide)⟩) (by omega) (by show 8 + (4 + 11) + 90 ≤ R.locals; omega) (by show (0 : Nat) ≤ 8; decide) (by show kc + 0 ≤ _; omega) (by show ks + 0 ≤ _; omega) (fun r9 h1 hpo hr9 => ?_) (fun x9 hs9 hx9 hpo => ?_)
      · obtain ⟨-, ⟨x9, rfl⟩, hA9, f1⟩ := hpo
        show WpN (gp g0 wp) CLS p l e R sW m args below meth cW Q D_51.2.2.1 kc0 ks0 20 [some (.ref 0), some (.ref ke)] (h1, kc, ks) [.ref x9]
        refine g_pop act (gx gp_51 (w := 0x153f) rfl (by decide) rfl) (n := 21) rfl rfl ?_
        exact t21 h1 9 _ (hP.fr f1 (fun j _ z => by unfold WLs at z; have := hA9.2.2.2.2.1; omega)) ⟨by decide, Or.inr ⟨ka0, hA9⟩⟩ (by decide) (he.same (f1.2.1 ke) (fun j => f1.2.2 ke j (fun z => by
          rcases z with z | z
          · exact lsc_n35 h35 he.1 z
          · exact lsc_ne hA10.2.2.2.2.2.1 he.1 z.symm))) (by rw [f1.1]; exact h148) (by rw [f1.1]; exact hlen) (fun a z => by
          have z := hA9.2.2.2.1.symm.trans z
          cases z
          exact hA9.2.2.2.2.1) (fun h3 y1 y0 y2 y3 y4 y5 => ⟨rfl, rfl, by
          obtain ⟨ka, y⟩ := y1
          rw [if_pos (show nc = 10 by omega)]
          exact ⟨ka, y.cong (fun j hj => if_pos (show nc = 10 by omega))⟩, by rw [← f1.1]; exact y0, by rw [← f1.1]; exact y2, fun k q1 q2 q3 q4 => (y3 k (by rw [f1.1]; exact q1) q2 q3 (fun a z => by
          have z := hA9.2.2.2.1.symm.trans z
          cases z
          exact q4 _ hA10.2.2.2.1)).trans (frs_cell f1 q1 (fun j z => by
          rcases z with z | z
          · exact q2 z
          · exact q4 _ hA10.2.2.2.1 z)), y4, y5⟩)
      · exact absurd hpo.1 (by omega)
  · exact absurd hpo.1 (by omega)


end RMBT

section CSETC
variable {g0 : GG} {bl : Nat} {xs : Nat → Int32} {l : Launch} {hs : List CE} {tx : Nat → Int} {L ec ep : Int} {g : Nat} {F : Nat → Nat → Int32} {fv gv : Nat → Int} {o : Int} {nl ng nr n nc : Nat} {ch : Nat → Nat → Int} {i k v : Int32}

theorem cx_setLimit (hTY9 : TYg g0) (h148 : 148 ≤ hs.length) (hlen : hs.length + 3 ≤ 6999999999999) (hC : CLN hs tx L ec ep g F fv gv o nl ng nr n) (hT : TRS hs fv o nl) (hL : LSC hs nc ch) : BodyN SSX TBL g0 CLS bl xs l D_59 10 182 5 55 [.ref 0, .int i, .int v] hs (fun kd r h2 => (kd = 0 ∧ ((0 ≤ i.toInt ∧ i.toInt < (nl : Int)) ∧ (1 ≤ v.toInt ∧ v.toInt ≤ 200)) ∧ (∃ x : Int32, r = some (.int x) ∧ x.toInt = gv (i.toInt.toNat)) ∧ COk hs h2 tx L ec ep g fv (wLim gv i.toInt.toNat v.toInt) o nl ng nr n (if nc = 10 then 10 else nc + 1) (RMB nc ch (F5 0 i.toInt (-1) (gv i.toInt.toNat) (gv (6 + i.toInt.toNat))))) ∨ (kd = 2 ∧ r = none ∧ ¬ (0 ≤ i.toInt ∧ i.toInt < (nl : Int)) ∧ hs = h2) ∨ (kd = 3 ∧ r = none ∧ (0 ≤ i.toInt ∧ i.toInt < (nl : Int)) ∧ ¬ (1 ≤ v.toInt ∧ v.toInt ≤ 200) ∧ hs = h2)) := by
  intro wp p e R sW m args below meth cW Q kc0 ks0 kc ks act hf hl hc hsl hEnd
  have hf : 10 ≤ R.frames := hf
  have hl : 182 ≤ R.locals := hl
  have hK0 : KPS g hs hs := KPS.rf hs
  obtain ⟨w0, w1, w2, w3, w4, w5, w6, w7, w8, w9, wa, wb, wc, wd, we⟩ := id hC.2.2.2.2.2.1
  have a0 := hC.2.2.2.2.1.1
  have a1 := hC.2.2.2.2.1.2.1
  have a2 := hC.2.2.2.2.1.2.2.1
  have a3 := hC.2.2.2.2.1.2.2.2.1
  have a5 := hC.2.2.2.2.1.2.2.2.2.2.1
  show WpN (gp g0 wp) CLS p l e R sW m args below meth cW Q D_59.2.2.1 kc0 ks0 0 [some (.ref 0), some (.int i), some (.int v), none] (hs, kc, ks) []
  refine g_loadA act (gx gp_59 (w := 0x103) rfl (by decide) rfl) (a := 0) (n := 1) rfl rfl rfl ?_
  refine g_loadI act (gx gp_59 (w := 0x1000202) rfl (by decide) rfl) (a := 1) (n := 2) rfl rfl rfl ?_
  refine n_call tb_pres act hEnd (gx (P := G_call) gp_59 (w := 0x10000000000008082200000a00050f) rfl (by decide) rfl) (d' := D_10) rfl (as := [.ref 0, .int i]) (rest := []) (cc_chk2 hC.1.1 hC.2.1 hC.2.2.2.1.1.2.1 (hC.2.2.2.1.2 0 2 (Or.inl ⟨rfl, by decide⟩))) (show (2 : Nat) = fb 0x10000000000008082200000a00050f % 16 by decide) (by show (2 : Nat) ≤ 2; decide) (fun _ => ⟨_, _, rfl, _, shp_at hC.1.1, Or.inr (show fb 0x10000000000008082200000a00050f >>> 68 = 1 by decide)⟩) (by omega) (by show 8 + (2 + 11) + 141 ≤ R.locals; omega) (by show (0 : Nat) ≤ 8; decide) (by show kc + 1 ≤ _; omega) (by show ks + 11 ≤ _; omega) (fun r9 hs9 hpo hr9 => ?_) (fun x9 hs9 hx9 hpo => ?_)
  · obtain rfl : r9 = none := hr9.elim (fun q => q.2) (fun q => absurd rfl q.1)
    obtain ⟨rfl, hq1⟩ := hpo
    obtain ⟨-, q1a, q1b⟩ := hq1.resolve_right (fun z => absurd z.1 (by decide))
    show WpN (gp g0 wp) CLS p l e R sW m args below meth cW Q D_59.2.2.1 kc0 ks0 5 [some (.ref 0), some (.int i), some (.int v), none] (hs, kc + 1, ks + 11) []
    refine g_loadI act (gx gp_59 (w := 0x2000602) rfl (by decide) rfl) (a := 2) (n := 6) rfl rfl rfl ?_
    refine g_constI act (gx gp_59 (w := 0x40000000c00000009000000000701) rfl (by decide) rfl) (n := 7) (x := (1 : Int32)) (by decide) rfl ?_
    refine g_constI act (gx gp_59 (w := 0x40000064400000641000000000a01) rfl (by decide) rfl) (n := 10) (x := (200 : Int32)) (by decide) rfl ?_
    refine n_call tb_pres act hEnd (gx (P := G_call) gp_59 (w := 0xc3300000e000d0f) rfl (by decide) rfl) (d' := D_14) rfl (as := [.int v, .int (1 : Int32), .int (200 : Int32)]) (rest := []) cc_chkR (show (3 : Nat) = fb 0xc3300000e000d0f % 16 by decide) (by show (3 : Nat) ≤ 3; decide) (fun q => absurd q (by decide)) (by omega) (by show 8 + (3 + 11) + 120 ≤ R.locals; omega) (by show (0 : Nat) ≤ 8; decide) (by show kc + 1 + 1 ≤ _; omega) (by show ks + 11 + 11 ≤ _; omega) (fun r9 hs9 hpo hr9 => ?_) (fun x9 hs9 hx9 hpo => ?_)
    · obtain rfl : r9 = none := hr9.elim (fun q => q.2) (fun q => absurd rfl q.1)
      obtain ⟨rfl, hq2⟩ := hpo
      obtain ⟨-, q2a, q2b⟩ := hq2.resolve_right (fun z => absurd z.1 (by decide))
      have q2a : (1 : Int) ≤ Int32.toInt v := q2a
      have q2b : Int32.toInt v ≤ (200 : Int) := q2b
      show WpN (gp g0 wp) CLS p l e R sW m args below meth cW Q D_59.2.2.1 kc0 ks0 13 [some (.ref 0), some (.int i), some (.int v), none] (hs, kc + 1 + 1, ks + 11 + 11) []
      refine g_loadA act (gx gp_59 (w := 0xe03) rfl (by decide) rfl) (a := 0) (n := 14) rfl rfl rfl ?_
      refine r_getf act (gx gp_59 (w := 0x3000180001104) rfl (by decide) rfl) (n := 17) (ci := 0) (j := 6) (N := 7) rfl rfl rfl hC.1.1 (by decide) (v := .ref g) hC.2.1 ?_
      refine r_getf act (gx gp_59 (w := 0x3000204001404) rfl (by decide) rfl) (n := 20) (ci := 4) (j := 8) (N := 18) rfl rfl rfl hC.2.2.2.1.1.2.1 (by decide) (v := .ref (g + 3)) (hC.2.2.2.1.1.2.2.1 (8, 3, 32, 6) (by decide)).1 ?_
      refine g_loadI act (gx gp_59 (w := 0x1001502) rfl (by decide) rfl) (a := 1) (n := 21) rfl rfl rfl ?_
      refine r_iald act (gx gp_59 (w := 0x161a) rfl (by decide) rfl) (n := 22) (N := 6) rfl (hC.2.2.2.1.1.2.2.1 (8, 3, 32, 6) (by decide)).2 (j := i.toInt.toNat) (by omega) (by omega) (v := .int (F 3 i.toInt.toNat)) (hC.2.2.2.1.2 3 i.toInt.toNat (by unfold gpl; omega)) ?_
      refine g_storeI act (gx gp_59 (w := 0x3001710) rfl (by decide) rfl) (a := 3) (n := 23) rfl rfl (L2 := [some (.ref 0), some (.int i), some (.int v), some (.int (F 3 i.toInt.toNat))]) rfl ?_
      refine g_loadA act (gx gp_59 (w := 0x1803) rfl (by decide) rfl) (a := 0) (n := 24) rfl rfl rfl ?_
      have ap1 : ∀ k, k < hs.length → (hs ++ [((8, 5, fun j => dv (ftX 8 j)) : CE)])[k]? = hs[k]? := fun k q => List.getElem?_append_left q
      have sn1 : shp (hs ++ [((8, 5, fun j => dv (ftX 8 j)) : CE)]) hs.length = some (8, 5) := shp_newc hs _
      have ln1 : (hs ++ [((8, 5, fun j => dv (ftX 8 j)) : CE)]).length = hs.length + 1 := by rw [List.length_append]; rfl
      refine r_new act (gx gp_59 (w := 0x5000008001b28) rfl (by decide) rfl) (n := 27) (ci := 8) (N := 5) (by decide) (by decide) (by omega) (by show kc + 1 + 1 + 1 ≤ _; omega) (by show ks + 11 + 11 + 5 ≤ _; omega) rfl ?_
      generalize (hs ++ [((8, 5, fun j => dv (ftX 8 j)) : CE)]) = h1 at *
      have hC1 := hC.app ap1
      refine g_dup act (gx gp_59 (w := 0x1c22) rfl (by decide) rfl) (n := 28) rfl rfl ?_
      refine g_constI act (gx gp_59 (w := 0x40000000400000001000000001d01) rfl (by decide) rfl) (n := 29) (x := (0 : Int32)) (by decide) rfl ?_
      refine g_loadI act (gx gp_59 (w := 0x1001e02) rfl (by decide) rfl) (a := 1) (n := 30) rfl rfl rfl ?_
      refine g_constI act (gx gp_59 (w := 0x3fffffffbfffffff9000000001f01) rfl (by decide) rfl) (n := 31) (x := (-1 : Int32)) (by decide) rfl ?_
      refine g_loadI act (gx gp_59 (w := 0x3002002) rfl (by decide) rfl) (a := 3) (n := 32) rfl rfl rfl ?_
      refine g_loadA act (gx gp_59 (w := 0x2103) rfl (by decide) rfl) (a := 0) (n := 33) rfl rfl rfl ?_
      refine r_getf act (gx gp_59 (w := 0x3000180002404) rfl (by decide) rfl) (n := 36) (ci := 0) (j := 6) (N := 7) rfl rfl rfl hC1.1.1 (by decide) (v := .ref g) hC1.2.1 ?_
      refine r_getf act (gx gp_59 (w := 0x3000244002704) rfl (by decide) rfl) (n := 39) (ci := 4) (j := 9) (N := 18) rfl rfl rfl hC1.2.2.2.1.1.2.1 (by decide) (v := .ref (g + 4)) (hC1.2.2.2.1.1.2.2.1 (9, 4, 32, 6) (by decide)).1 ?_
      refine g_loadI act (gx gp_59 (w := 0x1002802) rfl (by decide) rfl) (a := 1) (n := 40) rfl rfl rfl ?_
      refine r_iald act (gx gp_59 (w := 0x291a) rfl (by decide) rfl) (n := 41) (N := 6) rfl (hC1.2.2.2.1.1.2.2.1 (9, 4, 32, 6) (by decide)).2 (j := i.toInt.toNat) (by omega) (by omega) (v := .int (F 4 i.toInt.toNat)) (hC1.2.2.2.1.2 4 i.toInt.toNat (by unfold gpl; omega)) ?_
      refine n_call tb_pres act hEnd (gx (P := G_call) gp_59 (w := 0x81866000045002c0f) rfl (by decide) rfl) (d' := D_69) rfl (f' := 1) (lam' := 12) (mc := 0) (ms := 0) (as := [.ref hs.length, .int (0 : Int32), .int i, .int (-1 : Int32), .int (F 3 i.toInt.toNat), .int (F 4 i.toInt.toNat)]) (rest := [.ref hs.length, .ref 0]) (cx_chg sn1) (show (6 : Nat) = fb 0x81866000045002c0f % 16 by decide) (by show (6 : Nat) ≤ 6; decide) (fun _ => ⟨_, _, rfl, _, shp_at sn1, Or.inl (show fb 0x81866000045002c0f >>> 68 = 0 by decide)⟩) (by omega) (by show 8 + (6 + 11) + 12 ≤ R.locals; omega) (by show (2 : Nat) ≤ 8; decide) (by show kc + 1 + 1 + 1 + 0 ≤ _; omega) (by show ks + 11 + 11 + 5 + 0 ≤ _; omega) (fun r9 h2 hpo hr9 => ?_) (fun x9 hs9 hx9 hpo => ?_)
      · obtain rfl : r9 = none := hr9.elim (fun q => q.2) (fun q => absurd rfl q.1)
        obtain ⟨-, -, he2, f2⟩ := hpo
        have f2 : FrS (WK1 hs.length) h1 h2 := f2
        have ap2 : ∀ k, k < hs.length → h2[k]? = hs[k]? := fun k q => (frs_cell f2 (by omega) (fun j z => by unfold WK1 at z; omega)).trans (ap1 k q)
        have ln2 : h2.length = hs.length + 1 := f2.1.trans ln1
        have hC2 := hC.app ap2
        have hL2 := hL.app ap2
        have l148 : 148 ≤ h2.length := by omega
        have l7 : h2.length + 1 ≤ 6999999999999 := by omega
        rw [show (0 : Int32).toInt = 0 from by decide, show (-1 : Int32).toInt = -1 from by decide, show (F 3 i.toInt.toNat).toInt = gv i.toInt.toNat from (hC.2.2.2.2.1.2.2.2.2.2.2.2.2.1 i.toInt.toNat (by omega)).trans (congrArg gv (Nat.zero_add _)), show (F 4 i.toInt.toNat).toInt = gv (6 + i.toInt.toNat) from (hC.2.2.2.2.1.2.2.2.2.2.2.2.2.2.1 i.toInt.toNat (by omega))] at he2
        show WpN (gp g0 wp) CLS p l e R sW m args below meth cW Q D_59.2.2.1 kc0 ks0 44 [some (.ref 0), some (.int i), some (.int v), some (.int (F 3 i.toInt.toNat))] (h2, kc + 1 + 1 + 1, ks + 11 + 11 + 5) [.ref hs.length, .ref 0]
        refine n_call tb_pres act hEnd (gx (P := G_call) gp_59 (w := 0x100000000000080822000033002f0f) rfl (by decide) rfl) (d' := D_51) rfl (f' := 5) (lam' := 113) (mc := 1) (ms := 11) (as := [.ref 0, .ref hs.length]) (rest := []) (cx_remb hTY9 l148 l7 hC2.1 hL2 he2) (show (2 : Nat) = fb 0x100000000000080822000033002f0f % 16 by decide) (by show (2 : Nat) ≤ 2; decide) (fun _ => ⟨_, _, rfl, _, shp_at hC2.1.1, Or.inr (show fb 0x100000000000080822000033002f0f >>> 68 = 1 by decide)⟩) (by omega) (by show 8 + (2 + 11) + 113 ≤ R.locals; omega) (by show (0 : Nat) ≤ 8; decide) (by show kc + 1 + 1 + 1 + 1 ≤ _; omega) (by show ks + 11 + 11 + 5 + 11 ≤ _; omega) (fun r9 h3 hpo hr9 => ?_) (fun x9 hs9 hx9 hpo => ?_)
        · obtain rfl : r9 = none := hr9.elim (fun q => q.2) (fun q => absurd rfl q.1)
          obtain ⟨-, -, ⟨ka, hA3⟩, lo3, hi3, k3, P3, hN3⟩ := hpo
          have hi3 : h3.length ≤ h2.length + 1 := hi3
          have lo3 : h2.length ≤ h3.length := lo3
          have k3 : KPR h2 h3 := k3
          have hC3 := hC2.rmb hL2 (by omega) k3 P3
          have eq3 := hC2.rmb_eq hL2 (by omega) k3
          have hT3 : TRS h3 fv o nl := (hT.cells (rd_of (ap2 1 (hC.lt (by omega))) 0) (rd_of (ap2 18 (hC.lt (by omega))) 0)).cells (rd_of (eq3 1 (by omega)) 0) (rd_of (eq3 18 (by omega)) 0)
          have hK3 : KPS g hs h3 := fun k q1 q2 q3 q4 q5 q7 q6 => (k3 k (by omega) q2 q3 (fun a z => q6 a ((((rd_of (ap2 35 (shp_lt hL.s35)) 0).trans rfl)).symm.trans z))).trans ((ap2 k (by omega)).trans (hK0 k q1 q2 q3 q4 q5 q7 q6))
          show WpN (gp g0 wp) CLS p l e R sW m args below meth cW Q D_59.2.2.1 kc0 ks0 47 [some (.ref 0), some (.int i), some (.int v), some (.int (F 3 i.toInt.toNat))] (h3, kc + 1 + 1 + 1 + 1, ks + 11 + 11 + 5 + 11) []
          refine g_loadA act (gx gp_59 (w := 0x3003) rfl (by decide) rfl) (a := 0) (n := 48) rfl rfl rfl ?_
          refine r_getf act (gx gp_59 (w := 0x3000180003304) rfl (by decide) rfl) (n := 51) (ci := 0) (j := 6) (N := 7) rfl rfl rfl hC3.1.1 (by decide) (v := .ref g) hC3.2.1 ?_
          refine r_getf act (gx gp_59 (w := 0x3000204003604) rfl (by decide) rfl) (n := 54) (ci := 4) (j := 8) (N := 18) rfl rfl rfl hC3.2.2.2.1.1.2.1 (by decide) (v := .ref (g + 3)) (hC3.2.2.2.1.1.2.2.1 (8, 3, 32, 6) (by decide)).1 ?_
          refine g_loadI act (gx gp_59 (w := 0x1003702) rfl (by decide) rfl) (a := 1) (n := 55) rfl rfl rfl ?_
          refine g_loadI act (gx gp_59 (w := 0x2003802) rfl (by decide) rfl) (a := 2) (n := 56) rfl rfl rfl ?_
          refine r_iast act (gx gp_59 (w := 0x3924) rfl (by decide) rfl) (n := 57) (N := 6) rfl (hC3.2.2.2.1.1.2.2.1 (8, 3, 32, 6) (by decide)).2 (j := i.toInt.toNat) (by omega) (by omega) ?_
          have hC4 : CLN (wr h3 (g + 3) i.toInt.toNat (.int v)) tx L ec ep g (upF F 3 i.toInt.toNat v) fv (upI gv (i.toInt.toNat) (Int32.toInt v)) o nl ng nr n := hC3.pw (by unfold gpl; omega) (hC3.2.2.2.2.1.lim (x := v) (i9 := i.toInt.toNat) (by omega)) hC3.2.2.2.2.2.1
          have hA4 := hA3.gwr (v := .int v) hC3.2.2.2.1.1 (show gpl 3 i.toInt.toNat from (by unfold gpl; omega))
          have hK4 := hK3.gwr (a := 3) (j := i.toInt.toNat) (v := .int v) (by omega)
          have ln4 : (wr h3 (g + 3) i.toInt.toNat (.int v)).length = h3.length := wr_len _ _ _ _
          have hN4 := hN3.gwr (a := 3) (j := i.toInt.toNat) (v := .int v) hC3.g0
          have hT4 := hT3.gwr (a := 3) (j := i.toInt.toNat) (v := .int v) hC3.g0
          generalize (wr h3 (g + 3) i.toInt.toNat (.int v)) = h4 at *
          refine g_loadA act (gx gp_59 (w := 0x3a03) rfl (by decide) rfl) (a := 0) (n := 58) rfl rfl rfl ?_
          refine r_getf act (gx gp_59 (w := 0x3000180003d04) rfl (by decide) rfl) (n := 61) (ci := 0) (j := 6) (N := 7) rfl rfl rfl hC4.1.1 (by decide) (v := .ref g) hC4.2.1 ?_
          refine r_getf act (gx gp_59 (w := 0x3000244004004) rfl (by decide) rfl) (n := 64) (ci := 4) (j := 9) (N := 18) rfl rfl rfl hC4.2.2.2.1.1.2.1 (by decide) (v := .ref (g + 4)) (hC4.2.2.2.1.1.2.2.1 (9, 4, 32, 6) (by decide)).1 ?_
          refine g_loadI act (gx gp_59 (w := 0x1004102) rfl (by decide) rfl) (a := 1) (n := 65) rfl rfl rfl ?_
          refine g_loadA act (gx gp_59 (w := 0x4203) rfl (by decide) rfl) (a := 0) (n := 66) rfl rfl rfl ?_
          refine r_getf act (gx gp_59 (w := 0x3000180004504) rfl (by decide) rfl) (n := 69) (ci := 0) (j := 6) (N := 7) rfl rfl rfl hC4.1.1 (by decide) (v := .ref g) hC4.2.1 ?_
          refine r_getf act (gx gp_59 (w := 0x3000244004804) rfl (by decide) rfl) (n := 72) (ci := 4) (j := 9) (N := 18) rfl rfl rfl hC4.2.2.2.1.1.2.1 (by decide) (v := .ref (g + 4)) (hC4.2.2.2.1.1.2.2.1 (9, 4, 32, 6) (by decide)).1 ?_
          refine g_loadI act (gx gp_59 (w := 0x1004902) rfl (by decide) rfl) (a := 1) (n := 73) rfl rfl rfl ?_
          refine r_iald act (gx gp_59 (w := 0x4a1a) rfl (by decide) rfl) (n := 74) (N := 6) rfl (hC4.2.2.2.1.1.2.2.1 (9, 4, 32, 6) (by decide)).2 (j := i.toInt.toNat) (by omega) (by omega) (v := .int ((upF F 3 i.toInt.toNat v) 4 i.toInt.toNat)) (hC4.2.2.2.1.2 4 i.toInt.toNat (by unfold gpl; omega)) ?_
          refine g_loadI act (gx gp_59 (w := 0x2004b02) rfl (by decide) rfl) (a := 2) (n := 75) rfl rfl rfl ?_
          refine n_mmax act (gx gp_59 (w := 0x4e4a) rfl (by decide) rfl) (by omega) (by omega) (by show (2 : Nat) ≤ 8; decide) (by show kc + 1 + 1 + 1 + 1 ≤ _; omega) (by show ks + 11 + 11 + 5 + 11 ≤ _; omega) rfl ?_
          refine r_iast act (gx gp_59 (w := 0x4f24) rfl (by decide) rfl) (n := 79) (N := 6) rfl (hC4.2.2.2.1.1.2.2.1 (9, 4, 32, 6) (by decide)).2 (j := i.toInt.toNat) (by omega) (by omega) ?_
          have hC5 : CLN (wr h4 (g + 4) i.toInt.toNat (.int (if ((upF F 3 i.toInt.toNat v) 4 i.toInt.toNat) < v then v else ((upF F 3 i.toInt.toNat v) 4 i.toInt.toNat)))) tx L ec ep g (upF (upF F 3 i.toInt.toNat v) 4 i.toInt.toNat (if ((upF F 3 i.toInt.toNat v) 4 i.toInt.toNat) < v then v else ((upF F 3 i.toInt.toNat v) 4 i.toInt.toNat))) fv (upI (upI gv (i.toInt.toNat) (Int32.toInt v)) (6 + i.toInt.toNat) (Int32.toInt (if ((upF F 3 i.toInt.toNat v) 4 i.toInt.toNat) < v then v else ((upF F 3 i.toInt.toNat v) 4 i.toInt.toNat)))) o nl ng nr n := hC4.pw (by unfold gpl; omega) (hC4.2.2.2.2.1.eme (x := (if ((upF F 3 i.toInt.toNat v) 4 i.toInt.toNat) < v then v else ((upF F 3 i.toInt.toNat v) 4 i.toInt.toNat))) (i9 := i.toInt.toNat) (by omega)) hC4.2.2.2.2.2.1
          have hA5 := hA4.gwr (v := .int (if ((upF F 3 i.toInt.toNat v) 4 i.toInt.toNat) < v then v else ((upF F 3 i.toInt.toNat v) 4 i.toInt.toNat))) hC4.2.2.2.1.1 (show gpl 4 i.toInt.toNat from (by unfold gpl; omega))
          have hK5 := hK4.gwr (a := 4) (j := i.toInt.toNat) (v := .int (if ((upF F 3 i.toInt.toNat v) 4 i.toInt.toNat) < v then v else ((upF F 3 i.toInt.toNat v) 4 i.toInt.toNat))) (by omega)
          have ln5 : (wr h4 (g + 4) i.toInt.toNat (.int (if ((upF F 3 i.toInt.toNat v) 4 i.toInt.toNat) < v then v else ((upF F 3 i.toInt.toNat v) 4 i.toInt.toNat)))).length = h4.length := wr_len _ _ _ _
          have hN5 := hN4.gwr (a := 4) (j := i.toInt.toNat) (v := .int (if ((upF F 3 i.toInt.toNat v) 4 i.toInt.toNat) < v then v else ((upF F 3 i.toInt.toNat v) 4 i.toInt.toNat))) hC4.g0
          have hT5 := hT4.gwr (a := 4) (j := i.toInt.toNat) (v := .int (if ((upF F 3 i.toInt.toNat v) 4 i.toInt.toNat) < v then v else ((upF F 3 i.toInt.toNat v) 4 i.toInt.toNat))) hC4.g0
          generalize (wr h4 (g + 4) i.toInt.toNat (.int (if ((upF F 3 i.toInt.toNat v) 4 i.toInt.toNat) < v then v else ((upF F 3 i.toInt.toNat v) 4 i.toInt.toNat)))) = h5 at *
          refine g_loadI act (gx gp_59 (w := 0x3005002) rfl (by decide) rfl) (a := 3) (n := 80) rfl rfl rfl ?_
          have hE9 : (upF F 3 i.toInt.toNat v 4 i.toInt.toNat).toInt = gv (6 + i.toInt.toNat) := by
            show (if 4 = 3 ∧ _ then v else F 4 i.toInt.toNat).toInt = _
            rw [if_neg (by omega)]
            exact (hC.2.2.2.2.1.2.2.2.2.2.2.2.2.2.1 i.toInt.toNat (by omega))
          have hC9 := hC5
          rw [wLimC hE9] at hC9
          have lf1 : hs.length ≤ h5.length := by omega
          have lf2 : h5.length ≤ hs.length + 2 := by omega
          exact g_retI hEnd (gx gp_59 (w := 0x2f) rfl (by decide) rfl) (Or.inl ⟨rfl, by omega, ⟨_, rfl, (hC.2.2.2.2.1.2.2.2.2.2.2.2.2.1 i.toInt.toNat (by omega)).trans (congrArg gv (Nat.zero_add _))⟩, ⟨_, hC9⟩, hT5, ⟨ka, hA5⟩, lf1, lf2, hK5, hN5⟩) (by show kc + 1 + 1 + 1 + 1 ≤ kc + 5; omega) (by show ks + 11 + 11 + 5 + 11 ≤ ks + 55; omega)
        · exact absurd hpo.1 (by omega)
      · exact absurd hpo.1 (by omega)
    · obtain ⟨rfl, hq2⟩ := hpo
      obtain ⟨hx1, hq2n⟩ := hq2.resolve_left (fun z => by omega)
      have hq2n : ¬ ((1 : Int) ≤ Int32.toInt v ∧ Int32.toInt v ≤ (200 : Int)) := hq2n
      obtain rfl : x9 = 2 := by omega
      refine Or.inr ⟨rfl, Or.inr (Or.inr ⟨rfl, rfl, by omega, by omega, rfl⟩), by show kc + 2 ≤ kc + 5; omega, by show ks + 22 ≤ ks + 55; omega⟩
  · obtain ⟨rfl, hq1⟩ := hpo
    obtain ⟨hx1, hq1n⟩ := hq1.resolve_left (fun z => by omega)
    obtain rfl : x9 = 1 := by omega
    refine Or.inr ⟨rfl, Or.inr (Or.inl ⟨rfl, rfl, by omega, rfl⟩), by show kc + 1 ≤ kc + 5; omega, by show ks + 11 ≤ ks + 55; omega⟩

theorem cx_setCost (hTY9 : TYg g0) (h148 : 148 ≤ hs.length) (hlen : hs.length + 3 ≤ 6999999999999) (hC : CLN hs tx L ec ep g F fv gv o nl ng nr n) (hT : TRS hs fv o nl) (hL : LSC hs nc ch) : BodyN SSX TBL g0 CLS bl xs l D_57 10 182 5 55 [.ref 0, .int i, .int v] hs (fun kd r h2 => (kd = 0 ∧ ((0 ≤ i.toInt ∧ i.toInt < (ng : Int)) ∧ (0 ≤ v.toInt ∧ v.toInt ≤ 99)) ∧ (∃ x : Int32, r = some (.int x) ∧ x.toInt = gv (12 + i.toInt.toNat)) ∧ COk hs h2 tx L ec ep g fv (upI gv (12 + i.toInt.toNat) v.toInt) o nl ng nr n (if nc = 10 then 10 else nc + 1) (RMB nc ch (F5 1 i.toInt (-1) (gv (12 + i.toInt.toNat)) (-1)))) ∨ (kd = 2 ∧ r = none ∧ ¬ (0 ≤ i.toInt ∧ i.toInt < (ng : Int)) ∧ hs = h2) ∨ (kd = 3 ∧ r = none ∧ (0 ≤ i.toInt ∧ i.toInt < (ng : Int)) ∧ ¬ (0 ≤ v.toInt ∧ v.toInt ≤ 99) ∧ hs = h2)) := by
  intro wp p e R sW m args below meth cW Q kc0 ks0 kc ks act hf hl hc hsl hEnd
  have hf : 10 ≤ R.frames := hf
  have hl : 182 ≤ R.locals := hl
  have hK0 : KPS g hs hs := KPS.rf hs
  obtain ⟨w0, w1, w2, w3, w4, w5, w6, w7, w8, w9, wa, wb, wc, wd, we⟩ := id hC.2.2.2.2.2.1
  have a0 := hC.2.2.2.2.1.1
  have a1 := hC.2.2.2.2.1.2.1
  have a2 := hC.2.2.2.2.1.2.2.1
  have a3 := hC.2.2.2.2.1.2.2.2.1
  have a5 := hC.2.2.2.2.1.2.2.2.2.2.1
  show WpN (gp g0 wp) CLS p l e R sW m args below meth cW Q D_57.2.2.1 kc0 ks0 0 [some (.ref 0), some (.int i), some (.int v), none] (hs, kc, ks) []
  refine g_loadA act (gx gp_57 (w := 0x103) rfl (by decide) rfl) (a := 0) (n := 1) rfl rfl rfl ?_
  refine g_loadI act (gx gp_57 (w := 0x1000202) rfl (by decide) rfl) (a := 1) (n := 2) rfl rfl rfl ?_
  refine n_call tb_pres act hEnd (gx (P := G_call) gp_57 (w := 0x10000000000008082200000700050f) rfl (by decide) rfl) (d' := D_7) rfl (as := [.ref 0, .int i]) (rest := []) (cc_chk3 hC.1.1 hC.2.1 hC.2.2.2.1.1.2.1 (hC.2.2.2.1.2 0 3 (Or.inl ⟨rfl, by decide⟩))) (show (2 : Nat) = fb 0x10000000000008082200000700050f % 16 by decide) (by show (2 : Nat) ≤ 2; decide) (fun _ => ⟨_, _, rfl, _, shp_at hC.1.1, Or.inr (show fb 0x10000000000008082200000700050f >>> 68 = 1 by decide)⟩) (by omega) (by show 8 + (2 + 11) + 141 ≤ R.locals; omega) (by show (0 : Nat) ≤ 8; decide) (by show kc + 1 ≤ _; omega) (by show ks + 11 ≤ _; omega) (fun r9 hs9 hpo hr9 => ?_) (fun x9 hs9 hx9 hpo => ?_)
  · obtain rfl : r9 = none := hr9.elim (fun q => q.2) (fun q => absurd rfl q.1)
    obtain ⟨rfl, hq1⟩ := hpo
    obtain ⟨-, q1a, q1b⟩ := hq1.resolve_right (fun z => absurd z.1 (by decide))
    show WpN (gp g0 wp) CLS p l e R sW m args below meth cW Q D_57.2.2.1 kc0 ks0 5 [some (.ref 0), some (.int i), some (.int v), none] (hs, kc + 1, ks + 11) []
    refine g_loadI act (gx gp_57 (w := 0x2000602) rfl (by decide) rfl) (a := 2) (n := 6) rfl rfl rfl ?_
    refine g_constI act (gx gp_57 (w := 0x40000000400000001000000000701) rfl (by decide) rfl) (n := 7) (x := (0 : Int32)) (by decide) rfl ?_
    refine g_constI act (gx gp_57 (w := 0x40000031c00000319000000000901) rfl (by decide) rfl) (n := 9) (x := (99 : Int32)) (by decide) rfl ?_
    refine n_call tb_pres act hEnd (gx (P := G_call) gp_57 (w := 0xc3300000e000c0f) rfl (by decide) rfl) (d' := D_14) rfl (as := [.int v, .int (0 : Int32), .int (99 : Int32)]) (rest := []) cc_chkR (show (3 : Nat) = fb 0xc3300000e000c0f % 16 by decide) (by show (3 : Nat) ≤ 3; decide) (fun q => absurd q (by decide)) (by omega) (by show 8 + (3 + 11) + 120 ≤ R.locals; omega) (by show (0 : Nat) ≤ 8; decide) (by show kc + 1 + 1 ≤ _; omega) (by show ks + 11 + 11 ≤ _; omega) (fun r9 hs9 hpo hr9 => ?_) (fun x9 hs9 hx9 hpo => ?_)
    · obtain rfl : r9 = none := hr9.elim (fun q => q.2) (fun q => absurd rfl q.1)
      obtain ⟨rfl, hq2⟩ := hpo
      obtain ⟨-, q2a, q2b⟩ := hq2.resolve_right (fun z => absurd z.1 (by decide))
      have q2a : (0 : Int) ≤ Int32.toInt v := q2a
      have q2b : Int32.toInt v ≤ (99 : Int) := q2b
      show WpN (gp g0 wp) CLS p l e R sW m args below meth cW Q D_57.2.2.1 kc0 ks0 12 [some (.ref 0), some (.int i), some (.int v), none] (hs, kc + 1 + 1, ks + 11 + 11) []
      refine g_loadA act (gx gp_57 (w := 0xd03) rfl (by decide) rfl) (a := 0) (n := 13) rfl rfl rfl ?_
      refine r_getf act (gx gp_57 (w := 0x3000180001004) rfl (by decide) rfl) (n := 16) (ci := 0) (j := 6) (N := 7) rfl rfl rfl hC.1.1 (by decide) (v := .ref g) hC.2.1 ?_
      refine r_getf act (gx gp_57 (w := 0x30002c4001304) rfl (by decide) rfl) (n := 19) (ci := 4) (j := 11) (N := 18) rfl rfl rfl hC.2.2.2.1.1.2.1 (by decide) (v := .ref (g + 6)) (hC.2.2.2.1.1.2.2.1 (11, 6, 32, 5) (by decide)).1 ?_
      refine g_loadI act (gx gp_57 (w := 0x1001402) rfl (by decide) rfl) (a := 1) (n := 20) rfl rfl rfl ?_
      refine r_iald act (gx gp_57 (w := 0x151a) rfl (by decide) rfl) (n := 21) (N := 5) rfl (hC.2.2.2.1.1.2.2.1 (11, 6, 32, 5) (by decide)).2 (j := i.toInt.toNat) (by omega) (by omega) (v := .int (F 6 i.toInt.toNat)) (hC.2.2.2.1.2 6 i.toInt.toNat (by unfold gpl; omega)) ?_
      refine g_storeI act (gx gp_57 (w := 0x3001610) rfl (by decide) rfl) (a := 3) (n := 22) rfl rfl (L2 := [some (.ref 0), some (.int i), some (.int v), some (.int (F 6 i.toInt.toNat))]) rfl ?_
      refine g_loadA act (gx gp_57 (w := 0x1703) rfl (by decide) rfl) (a := 0) (n := 23) rfl rfl rfl ?_
      have ap1 : ∀ k, k < hs.length → (hs ++ [((8, 5, fun j => dv (ftX 8 j)) : CE)])[k]? = hs[k]? := fun k q => List.getElem?_append_left q
      have sn1 : shp (hs ++ [((8, 5, fun j => dv (ftX 8 j)) : CE)]) hs.length = some (8, 5) := shp_newc hs _
      have ln1 : (hs ++ [((8, 5, fun j => dv (ftX 8 j)) : CE)]).length = hs.length + 1 := by rw [List.length_append]; rfl
      refine r_new act (gx gp_57 (w := 0x5000008001a28) rfl (by decide) rfl) (n := 26) (ci := 8) (N := 5) (by decide) (by decide) (by omega) (by show kc + 1 + 1 + 1 ≤ _; omega) (by show ks + 11 + 11 + 5 ≤ _; omega) rfl ?_
      generalize (hs ++ [((8, 5, fun j => dv (ftX 8 j)) : CE)]) = h1 at *
      have hC1 := hC.app ap1
      refine g_dup act (gx gp_57 (w := 0x1b22) rfl (by decide) rfl) (n := 27) rfl rfl ?_
      refine g_constI act (gx gp_57 (w := 0x40000000c00000009000000001c01) rfl (by decide) rfl) (n := 28) (x := (1 : Int32)) (by decide) rfl ?_
      refine g_loadI act (gx gp_57 (w := 0x1001d02) rfl (by decide) rfl) (a := 1) (n := 29) rfl rfl rfl ?_
      refine g_constI act (gx gp_57 (w := 0x3fffffffbfffffff9000000001e01) rfl (by decide) rfl) (n := 30) (x := (-1 : Int32)) (by decide) rfl ?_
      refine g_loadI act (gx gp_57 (w := 0x3001f02) rfl (by decide) rfl) (a := 3) (n := 31) rfl rfl rfl ?_
      refine g_constI act (gx gp_57 (w := 0x3fffffffbfffffff9000000002001) rfl (by decide) rfl) (n := 32) (x := (-1 : Int32)) (by decide) rfl ?_
      refine n_call tb_pres act hEnd (gx (P := G_call) gp_57 (w := 0x8186600004500230f) rfl (by decide) rfl) (d' := D_69) rfl (f' := 1) (lam' := 12) (mc := 0) (ms := 0) (as := [.ref hs.length, .int (1 : Int32), .int i, .int (-1 : Int32), .int (F 6 i.toInt.toNat), .int (-1 : Int32)]) (rest := [.ref hs.length, .ref 0]) (cx_chg sn1) (show (6 : Nat) = fb 0x8186600004500230f % 16 by decide) (by show (6 : Nat) ≤ 6; decide) (fun _ => ⟨_, _, rfl, _, shp_at sn1, Or.inl (show fb 0x8186600004500230f >>> 68 = 0 by decide)⟩) (by omega) (by show 8 + (6 + 11) + 12 ≤ R.locals; omega) (by show (2 : Nat) ≤ 8; decide) (by show kc + 1 + 1 + 1 + 0 ≤ _; omega) (by show ks + 11 + 11 + 5 + 0 ≤ _; omega) (fun r9 h2 hpo hr9 => ?_) (fun x9 hs9 hx9 hpo => ?_)
      · obtain rfl : r9 = none := hr9.elim (fun q => q.2) (fun q => absurd rfl q.1)
        obtain ⟨-, -, he2, f2⟩ := hpo
        have f2 : FrS (WK1 hs.length) h1 h2 := f2
        have ap2 : ∀ k, k < hs.length → h2[k]? = hs[k]? := fun k q => (frs_cell f2 (by omega) (fun j z => by unfold WK1 at z; omega)).trans (ap1 k q)
        have ln2 : h2.length = hs.length + 1 := f2.1.trans ln1
        have hC2 := hC.app ap2
        have hL2 := hL.app ap2
        have l148 : 148 ≤ h2.length := by omega
        have l7 : h2.length + 1 ≤ 6999999999999 := by omega
        rw [show (1 : Int32).toInt = 1 from by decide, show (-1 : Int32).toInt = -1 from by decide, show (F 6 i.toInt.toNat).toInt = gv (12 + i.toInt.toNat) from (hC.2.2.2.2.1.2.2.2.2.2.2.2.2.2.2.2.1 i.toInt.toNat (by omega))] at he2
        show WpN (gp g0 wp) CLS p l e R sW m args below meth cW Q D_57.2.2.1 kc0 ks0 35 [some (.ref 0), some (.int i), some (.int v), some (.int (F 6 i.toInt.toNat))] (h2, kc + 1 + 1 + 1, ks + 11 + 11 + 5) [.ref hs.length, .ref 0]
        refine n_call tb_pres act hEnd (gx (P := G_call) gp_57 (w := 0x10000000000008082200003300260f) rfl (by decide) rfl) (d' := D_51) rfl (f' := 5) (lam' := 113) (mc := 1) (ms := 11) (as := [.ref 0, .ref hs.length]) (rest := []) (cx_remb hTY9 l148 l7 hC2.1 hL2 he2) (show (2 : Nat) = fb 0x10000000000008082200003300260f % 16 by decide) (by show (2 : Nat) ≤ 2; decide) (fun _ => ⟨_, _, rfl, _, shp_at hC2.1.1, Or.inr (show fb 0x10000000000008082200003300260f >>> 68 = 1 by decide)⟩) (by omega) (by show 8 + (2 + 11) + 113 ≤ R.locals; omega) (by show (0 : Nat) ≤ 8; decide) (by show kc + 1 + 1 + 1 + 1 ≤ _; omega) (by show ks + 11 + 11 + 5 + 11 ≤ _; omega) (fun r9 h3 hpo hr9 => ?_) (fun x9 hs9 hx9 hpo => ?_)
        · obtain rfl : r9 = none := hr9.elim (fun q => q.2) (fun q => absurd rfl q.1)
          obtain ⟨-, -, ⟨ka, hA3⟩, lo3, hi3, k3, P3, hN3⟩ := hpo
          have hi3 : h3.length ≤ h2.length + 1 := hi3
          have lo3 : h2.length ≤ h3.length := lo3
          have k3 : KPR h2 h3 := k3
          have hC3 := hC2.rmb hL2 (by omega) k3 P3
          have eq3 := hC2.rmb_eq hL2 (by omega) k3
          have hT3 : TRS h3 fv o nl := (hT.cells (rd_of (ap2 1 (hC.lt (by omega))) 0) (rd_of (ap2 18 (hC.lt (by omega))) 0)).cells (rd_of (eq3 1 (by omega)) 0) (rd_of (eq3 18 (by omega)) 0)
          have hK3 : KPS g hs h3 := fun k q1 q2 q3 q4 q5 q7 q6 => (k3 k (by omega) q2 q3 (fun a z => q6 a ((((rd_of (ap2 35 (shp_lt hL.s35)) 0).trans rfl)).symm.trans z))).trans ((ap2 k (by omega)).trans (hK0 k q1 q2 q3 q4 q5 q7 q6))
          show WpN (gp g0 wp) CLS p l e R sW m args below meth cW Q D_57.2.2.1 kc0 ks0 38 [some (.ref 0), some (.int i), some (.int v), some (.int (F 6 i.toInt.toNat))] (h3, kc + 1 + 1 + 1 + 1, ks + 11 + 11 + 5 + 11) []
          refine g_loadA act (gx gp_57 (w := 0x2703) rfl (by decide) rfl) (a := 0) (n := 39) rfl rfl rfl ?_
          refine r_getf act (gx gp_57 (w := 0x3000180002a04) rfl (by decide) rfl) (n := 42) (ci := 0) (j := 6) (N := 7) rfl rfl rfl hC3.1.1 (by decide) (v := .ref g) hC3.2.1 ?_
          refine r_getf act (gx gp_57 (w := 0x30002c4002d04) rfl (by decide) rfl) (n := 45) (ci := 4) (j := 11) (N := 18) rfl rfl rfl hC3.2.2.2.1.1.2.1 (by decide) (v := .ref (g + 6)) (hC3.2.2.2.1.1.2.2.1 (11, 6, 32, 5) (by decide)).1 ?_
          refine g_loadI act (gx gp_57 (w := 0x1002e02) rfl (by decide) rfl) (a := 1) (n := 46) rfl rfl rfl ?_
          refine g_loadI act (gx gp_57 (w := 0x2002f02) rfl (by decide) rfl) (a := 2) (n := 47) rfl rfl rfl ?_
          refine r_iast act (gx gp_57 (w := 0x3024) rfl (by decide) rfl) (n := 48) (N := 5) rfl (hC3.2.2.2.1.1.2.2.1 (11, 6, 32, 5) (by decide)).2 (j := i.toInt.toNat) (by omega) (by omega) ?_
          have hC4 : CLN (wr h3 (g + 6) i.toInt.toNat (.int v)) tx L ec ep g (upF F 6 i.toInt.toNat v) fv (upI gv (12 + i.toInt.toNat) (Int32.toInt v)) o nl ng nr n := hC3.pw (by unfold gpl; omega) (hC3.2.2.2.2.1.cst (x := v) (i9 := i.toInt.toNat) (by omega)) hC3.2.2.2.2.2.1
          have hA4 := hA3.gwr (v := .int v) hC3.2.2.2.1.1 (show gpl 6 i.toInt.toNat from (by unfold gpl; omega))
          have hK4 := hK3.gwr (a := 6) (j := i.toInt.toNat) (v := .int v) (by omega)
          have ln4 : (wr h3 (g + 6) i.toInt.toNat (.int v)).length = h3.length := wr_len _ _ _ _
          have hN4 := hN3.gwr (a := 6) (j := i.toInt.toNat) (v := .int v) hC3.g0
          have hT4 := hT3.gwr (a := 6) (j := i.toInt.toNat) (v := .int v) hC3.g0
          generalize (wr h3 (g + 6) i.toInt.toNat (.int v)) = h4 at *
          refine g_loadI act (gx gp_57 (w := 0x3003102) rfl (by decide) rfl) (a := 3) (n := 49) rfl rfl rfl ?_
          have hC9 := hC4
          have lf1 : hs.length ≤ h4.length := by omega
          have lf2 : h4.length ≤ hs.length + 2 := by omega
          exact g_retI hEnd (gx gp_57 (w := 0x2f) rfl (by decide) rfl) (Or.inl ⟨rfl, by omega, ⟨_, rfl, (hC.2.2.2.2.1.2.2.2.2.2.2.2.2.2.2.2.1 i.toInt.toNat (by omega))⟩, ⟨_, hC9⟩, hT4, ⟨ka, hA4⟩, lf1, lf2, hK4, hN4⟩) (by show kc + 1 + 1 + 1 + 1 ≤ kc + 5; omega) (by show ks + 11 + 11 + 5 + 11 ≤ ks + 55; omega)
        · exact absurd hpo.1 (by omega)
      · exact absurd hpo.1 (by omega)
    · obtain ⟨rfl, hq2⟩ := hpo
      obtain ⟨hx1, hq2n⟩ := hq2.resolve_left (fun z => by omega)
      have hq2n : ¬ ((0 : Int) ≤ Int32.toInt v ∧ Int32.toInt v ≤ (99 : Int)) := hq2n
      obtain rfl : x9 = 2 := by omega
      refine Or.inr ⟨rfl, Or.inr (Or.inr ⟨rfl, rfl, by omega, by omega, rfl⟩), by show kc + 2 ≤ kc + 5; omega, by show ks + 22 ≤ ks + 55; omega⟩
  · obtain ⟨rfl, hq1⟩ := hpo
    obtain ⟨hx1, hq1n⟩ := hq1.resolve_left (fun z => by omega)
    obtain rfl : x9 = 1 := by omega
    refine Or.inr ⟨rfl, Or.inr (Or.inl ⟨rfl, rfl, by omega, rfl⟩), by show kc + 1 ≤ kc + 5; omega, by show ks + 11 ≤ ks + 55; omega⟩

theorem cx_setCapacity (hTY9 : TYg g0) (h148 : 148 ≤ hs.length) (hlen : hs.length + 3 ≤ 6999999999999) (hC : CLN hs tx L ec ep g F fv gv o nl ng nr n) (hT : TRS hs fv o nl) (hL : LSC hs nc ch) : BodyN SSX TBL g0 CLS bl xs l D_56 10 182 5 55 [.ref 0, .int i, .int v] hs (fun kd r h2 => (kd = 0 ∧ ((0 ≤ i.toInt ∧ i.toInt < (ng : Int)) ∧ (1 ≤ v.toInt ∧ v.toInt ≤ 200)) ∧ (∃ x : Int32, r = some (.int x) ∧ x.toInt = gv (17 + i.toInt.toNat)) ∧ COk hs h2 tx L ec ep g fv (upI gv (17 + i.toInt.toNat) v.toInt) o nl ng nr n (if nc = 10 then 10 else nc + 1) (RMB nc ch (F5 2 i.toInt (-1) (gv (17 + i.toInt.toNat)) (-1)))) ∨ (kd = 2 ∧ r = none ∧ ¬ (0 ≤ i.toInt ∧ i.toInt < (ng : Int)) ∧ hs = h2) ∨ (kd = 3 ∧ r = none ∧ (0 ≤ i.toInt ∧ i.toInt < (ng : Int)) ∧ ¬ (1 ≤ v.toInt ∧ v.toInt ≤ 200) ∧ hs = h2)) := by
  intro wp p e R sW m args below meth cW Q kc0 ks0 kc ks act hf hl hc hsl hEnd
  have hf : 10 ≤ R.frames := hf
  have hl : 182 ≤ R.locals := hl
  have hK0 : KPS g hs hs := KPS.rf hs
  obtain ⟨w0, w1, w2, w3, w4, w5, w6, w7, w8, w9, wa, wb, wc, wd, we⟩ := id hC.2.2.2.2.2.1
  have a0 := hC.2.2.2.2.1.1
  have a1 := hC.2.2.2.2.1.2.1
  have a2 := hC.2.2.2.2.1.2.2.1
  have a3 := hC.2.2.2.2.1.2.2.2.1
  have a5 := hC.2.2.2.2.1.2.2.2.2.2.1
  show WpN (gp g0 wp) CLS p l e R sW m args below meth cW Q D_56.2.2.1 kc0 ks0 0 [some (.ref 0), some (.int i), some (.int v), none] (hs, kc, ks) []
  refine g_loadA act (gx gp_56 (w := 0x103) rfl (by decide) rfl) (a := 0) (n := 1) rfl rfl rfl ?_
  refine g_loadI act (gx gp_56 (w := 0x1000202) rfl (by decide) rfl) (a := 1) (n := 2) rfl rfl rfl ?_
  refine n_call tb_pres act hEnd (gx (P := G_call) gp_56 (w := 0x10000000000008082200000700050f) rfl (by decide) rfl) (d' := D_7) rfl (as := [.ref 0, .int i]) (rest := []) (cc_chk3 hC.1.1 hC.2.1 hC.2.2.2.1.1.2.1 (hC.2.2.2.1.2 0 3 (Or.inl ⟨rfl, by decide⟩))) (show (2 : Nat) = fb 0x10000000000008082200000700050f % 16 by decide) (by show (2 : Nat) ≤ 2; decide) (fun _ => ⟨_, _, rfl, _, shp_at hC.1.1, Or.inr (show fb 0x10000000000008082200000700050f >>> 68 = 1 by decide)⟩) (by omega) (by show 8 + (2 + 11) + 141 ≤ R.locals; omega) (by show (0 : Nat) ≤ 8; decide) (by show kc + 1 ≤ _; omega) (by show ks + 11 ≤ _; omega) (fun r9 hs9 hpo hr9 => ?_) (fun x9 hs9 hx9 hpo => ?_)
  · obtain rfl : r9 = none := hr9.elim (fun q => q.2) (fun q => absurd rfl q.1)
    obtain ⟨rfl, hq1⟩ := hpo
    obtain ⟨-, q1a, q1b⟩ := hq1.resolve_right (fun z => absurd z.1 (by decide))
    show WpN (gp g0 wp) CLS p l e R sW m args below meth cW Q D_56.2.2.1 kc0 ks0 5 [some (.ref 0), some (.int i), some (.int v), none] (hs, kc + 1, ks + 11) []
    refine g_loadI act (gx gp_56 (w := 0x2000602) rfl (by decide) rfl) (a := 2) (n := 6) rfl rfl rfl ?_
    refine g_constI act (gx gp_56 (w := 0x40000000c00000009000000000701) rfl (by decide) rfl) (n := 7) (x := (1 : Int32)) (by decide) rfl ?_
    refine g_constI act (gx gp_56 (w := 0x40000064400000641000000000a01) rfl (by decide) rfl) (n := 10) (x := (200 : Int32)) (by decide) rfl ?_
    refine n_call tb_pres act hEnd (gx (P := G_call) gp_56 (w := 0xc3300000e000d0f) rfl (by decide) rfl) (d' := D_14) rfl (as := [.int v, .int (1 : Int32), .int (200 : Int32)]) (rest := []) cc_chkR (show (3 : Nat) = fb 0xc3300000e000d0f % 16 by decide) (by show (3 : Nat) ≤ 3; decide) (fun q => absurd q (by decide)) (by omega) (by show 8 + (3 + 11) + 120 ≤ R.locals; omega) (by show (0 : Nat) ≤ 8; decide) (by show kc + 1 + 1 ≤ _; omega) (by show ks + 11 + 11 ≤ _; omega) (fun r9 hs9 hpo hr9 => ?_) (fun x9 hs9 hx9 hpo => ?_)
    · obtain rfl : r9 = none := hr9.elim (fun q => q.2) (fun q => absurd rfl q.1)
      obtain ⟨rfl, hq2⟩ := hpo
      obtain ⟨-, q2a, q2b⟩ := hq2.resolve_right (fun z => absurd z.1 (by decide))
      have q2a : (1 : Int) ≤ Int32.toInt v := q2a
      have q2b : Int32.toInt v ≤ (200 : Int) := q2b
      show WpN (gp g0 wp) CLS p l e R sW m args below meth cW Q D_56.2.2.1 kc0 ks0 13 [some (.ref 0), some (.int i), some (.int v), none] (hs, kc + 1 + 1, ks + 11 + 11) []
      refine g_loadA act (gx gp_56 (w := 0xe03) rfl (by decide) rfl) (a := 0) (n := 14) rfl rfl rfl ?_
      refine r_getf act (gx gp_56 (w := 0x3000180001104) rfl (by decide) rfl) (n := 17) (ci := 0) (j := 6) (N := 7) rfl rfl rfl hC.1.1 (by decide) (v := .ref g) hC.2.1 ?_
      refine r_getf act (gx gp_56 (w := 0x3000304001404) rfl (by decide) rfl) (n := 20) (ci := 4) (j := 12) (N := 18) rfl rfl rfl hC.2.2.2.1.1.2.1 (by decide) (v := .ref (g + 7)) (hC.2.2.2.1.1.2.2.1 (12, 7, 32, 5) (by decide)).1 ?_
      refine g_loadI act (gx gp_56 (w := 0x1001502) rfl (by decide) rfl) (a := 1) (n := 21) rfl rfl rfl ?_
      refine r_iald act (gx gp_56 (w := 0x161a) rfl (by decide) rfl) (n := 22) (N := 5) rfl (hC.2.2.2.1.1.2.2.1 (12, 7, 32, 5) (by decide)).2 (j := i.toInt.toNat) (by omega) (by omega) (v := .int (F 7 i.toInt.toNat)) (hC.2.2.2.1.2 7 i.toInt.toNat (by unfold gpl; omega)) ?_
      refine g_storeI act (gx gp_56 (w := 0x3001710) rfl (by decide) rfl) (a := 3) (n := 23) rfl rfl (L2 := [some (.ref 0), some (.int i), some (.int v), some (.int (F 7 i.toInt.toNat))]) rfl ?_
      refine g_loadA act (gx gp_56 (w := 0x1803) rfl (by decide) rfl) (a := 0) (n := 24) rfl rfl rfl ?_
      have ap1 : ∀ k, k < hs.length → (hs ++ [((8, 5, fun j => dv (ftX 8 j)) : CE)])[k]? = hs[k]? := fun k q => List.getElem?_append_left q
      have sn1 : shp (hs ++ [((8, 5, fun j => dv (ftX 8 j)) : CE)]) hs.length = some (8, 5) := shp_newc hs _
      have ln1 : (hs ++ [((8, 5, fun j => dv (ftX 8 j)) : CE)]).length = hs.length + 1 := by rw [List.length_append]; rfl
      refine r_new act (gx gp_56 (w := 0x5000008001b28) rfl (by decide) rfl) (n := 27) (ci := 8) (N := 5) (by decide) (by decide) (by omega) (by show kc + 1 + 1 + 1 ≤ _; omega) (by show ks + 11 + 11 + 5 ≤ _; omega) rfl ?_
      generalize (hs ++ [((8, 5, fun j => dv (ftX 8 j)) : CE)]) = h1 at *
      have hC1 := hC.app ap1
      refine g_dup act (gx gp_56 (w := 0x1c22) rfl (by decide) rfl) (n := 28) rfl rfl ?_
      refine g_constI act (gx gp_56 (w := 0x40000001400000011000000001d01) rfl (by decide) rfl) (n := 29) (x := (2 : Int32)) (by decide) rfl ?_
      refine g_loadI act (gx gp_56 (w := 0x1001e02) rfl (by decide) rfl) (a := 1) (n := 30) rfl rfl rfl ?_
      refine g_constI act (gx gp_56 (w := 0x3fffffffbfffffff9000000001f01) rfl (by decide) rfl) (n := 31) (x := (-1 : Int32)) (by decide) rfl ?_
      refine g_loadI act (gx gp_56 (w := 0x3002002) rfl (by decide) rfl) (a := 3) (n := 32) rfl rfl rfl ?_
      refine g_constI act (gx gp_56 (w := 0x3fffffffbfffffff9000000002101) rfl (by decide) rfl) (n := 33) (x := (-1 : Int32)) (by decide) rfl ?_
      refine n_call tb_pres act hEnd (gx (P := G_call) gp_56 (w := 0x8186600004500240f) rfl (by decide) rfl) (d' := D_69) rfl (f' := 1) (lam' := 12) (mc := 0) (ms := 0) (as := [.ref hs.length, .int (2 : Int32), .int i, .int (-1 : Int32), .int (F 7 i.toInt.toNat), .int (-1 : Int32)]) (rest := [.ref hs.length, .ref 0]) (cx_chg sn1) (show (6 : Nat) = fb 0x8186600004500240f % 16 by decide) (by show (6 : Nat) ≤ 6; decide) (fun _ => ⟨_, _, rfl, _, shp_at sn1, Or.inl (show fb 0x8186600004500240f >>> 68 = 0 by decide)⟩) (by omega) (by show 8 + (6 + 11) + 12 ≤ R.locals; omega) (by show (2 : Nat) ≤ 8; decide) (by show kc + 1 + 1 + 1 + 0 ≤ _; omega) (by show ks + 11 + 11 + 5 + 0 ≤ _; omega) (fun r9 h2 hpo hr9 => ?_) (fun x9 hs9 hx9 hpo => ?_)
      · obtain rfl : r9 = none := hr9.elim (fun q => q.2) (fun q => absurd rfl q.1)
        obtain ⟨-, -, he2, f2⟩ := hpo
        have f2 : FrS (WK1 hs.length) h1 h2 := f2
        have ap2 : ∀ k, k < hs.length → h2[k]? = hs[k]? := fun k q => (frs_cell f2 (by omega) (fun j z => by unfold WK1 at z; omega)).trans (ap1 k q)
        have ln2 : h2.length = hs.length + 1 := f2.1.trans ln1
        have hC2 := hC.app ap2
        have hL2 := hL.app ap2
        have l148 : 148 ≤ h2.length := by omega
        have l7 : h2.length + 1 ≤ 6999999999999 := by omega
        rw [show (2 : Int32).toInt = 2 from by decide, show (-1 : Int32).toInt = -1 from by decide, show (F 7 i.toInt.toNat).toInt = gv (17 + i.toInt.toNat) from (hC.2.2.2.2.1.2.2.2.2.2.2.2.2.2.2.2.2.1 i.toInt.toNat (by omega))] at he2
        show WpN (gp g0 wp) CLS p l e R sW m args below meth cW Q D_56.2.2.1 kc0 ks0 36 [some (.ref 0), some (.int i), some (.int v), some (.int (F 7 i.toInt.toNat))] (h2, kc + 1 + 1 + 1, ks + 11 + 11 + 5) [.ref hs.length, .ref 0]
        refine n_call tb_pres act hEnd (gx (P := G_call) gp_56 (w := 0x10000000000008082200003300270f) rfl (by decide) rfl) (d' := D_51) rfl (f' := 5) (lam' := 113) (mc := 1) (ms := 11) (as := [.ref 0, .ref hs.length]) (rest := []) (cx_remb hTY9 l148 l7 hC2.1 hL2 he2) (show (2 : Nat) = fb 0x10000000000008082200003300270f % 16 by decide) (by show (2 : Nat) ≤ 2; decide) (fun _ => ⟨_, _, rfl, _, shp_at hC2.1.1, Or.inr (show fb 0x10000000000008082200003300270f >>> 68 = 1 by decide)⟩) (by omega) (by show 8 + (2 + 11) + 113 ≤ R.locals; omega) (by show (0 : Nat) ≤ 8; decide) (by show kc + 1 + 1 + 1 + 1 ≤ _; omega) (by show ks + 11 + 11 + 5 + 11 ≤ _; omega) (fun r9 h3 hpo hr9 => ?_) (fun x9 hs9 hx9 hpo => ?_)
        · obtain rfl : r9 = none := hr9.elim (fun q => q.2) (fun q => absurd rfl q.1)
          obtain ⟨-, -, ⟨ka, hA3⟩, lo3, hi3, k3, P3, hN3⟩ := hpo
          have hi3 : h3.length ≤ h2.length + 1 := hi3
          have lo3 : h2.length ≤ h3.length := lo3
          have k3 : KPR h2 h3 := k3
          have hC3 := hC2.rmb hL2 (by omega) k3 P3
          have eq3 := hC2.rmb_eq hL2 (by omega) k3
          have hT3 : TRS h3 fv o nl := (hT.cells (rd_of (ap2 1 (hC.lt (by omega))) 0) (rd_of (ap2 18 (hC.lt (by omega))) 0)).cells (rd_of (eq3 1 (by omega)) 0) (rd_of (eq3 18 (by omega)) 0)
          have hK3 : KPS g hs h3 := fun k q1 q2 q3 q4 q5 q7 q6 => (k3 k (by omega) q2 q3 (fun a z => q6 a ((((rd_of (ap2 35 (shp_lt hL.s35)) 0).trans rfl)).symm.trans z))).trans ((ap2 k (by omega)).trans (hK0 k q1 q2 q3 q4 q5 q7 q6))
          show WpN (gp g0 wp) CLS p l e R sW m args below meth cW Q D_56.2.2.1 kc0 ks0 39 [some (.ref 0), some (.int i), some (.int v), some (.int (F 7 i.toInt.toNat))] (h3, kc + 1 + 1 + 1 + 1, ks + 11 + 11 + 5 + 11) []
          refine g_loadA act (gx gp_56 (w := 0x2803) rfl (by decide) rfl) (a := 0) (n := 40) rfl rfl rfl ?_
          refine r_getf act (gx gp_56 (w := 0x3000180002b04) rfl (by decide) rfl) (n := 43) (ci := 0) (j := 6) (N := 7) rfl rfl rfl hC3.1.1 (by decide) (v := .ref g) hC3.2.1 ?_
          refine r_getf act (gx gp_56 (w := 0x3000304002e04) rfl (by decide) rfl) (n := 46) (ci := 4) (j := 12) (N := 18) rfl rfl rfl hC3.2.2.2.1.1.2.1 (by decide) (v := .ref (g + 7)) (hC3.2.2.2.1.1.2.2.1 (12, 7, 32, 5) (by decide)).1 ?_
          refine g_loadI act (gx gp_56 (w := 0x1002f02) rfl (by decide) rfl) (a := 1) (n := 47) rfl rfl rfl ?_
          refine g_loadI act (gx gp_56 (w := 0x2003002) rfl (by decide) rfl) (a := 2) (n := 48) rfl rfl rfl ?_
          refine r_iast act (gx gp_56 (w := 0x3124) rfl (by decide) rfl) (n := 49) (N := 5) rfl (hC3.2.2.2.1.1.2.2.1 (12, 7, 32, 5) (by decide)).2 (j := i.toInt.toNat) (by omega) (by omega) ?_
          have hC4 : CLN (wr h3 (g + 7) i.toInt.toNat (.int v)) tx L ec ep g (upF F 7 i.toInt.toNat v) fv (upI gv (17 + i.toInt.toNat) (Int32.toInt v)) o nl ng nr n := hC3.pw (by unfold gpl; omega) (hC3.2.2.2.2.1.cap (x := v) (i9 := i.toInt.toNat) (by omega)) hC3.2.2.2.2.2.1
          have hA4 := hA3.gwr (v := .int v) hC3.2.2.2.1.1 (show gpl 7 i.toInt.toNat from (by unfold gpl; omega))
          have hK4 := hK3.gwr (a := 7) (j := i.toInt.toNat) (v := .int v) (by omega)
          have ln4 : (wr h3 (g + 7) i.toInt.toNat (.int v)).length = h3.length := wr_len _ _ _ _
          have hN4 := hN3.gwr (a := 7) (j := i.toInt.toNat) (v := .int v) hC3.g0
          have hT4 := hT3.gwr (a := 7) (j := i.toInt.toNat) (v := .int v) hC3.g0
          generalize (wr h3 (g + 7) i.toInt.toNat (.int v)) = h4 at *
          refine g_loadI act (gx gp_56 (w := 0x3003202) rfl (by decide) rfl) (a := 3) (n := 50) rfl rfl rfl ?_
          have hC9 := hC4
          have lf1 : hs.length ≤ h4.length := by omega
          have lf2 : h4.length ≤ hs.length + 2 := by omega
          exact g_retI hEnd (gx gp_56 (w := 0x2f) rfl (by decide) rfl) (Or.inl ⟨rfl, by omega, ⟨_, rfl, (hC.2.2.2.2.1.2.2.2.2.2.2.2.2.2.2.2.2.1 i.toInt.toNat (by omega))⟩, ⟨_, hC9⟩, hT4, ⟨ka, hA4⟩, lf1, lf2, hK4, hN4⟩) (by show kc + 1 + 1 + 1 + 1 ≤ kc + 5; omega) (by show ks + 11 + 11 + 5 + 11 ≤ ks + 55; omega)
        · exact absurd hpo.1 (by omega)
      · exact absurd hpo.1 (by omega)
    · obtain ⟨rfl, hq2⟩ := hpo
      obtain ⟨hx1, hq2n⟩ := hq2.resolve_left (fun z => by omega)
      have hq2n : ¬ ((1 : Int) ≤ Int32.toInt v ∧ Int32.toInt v ≤ (200 : Int)) := hq2n
      obtain rfl : x9 = 2 := by omega
      refine Or.inr ⟨rfl, Or.inr (Or.inr ⟨rfl, rfl, by omega, by omega, rfl⟩), by show kc + 2 ≤ kc + 5; omega, by show ks + 22 ≤ ks + 55; omega⟩
  · obtain ⟨rfl, hq1⟩ := hpo
    obtain ⟨hx1, hq1n⟩ := hq1.resolve_left (fun z => by omega)
    obtain rfl : x9 = 1 := by omega
    refine Or.inr ⟨rfl, Or.inr (Or.inl ⟨rfl, rfl, by omega, rfl⟩), by show kc + 1 ≤ kc + 5; omega, by show ks + 11 ≤ ks + 55; omega⟩

theorem cx_setDemand (hTY9 : TYg g0) (h148 : 148 ≤ hs.length) (hlen : hs.length + 3 ≤ 6999999999999) (hC : CLN hs tx L ec ep g F fv gv o nl ng nr n) (hT : TRS hs fv o nl) (hL : LSC hs nc ch) : BodyN SSX TBL g0 CLS bl xs l D_58 10 182 5 55 [.ref 0, .int i, .int k, .int v] hs (fun kd r h2 => (kd = 0 ∧ (((0 ≤ i.toInt ∧ i.toInt < fv 1) ∧ (0 ≤ k.toInt ∧ k.toInt < (n : Int) + 1)) ∧ (0 ≤ v.toInt ∧ v.toInt ≤ 200)) ∧ (∃ x : Int32, r = some (.int x) ∧ x.toInt = gv (22 + 4 * i.toInt.toNat + k.toInt.toNat)) ∧ COk hs h2 tx L ec ep g fv (upI gv (22 + 4 * i.toInt.toNat + k.toInt.toNat) v.toInt) o nl ng nr n (if nc = 10 then 10 else nc + 1) (RMB nc ch (F5 3 i.toInt k.toInt (gv (22 + 4 * i.toInt.toNat + k.toInt.toNat)) (-1)))) ∨ (kd = 2 ∧ r = none ∧ ¬ ((0 ≤ i.toInt ∧ i.toInt < fv 1) ∧ (0 ≤ k.toInt ∧ k.toInt < (n : Int) + 1)) ∧ hs = h2) ∨ (kd = 3 ∧ r = none ∧ ((0 ≤ i.toInt ∧ i.toInt < fv 1) ∧ (0 ≤ k.toInt ∧ k.toInt < (n : Int) + 1)) ∧ ¬ (0 ≤ v.toInt ∧ v.toInt ≤ 200) ∧ hs = h2)) := by
  intro wp p e R sW m args below meth cW Q kc0 ks0 kc ks act hf hl hc hsl hEnd
  have hf : 10 ≤ R.frames := hf
  have hl : 182 ≤ R.locals := hl
  have hK0 : KPS g hs hs := KPS.rf hs
  obtain ⟨w0, w1, w2, w3, w4, w5, w6, w7, w8, w9, wa, wb, wc, wd, we⟩ := id hC.2.2.2.2.2.1
  have a0 := hC.2.2.2.2.1.1
  have a1 := hC.2.2.2.2.1.2.1
  have a2 := hC.2.2.2.2.1.2.2.1
  have a3 := hC.2.2.2.2.1.2.2.2.1
  have a5 := hC.2.2.2.2.1.2.2.2.2.2.1
  show WpN (gp g0 wp) CLS p l e R sW m args below meth cW Q D_58.2.2.1 kc0 ks0 0 [some (.ref 0), some (.int i), some (.int k), some (.int v), none] (hs, kc, ks) []
  refine g_loadA act (gx gp_58 (w := 0x103) rfl (by decide) rfl) (a := 0) (n := 1) rfl rfl rfl ?_
  refine g_loadI act (gx gp_58 (w := 0x1000202) rfl (by decide) rfl) (a := 1) (n := 2) rfl rfl rfl ?_
  refine n_call tb_pres act hEnd (gx (P := G_call) gp_58 (w := 0x10000000000008082200000900050f) rfl (by decide) rfl) (d' := D_9) rfl (as := [.ref 0, .int i]) (rest := []) (cc_chk1 hC.1.1 hC.2.1 hC.2.2.2.1.1.2.1 (hC.2.2.2.1.2 0 1 (Or.inl ⟨rfl, by decide⟩))) (show (2 : Nat) = fb 0x10000000000008082200000900050f % 16 by decide) (by show (2 : Nat) ≤ 2; decide) (fun _ => ⟨_, _, rfl, _, shp_at hC.1.1, Or.inr (show fb 0x10000000000008082200000900050f >>> 68 = 1 by decide)⟩) (by omega) (by show 8 + (2 + 11) + 141 ≤ R.locals; omega) (by show (0 : Nat) ≤ 8; decide) (by show kc + 1 ≤ _; omega) (by show ks + 11 ≤ _; omega) (fun r9 hs9 hpo hr9 => ?_) (fun x9 hs9 hx9 hpo => ?_)
  · obtain rfl : r9 = none := hr9.elim (fun q => q.2) (fun q => absurd rfl q.1)
    obtain ⟨rfl, hq1⟩ := hpo
    obtain ⟨-, q1a, q1b⟩ := hq1.resolve_right (fun z => absurd z.1 (by decide))
    show WpN (gp g0 wp) CLS p l e R sW m args below meth cW Q D_58.2.2.1 kc0 ks0 5 [some (.ref 0), some (.int i), some (.int k), some (.int v), none] (hs, kc + 1, ks + 11) []
    refine g_loadA act (gx gp_58 (w := 0x603) rfl (by decide) rfl) (a := 0) (n := 6) rfl rfl rfl ?_
    refine g_loadI act (gx gp_58 (w := 0x2000702) rfl (by decide) rfl) (a := 2) (n := 7) rfl rfl rfl ?_
    refine n_call tb_pres act hEnd (gx (P := G_call) gp_58 (w := 0x10000000000008082200000b000a0f) rfl (by decide) rfl) (d' := D_11) rfl (as := [.ref 0, .int k]) (rest := []) (cc_chk0 hC.1.1 hC.2.1 hC.2.2.2.1.1.2.1 (hC.2.2.2.1.2 0 0 (Or.inl ⟨rfl, by decide⟩))) (show (2 : Nat) = fb 0x10000000000008082200000b000a0f % 16 by decide) (by show (2 : Nat) ≤ 2; decide) (fun _ => ⟨_, _, rfl, _, shp_at hC.1.1, Or.inr (show fb 0x10000000000008082200000b000a0f >>> 68 = 1 by decide)⟩) (by omega) (by show 8 + (2 + 11) + 141 ≤ R.locals; omega) (by show (0 : Nat) ≤ 8; decide) (by show kc + 1 + 1 ≤ _; omega) (by show ks + 11 + 11 ≤ _; omega) (fun r9 hs9 hpo hr9 => ?_) (fun x9 hs9 hx9 hpo => ?_)
    · obtain rfl : r9 = none := hr9.elim (fun q => q.2) (fun q => absurd rfl q.1)
      obtain ⟨rfl, hq2⟩ := hpo
      obtain ⟨-, q2a, q2b⟩ := hq2.resolve_right (fun z => absurd z.1 (by decide))
      show WpN (gp g0 wp) CLS p l e R sW m args below meth cW Q D_58.2.2.1 kc0 ks0 10 [some (.ref 0), some (.int i), some (.int k), some (.int v), none] (hs, kc + 1 + 1, ks + 11 + 11) []
      refine g_loadI act (gx gp_58 (w := 0x3000b02) rfl (by decide) rfl) (a := 3) (n := 11) rfl rfl rfl ?_
      refine g_constI act (gx gp_58 (w := 0x40000000400000001000000000c01) rfl (by decide) rfl) (n := 12) (x := (0 : Int32)) (by decide) rfl ?_
      refine g_constI act (gx gp_58 (w := 0x40000064400000641000000000f01) rfl (by decide) rfl) (n := 15) (x := (200 : Int32)) (by decide) rfl ?_
      refine n_call tb_pres act hEnd (gx (P := G_call) gp_58 (w := 0xc3300000e00120f) rfl (by decide) rfl) (d' := D_14) rfl (as := [.int v, .int (0 : Int32), .int (200 : Int32)]) (rest := []) cc_chkR (show (3 : Nat) = fb 0xc3300000e00120f % 16 by decide) (by show (3 : Nat) ≤ 3; decide) (fun q => absurd q (by decide)) (by omega) (by show 8 + (3 + 11) + 120 ≤ R.locals; omega) (by show (0 : Nat) ≤ 8; decide) (by show kc + 1 + 1 + 1 ≤ _; omega) (by show ks + 11 + 11 + 11 ≤ _; omega) (fun r9 hs9 hpo hr9 => ?_) (fun x9 hs9 hx9 hpo => ?_)
      · obtain rfl : r9 = none := hr9.elim (fun q => q.2) (fun q => absurd rfl q.1)
        obtain ⟨rfl, hq3⟩ := hpo
        obtain ⟨-, q3a, q3b⟩ := hq3.resolve_right (fun z => absurd z.1 (by decide))
        have q3a : (0 : Int) ≤ Int32.toInt v := q3a
        have q3b : Int32.toInt v ≤ (200 : Int) := q3b
        show WpN (gp g0 wp) CLS p l e R sW m args below meth cW Q D_58.2.2.1 kc0 ks0 18 [some (.ref 0), some (.int i), some (.int k), some (.int v), none] (hs, kc + 1 + 1 + 1, ks + 11 + 11 + 11) []
        refine g_loadA act (gx gp_58 (w := 0x1303) rfl (by decide) rfl) (a := 0) (n := 19) rfl rfl rfl ?_
        refine r_getf act (gx gp_58 (w := 0x3000180001604) rfl (by decide) rfl) (n := 22) (ci := 0) (j := 6) (N := 7) rfl rfl rfl hC.1.1 (by decide) (v := .ref g) hC.2.1 ?_
        refine r_getf act (gx gp_58 (w := 0x3000344001904) rfl (by decide) rfl) (n := 25) (ci := 4) (j := 13) (N := 18) rfl rfl rfl hC.2.2.2.1.1.2.1 (by decide) (v := .ref (g + 8)) (hC.2.2.2.1.1.2.2.1 (13, 8, 37, 4) (by decide)).1 ?_
        refine g_loadI act (gx gp_58 (w := 0x1001a02) rfl (by decide) rfl) (a := 1) (n := 26) rfl rfl rfl ?_
        refine r_aald act (gx gp_58 (w := 0x1b12) rfl (by decide) rfl) (n := 27) (c9 := 37) (N := 4) (j := i.toInt.toNat) rfl (hC.2.2.2.1.1.2.2.1 (13, 8, 37, 4) (by decide)).2 (by decide) (by omega) (by omega) (hC.2.2.2.1.1.2.2.2 i.toInt.toNat (by omega)).1 ?_
        refine g_loadI act (gx gp_58 (w := 0x2001c02) rfl (by decide) rfl) (a := 2) (n := 28) rfl rfl rfl ?_
        refine r_iald act (gx gp_58 (w := 0x1d1a) rfl (by decide) rfl) (n := 29) (N := 4) rfl (hC.2.2.2.1.1.2.2.2 i.toInt.toNat (by omega)).2 (j := k.toInt.toNat) (by omega) (by omega) (v := .int (F (9 + i.toInt.toNat) k.toInt.toNat)) (hC.2.2.2.1.2 (9 + i.toInt.toNat) k.toInt.toNat (by unfold gpl; omega)) ?_
        refine g_storeI act (gx gp_58 (w := 0x4001f10) rfl (by decide) rfl) (a := 4) (n := 31) rfl rfl (L2 := [some (.ref 0), some (.int i), some (.int k), some (.int v), some (.int (F (9 + i.toInt.toNat) k.toInt.toNat))]) rfl ?_
        refine g_loadA act (gx gp_58 (w := 0x2003) rfl (by decide) rfl) (a := 0) (n := 32) rfl rfl rfl ?_
        have ap1 : ∀ k, k < hs.length → (hs ++ [((8, 5, fun j => dv (ftX 8 j)) : CE)])[k]? = hs[k]? := fun k q => List.getElem?_append_left q
        have sn1 : shp (hs ++ [((8, 5, fun j => dv (ftX 8 j)) : CE)]) hs.length = some (8, 5) := shp_newc hs _
        have ln1 : (hs ++ [((8, 5, fun j => dv (ftX 8 j)) : CE)]).length = hs.length + 1 := by rw [List.length_append]; rfl
        refine r_new act (gx gp_58 (w := 0x5000008002328) rfl (by decide) rfl) (n := 35) (ci := 8) (N := 5) (by decide) (by decide) (by omega) (by show kc + 1 + 1 + 1 + 1 ≤ _; omega) (by show ks + 11 + 11 + 11 + 5 ≤ _; omega) rfl ?_
        generalize (hs ++ [((8, 5, fun j => dv (ftX 8 j)) : CE)]) = h1 at *
        have hC1 := hC.app ap1
        refine g_dup act (gx gp_58 (w := 0x2422) rfl (by decide) rfl) (n := 36) rfl rfl ?_
        refine g_constI act (gx gp_58 (w := 0x40000001c00000019000000002501) rfl (by decide) rfl) (n := 37) (x := (3 : Int32)) (by decide) rfl ?_
        refine g_loadI act (gx gp_58 (w := 0x1002602) rfl (by decide) rfl) (a := 1) (n := 38) rfl rfl rfl ?_
        refine g_loadI act (gx gp_58 (w := 0x2002702) rfl (by decide) rfl) (a := 2) (n := 39) rfl rfl rfl ?_
        refine g_loadI act (gx gp_58 (w := 0x4002902) rfl (by decide) rfl) (a := 4) (n := 41) rfl rfl rfl ?_
        refine g_constI act (gx gp_58 (w := 0x3fffffffbfffffff9000000002a01) rfl (by decide) rfl) (n := 42) (x := (-1 : Int32)) (by decide) rfl ?_
        refine n_call tb_pres act hEnd (gx (P := G_call) gp_58 (w := 0x81866000045002d0f) rfl (by decide) rfl) (d' := D_69) rfl (f' := 1) (lam' := 12) (mc := 0) (ms := 0) (as := [.ref hs.length, .int (3 : Int32), .int i, .int k, .int (F (9 + i.toInt.toNat) k.toInt.toNat), .int (-1 : Int32)]) (rest := [.ref hs.length, .ref 0]) (cx_chg sn1) (show (6 : Nat) = fb 0x81866000045002d0f % 16 by decide) (by show (6 : Nat) ≤ 6; decide) (fun _ => ⟨_, _, rfl, _, shp_at sn1, Or.inl (show fb 0x81866000045002d0f >>> 68 = 0 by decide)⟩) (by omega) (by show 8 + (6 + 11) + 12 ≤ R.locals; omega) (by show (2 : Nat) ≤ 8; decide) (by show kc + 1 + 1 + 1 + 1 + 0 ≤ _; omega) (by show ks + 11 + 11 + 11 + 5 + 0 ≤ _; omega) (fun r9 h2 hpo hr9 => ?_) (fun x9 hs9 hx9 hpo => ?_)
        · obtain rfl : r9 = none := hr9.elim (fun q => q.2) (fun q => absurd rfl q.1)
          obtain ⟨-, -, he2, f2⟩ := hpo
          have f2 : FrS (WK1 hs.length) h1 h2 := f2
          have ap2 : ∀ k, k < hs.length → h2[k]? = hs[k]? := fun k q => (frs_cell f2 (by omega) (fun j z => by unfold WK1 at z; omega)).trans (ap1 k q)
          have ln2 : h2.length = hs.length + 1 := f2.1.trans ln1
          have hC2 := hC.app ap2
          have hL2 := hL.app ap2
          have l148 : 148 ≤ h2.length := by omega
          have l7 : h2.length + 1 ≤ 6999999999999 := by omega
          rw [show (3 : Int32).toInt = 3 from by decide, show (-1 : Int32).toInt = -1 from by decide, show (F (9 + i.toInt.toNat) k.toInt.toNat).toInt = gv (22 + 4 * i.toInt.toNat + k.toInt.toNat) from (hC.2.2.2.2.1.2.2.2.2.2.2.2.2.2.2.2.2.2.1 i.toInt.toNat k.toInt.toNat (by omega) (by omega))] at he2
          show WpN (gp g0 wp) CLS p l e R sW m args below meth cW Q D_58.2.2.1 kc0 ks0 45 [some (.ref 0), some (.int i), some (.int k), some (.int v), some (.int (F (9 + i.toInt.toNat) k.toInt.toNat))] (h2, kc + 1 + 1 + 1 + 1, ks + 11 + 11 + 11 + 5) [.ref hs.length, .ref 0]
          refine n_call tb_pres act hEnd (gx (P := G_call) gp_58 (w := 0x10000000000008082200003300300f) rfl (by decide) rfl) (d' := D_51) rfl (f' := 5) (lam' := 113) (mc := 1) (ms := 11) (as := [.ref 0, .ref hs.length]) (rest := []) (cx_remb hTY9 l148 l7 hC2.1 hL2 he2) (show (2 : Nat) = fb 0x10000000000008082200003300300f % 16 by decide) (by show (2 : Nat) ≤ 2; decide) (fun _ => ⟨_, _, rfl, _, shp_at hC2.1.1, Or.inr (show fb 0x10000000000008082200003300300f >>> 68 = 1 by decide)⟩) (by omega) (by show 8 + (2 + 11) + 113 ≤ R.locals; omega) (by show (0 : Nat) ≤ 8; decide) (by show kc + 1 + 1 + 1 + 1 + 1 ≤ _; omega) (by show ks + 11 + 11 + 11 + 5 + 11 ≤ _; omega) (fun r9 h3 hpo hr9 => ?_) (fun x9 hs9 hx9 hpo => ?_)
          · obtain rfl : r9 = none := hr9.elim (fun q => q.2) (fun q => absurd rfl q.1)
            obtain ⟨-, -, ⟨ka, hA3⟩, lo3, hi3, k3, P3, hN3⟩ := hpo
            have hi3 : h3.length ≤ h2.length + 1 := hi3
            have lo3 : h2.length ≤ h3.length := lo3
            have k3 : KPR h2 h3 := k3
            have hC3 := hC2.rmb hL2 (by omega) k3 P3
            have eq3 := hC2.rmb_eq hL2 (by omega) k3
            have hT3 : TRS h3 fv o nl := (hT.cells (rd_of (ap2 1 (hC.lt (by omega))) 0) (rd_of (ap2 18 (hC.lt (by omega))) 0)).cells (rd_of (eq3 1 (by omega)) 0) (rd_of (eq3 18 (by omega)) 0)
            have hK3 : KPS g hs h3 := fun k q1 q2 q3 q4 q5 q7 q6 => (k3 k (by omega) q2 q3 (fun a z => q6 a ((((rd_of (ap2 35 (shp_lt hL.s35)) 0).trans rfl)).symm.trans z))).trans ((ap2 k (by omega)).trans (hK0 k q1 q2 q3 q4 q5 q7 q6))
            show WpN (gp g0 wp) CLS p l e R sW m args below meth cW Q D_58.2.2.1 kc0 ks0 48 [some (.ref 0), some (.int i), some (.int k), some (.int v), some (.int (F (9 + i.toInt.toNat) k.toInt.toNat))] (h3, kc + 1 + 1 + 1 + 1 + 1, ks + 11 + 11 + 11 + 5 + 11) []
            refine g_loadA act (gx gp_58 (w := 0x3103) rfl (by decide) rfl) (a := 0) (n := 49) rfl rfl rfl ?_
            refine r_getf act (gx gp_58 (w := 0x3000180003404) rfl (by decide) rfl) (n := 52) (ci := 0) (j := 6) (N := 7) rfl rfl rfl hC3.1.1 (by decide) (v := .ref g) hC3.2.1 ?_
            refine r_getf act (gx gp_58 (w := 0x3000344003704) rfl (by decide) rfl) (n := 55) (ci := 4) (j := 13) (N := 18) rfl rfl rfl hC3.2.2.2.1.1.2.1 (by decide) (v := .ref (g + 8)) (hC3.2.2.2.1.1.2.2.1 (13, 8, 37, 4) (by decide)).1 ?_
            refine g_loadI act (gx gp_58 (w := 0x1003802) rfl (by decide) rfl) (a := 1) (n := 56) rfl rfl rfl ?_
            refine r_aald act (gx gp_58 (w := 0x3912) rfl (by decide) rfl) (n := 57) (c9 := 37) (N := 4) (j := i.toInt.toNat) rfl (hC3.2.2.2.1.1.2.2.1 (13, 8, 37, 4) (by decide)).2 (by decide) (by omega) (by omega) (hC3.2.2.2.1.1.2.2.2 i.toInt.toNat (by omega)).1 ?_
            refine g_loadI act (gx gp_58 (w := 0x2003a02) rfl (by decide) rfl) (a := 2) (n := 58) rfl rfl rfl ?_
            refine g_loadI act (gx gp_58 (w := 0x3003b02) rfl (by decide) rfl) (a := 3) (n := 59) rfl rfl rfl ?_
            refine r_iast act (gx gp_58 (w := 0x3c24) rfl (by decide) rfl) (n := 60) (N := 4) rfl (hC3.2.2.2.1.1.2.2.2 i.toInt.toNat (by omega)).2 (j := k.toInt.toNat) (by omega) (by omega) ?_
            have hC4 : CLN (wr h3 (g + (9 + i.toInt.toNat)) k.toInt.toNat (.int v)) tx L ec ep g (upF F (9 + i.toInt.toNat) k.toInt.toNat v) fv (upI gv (22 + 4 * i.toInt.toNat + k.toInt.toNat) (Int32.toInt v)) o nl ng nr n := hC3.pw (by unfold gpl; omega) (REL.dem hC3.2.2.2.2.1 (x := i.toInt.toNat) (y := k.toInt.toNat) (by omega) (by omega) (rfl : Int32.toInt v = _)) hC3.2.2.2.2.2.1
            have hA4 := hA3.gwr (v := .int v) hC3.2.2.2.1.1 (show gpl (9 + i.toInt.toNat) k.toInt.toNat from (by unfold gpl; omega))
            have hK4 := hK3.gwr (a := (9 + i.toInt.toNat)) (j := k.toInt.toNat) (v := .int v) (by omega)
            have ln4 : (wr h3 (g + (9 + i.toInt.toNat)) k.toInt.toNat (.int v)).length = h3.length := wr_len _ _ _ _
            have hN4 := hN3.gwr (a := (9 + i.toInt.toNat)) (j := k.toInt.toNat) (v := .int v) hC3.g0
            have hT4 := hT3.gwr (a := (9 + i.toInt.toNat)) (j := k.toInt.toNat) (v := .int v) hC3.g0
            generalize (wr h3 (g + (9 + i.toInt.toNat)) k.toInt.toNat (.int v)) = h4 at *
            refine g_loadI act (gx gp_58 (w := 0x4003e02) rfl (by decide) rfl) (a := 4) (n := 62) rfl rfl rfl ?_
            have hC9 := hC4
            have lf1 : hs.length ≤ h4.length := by omega
            have lf2 : h4.length ≤ hs.length + 2 := by omega
            exact g_retI hEnd (gx gp_58 (w := 0x2f) rfl (by decide) rfl) (Or.inl ⟨rfl, by omega, ⟨_, rfl, (hC.2.2.2.2.1.2.2.2.2.2.2.2.2.2.2.2.2.2.1 i.toInt.toNat k.toInt.toNat (by omega) (by omega))⟩, ⟨_, hC9⟩, hT4, ⟨ka, hA4⟩, lf1, lf2, hK4, hN4⟩) (by show kc + 1 + 1 + 1 + 1 + 1 ≤ kc + 5; omega) (by show ks + 11 + 11 + 11 + 5 + 11 ≤ ks + 55; omega)
          · exact absurd hpo.1 (by omega)
        · exact absurd hpo.1 (by omega)
      · obtain ⟨rfl, hq3⟩ := hpo
        obtain ⟨hx1, hq3n⟩ := hq3.resolve_left (fun z => by omega)
        have hq3n : ¬ ((0 : Int) ≤ Int32.toInt v ∧ Int32.toInt v ≤ (200 : Int)) := hq3n
        obtain rfl : x9 = 2 := by omega
        refine Or.inr ⟨rfl, Or.inr (Or.inr ⟨rfl, rfl, by omega, by omega, rfl⟩), by show kc + 3 ≤ kc + 5; omega, by show ks + 33 ≤ ks + 55; omega⟩
    · obtain ⟨rfl, hq2⟩ := hpo
      obtain ⟨hx1, hq2n⟩ := hq2.resolve_left (fun z => by omega)
      obtain rfl : x9 = 1 := by omega
      refine Or.inr ⟨rfl, Or.inr (Or.inl ⟨rfl, rfl, by omega, rfl⟩), by show kc + 2 ≤ kc + 5; omega, by show ks + 22 ≤ ks + 55; omega⟩
  · obtain ⟨rfl, hq1⟩ := hpo
    obtain ⟨hx1, hq1n⟩ := hq1.resolve_left (fun z => by omega)
    obtain rfl : x9 = 1 := by omega
    refine Or.inr ⟨rfl, Or.inr (Or.inl ⟨rfl, rfl, by omega, rfl⟩), by show kc + 1 ≤ kc + 5; omega, by show ks + 11 ≤ ks + 55; omega⟩

end CSETC

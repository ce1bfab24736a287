/-! The class's grid takes a line, a generator, a right; its image and what the text says. -/
/-- the image says what fv, gv say; o: the outage -/
def REL (F : Nat → Nat → Int32) (fv gv : Nat → Int) (o : Int) : Prop := (F 0 0).toInt = fv 0 ∧ (F 0 1).toInt = fv 1 ∧ (F 0 2).toInt = fv 2 ∧ (F 0 3).toInt = fv 3 ∧ (F 0 4).toInt = fv 4 ∧ (F 0 5).toInt = o ∧ (∀ l : Nat, l < 6 → (F 1 l).toInt = fv (5 + l)) ∧ (∀ l : Nat, l < 6 → (F 2 l).toInt = fv (11 + l)) ∧ (∀ l : Nat, l < 6 → (F 3 l).toInt = gv (0 + l)) ∧ (∀ l : Nat, l < 6 → (F 4 l).toInt = gv (6 + l)) ∧ (∀ i : Nat, i < 5 → (F 5 i).toInt = fv (17 + i)) ∧ (∀ i : Nat, i < 5 → (F 6 i).toInt = gv (12 + i)) ∧ (∀ i : Nat, i < 5 → (F 7 i).toInt = gv (17 + i)) ∧ (∀ i n : Nat, i < 4 → n < 4 → (F (9 + i) n).toInt = gv (22 + 4 * i + n)) ∧ (∀ r : Nat, r < 6 → (F 13 r).toInt = fv (22 + 4 * r)) ∧ (∀ r : Nat, r < 6 → (F 14 r).toInt = fv (22 + 4 * r + 1)) ∧ (∀ r : Nat, r < 6 → (F 15 r).toInt = fv (22 + 4 * r + 2)) ∧ (∀ r : Nat, r < 6 → (F 16 r).toInt = fv (22 + 4 * r + 3))

theorem REL.line {F : Nat → Nat → Int32} {fv gv : Nat → Int} {o : Int} (h : REL F fv gv o) {nl : Nat} {i1 i2 i3 i4 n9 : Int32} (hl6 : nl < 6) {a b c d : Int} (e1 : i1.toInt = a) (e2 : i2.toInt = b) (e3 : i3.toInt = c) (e4 : i4.toInt = d) (e9 : n9.toInt = (((nl + 1) : Nat) : Int)) : REL (upF (upF (upF (upF (upF F 1 nl i1) 2 nl i2) 3 nl i3) 4 nl i4) 0 2 n9) (upI (upI (upI fv (5 + nl) a) (11 + nl) b) 2 (((nl + 1) : Nat) : Int)) (upI (upI gv (0 + nl) c) (6 + nl) d) o := by
  obtain ⟨h0, h1, h2, h3, h4, h5, h7, h8, h9, h10, h11, h12, h13, h14, h15, h16, h17, h18⟩ := h
  refine ⟨?_, ?_, ?_, ?_, ?_, ?_, fun l hl => ?_, fun l hl => ?_, fun l hl => ?_, fun l hl => ?_, fun l hl => ?_, fun l hl => ?_, fun l hl => ?_, fun i n hi hn => ?_, fun l hl => ?_, fun l hl => ?_, fun l hl => ?_, fun l hl => ?_⟩
  · unfold upF
    try unfold upI
    (repeat' split) <;> omega
  · unfold upF
    try unfold upI
    (repeat' split) <;> omega
  · unfold upF
    try unfold upI
    (repeat' split) <;> omega
  · unfold upF
    try unfold upI
    (repeat' split) <;> omega
  · unfold upF
    try unfold upI
    (repeat' split) <;> omega
  · unfold upF
    try unfold upI
    (repeat' split) <;> omega
  · have q9 := h7 l hl
    unfold upF
    try unfold upI
    (repeat' split) <;> omega
  · have q9 := h8 l hl
    unfold upF
    try unfold upI
    (repeat' split) <;> omega
  · have q9 := h9 l hl
    unfold upF
    try unfold upI
    (repeat' split) <;> omega
  · have q9 := h10 l hl
    unfold upF
    try unfold upI
    (repeat' split) <;> omega
  · have q9 := h11 l hl
    unfold upF
    try unfold upI
    (repeat' split) <;> omega
  · have q9 := h12 l hl
    unfold upF
    try unfold upI
    (repeat' split) <;> omega
  · have q9 := h13 l hl
    unfold upF
    try unfold upI
    (repeat' split) <;> omega
  · have q9 := h14 i n hi hn
    unfold upF
    try unfold upI
    (repeat' split) <;> omega
  · have q9 := h15 l hl
    unfold upF
    try unfold upI
    (repeat' split) <;> omega
  · have q9 := h16 l hl
    unfold upF
    try unfold upI
    (repeat' split) <;> omega
  · have q9 := h17 l hl
    unfold upF
    try unfold upI
    (repeat' split) <;> omega
  · have q9 := h18 l hl
    unfold upF
    try unfold upI
    (repeat' split) <;> omega

theorem REL.gen {F : Nat → Nat → Int32} {fv gv : Nat → Int} {o : Int} (h : REL F fv gv o) {nl : Nat} {i1 i2 i3 n9 : Int32} (hl6 : nl < 5) {a b c : Int} (e1 : i1.toInt = a) (e2 : i2.toInt = b) (e3 : i3.toInt = c) (e9 : n9.toInt = (((nl + 1) : Nat) : Int)) : REL (upF (upF (upF (upF F 5 nl i1) 6 nl i2) 7 nl i3) 0 3 n9) (upI (upI fv (17 + nl) a) 3 (((nl + 1) : Nat) : Int)) (upI (upI gv (12 + nl) b) (17 + nl) c) o := by
  obtain ⟨h0, h1, h2, h3, h4, h5, h7, h8, h9, h10, h11, h12, h13, h14, h15, h16, h17, h18⟩ := h
  refine ⟨?_, ?_, ?_, ?_, ?_, ?_, fun l hl => ?_, fun l hl => ?_, fun l hl => ?_, fun l hl => ?_, fun l hl => ?_, fun l hl => ?_, fun l hl => ?_, fun i n hi hn => ?_, fun l hl => ?_, fun l hl => ?_, fun l hl => ?_, fun l hl => ?_⟩
  · unfold upF
    try unfold upI
    (repeat' split) <;> omega
  · unfold upF
    try unfold upI
    (repeat' split) <;> omega
  · unfold upF
    try unfold upI
    (repeat' split) <;> omega
  · unfold upF
    try unfold upI
    (repeat' split) <;> omega
  · unfold upF
    try unfold upI
    (repeat' split) <;> omega
  · unfold upF
    try unfold upI
    (repeat' split) <;> omega
  · have q9 := h7 l hl
    unfold upF
    try unfold upI
    (repeat' split) <;> omega
  · have q9 := h8 l hl
    unfold upF
    try unfold upI
    (repeat' split) <;> omega
  · have q9 := h9 l hl
    unfold upF
    try unfold upI
    (repeat' split) <;> omega
  · have q9 := h10 l hl
    unfold upF
    try unfold upI
    (repeat' split) <;> omega
  · have q9 := h11 l hl
    unfold upF
    try unfold upI
    (repeat' split) <;> omega
  · have q9 := h12 l hl
    unfold upF
    try unfold upI
    (repeat' split) <;> omega
  · have q9 := h13 l hl
    unfold upF
    try unfold upI
    (repeat' split) <;> omega
  · have q9 := h14 i n hi hn
    unfold upF
    try unfold upI
    (repeat' split) <;> omega
  · have q9 := h15 l hl
    unfold upF
    try unfold upI
    (repeat' split) <;> omega
  · have q9 := h16 l hl
    unfold upF
    try unfold upI
    (repeat' split) <;> omega
  · have q9 := h17 l hl
    unfold upF
    try unfold upI
    (repeat' split) <;> omega
  · have q9 := h18 l hl
    unfold upF
    try unfold upI
    (repeat' split) <;> omega

theorem REL.rig {F : Nat → Nat → Int32} {fv gv : Nat → Int} {o : Int} (h : REL F fv gv o) {nl : Nat} {i1 i2 i3 i4 n9 : Int32} (hl6 : nl < 6) {a b c d : Int} (e1 : i1.toInt = a) (e2 : i2.toInt = b) (e3 : i3.toInt = c) (e4 : i4.toInt = d) (e9 : n9.toInt = (((nl + 1) : Nat) : Int)) : REL (upF (upF (upF (upF (upF F 13 nl i1) 14 nl i2) 15 nl i3) 16 nl i4) 0 4 n9) (upI (upI (upI (upI (upI fv (22 + 4 * nl) a) (22 + 4 * nl + 1) b) (22 + 4 * nl + 2) c) (22 + 4 * nl + 3) d) 4 (((nl + 1) : Nat) : Int)) gv o := by
  obtain ⟨h0, h1, h2, h3, h4, h5, h7, h8, h9, h10, h11, h12, h13, h14, h15, h16, h17, h18⟩ := h
  refine ⟨?_, ?_, ?_, ?_, ?_, ?_, fun l hl => ?_, fun l hl => ?_, fun l hl => ?_, fun l hl => ?_, fun l hl => ?_, fun l hl => ?_, fun l hl => ?_, fun i n hi hn => ?_, fun l hl => ?_, fun l hl => ?_, fun l hl => ?_, fun l hl => ?_⟩
  · unfold upF
    try unfold upI
    (repeat' split) <;> omega
  · unfold upF
    try unfold upI
    (repeat' split) <;> omega
  · unfold upF
    try unfold upI
    (repeat' split) <;> omega
  · unfold upF
    try unfold upI
    (repeat' split) <;> omega
  · unfold upF
    try unfold upI
    (repeat' split) <;> omega
  · unfold upF
    try unfold upI
    (repeat' split) <;> omega
  · have q9 := h7 l hl
    unfold upF
    try unfold upI
    (repeat' split) <;> omega
  · have q9 := h8 l hl
    unfold upF
    try unfold upI
    (repeat' split) <;> omega
  · have q9 := h9 l hl
    unfold upF
    try unfold upI
    (repeat' split) <;> omega
  · have q9 := h10 l hl
    unfold upF
    try unfold upI
    (repeat' split) <;> omega
  · have q9 := h11 l hl
    unfold upF
    try unfold upI
    (repeat' split) <;> omega
  · have q9 := h12 l hl
    unfold upF
    try unfold upI
    (repeat' split) <;> omega
  · have q9 := h13 l hl
    unfold upF
    try unfold upI
    (repeat' split) <;> omega
  · have q9 := h14 i n hi hn
    unfold upF
    try unfold upI
    (repeat' split) <;> omega
  · have q9 := h15 l hl
    unfold upF
    try unfold upI
    (repeat' split) <;> omega
  · have q9 := h16 l hl
    unfold upF
    try unfold upI
    (repeat' split) <;> omega
  · have q9 := h17 l hl
    unfold upF
    try unfold upI
    (repeat' split) <;> omega
  · have q9 := h18 l hl
    unfold upF
    try unfold upI
    (repeat' split) <;> omega

theorem REL.dem {F : Nat → Nat → Int32} {fv gv : Nat → Int} {o : Int} (h : REL F fv gv o) {x y : Nat} {n9 : Int32} (hx : x < 4) (hy : y < 4) {a : Int} (e9 : n9.toInt = a) : REL (upF F (9 + x) y n9) fv (upI gv (22 + 4 * x + y) a) o := by
  obtain ⟨h0, h1, h2, h3, h4, h5, h7, h8, h9, h10, h11, h12, h13, h14, h15, h16, h17, h18⟩ := h
  refine ⟨?_, ?_, ?_, ?_, ?_, ?_, fun l hl => ?_, fun l hl => ?_, fun l hl => ?_, fun l hl => ?_, fun l hl => ?_, fun l hl => ?_, fun l hl => ?_, fun i n hi hn => ?_, fun l hl => ?_, fun l hl => ?_, fun l hl => ?_, fun l hl => ?_⟩
  · unfold upF
    try unfold upI
    (repeat' split) <;> omega
  · unfold upF
    try unfold upI
    (repeat' split) <;> omega
  · unfold upF
    try unfold upI
    (repeat' split) <;> omega
  · unfold upF
    try unfold upI
    (repeat' split) <;> omega
  · unfold upF
    try unfold upI
    (repeat' split) <;> omega
  · unfold upF
    try unfold upI
    (repeat' split) <;> omega
  · have q9 := h7 l hl
    unfold upF
    try unfold upI
    (repeat' split) <;> omega
  · have q9 := h8 l hl
    unfold upF
    try unfold upI
    (repeat' split) <;> omega
  · have q9 := h9 l hl
    unfold upF
    try unfold upI
    (repeat' split) <;> omega
  · have q9 := h10 l hl
    unfold upF
    try unfold upI
    (repeat' split) <;> omega
  · have q9 := h11 l hl
    unfold upF
    try unfold upI
    (repeat' split) <;> omega
  · have q9 := h12 l hl
    unfold upF
    try unfold upI
    (repeat' split) <;> omega
  · have q9 := h13 l hl
    unfold upF
    try unfold upI
    (repeat' split) <;> omega
  · have q9 := h14 i n hi hn
    unfold upF
    try unfold upI
    (repeat' split) <;> omega
  · have q9 := h15 l hl
    unfold upF
    try unfold upI
    (repeat' split) <;> omega
  · have q9 := h16 l hl
    unfold upF
    try unfold upI
    (repeat' split) <;> omega
  · have q9 := h17 l hl
    unfold upF
    try unfold upI
    (repeat' split) <;> omega
  · have q9 := h18 l hl
    unfold upF
    try unfold upI
    (repeat' split) <;> omega

theorem REL.out {F : Nat → Nat → Int32} {fv gv : Nat → Int} {o : Int} (h : REL F fv gv o) {n9 : Int32} {a : Int} (e9 : n9.toInt = a) : REL (upF F 0 5 n9) fv gv a := by
  obtain ⟨h0, h1, h2, h3, h4, h5, h7, h8, h9, h10, h11, h12, h13, h14, h15, h16, h17, h18⟩ := h
  refine ⟨?_, ?_, ?_, ?_, ?_, ?_, fun l hl => ?_, fun l hl => ?_, fun l hl => ?_, fun l hl => ?_, fun l hl => ?_, fun l hl => ?_, fun l hl => ?_, fun i n hi hn => ?_, fun l hl => ?_, fun l hl => ?_, fun l hl => ?_, fun l hl => ?_⟩
  · unfold upF
    try unfold upI
    (repeat' split) <;> omega
  · unfold upF
    try unfold upI
    (repeat' split) <;> omega
  · unfold upF
    try unfold upI
    (repeat' split) <;> omega
  · unfold upF
    try unfold upI
    (repeat' split) <;> omega
  · unfold upF
    try unfold upI
    (repeat' split) <;> omega
  · unfold upF
    try unfold upI
    (repeat' split) <;> omega
  · have q9 := h7 l hl
    unfold upF
    try unfold upI
    (repeat' split) <;> omega
  · have q9 := h8 l hl
    unfold upF
    try unfold upI
    (repeat' split) <;> omega
  · have q9 := h9 l hl
    unfold upF
    try unfold upI
    (repeat' split) <;> omega
  · have q9 := h10 l hl
    unfold upF
    try unfold upI
    (repeat' split) <;> omega
  · have q9 := h11 l hl
    unfold upF
    try unfold upI
    (repeat' split) <;> omega
  · have q9 := h12 l hl
    unfold upF
    try unfold upI
    (repeat' split) <;> omega
  · have q9 := h13 l hl
    unfold upF
    try unfold upI
    (repeat' split) <;> omega
  · have q9 := h14 i n hi hn
    unfold upF
    try unfold upI
    (repeat' split) <;> omega
  · have q9 := h15 l hl
    unfold upF
    try unfold upI
    (repeat' split) <;> omega
  · have q9 := h16 l hl
    unfold upF
    try unfold upI
    (repeat' split) <;> omega
  · have q9 := h17 l hl
    unfold upF
    try unfold upI
    (repeat' split) <;> omega
  · have q9 := h18 l hl
    unfold upF
    try unfold upI
    (repeat' split) <;> omega

theorem REL.nod {F : Nat → Nat → Int32} {fv gv : Nat → Int} {o : Int} (h : REL F fv gv o) {n9 : Int32} {a : Int} (e9 : n9.toInt = a) : REL (upF F 0 0 n9) (upI fv 0 a) gv o := by
  obtain ⟨h0, h1, h2, h3, h4, h5, h7, h8, h9, h10, h11, h12, h13, h14, h15, h16, h17, h18⟩ := h
  refine ⟨?_, ?_, ?_, ?_, ?_, ?_, fun l hl => ?_, fun l hl => ?_, fun l hl => ?_, fun l hl => ?_, fun l hl => ?_, fun l hl => ?_, fun l hl => ?_, fun i n hi hn => ?_, fun l hl => ?_, fun l hl => ?_, fun l hl => ?_, fun l hl => ?_⟩
  · unfold upF
    try unfold upI
    (repeat' split) <;> omega
  · unfold upF
    try unfold upI
    (repeat' split) <;> omega
  · unfold upF
    try unfold upI
    (repeat' split) <;> omega
  · unfold upF
    try unfold upI
    (repeat' split) <;> omega
  · unfold upF
    try unfold upI
    (repeat' split) <;> omega
  · unfold upF
    try unfold upI
    (repeat' split) <;> omega
  · have q9 := h7 l hl
    unfold upF
    try unfold upI
    (repeat' split) <;> omega
  · have q9 := h8 l hl
    unfold upF
    try unfold upI
    (repeat' split) <;> omega
  · have q9 := h9 l hl
    unfold upF
    try unfold upI
    (repeat' split) <;> omega
  · have q9 := h10 l hl
    unfold upF
    try unfold upI
    (repeat' split) <;> omega
  · have q9 := h11 l hl
    unfold upF
    try unfold upI
    (repeat' split) <;> omega
  · have q9 := h12 l hl
    unfold upF
    try unfold upI
    (repeat' split) <;> omega
  · have q9 := h13 l hl
    unfold upF
    try unfold upI
    (repeat' split) <;> omega
  · have q9 := h14 i n hi hn
    unfold upF
    try unfold upI
    (repeat' split) <;> omega
  · have q9 := h15 l hl
    unfold upF
    try unfold upI
    (repeat' split) <;> omega
  · have q9 := h16 l hl
    unfold upF
    try unfold upI
    (repeat' split) <;> omega
  · have q9 := h17 l hl
    unfold upF
    try unfold upI
    (repeat' split) <;> omega
  · have q9 := h18 l hl
    unfold upF
    try unfold upI
    (repeat' split) <;> omega

theorem REL.itv {F : Nat → Nat → Int32} {fv gv : Nat → Int} {o : Int} (h : REL F fv gv o) {n9 : Int32} {a : Int} (e9 : n9.toInt = a) : REL (upF F 0 1 n9) (upI fv 1 a) gv o := by
  obtain ⟨h0, h1, h2, h3, h4, h5, h7, h8, h9, h10, h11, h12, h13, h14, h15, h16, h17, h18⟩ := h
  refine ⟨?_, ?_, ?_, ?_, ?_, ?_, fun l hl => ?_, fun l hl => ?_, fun l hl => ?_, fun l hl => ?_, fun l hl => ?_, fun l hl => ?_, fun l hl => ?_, fun i n hi hn => ?_, fun l hl => ?_, fun l hl => ?_, fun l hl => ?_, fun l hl => ?_⟩
  · unfold upF
    try unfold upI
    (repeat' split) <;> omega
  · unfold upF
    try unfold upI
    (repeat' split) <;> omega
  · unfold upF
    try unfold upI
    (repeat' split) <;> omega
  · unfold upF
    try unfold upI
    (repeat' split) <;> omega
  · unfold upF
    try unfold upI
    (repeat' split) <;> omega
  · unfold upF
    try unfold upI
    (repeat' split) <;> omega
  · have q9 := h7 l hl
    unfold upF
    try unfold upI
    (repeat' split) <;> omega
  · have q9 := h8 l hl
    unfold upF
    try unfold upI
    (repeat' split) <;> omega
  · have q9 := h9 l hl
    unfold upF
    try unfold upI
    (repeat' split) <;> omega
  · have q9 := h10 l hl
    unfold upF
    try unfold upI
    (repeat' split) <;> omega
  · have q9 := h11 l hl
    unfold upF
    try unfold upI
    (repeat' split) <;> omega
  · have q9 := h12 l hl
    unfold upF
    try unfold upI
    (repeat' split) <;> omega
  · have q9 := h13 l hl
    unfold upF
    try unfold upI
    (repeat' split) <;> omega
  · have q9 := h14 i n hi hn
    unfold upF
    try unfold upI
    (repeat' split) <;> omega
  · have q9 := h15 l hl
    unfold upF
    try unfold upI
    (repeat' split) <;> omega
  · have q9 := h16 l hl
    unfold upF
    try unfold upI
    (repeat' split) <;> omega
  · have q9 := h17 l hl
    unfold upF
    try unfold upI
    (repeat' split) <;> omega
  · have q9 := h18 l hl
    unfold upF
    try unfold upI
    (repeat' split) <;> omega

section CRDA
variable {g0 : GG} {bl : Nat} {xs : Nat → Int32} {l : Launch} {hs : List CE} {g nl : Nat} {F : Nat → Nat → Int32} {i1 i2 i3 i4 : Int32}
theorem cx_addL (hG : GIM hs g F) (hlN : (F 0 2).toInt = (nl : Int)) (hl6 : nl < 6) : BodyN SSX TBL g0 CLS bl xs l D_96 0 0 0 0 [.ref g, .int i1, .int i2, .int i3, .int i4] hs (fun kd r h2 => kd = 0 ∧ r = none ∧ ∃ F2 : Nat → Nat → Int32, GIM h2 g F2 ∧ FrS (WGr g) hs h2 ∧ F2 = (upF (upF (upF (upF (upF F 1 nl i1) 2 nl i2) 3 nl i3) 4 nl i4) 0 2 (F 0 2 + (1 : Int32)))) := by
  intro wp p e R sW m args below meth c Q kc0 ks0 kc ks act hf hl hc hsl hEnd
  have hf : 0 ≤ R.frames := hf
  have hl : 0 ≤ R.locals := hl
  have hfr0 := FrS.rf (WGr g) hs
  show WpN (gp g0 wp) CLS p l e R sW m args below meth c Q D_96.2.2.1 kc0 ks0 0 [some (.ref g), some (.int i1), some (.int i2), some (.int i3), some (.int i4)] (hs, kc, ks) []
  refine g_loadA act (gx gp_96 (w := 0x103) rfl (by decide) rfl) (a := 0) (n := 1) rfl rfl rfl ?_
  refine r_getf act (gx gp_96 (w := 0x84000404) rfl (by decide) rfl) (n := 4) (ci := 4) (j := 2) (N := 18) rfl rfl rfl hG.1.2.1 (by decide) (v := .int (F 0 2)) (hG.2 0 2 (Or.inl ⟨rfl, by decide⟩)) ?_
  refine g_constI act (gx gp_96 (w := 0x40000003400000031000000000601) rfl (by decide) rfl) (n := 6) (x := (6 : Int32)) (by decide) rfl ?_
  refine g_icmpGe act (gx gp_96 (w := 0x3c000908) rfl (by decide) rfl) (tgt := 60) (n := 9) rfl rfl (fun h3 => ?_) (fun h3 => ?_)
  · simp only [i_le, show (6 : Int32).toInt = 6 from by decide] at h3
    exfalso; omega
  · simp only [i_le, show (6 : Int32).toInt = 6 from by decide] at h3
    refine g_loadA act (gx gp_96 (w := 0xa03) rfl (by decide) rfl) (a := 0) (n := 10) rfl rfl rfl ?_
    refine r_getf act (gx gp_96 (w := 0x3000184000d04) rfl (by decide) rfl) (n := 13) (ci := 4) (j := 6) (N := 18) rfl rfl rfl hG.1.2.1 (by decide) (v := .ref (g + 1)) (hG.1.2.2.1 (6, 1, 32, 6) (by decide)).1 ?_
    refine g_loadA act (gx gp_96 (w := 0xe03) rfl (by decide) rfl) (a := 0) (n := 14) rfl rfl rfl ?_
    refine r_getf act (gx gp_96 (w := 0x84001104) rfl (by decide) rfl) (n := 17) (ci := 4) (j := 2) (N := 18) rfl rfl rfl hG.1.2.1 (by decide) (v := .int (F 0 2)) (hG.2 0 2 (Or.inl ⟨rfl, by decide⟩)) ?_
    refine g_loadI act (gx gp_96 (w := 0x1001202) rfl (by decide) rfl) (a := 1) (n := 18) rfl rfl rfl ?_
    refine r_iast act (gx gp_96 (w := 0x1324) rfl (by decide) rfl) (n := 19) (j := nl) (N := 6) rfl (hG.1.2.2.1 (6, 1, 32, 6) (by decide)).2 hlN (show nl < 6 by omega) ?_
    have f_1 := hG.put (a := 1) (j := nl) (x := i1) (by unfold gpl; omega)
    have fr_2 := hfr0.wr (k := (g + 1)) (j := nl) (.int i1) (by unfold WGr; omega)
    clear hG hfr0
    generalize (wr hs (g + 1) nl (.int i1)) = hs_3 at *
    refine g_loadA act (gx gp_96 (w := 0x1403) rfl (by decide) rfl) (a := 0) (n := 20) rfl rfl rfl ?_
    refine r_getf act (gx gp_96 (w := 0x30001c4001704) rfl (by decide) rfl) (n := 23) (ci := 4) (j := 7) (N := 18) rfl rfl rfl f_1.1.2.1 (by decide) (v := .ref (g + 2)) (f_1.1.2.2.1 (7, 2, 32, 6) (by decide)).1 ?_
    refine g_loadA act (gx gp_96 (w := 0x1803) rfl (by decide) rfl) (a := 0) (n := 24) rfl rfl rfl ?_
    refine r_getf act (gx gp_96 (w := 0x84001b04) rfl (by decide) rfl) (n := 27) (ci := 4) (j := 2) (N := 18) rfl rfl rfl f_1.1.2.1 (by decide) (v := .int (F 0 2)) (f_1.2 0 2 (Or.inl ⟨rfl, by decide⟩)) ?_
    refine g_loadI act (gx gp_96 (w := 0x2001c02) rfl (by decide) rfl) (a := 2) (n := 28) rfl rfl rfl ?_
    refine r_iast act (gx gp_96 (w := 0x1d24) rfl (by decide) rfl) (n := 29) (j := nl) (N := 6) rfl (f_1.1.2.2.1 (7, 2, 32, 6) (by decide)).2 hlN (show nl < 6 by omega) ?_
    have f_4 := f_1.put (a := 2) (j := nl) (x := i2) (by unfold gpl; omega)
    have fr_5 := fr_2.wr (k := (g + 2)) (j := nl) (.int i2) (by unfold WGr; omega)
    clear f_1 fr_2
    generalize (wr hs_3 (g + 2) nl (.int i2)) = hs_6 at *
    refine g_loadA act (gx gp_96 (w := 0x1e03) rfl (by decide) rfl) (a := 0) (n := 30) rfl rfl rfl ?_
    refine r_getf act (gx gp_96 (w := 0x3000204002104) rfl (by decide) rfl) (n := 33) (ci := 4) (j := 8) (N := 18) rfl rfl rfl f_4.1.2.1 (by decide) (v := .ref (g + 3)) (f_4.1.2.2.1 (8, 3, 32, 6) (by decide)).1 ?_
    refine g_loadA act (gx gp_96 (w := 0x2203) rfl (by decide) rfl) (a := 0) (n := 34) rfl rfl rfl ?_
    refine r_getf act (gx gp_96 (w := 0x84002504) rfl (by decide) rfl) (n := 37) (ci := 4) (j := 2) (N := 18) rfl rfl rfl f_4.1.2.1 (by decide) (v := .int (F 0 2)) (f_4.2 0 2 (Or.inl ⟨rfl, by decide⟩)) ?_
    refine g_loadI act (gx gp_96 (w := 0x3002602) rfl (by decide) rfl) (a := 3) (n := 38) rfl rfl rfl ?_
    refine r_iast act (gx gp_96 (w := 0x2724) rfl (by decide) rfl) (n := 39) (j := nl) (N := 6) rfl (f_4.1.2.2.1 (8, 3, 32, 6) (by decide)).2 hlN (show nl < 6 by omega) ?_
    have f_7 := f_4.put (a := 3) (j := nl) (x := i3) (by unfold gpl; omega)
    have fr_8 := fr_5.wr (k := (g + 3)) (j := nl) (.int i3) (by unfold WGr; omega)
    clear f_4 fr_5
    generalize (wr hs_6 (g + 3) nl (.int i3)) = hs_9 at *
    refine g_loadA act (gx gp_96 (w := 0x2803) rfl (by decide) rfl) (a := 0) (n := 40) rfl rfl rfl ?_
    refine r_getf act (gx gp_96 (w := 0x3000244002b04) rfl (by decide) rfl) (n := 43) (ci := 4) (j := 9) (N := 18) rfl rfl rfl f_7.1.2.1 (by decide) (v := .ref (g + 4)) (f_7.1.2.2.1 (9, 4, 32, 6) (by decide)).1 ?_
    refine g_loadA act (gx gp_96 (w := 0x2c03) rfl (by decide) rfl) (a := 0) (n := 44) rfl rfl rfl ?_
    refine r_getf act (gx gp_96 (w := 0x84002f04) rfl (by decide) rfl) (n := 47) (ci := 4) (j := 2) (N := 18) rfl rfl rfl f_7.1.2.1 (by decide) (v := .int (F 0 2)) (f_7.2 0 2 (Or.inl ⟨rfl, by decide⟩)) ?_
    refine g_loadI act (gx gp_96 (w := 0x4003102) rfl (by decide) rfl) (a := 4) (n := 49) rfl rfl rfl ?_
    refine r_iast act (gx gp_96 (w := 0x3224) rfl (by decide) rfl) (n := 50) (j := nl) (N := 6) rfl (f_7.1.2.2.1 (9, 4, 32, 6) (by decide)).2 hlN (show nl < 6 by omega) ?_
    have f_10 := f_7.put (a := 4) (j := nl) (x := i4) (by unfold gpl; omega)
    have fr_11 := fr_8.wr (k := (g + 4)) (j := nl) (.int i4) (by unfold WGr; omega)
    clear f_7 fr_8
    generalize (wr hs_9 (g + 4) nl (.int i4)) = hs_12 at *
    refine g_loadA act (gx gp_96 (w := 0x3303) rfl (by decide) rfl) (a := 0) (n := 51) rfl rfl rfl ?_
    refine g_dup act (gx gp_96 (w := 0x3422) rfl (by decide) rfl) (n := 52) rfl rfl ?_
    refine r_getf act (gx gp_96 (w := 0x84003704) rfl (by decide) rfl) (n := 55) (ci := 4) (j := 2) (N := 18) rfl rfl rfl f_10.1.2.1 (by decide) (v := .int (F 0 2)) (f_10.2 0 2 (Or.inl ⟨rfl, by decide⟩)) ?_
    refine g_constI act (gx gp_96 (w := 0x40000000c00000009000000003801) rfl (by decide) rfl) (n := 56) (x := (1 : Int32)) (by decide) rfl ?_
    refine g_iadd act (gx gp_96 (w := 0x390a) rfl (by decide) rfl) (n := 57) rfl ?_
    have v_13 := iv_addN hlN (show (1 : Int32).toInt = ((1 : Nat) : Int) from by decide) (show (nl + 1) < 2147483648 by omega)
    refine r_putf act (gx gp_96 (w := 0x84003c13) rfl (by decide) rfl) (n := 60) (ci := 4) (j := 2) (N := 18) rfl rfl rfl f_10.1.2.1 (by decide) (Or.inl ⟨rfl, _, rfl⟩) ?_
    have f_14 := f_10.put0 (j := 2) (x := ((F 0 2) + (1 : Int32))) (by omega)
    have fr_15 := fr_11.wr (k := g) (j := 2) (.int ((F 0 2) + (1 : Int32))) (by unfold WGr; omega)
    clear f_10 fr_11
    generalize (wr hs_12 g 2 (.int ((F 0 2) + (1 : Int32)))) = hs_16 at *
    exact g_retV hEnd (gx gp_96 (w := 0x18) rfl (by decide) rfl) ⟨rfl, rfl, _, f_14, fr_15, rfl⟩ (by show kc ≤ kc + 0; omega) (by show ks ≤ ks + 0; omega)

theorem cx_addG (hG : GIM hs g F) (hlN : (F 0 3).toInt = (nl : Int)) (hl6 : nl < 5) : BodyN SSX TBL g0 CLS bl xs l D_95 0 0 0 0 [.ref g, .int i1, .int i2, .int i3] hs (fun kd r h2 => kd = 0 ∧ r = none ∧ ∃ F2 : Nat → Nat → Int32, GIM h2 g F2 ∧ FrS (WGr g) hs h2 ∧ F2 = (upF (upF (upF (upF F 5 nl i1) 6 nl i2) 7 nl i3) 0 3 (F 0 3 + (1 : Int32)))) := by
  intro wp p e R sW m args below meth c Q kc0 ks0 kc ks act hf hl hc hsl hEnd
  have hf : 0 ≤ R.frames := hf
  have hl : 0 ≤ R.locals := hl
  have hfr0 := FrS.rf (WGr g) hs
  show WpN (gp g0 wp) CLS p l e R sW m args below meth c Q D_95.2.2.1 kc0 ks0 0 [some (.ref g), some (.int i1), some (.int i2), some (.int i3)] (hs, kc, ks) []
  refine g_loadA act (gx gp_95 (w := 0x103) rfl (by decide) rfl) (a := 0) (n := 1) rfl rfl rfl ?_
  refine r_getf act (gx gp_95 (w := 0xc4000404) rfl (by decide) rfl) (n := 4) (ci := 4) (j := 3) (N := 18) rfl rfl rfl hG.1.2.1 (by decide) (v := .int (F 0 3)) (hG.2 0 3 (Or.inl ⟨rfl, by decide⟩)) ?_
  refine g_constI act (gx gp_95 (w := 0x40000002c00000029000000000501) rfl (by decide) rfl) (n := 5) (x := (5 : Int32)) (by decide) rfl ?_
  refine g_icmpGe act (gx gp_95 (w := 0x30000808) rfl (by decide) rfl) (tgt := 48) (n := 8) rfl rfl (fun h3 => ?_) (fun h3 => ?_)
  · simp only [i_le, show (5 : Int32).toInt = 5 from by decide] at h3
    exfalso; omega
  · simp only [i_le, show (5 : Int32).toInt = 5 from by decide] at h3
    refine g_loadA act (gx gp_95 (w := 0x903) rfl (by decide) rfl) (a := 0) (n := 9) rfl rfl rfl ?_
    refine r_getf act (gx gp_95 (w := 0x3000284000c04) rfl (by decide) rfl) (n := 12) (ci := 4) (j := 10) (N := 18) rfl rfl rfl hG.1.2.1 (by decide) (v := .ref (g + 5)) (hG.1.2.2.1 (10, 5, 32, 5) (by decide)).1 ?_
    refine g_loadA act (gx gp_95 (w := 0xd03) rfl (by decide) rfl) (a := 0) (n := 13) rfl rfl rfl ?_
    refine r_getf act (gx gp_95 (w := 0xc4001004) rfl (by decide) rfl) (n := 16) (ci := 4) (j := 3) (N := 18) rfl rfl rfl hG.1.2.1 (by decide) (v := .int (F 0 3)) (hG.2 0 3 (Or.inl ⟨rfl, by decide⟩)) ?_
    refine g_loadI act (gx gp_95 (w := 0x1001102) rfl (by decide) rfl) (a := 1) (n := 17) rfl rfl rfl ?_
    refine r_iast act (gx gp_95 (w := 0x1224) rfl (by decide) rfl) (n := 18) (j := nl) (N := 5) rfl (hG.1.2.2.1 (10, 5, 32, 5) (by decide)).2 hlN (show nl < 5 by omega) ?_
    have f_1 := hG.put (a := 5) (j := nl) (x := i1) (by unfold gpl; omega)
    have fr_2 := hfr0.wr (k := (g + 5)) (j := nl) (.int i1) (by unfold WGr; omega)
    clear hG hfr0
    generalize (wr hs (g + 5) nl (.int i1)) = hs_3 at *
    refine g_loadA act (gx gp_95 (w := 0x1303) rfl (by decide) rfl) (a := 0) (n := 19) rfl rfl rfl ?_
    refine r_getf act (gx gp_95 (w := 0x30002c4001604) rfl (by decide) rfl) (n := 22) (ci := 4) (j := 11) (N := 18) rfl rfl rfl f_1.1.2.1 (by decide) (v := .ref (g + 6)) (f_1.1.2.2.1 (11, 6, 32, 5) (by decide)).1 ?_
    refine g_loadA act (gx gp_95 (w := 0x1703) rfl (by decide) rfl) (a := 0) (n := 23) rfl rfl rfl ?_
    refine r_getf act (gx gp_95 (w := 0xc4001a04) rfl (by decide) rfl) (n := 26) (ci := 4) (j := 3) (N := 18) rfl rfl rfl f_1.1.2.1 (by decide) (v := .int (F 0 3)) (f_1.2 0 3 (Or.inl ⟨rfl, by decide⟩)) ?_
    refine g_loadI act (gx gp_95 (w := 0x2001b02) rfl (by decide) rfl) (a := 2) (n := 27) rfl rfl rfl ?_
    refine r_iast act (gx gp_95 (w := 0x1c24) rfl (by decide) rfl) (n := 28) (j := nl) (N := 5) rfl (f_1.1.2.2.1 (11, 6, 32, 5) (by decide)).2 hlN (show nl < 5 by omega) ?_
    have f_4 := f_1.put (a := 6) (j := nl) (x := i2) (by unfold gpl; omega)
    have fr_5 := fr_2.wr (k := (g + 6)) (j := nl) (.int i2) (by unfold WGr; omega)
    clear f_1 fr_2
    generalize (wr hs_3 (g + 6) nl (.int i2)) = hs_6 at *
    refine g_loadA act (gx gp_95 (w := 0x1d03) rfl (by decide) rfl) (a := 0) (n := 29) rfl rfl rfl ?_
    refine r_getf act (gx gp_95 (w := 0x3000304002004) rfl (by decide) rfl) (n := 32) (ci := 4) (j := 12) (N := 18) rfl rfl rfl f_4.1.2.1 (by decide) (v := .ref (g + 7)) (f_4.1.2.2.1 (12, 7, 32, 5) (by decide)).1 ?_
    refine g_loadA act (gx gp_95 (w := 0x2103) rfl (by decide) rfl) (a := 0) (n := 33) rfl rfl rfl ?_
    refine r_getf act (gx gp_95 (w := 0xc4002404) rfl (by decide) rfl) (n := 36) (ci := 4) (j := 3) (N := 18) rfl rfl rfl f_4.1.2.1 (by decide) (v := .int (F 0 3)) (f_4.2 0 3 (Or.inl ⟨rfl, by decide⟩)) ?_
    refine g_loadI act (gx gp_95 (w := 0x3002502) rfl (by decide) rfl) (a := 3) (n := 37) rfl rfl rfl ?_
    refine r_iast act (gx gp_95 (w := 0x2624) rfl (by decide) rfl) (n := 38) (j := nl) (N := 5) rfl (f_4.1.2.2.1 (12, 7, 32, 5) (by decide)).2 hlN (show nl < 5 by omega) ?_
    have f_7 := f_4.put (a := 7) (j := nl) (x := i3) (by unfold gpl; omega)
    have fr_8 := fr_5.wr (k := (g + 7)) (j := nl) (.int i3) (by unfold WGr; omega)
    clear f_4 fr_5
    generalize (wr hs_6 (g + 7) nl (.int i3)) = hs_9 at *
    refine g_loadA act (gx gp_95 (w := 0x2703) rfl (by decide) rfl) (a := 0) (n := 39) rfl rfl rfl ?_
    refine g_dup act (gx gp_95 (w := 0x2822) rfl (by decide) rfl) (n := 40) rfl rfl ?_
    refine r_getf act (gx gp_95 (w := 0xc4002b04) rfl (by decide) rfl) (n := 43) (ci := 4) (j := 3) (N := 18) rfl rfl rfl f_7.1.2.1 (by decide) (v := .int (F 0 3)) (f_7.2 0 3 (Or.inl ⟨rfl, by decide⟩)) ?_
    refine g_constI act (gx gp_95 (w := 0x40000000c00000009000000002c01) rfl (by decide) rfl) (n := 44) (x := (1 : Int32)) (by decide) rfl ?_
    refine g_iadd act (gx gp_95 (w := 0x2d0a) rfl (by decide) rfl) (n := 45) rfl ?_
    have v_10 := iv_addN hlN (show (1 : Int32).toInt = ((1 : Nat) : Int) from by decide) (show (nl + 1) < 2147483648 by omega)
    refine r_putf act (gx gp_95 (w := 0xc4003013) rfl (by decide) rfl) (n := 48) (ci := 4) (j := 3) (N := 18) rfl rfl rfl f_7.1.2.1 (by decide) (Or.inl ⟨rfl, _, rfl⟩) ?_
    have f_11 := f_7.put0 (j := 3) (x := ((F 0 3) + (1 : Int32))) (by omega)
    have fr_12 := fr_8.wr (k := g) (j := 3) (.int ((F 0 3) + (1 : Int32))) (by unfold WGr; omega)
    clear f_7 fr_8
    generalize (wr hs_9 g 3 (.int ((F 0 3) + (1 : Int32)))) = hs_13 at *
    exact g_retV hEnd (gx gp_95 (w := 0x18) rfl (by decide) rfl) ⟨rfl, rfl, _, f_11, fr_12, rfl⟩ (by show kc ≤ kc + 0; omega) (by show ks ≤ ks + 0; omega)

theorem cx_addR (hG : GIM hs g F) (hlN : (F 0 4).toInt = (nl : Int)) (hl6 : nl < 6) : BodyN SSX TBL g0 CLS bl xs l D_97 0 0 0 0 [.ref g, .int i1, .int i2, .int i3, .int i4] hs (fun kd r h2 => kd = 0 ∧ r = none ∧ ∃ F2 : Nat → Nat → Int32, GIM h2 g F2 ∧ FrS (WGr g) hs h2 ∧ F2 = (upF (upF (upF (upF (upF F 13 nl i1) 14 nl i2) 15 nl i3) 16 nl i4) 0 4 (F 0 4 + (1 : Int32)))) := by
  intro wp p e R sW m args below meth c Q kc0 ks0 kc ks act hf hl hc hsl hEnd
  have hf : 0 ≤ R.frames := hf
  have hl : 0 ≤ R.locals := hl
  have hfr0 := FrS.rf (WGr g) hs
  show WpN (gp g0 wp) CLS p l e R sW m args below meth c Q D_97.2.2.1 kc0 ks0 0 [some (.ref g), some (.int i1), some (.int i2), some (.int i3), some (.int i4)] (hs, kc, ks) []
  refine g_loadA act (gx gp_97 (w := 0x103) rfl (by decide) rfl) (a := 0) (n := 1) rfl rfl rfl ?_
  refine r_getf act (gx gp_97 (w := 0x104000404) rfl (by decide) rfl) (n := 4) (ci := 4) (j := 4) (N := 18) rfl rfl rfl hG.1.2.1 (by decide) (v := .int (F 0 4)) (hG.2 0 4 (Or.inl ⟨rfl, by decide⟩)) ?_
  refine g_constI act (gx gp_97 (w := 0x40000003400000031000000000601) rfl (by decide) rfl) (n := 6) (x := (6 : Int32)) (by decide) rfl ?_
  refine g_icmpGe act (gx gp_97 (w := 0x3c000908) rfl (by decide) rfl) (tgt := 60) (n := 9) rfl rfl (fun h3 => ?_) (fun h3 => ?_)
  · simp only [i_le, show (6 : Int32).toInt = 6 from by decide] at h3
    exfalso; omega
  · simp only [i_le, show (6 : Int32).toInt = 6 from by decide] at h3
    refine g_loadA act (gx gp_97 (w := 0xa03) rfl (by decide) rfl) (a := 0) (n := 10) rfl rfl rfl ?_
    refine r_getf act (gx gp_97 (w := 0x3000384000d04) rfl (by decide) rfl) (n := 13) (ci := 4) (j := 14) (N := 18) rfl rfl rfl hG.1.2.1 (by decide) (v := .ref (g + 13)) (hG.1.2.2.1 (14, 13, 32, 6) (by decide)).1 ?_
    refine g_loadA act (gx gp_97 (w := 0xe03) rfl (by decide) rfl) (a := 0) (n := 14) rfl rfl rfl ?_
    refine r_getf act (gx gp_97 (w := 0x104001104) rfl (by decide) rfl) (n := 17) (ci := 4) (j := 4) (N := 18) rfl rfl rfl hG.1.2.1 (by decide) (v := .int (F 0 4)) (hG.2 0 4 (Or.inl ⟨rfl, by decide⟩)) ?_
    refine g_loadI act (gx gp_97 (w := 0x1001202) rfl (by decide) rfl) (a := 1) (n := 18) rfl rfl rfl ?_
    refine r_iast act (gx gp_97 (w := 0x1324) rfl (by decide) rfl) (n := 19) (j := nl) (N := 6) rfl (hG.1.2.2.1 (14, 13, 32, 6) (by decide)).2 hlN (show nl < 6 by omega) ?_
    have f_1 := hG.put (a := 13) (j := nl) (x := i1) (by unfold gpl; omega)
    have fr_2 := hfr0.wr (k := (g + 13)) (j := nl) (.int i1) (by unfold WGr; omega)
    clear hG hfr0
    generalize (wr hs (g + 13) nl (.int i1)) = hs_3 at *
    refine g_loadA act (gx gp_97 (w := 0x1403) rfl (by decide) rfl) (a := 0) (n := 20) rfl rfl rfl ?_
    refine r_getf act (gx gp_97 (w := 0x30003c4001704) rfl (by decide) rfl) (n := 23) (ci := 4) (j := 15) (N := 18) rfl rfl rfl f_1.1.2.1 (by decide) (v := .ref (g + 14)) (f_1.1.2.2.1 (15, 14, 32, 6) (by decide)).1 ?_
    refine g_loadA act (gx gp_97 (w := 0x1803) rfl (by decide) rfl) (a := 0) (n := 24) rfl rfl rfl ?_
    refine r_getf act (gx gp_97 (w := 0x104001b04) rfl (by decide) rfl) (n := 27) (ci := 4) (j := 4) (N := 18) rfl rfl rfl f_1.1.2.1 (by decide) (v := .int (F 0 4)) (f_1.2 0 4 (Or.inl ⟨rfl, by decide⟩)) ?_
    refine g_loadI act (gx gp_97 (w := 0x2001c02) rfl (by decide) rfl) (a := 2) (n := 28) rfl rfl rfl ?_
    refine r_iast act (gx gp_97 (w := 0x1d24) rfl (by decide) rfl) (n := 29) (j := nl) (N := 6) rfl (f_1.1.2.2.1 (15, 14, 32, 6) (by decide)).2 hlN (show nl < 6 by omega) ?_
    have f_4 := f_1.put (a := 14) (j := nl) (x := i2) (by unfold gpl; omega)
    have fr_5 := fr_2.wr (k := (g + 14)) (j := nl) (.int i2) (by unfold WGr; omega)
    clear f_1 fr_2
    generalize (wr hs_3 (g + 14) nl (.int i2)) = hs_6 at *
    refine g_loadA act (gx gp_97 (w := 0x1e03) rfl (by decide) rfl) (a := 0) (n := 30) rfl rfl rfl ?_
    refine r_getf act (gx gp_97 (w := 0x3000404002104) rfl (by decide) rfl) (n := 33) (ci := 4) (j := 16) (N := 18) rfl rfl rfl f_4.1.2.1 (by decide) (v := .ref (g + 15)) (f_4.1.2.2.1 (16, 15, 32, 6) (by decide)).1 ?_
    refine g_loadA act (gx gp_97 (w := 0x2203) rfl (by decide) rfl) (a := 0) (n := 34) rfl rfl rfl ?_
    refine r_getf act (gx gp_97 (w := 0x104002504) rfl (by decide) rfl) (n := 37) (ci := 4) (j := 4) (N := 18) rfl rfl rfl f_4.1.2.1 (by decide) (v := .int (F 0 4)) (f_4.2 0 4 (Or.inl ⟨rfl, by decide⟩)) ?_
    refine g_loadI act (gx gp_97 (w := 0x3002602) rfl (by decide) rfl) (a := 3) (n := 38) rfl rfl rfl ?_
    refine r_iast act (gx gp_97 (w := 0x2724) rfl (by decide) rfl) (n := 39) (j := nl) (N := 6) rfl (f_4.1.2.2.1 (16, 15, 32, 6) (by decide)).2 hlN (show nl < 6 by omega) ?_
    have f_7 := f_4.put (a := 15) (j := nl) (x := i3) (by unfold gpl; omega)
    have fr_8 := fr_5.wr (k := (g + 15)) (j := nl) (.int i3) (by unfold WGr; omega)
    clear f_4 fr_5
    generalize (wr hs_6 (g + 15) nl (.int i3)) = hs_9 at *
    refine g_loadA act (gx gp_97 (w := 0x2803) rfl (by decide) rfl) (a := 0) (n := 40) rfl rfl rfl ?_
    refine r_getf act (gx gp_97 (w := 0x3000444002b04) rfl (by decide) rfl) (n := 43) (ci := 4) (j := 17) (N := 18) rfl rfl rfl f_7.1.2.1 (by decide) (v := .ref (g + 16)) (f_7.1.2.2.1 (17, 16, 32, 6) (by decide)).1 ?_
    refine g_loadA act (gx gp_97 (w := 0x2c03) rfl (by decide) rfl) (a := 0) (n := 44) rfl rfl rfl ?_
    refine r_getf act (gx gp_97 (w := 0x104002f04) rfl (by decide) rfl) (n := 47) (ci := 4) (j := 4) (N := 18) rfl rfl rfl f_7.1.2.1 (by decide) (v := .int (F 0 4)) (f_7.2 0 4 (Or.inl ⟨rfl, by decide⟩)) ?_
    refine g_loadI act (gx gp_97 (w := 0x4003102) rfl (by decide) rfl) (a := 4) (n := 49) rfl rfl rfl ?_
    refine r_iast act (gx gp_97 (w := 0x3224) rfl (by decide) rfl) (n := 50) (j := nl) (N := 6) rfl (f_7.1.2.2.1 (17, 16, 32, 6) (by decide)).2 hlN (show nl < 6 by omega) ?_
    have f_10 := f_7.put (a := 16) (j := nl) (x := i4) (by unfold gpl; omega)
    have fr_11 := fr_8.wr (k := (g + 16)) (j := nl) (.int i4) (by unfold WGr; omega)
    clear f_7 fr_8
    generalize (wr hs_9 (g + 16) nl (.int i4)) = hs_12 at *
    refine g_loadA act (gx gp_97 (w := 0x3303) rfl (by decide) rfl) (a := 0) (n := 51) rfl rfl rfl ?_
    refine g_dup act (gx gp_97 (w := 0x3422) rfl (by decide) rfl) (n := 52) rfl rfl ?_
    refine r_getf act (gx gp_97 (w := 0x104003704) rfl (by decide) rfl) (n := 55) (ci := 4) (j := 4) (N := 18) rfl rfl rfl f_10.1.2.1 (by decide) (v := .int (F 0 4)) (f_10.2 0 4 (Or.inl ⟨rfl, by decide⟩)) ?_
    refine g_constI act (gx gp_97 (w := 0x40000000c00000009000000003801) rfl (by decide) rfl) (n := 56) (x := (1 : Int32)) (by decide) rfl ?_
    refine g_iadd act (gx gp_97 (w := 0x390a) rfl (by decide) rfl) (n := 57) rfl ?_
    have v_13 := iv_addN hlN (show (1 : Int32).toInt = ((1 : Nat) : Int) from by decide) (show (nl + 1) < 2147483648 by omega)
    refine r_putf act (gx gp_97 (w := 0x104003c13) rfl (by decide) rfl) (n := 60) (ci := 4) (j := 4) (N := 18) rfl rfl rfl f_10.1.2.1 (by decide) (Or.inl ⟨rfl, _, rfl⟩) ?_
    have f_14 := f_10.put0 (j := 4) (x := ((F 0 4) + (1 : Int32))) (by omega)
    have fr_15 := fr_11.wr (k := g) (j := 4) (.int ((F 0 4) + (1 : Int32))) (by unfold WGr; omega)
    clear f_10 fr_11
    generalize (wr hs_12 g 4 (.int ((F 0 4) + (1 : Int32)))) = hs_16 at *
    exact g_retV hEnd (gx gp_97 (w := 0x18) rfl (by decide) rfl) ⟨rfl, rfl, _, f_14, fr_15, rfl⟩ (by show kc ≤ kc + 0; omega) (by show ks ≤ ks + 0; omega)

end CRDA

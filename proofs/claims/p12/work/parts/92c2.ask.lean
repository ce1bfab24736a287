/-! Questions of the reference; a dispatch is asked and found. -/
def in1 (v lo hi : Int) (r : Option Value) : Prop := (r = some (.int 1) ∧ lo ≤ v ∧ v ≤ hi) ∨ (r = some (.int 0) ∧ ¬ (lo ≤ v ∧ v ≤ hi))
def KR (hs : List CE) (c1 c2 lo hi b : Nat) : Prop := ∀ j, lo ≤ j → j < hi → ∃ t w : Int64, rd hs c1 j = .long t ∧ rd hs c2 j = .long w ∧ K2 b w
theorem KR.fr {hs h2 : List CE} {c1 c2 lo hi b : Nat} (h : KR hs c1 c2 lo hi b) (hf : ∀ j, lo ≤ j → j < hi → rd h2 c1 j = rd hs c1 j ∧ rd h2 c2 j = rd hs c2 j) : KR h2 c1 c2 lo hi b := fun j h1 hj => by
  rw [(hf j h1 hj).1, (hf j h1 hj).2]; exact h j h1 hj
theorem QRng.kr {hs : List CE} {c1 c2 lo hi b : Nat} {f : Nat → Rat} (h : QRng hs c1 c2 lo hi f) (hd : ∀ j, lo ≤ j → j < hi → (f j).den < 2 ^ b) : KR hs c1 c2 lo hi b := fun j h1 hj => by
  obtain ⟨t, w, e1, e2, hF⟩ := h j h1 hj
  refine ⟨t, w, e1, e2, K2.iv hF.pos ?_⟩
  rw [hF.2]
  exact Int.ofNat_lt.mpr (hd j h1 hj)
/-- what is known of the told net and its numbers -/
def NW (tl wl : Nat → Int) (nl n ng nr : Nat) : Prop := tl 0 = (n : Int) + 1 ∧ (1 ≤ tl 1 ∧ tl 1 ≤ 4) ∧ tl 2 = (nl : Int) ∧ tl 3 = (ng : Int) ∧ tl 4 = (nr : Int) ∧ ng ≤ 5 ∧ nr ≤ 6 ∧ (∀ g, g < ng → 0 ≤ tl (17 + g) ∧ tl (17 + g) ≤ (n : Int)) ∧
  (∀ r, r < nr → (0 ≤ tl (22 + 4 * r + 1) ∧ tl (22 + 4 * r + 1) ≤ (n : Int)) ∧ (0 ≤ tl (22 + 4 * r + 2) ∧ tl (22 + 4 * r + 2) ≤ (n : Int)) ∧ (0 ≤ tl (22 + 4 * r + 3) ∧ tl (22 + 4 * r + 3) ≤ 100)) ∧ NG tl nl n (wl 38) ∧
  (∀ l, l < 12 → 0 ≤ wl l ∧ wl l ≤ 400) ∧ (∀ g, g < 5 → 0 ≤ wl (12 + g) ∧ wl (12 + g) ≤ 99) ∧ (∀ g, g < 5 → 0 ≤ wl (17 + g) ∧ wl (17 + g) ≤ 200) ∧ (∀ j, j < 16 → 0 ≤ wl (22 + j) ∧ wl (22 + j) ≤ 200)
theorem upI_next {f g : Nat → Int} {k : Nat} {X : Int} (h : ∀ j, j < k → f j = g j) (hX : X = g k) : ∀ j, j < k + 1 → upI f k X j = g j := fun j hj => by
  unfold upI
  by_cases q : j = k
  · rw [if_pos q, q]; exact hX
  · rw [if_neg q]; exact h j (by omega)
def cut4 (n : Nat) (f : Nat → Int) : Nat → Int := fun j => if j < n then f j else 0
theorem cut4_b {n : Nat} {f : Nat → Int} {B : Int} (hB : 0 ≤ B) (h : ∀ j, j < n → 0 ≤ f j ∧ f j ≤ B) : ∀ j, 0 ≤ cut4 n f j ∧ cut4 n f j ≤ B := fun j => by
  unfold cut4
  split
  · exact h j (by assumption)
  · omega
theorem IArr.cut {hs : List CE} {c n : Nat} {f : Nat → Int} (h : IArr hs c n f) : IArr hs c n (cut4 n f) := h.cong (fun j hj => by unfold cut4; rw [if_pos hj])
/-- what is asked: demands, limits, capacities, the line that is out -/
def Ask (hs : List CE) (tl : Nat → Int) (nl n : Nat) (ou bd bl : Int) : Prop := NG tl nl n ou ∧ (∃ oi : Int32, rd hs 124 24 = .int oi ∧ oi.toInt = ou) ∧ (∃ dm : Nat → Int, IArr hs 135 4 dm ∧ ∀ j, 0 ≤ dm j ∧ dm j ≤ bd) ∧ (∃ lm : Nat → Int, IArr hs 136 6 lm ∧ ∀ j, 0 ≤ lm j ∧ lm j ≤ bl) ∧ (∃ em : Nat → Int, IArr hs 137 6 em ∧ ∀ j, 0 ≤ em j ∧ em j ≤ bl) ∧ (∃ cp : Nat → Int, IArr hs 138 5 cp ∧ ∀ j, 0 ≤ cp j ∧ cp j ≤ 200)
def BM (hs : List CE) (tl wl : Nat → Int) : Prop := RW hs ∧ IArr hs 125 46 tl ∧ IArr hs 127 39 wl
theorem BM.fr {hs h2 : List CE} {tl wl : Nat → Int} {W : Nat → Nat → Prop} (h : BM hs tl wl) (f : FrS W hs h2) (hw : ∀ q ∈ RWT, ¬ W 124 q.1) (q1 : ∀ j, ¬ W 125 j) (q2 : ∀ j, ¬ W 127 j) : BM h2 tl wl := ⟨h.1.fr f hw, h.2.1.fr (fun j _ => f.2.2 125 j (q1 j)), h.2.2.fr (fun j _ => f.2.2 127 j (q2 j))⟩
theorem Ask.fr {hs h2 : List CE} {tl : Nat → Int} {nl n : Nat} {ou bd bl : Int} {W : Nat → Nat → Prop} (h : Ask hs tl nl n ou bd bl) (f : FrS W hs h2) (h1 : ∀ k j, 135 ≤ k → k ≤ 138 → ¬ W k j) (h24 : ¬ W 124 24) : Ask h2 tl nl n ou bd bl := by
  obtain ⟨a, ⟨oi, b1, b2⟩, ⟨dm, c1, c2⟩, ⟨lm, d1, d2⟩, ⟨em, e1, e2⟩, ⟨cp, f1, f2⟩⟩ := h
  exact ⟨a, ⟨oi, (f.2.2 124 24 h24).trans b1, b2⟩, ⟨dm, c1.fr (fun j _ => f.2.2 135 j (h1 _ _ (by decide) (by decide))), c2⟩, ⟨lm, d1.fr (fun j _ => f.2.2 136 j (h1 _ _ (by decide) (by decide))), d2⟩, ⟨em, e1.fr (fun j _ => f.2.2 137 j (h1 _ _ (by decide) (by decide))), e2⟩, ⟨cp, f1.fr (fun j _ => f.2.2 138 j (h1 _ _ (by decide) (by decide))), f2⟩⟩
theorem Found.fr {hs h2 : List CE} {tl : Nat → Int} {nl n : Nat} {ou : Int} {W : Nat → Nat → Prop} (h : Found hs tl nl n ou) (f : FrS W hs h2) (h1 : ∀ j, ¬ W 142 j ∧ ¬ W 143 j) (h29 : ¬ W 124 29) (h30 : ¬ W 124 30) : Found h2 tl nl n ou := by
  obtain ⟨D, C, o, t, w, a1, a2, a3, a4, a5, a6⟩ := h
  exact ⟨D, C, o, t, w, a1, (f.2.2 124 29 h29).trans a2, (f.2.2 124 30 h30).trans a3, a4, a5.fr (fun j _ => ⟨f.2.2 142 j (h1 j).1, f.2.2 143 j (h1 j).2⟩), a6⟩
def FacK (hs : List CE) (ou : Int) : Prop := KR hs 131 132 0 24 5 ∧ (ou ≠ -1 → KR hs 131 132 24 48 5)
theorem FacK.fr {hs h2 : List CE} {ou : Int} {W : Nat → Nat → Prop} (h : FacK hs ou) (f : FrS W hs h2) (h1 : ∀ j, ¬ W 131 j ∧ ¬ W 132 j) : FacK h2 ou := ⟨h.1.fr (fun j _ _ => ⟨f.2.2 131 j (h1 j).1, f.2.2 132 j (h1 j).2⟩), fun q => (h.2 q).fr (fun j _ _ => ⟨f.2.2 131 j (h1 j).1, f.2.2 132 j (h1 j).2⟩)⟩
theorem facA_den {tl : Nat → Int} {nl n : Nat} {ou : Int} (h : NG tl nl n ou) : (∀ j, 0 ≤ j → j < 24 → (facA tl nl n ou j).den < 2 ^ 5) ∧ (ou ≠ -1 → ∀ j, 24 ≤ j → j < 48 → (facA tl nl n ou j).den < 2 ^ 5) := by
  have hl := lam_ok h
  obtain ⟨hn1, hn3, h6, hN, hC, ho⟩ := h
  refine ⟨fun j _ hj => ?_, fun z j h1 h2 => ?_⟩
  · unfold facA
    rw [if_pos hj]
    have := den_le hl.2.2.2.2.1 (facG_b hN hn1 hn3 h6 hC (lo := 0) (j := j) (by omega)).1
    have := hl.2.2.2.2.2.1
    omega
  · unfold facA
    rw [if_neg (by omega)]
    have := den_le (hl.2.2.2.2.2.2 z).1 (facG_b hN hn1 hn3 h6 (ho.resolve_left z).2.2 (lo := 24) (j := j) h1).1
    have := (hl.2.2.2.2.2.2 z).2
    omega
/-- the reference's numbers are of their kinds -/
def ModF (hs : List CE) : Prop := (∃ x : Int32, rd hs 124 0 = .int x ∧ 0 ≤ x.toInt ∧ x.toInt ≤ 4) ∧ (∃ x : Int32, rd hs 124 24 = .int x) ∧ (∃ x : Int32, rd hs 124 28 = .int x) ∧ ∀ j, j = 29 ∨ j = 30 ∨ j = 35 ∨ j = 36 ∨ j = 37 ∨ j = 38 → ∃ x : Int64, rd hs 124 j = .long x
theorem ModF.wd {hs h2 : List CE} {tl : Nat → Int} {nl n : Nat} {ou : Int} (h : ModF hs) (f : FrS WD hs h2) (q3 : Found h2 tl nl n ou) (q7 : ∃ t w : Int64, rd h2 124 7 = .long t ∧ rd h2 124 8 = .long w ∧ 0 < w.toInt ∧ w.toInt ≤ 256) (q8 : ∃ x : Int32, rd h2 124 28 = .int x) : ModF h2 := by
  obtain ⟨⟨x, a1, a2⟩, ⟨y, b1⟩, -, c⟩ := h
  obtain ⟨D, C, o, t, w, -, e29, e30, -⟩ := q3
  refine ⟨⟨x, (f.2.2 124 0 (by unfold WD; omega)).trans a1, a2⟩, ⟨y, (f.2.2 124 24 (by unfold WD; omega)).trans b1⟩, q8, fun j hj => ?_⟩
  rcases hj with rfl | rfl | hj
  · exact ⟨_, e29⟩
  · exact ⟨_, e30⟩
  · obtain ⟨z, hz⟩ := c j (by omega)
    exact ⟨z, (f.2.2 124 j (by unfold WD; omega)).trans hz⟩
def WK (k j : Nat) : Prop := (135 ≤ k ∧ k ≤ 138) ∨ (k = 124 ∧ j = 24)
theorem ModF.wk {hs h2 : List CE} (h : ModF hs) (f : FrS WK hs h2) {z : Int} (q : ∃ oi : Int32, rd h2 124 24 = .int oi ∧ oi.toInt = z) : ModF h2 := by
  obtain ⟨⟨x, a1, a2⟩, -, ⟨y, b1⟩, c⟩ := h
  obtain ⟨oi, e, -⟩ := q
  refine ⟨⟨x, (f.2.2 124 0 (by unfold WK; omega)).trans a1, a2⟩, ⟨_, e⟩, ⟨y, (f.2.2 124 28 (by unfold WK; omega)).trans b1⟩, fun j hj => ?_⟩
  obtain ⟨z, hz⟩ := c j hj
  exact ⟨z, (f.2.2 124 j (by unfold WK; omega)).trans hz⟩
theorem ModF.w0 {hs h2 : List CE} (h : ModF hs) (f : FrS W0 hs h2) : ModF h2 := by
  obtain ⟨⟨x, a1, a2⟩, ⟨y, b1⟩, ⟨y2, b2⟩, c⟩ := h
  refine ⟨⟨x, (f.2.2 124 0 (by unfold W0; omega)).trans a1, a2⟩, ⟨y, (f.2.2 124 24 (by unfold W0; omega)).trans b1⟩, ⟨y2, (f.2.2 124 28 (by unfold W0; omega)).trans b2⟩, fun j hj => ?_⟩
  obtain ⟨z, hz⟩ := c j hj
  exact ⟨z, (f.2.2 124 j (by unfold W0; omega)).trans hz⟩
theorem ModF.wa {hs h2 : List CE} (h : ModF hs) (f : FrS WA hs h2) : ModF h2 := by
  obtain ⟨⟨x, a1, a2⟩, ⟨y, b1⟩, ⟨y2, b2⟩, c⟩ := h
  refine ⟨⟨x, (f.2.2 124 0 (by unfold WA; omega)).trans a1, a2⟩, ⟨y, (f.2.2 124 24 (by unfold WA; omega)).trans b1⟩, ⟨y2, (f.2.2 124 28 (by unfold WA; omega)).trans b2⟩, fun j hj => ?_⟩
  obtain ⟨z, hz⟩ := c j hj
  exact ⟨z, (f.2.2 124 j (by unfold WA; omega)).trans hz⟩
theorem ModF.ne {hs : List CE} (h : ModF hs) {k j : Nat} {v : Value} (hk : (124 : Nat) ≠ k) : ModF (wr hs k j v) := by
  have e : ∀ i, rd (wr hs k j v) 124 i = rd hs 124 i := fun i => rd_ne _ _ (Or.inl hk)
  unfold ModF
  simp only [e]
  exact h
theorem ModF.wr0 {hs : List CE} (h : ModF hs) (hk : shp hs 124 = some (9, 39)) {x : Int32} (h0 : 0 ≤ x.toInt) (h4 : x.toInt ≤ 4) : ModF (wr hs 124 0 (.int x)) := by
  obtain ⟨-, ⟨y, b1⟩, ⟨y2, b2⟩, c⟩ := h
  refine ⟨⟨x, rd_same hk, h0, h4⟩, ⟨y, (rd_ne _ _ (Or.inr (by decide))).trans b1⟩, ⟨y2, (rd_ne _ _ (Or.inr (by decide))).trans b2⟩, fun j hj => ?_⟩
  obtain ⟨z, hz⟩ := c j hj
  exact ⟨z, (rd_ne _ _ (Or.inr (by omega))).trans hz⟩
theorem ModF.wr24 {hs : List CE} (h : ModF hs) (hk : shp hs 124 = some (9, 39)) {x : Int32} : ModF (wr hs 124 24 (.int x)) := by
  obtain ⟨⟨y, b1, b0⟩, -, ⟨y2, b2⟩, c⟩ := h
  refine ⟨⟨y, (rd_ne _ _ (Or.inr (by decide))).trans b1, b0⟩, ⟨x, rd_same hk⟩, ⟨y2, (rd_ne _ _ (Or.inr (by decide))).trans b2⟩, fun j hj => ?_⟩
  obtain ⟨z, hz⟩ := c j hj
  exact ⟨z, (rd_ne _ _ (Or.inr (by omega))).trans hz⟩
theorem ModF.wrL {hs : List CE} (h : ModF hs) (hk : shp hs 124 = some (9, 39)) {x : Int64} {i : Nat} (hi : i = 35 ∨ i = 36 ∨ i = 37 ∨ i = 38) : ModF (wr hs 124 i (.long x)) := by
  obtain ⟨⟨y, b1, b0⟩, ⟨y3, b3⟩, ⟨y2, b2⟩, c⟩ := h
  refine ⟨⟨y, (rd_ne _ _ (Or.inr (by omega))).trans b1, b0⟩, ⟨y3, (rd_ne _ _ (Or.inr (by omega))).trans b3⟩, ⟨y2, (rd_ne _ _ (Or.inr (by omega))).trans b2⟩, fun j hj => ?_⟩
  by_cases q : j = i
  · rw [q]; exact ⟨x, rd_same hk⟩
  · obtain ⟨z, hz⟩ := c j hj
    exact ⟨z, (rd_ne _ _ (Or.inr q)).trans hz⟩
theorem KR.ne {hs : List CE} {c1 c2 lo hi b : Nat} (h : KR hs c1 c2 lo hi b) {k j : Nat} {v : Value} (h1 : c1 ≠ k) (h2 : c2 ≠ k) : KR (wr hs k j v) c1 c2 lo hi b := h.fr (fun _ _ _ => ⟨rd_ne _ _ (Or.inl h1), rd_ne _ _ (Or.inl h2)⟩)
/-- a net's determinants are small -/
theorem PD.le {tl : Nat → Int} {nl n : Nat} {ou : Int} {D : Nat} (h : NG tl nl n ou) (hD : PD tl nl n ou D) : 0 < D ∧ D ≤ 256 := by
  obtain ⟨a, b, c, q1, q2, q3, e, hne⟩ := hD
  obtain ⟨S9, -, hp⟩ := net_pool h
  have := dok_t ((inP_t hp).2 a b c q1 q2 q3)
  rw [← e] at this
  omega
theorem found_k {hs : List CE} {tl : Nat → Int} {nl n : Nat} {ou : Int} (h : NG tl nl n ou) (hF : Found hs tl nl n ou) : (∃ t w : Int64, rd hs 124 29 = .long t ∧ rd hs 124 30 = .long w ∧ K2 9 w) ∧ KR hs 142 143 0 5 9 := by
  obtain ⟨D, C, o, t, w, hD, e29, e30, hFC, hO, hI, -, -, ho⟩ := hF
  have hl := hD.le h
  refine ⟨⟨t, w, e29, e30, K2.iv hFC.pos ?_⟩, fun j _ hj => ?_⟩
  · rw [hFC.2]
    have := den_le hl.1 hI
    omega
  · obtain ⟨t2, w2, e1, e2, hF2⟩ := hO j hj
    refine ⟨t2, w2, e1, e2, K2.iv hF2.pos ?_⟩
    rw [hF2.2]
    have := den_le hl.1 (ho j hj).1
    omega
/-- what is known once a dispatch has been found -/
def FD9 (hs : List CE) (tl wl : Nat → Int) (nl n : Nat) (ou bd bl : Int) : Prop := BM hs tl wl ∧ Ask hs tl nl n ou bd bl ∧ Found hs tl nl n ou ∧ FacK hs ou

theorem b_in {g0 : GG} {bl : Nat} {xs : Nat → Int32} {l : Launch} {hs : List CE} {a b c9 : Int32} {x y z : Int} (ha : a.toInt = x) (hb : b.toInt = y) (hc9 : c9.toInt = z) : BodyN SSX TBL g0 CLS bl xs l D_217 0 0 0 0 [.int a, .int b, .int c9] hs (fun kd r h2 => kd = 0 ∧ hs = h2 ∧ in1 x y z r) := by
  intro wp p e R s m args below meth c Q kc0 ks0 kc ks act hf hl hc hsl hEnd
  show WpN (gp g0 wp) CLS p l e R s m args below meth c Q D_217.2.2.1 kc0 ks0 0 [some (.int a), some (.int b), some (.int c9)] (hs, kc, ks) []
  refine g_loadI act (gx gp_217 (w := 0x102) rfl (by decide) rfl) (a := 0) (n := 1) rfl rfl rfl ?_
  refine g_loadI act (gx gp_217 (w := 0x1000202) rfl (by decide) rfl) (a := 1) (n := 2) rfl rfl rfl ?_
  refine g_icmpLt act (gx gp_217 (w := 0xe000520) rfl (by decide) rfl) (tgt := 14) (n := 5) rfl rfl (fun h3 => ?_) (fun h3 => ?_)
  · simp only [i_lt] at h3
    refine g_constI act (gx gp_217 (w := 0x40000000400000001000000000f01) rfl (by decide) rfl) (n := 15) (x := (0 : Int32)) (by decide) rfl ?_
    exact g_retZ hEnd (gx gp_217 (w := 0x23) rfl (by decide) rfl) (by decide) ⟨rfl, rfl, Or.inr ⟨rfl, by omega⟩⟩ (by show kc ≤ kc + 0; omega) (by show ks ≤ ks + 0; omega)
  · simp only [i_lt] at h3
    refine g_loadI act (gx gp_217 (w := 0x602) rfl (by decide) rfl) (a := 0) (n := 6) rfl rfl rfl ?_
    refine g_loadI act (gx gp_217 (w := 0x2000702) rfl (by decide) rfl) (a := 2) (n := 7) rfl rfl rfl ?_
    refine g_icmpGt act (gx gp_217 (w := 0xe000a2b) rfl (by decide) rfl) (tgt := 14) (n := 10) rfl rfl (fun h7 => ?_) (fun h7 => ?_)
    · simp only [i_lt] at h7
      refine g_constI act (gx gp_217 (w := 0x40000000400000001000000000f01) rfl (by decide) rfl) (n := 15) (x := (0 : Int32)) (by decide) rfl ?_
      exact g_retZ hEnd (gx gp_217 (w := 0x23) rfl (by decide) rfl) (by decide) ⟨rfl, rfl, Or.inr ⟨rfl, by omega⟩⟩ (by show kc ≤ kc + 0; omega) (by show ks ≤ ks + 0; omega)
    · simp only [i_lt] at h7
      refine g_constI act (gx gp_217 (w := 0x40000000c00000009000000000b01) rfl (by decide) rfl) (n := 11) (x := (1 : Int32)) (by decide) rfl ?_
      refine g_goto act (gx gp_217 (w := 0xf07) rfl (by decide) rfl) (n := 15) rfl ?_
      exact g_retZ hEnd (gx gp_217 (w := 0x23) rfl (by decide) rfl) (by decide) ⟨rfl, rfl, Or.inl ⟨rfl, by omega, by omega⟩⟩ (by show kc ≤ kc + 0; omega) (by show ks ≤ ks + 0; omega)

theorem in1_t {v lo hi : Int} {r : Option Value} (h : in1 v lo hi r) : ∃ x : Int32, r = some (.int x) ∧ ((x.toInt = 1 ∧ lo ≤ v ∧ v ≤ hi) ∨ (x.toInt = 0 ∧ ¬ (lo ≤ v ∧ v ≤ hi))) := by
  rcases h with ⟨rfl, h⟩ | ⟨rfl, h⟩
  · exact ⟨1, rfl, Or.inl ⟨by decide, h⟩⟩
  · exact ⟨0, rfl, Or.inr ⟨by decide, h⟩⟩
theorem in1_of {v lo hi : Int} {x : Int32} (h : (x.toInt = 1 ∧ lo ≤ v ∧ v ≤ hi) ∨ (x.toInt = 0 ∧ ¬ (lo ≤ v ∧ v ≤ hi))) : in1 v lo hi (some (.int x)) ∧ (x = 0 ∨ x = 1) := by
  rcases h with ⟨e, h⟩ | ⟨e, h⟩
  · have : x = 1 := Int32.toInt_inj.mp (e.trans (by decide)); subst this; exact ⟨Or.inl ⟨rfl, h⟩, Or.inr rfl⟩
  · have : x = 0 := Int32.toInt_inj.mp (e.trans (by decide)); subst this; exact ⟨Or.inr ⟨rfl, h⟩, Or.inl rfl⟩

theorem b_isNode {g0 : GG} {bl : Nat} {xs : Nat → Int32} {l : Launch} {hs : List CE} {tl : Nat → Int} {a : Int32} {x : Int} (rw0 : RW hs) (hTo : IArr hs 125 46 tl) (ha : a.toInt = x) (hb0 : 0 ≤ tl 0) (hb6 : tl 0 ≤ 6) : BodyN SSX TBL g0 CLS bl xs l D_227 1 22 0 0 [.ref 124, .int a] hs (fun kd r h2 => kd = 0 ∧ hs = h2 ∧ in1 x 0 (tl 0 - 1) r) := by
  intro wp p e R s m args below meth c Q kc0 ks0 kc ks act hf hl hc hsl hEnd
  show WpN (gp g0 wp) CLS p l e R s m args below meth c Q D_227.2.2.1 kc0 ks0 0 [some (.ref 124), some (.int a)] (hs, kc, ks) []
  refine g_loadI act (gx gp_227 (w := 0x1000102) rfl (by decide) rfl) (a := 1) (n := 1) rfl rfl rfl ?_
  refine g_constI act (gx gp_227 (w := 0x40000000400000001000000000201) rfl (by decide) rfl) (n := 2) (x := (0 : Int32)) (by decide) rfl ?_
  refine g_loadA act (gx gp_227 (w := 0x303) rfl (by decide) rfl) (a := 0) (n := 3) rfl rfl rfl ?_
  refine r_getf act (gx gp_227 (w := 0x3000049000604) rfl (by decide) rfl) (n := 6) (ci := 9) (j := 1) (N := 39) rfl rfl rfl rw0.1 (by decide) (rw0.2 (1, 125, 32, 46) (by decide)).1 ?_
  refine g_constI act (gx gp_227 (w := 0x40000000400000001000000000701) rfl (by decide) rfl) (n := 7) (x := (0 : Int32)) (by decide) rfl ?_
  obtain ⟨x_1, e_2, hx_3⟩ := hTo 0 (by omega)
  refine r_iald act (gx gp_227 (w := 0x81a) rfl (by decide) rfl) (n := 8) (j := 0) rfl (rw0.2 (1, 125, 32, 46) (by decide)).2 (show (0 : Int32).toInt = ((0 : Nat) : Int) from by decide) (show 0 < 46 by omega) (v := .int x_1) e_2 ?_
  refine g_constI act (gx gp_227 (w := 0x40000000c00000009000000000901) rfl (by decide) rfl) (n := 9) (x := (1 : Int32)) (by decide) rfl ?_
  refine g_isub act (gx gp_227 (w := 0xa26) rfl (by decide) rfl) (n := 10) rfl ?_
  have v_4 := iv_sub hx_3 (show (1 : Int32).toInt = ((1 : Nat) : Int) from by decide) (show -2147483648 ≤ ((tl 0) - ((1 : Nat) : Int)) by omega) (show ((tl 0) - ((1 : Nat) : Int)) < 2147483648 by omega)
  refine n_call tb_pres act hEnd (gx (P := G_call) gp_227 (w := 0x40c330000d9000d0f) rfl (by decide) rfl) (d' := D_217) rfl (as := [.int a, .int (0 : Int32), .int (x_1 - (1 : Int32))]) (rest := []) (b_in ha (show (0 : Int32).toInt = ((0 : Nat) : Int) from by decide) v_4) (show (3 : Nat) = fb 0x40c330000d9000d0f % 16 by decide) (by show (3 : Nat) ≤ 3; decide) (fun q => absurd q (by decide)) (by omega) (by show 8 + (3 + 11) + 0 ≤ R.locals; omega) (by show (0 : Nat) ≤ 8; decide) (by show kc + 0 ≤ _; omega) (by show ks + 0 ≤ _; omega) (fun r9 h3 hpo hr9 => ?_) (fun x9 hs9 hx9 hpo => ?_)
  · obtain ⟨-, rfl, hin_6⟩ := hpo
    obtain ⟨rv_5, rfl, hin_6o⟩ := in1_t hin_6
    show WpN (gp g0 wp) CLS p l e R s m args below meth c Q D_227.2.2.1 kc0 ks0 13 [some (.ref 124), some (.int a)] (hs, kc, ks) [.int rv_5]
    exact g_retZ hEnd (gx gp_227 (w := 0x23) rfl (by decide) rfl) (in1_of hin_6o).2 ⟨rfl, rfl, (in1_of hin_6o).1⟩ (by show kc ≤ kc + 0; omega) (by show ks ≤ ks + 0; omega)
  · exact absurd hpo.1 (by omega)

theorem b_isInterval {g0 : GG} {bl : Nat} {xs : Nat → Int32} {l : Launch} {hs : List CE} {tl : Nat → Int} {a : Int32} {x : Int} (rw0 : RW hs) (hTo : IArr hs 125 46 tl) (ha : a.toInt = x) (hb0 : 0 ≤ tl 1) (hb6 : tl 1 ≤ 6) : BodyN SSX TBL g0 CLS bl xs l D_224 1 22 0 0 [.ref 124, .int a] hs (fun kd r h2 => kd = 0 ∧ hs = h2 ∧ in1 x 0 (tl 1 - 1) r) := by
  intro wp p e R s m args below meth c Q kc0 ks0 kc ks act hf hl hc hsl hEnd
  show WpN (gp g0 wp) CLS p l e R s m args below meth c Q D_224.2.2.1 kc0 ks0 0 [some (.ref 124), some (.int a)] (hs, kc, ks) []
  refine g_loadI act (gx gp_224 (w := 0x1000102) rfl (by decide) rfl) (a := 1) (n := 1) rfl rfl rfl ?_
  refine g_constI act (gx gp_224 (w := 0x40000000400000001000000000201) rfl (by decide) rfl) (n := 2) (x := (0 : Int32)) (by decide) rfl ?_
  refine g_loadA act (gx gp_224 (w := 0x303) rfl (by decide) rfl) (a := 0) (n := 3) rfl rfl rfl ?_
  refine r_getf act (gx gp_224 (w := 0x3000049000604) rfl (by decide) rfl) (n := 6) (ci := 9) (j := 1) (N := 39) rfl rfl rfl rw0.1 (by decide) (rw0.2 (1, 125, 32, 46) (by decide)).1 ?_
  refine g_constI act (gx gp_224 (w := 0x40000000c00000009000000000701) rfl (by decide) rfl) (n := 7) (x := (1 : Int32)) (by decide) rfl ?_
  obtain ⟨x_1, e_2, hx_3⟩ := hTo 1 (by omega)
  refine r_iald act (gx gp_224 (w := 0x81a) rfl (by decide) rfl) (n := 8) (j := 1) rfl (rw0.2 (1, 125, 32, 46) (by decide)).2 (show (1 : Int32).toInt = ((1 : Nat) : Int) from by decide) (show 1 < 46 by omega) (v := .int x_1) e_2 ?_
  refine g_constI act (gx gp_224 (w := 0x40000000c00000009000000000901) rfl (by decide) rfl) (n := 9) (x := (1 : Int32)) (by decide) rfl ?_
  refine g_isub act (gx gp_224 (w := 0xa26) rfl (by decide) rfl) (n := 10) rfl ?_
  have v_4 := iv_sub hx_3 (show (1 : Int32).toInt = ((1 : Nat) : Int) from by decide) (show -2147483648 ≤ ((tl 1) - ((1 : Nat) : Int)) by omega) (show ((tl 1) - ((1 : Nat) : Int)) < 2147483648 by omega)
  refine n_call tb_pres act hEnd (gx (P := G_call) gp_224 (w := 0x40c330000d9000d0f) rfl (by decide) rfl) (d' := D_217) rfl (as := [.int a, .int (0 : Int32), .int (x_1 - (1 : Int32))]) (rest := []) (b_in ha (show (0 : Int32).toInt = ((0 : Nat) : Int) from by decide) v_4) (show (3 : Nat) = fb 0x40c330000d9000d0f % 16 by decide) (by show (3 : Nat) ≤ 3; decide) (fun q => absurd q (by decide)) (by omega) (by show 8 + (3 + 11) + 0 ≤ R.locals; omega) (by show (0 : Nat) ≤ 8; decide) (by show kc + 0 ≤ _; omega) (by show ks + 0 ≤ _; omega) (fun r9 h3 hpo hr9 => ?_) (fun x9 hs9 hx9 hpo => ?_)
  · obtain ⟨-, rfl, hin_6⟩ := hpo
    obtain ⟨rv_5, rfl, hin_6o⟩ := in1_t hin_6
    show WpN (gp g0 wp) CLS p l e R s m args below meth c Q D_224.2.2.1 kc0 ks0 13 [some (.ref 124), some (.int a)] (hs, kc, ks) [.int rv_5]
    exact g_retZ hEnd (gx gp_224 (w := 0x23) rfl (by decide) rfl) (in1_of hin_6o).2 ⟨rfl, rfl, (in1_of hin_6o).1⟩ (by show kc ≤ kc + 0; omega) (by show ks ≤ ks + 0; omega)
  · exact absurd hpo.1 (by omega)

theorem b_isLine {g0 : GG} {bl : Nat} {xs : Nat → Int32} {l : Launch} {hs : List CE} {tl : Nat → Int} {a : Int32} {x : Int} (rw0 : RW hs) (hTo : IArr hs 125 46 tl) (ha : a.toInt = x) (hb0 : 0 ≤ tl 2) (hb6 : tl 2 ≤ 6) : BodyN SSX TBL g0 CLS bl xs l D_226 1 22 0 0 [.ref 124, .int a] hs (fun kd r h2 => kd = 0 ∧ hs = h2 ∧ in1 x 0 (tl 2 - 1) r) := by
  intro wp p e R s m args below meth c Q kc0 ks0 kc ks act hf hl hc hsl hEnd
  show WpN (gp g0 wp) CLS p l e R s m args below meth c Q D_226.2.2.1 kc0 ks0 0 [some (.ref 124), some (.int a)] (hs, kc, ks) []
  refine g_loadI act (gx gp_226 (w := 0x1000102) rfl (by decide) rfl) (a := 1) (n := 1) rfl rfl rfl ?_
  refine g_constI act (gx gp_226 (w := 0x40000000400000001000000000201) rfl (by decide) rfl) (n := 2) (x := (0 : Int32)) (by decide) rfl ?_
  refine g_loadA act (gx gp_226 (w := 0x303) rfl (by decide) rfl) (a := 0) (n := 3) rfl rfl rfl ?_
  refine r_getf act (gx gp_226 (w := 0x3000049000604) rfl (by decide) rfl) (n := 6) (ci := 9) (j := 1) (N := 39) rfl rfl rfl rw0.1 (by decide) (rw0.2 (1, 125, 32, 46) (by decide)).1 ?_
  refine g_constI act (gx gp_226 (w := 0x40000001400000011000000000701) rfl (by decide) rfl) (n := 7) (x := (2 : Int32)) (by decide) rfl ?_
  obtain ⟨x_1, e_2, hx_3⟩ := hTo 2 (by omega)
  refine r_iald act (gx gp_226 (w := 0x81a) rfl (by decide) rfl) (n := 8) (j := 2) rfl (rw0.2 (1, 125, 32, 46) (by decide)).2 (show (2 : Int32).toInt = ((2 : Nat) : Int) from by decide) (show 2 < 46 by omega) (v := .int x_1) e_2 ?_
  refine g_constI act (gx gp_226 (w := 0x40000000c00000009000000000901) rfl (by decide) rfl) (n := 9) (x := (1 : Int32)) (by decide) rfl ?_
  refine g_isub act (gx gp_226 (w := 0xa26) rfl (by decide) rfl) (n := 10) rfl ?_
  have v_4 := iv_sub hx_3 (show (1 : Int32).toInt = ((1 : Nat) : Int) from by decide) (show -2147483648 ≤ ((tl 2) - ((1 : Nat) : Int)) by omega) (show ((tl 2) - ((1 : Nat) : Int)) < 2147483648 by omega)
  refine n_call tb_pres act hEnd (gx (P := G_call) gp_226 (w := 0x40c330000d9000d0f) rfl (by decide) rfl) (d' := D_217) rfl (as := [.int a, .int (0 : Int32), .int (x_1 - (1 : Int32))]) (rest := []) (b_in ha (show (0 : Int32).toInt = ((0 : Nat) : Int) from by decide) v_4) (show (3 : Nat) = fb 0x40c330000d9000d0f % 16 by decide) (by show (3 : Nat) ≤ 3; decide) (fun q => absurd q (by decide)) (by omega) (by show 8 + (3 + 11) + 0 ≤ R.locals; omega) (by show (0 : Nat) ≤ 8; decide) (by show kc + 0 ≤ _; omega) (by show ks + 0 ≤ _; omega) (fun r9 h3 hpo hr9 => ?_) (fun x9 hs9 hx9 hpo => ?_)
  · obtain ⟨-, rfl, hin_6⟩ := hpo
    obtain ⟨rv_5, rfl, hin_6o⟩ := in1_t hin_6
    show WpN (gp g0 wp) CLS p l e R s m args below meth c Q D_226.2.2.1 kc0 ks0 13 [some (.ref 124), some (.int a)] (hs, kc, ks) [.int rv_5]
    exact g_retZ hEnd (gx gp_226 (w := 0x23) rfl (by decide) rfl) (in1_of hin_6o).2 ⟨rfl, rfl, (in1_of hin_6o).1⟩ (by show kc ≤ kc + 0; omega) (by show ks ≤ ks + 0; omega)
  · exact absurd hpo.1 (by omega)

theorem b_isGenerator {g0 : GG} {bl : Nat} {xs : Nat → Int32} {l : Launch} {hs : List CE} {tl : Nat → Int} {a : Int32} {x : Int} (rw0 : RW hs) (hTo : IArr hs 125 46 tl) (ha : a.toInt = x) (hb0 : 0 ≤ tl 3) (hb6 : tl 3 ≤ 6) : BodyN SSX TBL g0 CLS bl xs l D_222 1 22 0 0 [.ref 124, .int a] hs (fun kd r h2 => kd = 0 ∧ hs = h2 ∧ in1 x 0 (tl 3 - 1) r) := by
  intro wp p e R s m args below meth c Q kc0 ks0 kc ks act hf hl hc hsl hEnd
  show WpN (gp g0 wp) CLS p l e R s m args below meth c Q D_222.2.2.1 kc0 ks0 0 [some (.ref 124), some (.int a)] (hs, kc, ks) []
  refine g_loadI act (gx gp_222 (w := 0x1000102) rfl (by decide) rfl) (a := 1) (n := 1) rfl rfl rfl ?_
  refine g_constI act (gx gp_222 (w := 0x40000000400000001000000000201) rfl (by decide) rfl) (n := 2) (x := (0 : Int32)) (by decide) rfl ?_
  refine g_loadA act (gx gp_222 (w := 0x303) rfl (by decide) rfl) (a := 0) (n := 3) rfl rfl rfl ?_
  refine r_getf act (gx gp_222 (w := 0x3000049000604) rfl (by decide) rfl) (n := 6) (ci := 9) (j := 1) (N := 39) rfl rfl rfl rw0.1 (by decide) (rw0.2 (1, 125, 32, 46) (by decide)).1 ?_
  refine g_constI act (gx gp_222 (w := 0x40000001c00000019000000000701) rfl (by decide) rfl) (n := 7) (x := (3 : Int32)) (by decide) rfl ?_
  obtain ⟨x_1, e_2, hx_3⟩ := hTo 3 (by omega)
  refine r_iald act (gx gp_222 (w := 0x81a) rfl (by decide) rfl) (n := 8) (j := 3) rfl (rw0.2 (1, 125, 32, 46) (by decide)).2 (show (3 : Int32).toInt = ((3 : Nat) : Int) from by decide) (show 3 < 46 by omega) (v := .int x_1) e_2 ?_
  refine g_constI act (gx gp_222 (w := 0x40000000c00000009000000000901) rfl (by decide) rfl) (n := 9) (x := (1 : Int32)) (by decide) rfl ?_
  refine g_isub act (gx gp_222 (w := 0xa26) rfl (by decide) rfl) (n := 10) rfl ?_
  have v_4 := iv_sub hx_3 (show (1 : Int32).toInt = ((1 : Nat) : Int) from by decide) (show -2147483648 ≤ ((tl 3) - ((1 : Nat) : Int)) by omega) (show ((tl 3) - ((1 : Nat) : Int)) < 2147483648 by omega)
  refine n_call tb_pres act hEnd (gx (P := G_call) gp_222 (w := 0x40c330000d9000d0f) rfl (by decide) rfl) (d' := D_217) rfl (as := [.int a, .int (0 : Int32), .int (x_1 - (1 : Int32))]) (rest := []) (b_in ha (show (0 : Int32).toInt = ((0 : Nat) : Int) from by decide) v_4) (show (3 : Nat) = fb 0x40c330000d9000d0f % 16 by decide) (by show (3 : Nat) ≤ 3; decide) (fun q => absurd q (by decide)) (by omega) (by show 8 + (3 + 11) + 0 ≤ R.locals; omega) (by show (0 : Nat) ≤ 8; decide) (by show kc + 0 ≤ _; omega) (by show ks + 0 ≤ _; omega) (fun r9 h3 hpo hr9 => ?_) (fun x9 hs9 hx9 hpo => ?_)
  · obtain ⟨-, rfl, hin_6⟩ := hpo
    obtain ⟨rv_5, rfl, hin_6o⟩ := in1_t hin_6
    show WpN (gp g0 wp) CLS p l e R s m args below meth c Q D_222.2.2.1 kc0 ks0 13 [some (.ref 124), some (.int a)] (hs, kc, ks) [.int rv_5]
    exact g_retZ hEnd (gx gp_222 (w := 0x23) rfl (by decide) rfl) (in1_of hin_6o).2 ⟨rfl, rfl, (in1_of hin_6o).1⟩ (by show kc ≤ kc + 0; omega) (by show ks ≤ ks + 0; omega)
  · exact absurd hpo.1 (by omega)

theorem b_isRight {g0 : GG} {bl : Nat} {xs : Nat → Int32} {l : Launch} {hs : List CE} {tl : Nat → Int} {a : Int32} {x : Int} (rw0 : RW hs) (hTo : IArr hs 125 46 tl) (ha : a.toInt = x) (hb0 : 0 ≤ tl 4) (hb6 : tl 4 ≤ 6) : BodyN SSX TBL g0 CLS bl xs l D_229 1 22 0 0 [.ref 124, .int a] hs (fun kd r h2 => kd = 0 ∧ hs = h2 ∧ in1 x 0 (tl 4 - 1) r) := by
  intro wp p e R s m args below meth c Q kc0 ks0 kc ks act hf hl hc hsl hEnd
  show WpN (gp g0 wp) CLS p l e R s m args below meth c Q D_229.2.2.1 kc0 ks0 0 [some (.ref 124), some (.int a)] (hs, kc, ks) []
  refine g_loadI act (gx gp_229 (w := 0x1000102) rfl (by decide) rfl) (a := 1) (n := 1) rfl rfl rfl ?_
  refine g_constI act (gx gp_229 (w := 0x40000000400000001000000000201) rfl (by decide) rfl) (n := 2) (x := (0 : Int32)) (by decide) rfl ?_
  refine g_loadA act (gx gp_229 (w := 0x303) rfl (by decide) rfl) (a := 0) (n := 3) rfl rfl rfl ?_
  refine r_getf act (gx gp_229 (w := 0x3000049000604) rfl (by decide) rfl) (n := 6) (ci := 9) (j := 1) (N := 39) rfl rfl rfl rw0.1 (by decide) (rw0.2 (1, 125, 32, 46) (by decide)).1 ?_
  refine g_constI act (gx gp_229 (w := 0x40000002400000021000000000701) rfl (by decide) rfl) (n := 7) (x := (4 : Int32)) (by decide) rfl ?_
  obtain ⟨x_1, e_2, hx_3⟩ := hTo 4 (by omega)
  refine r_iald act (gx gp_229 (w := 0x81a) rfl (by decide) rfl) (n := 8) (j := 4) rfl (rw0.2 (1, 125, 32, 46) (by decide)).2 (show (4 : Int32).toInt = ((4 : Nat) : Int) from by decide) (show 4 < 46 by omega) (v := .int x_1) e_2 ?_
  refine g_constI act (gx gp_229 (w := 0x40000000c00000009000000000901) rfl (by decide) rfl) (n := 9) (x := (1 : Int32)) (by decide) rfl ?_
  refine g_isub act (gx gp_229 (w := 0xa26) rfl (by decide) rfl) (n := 10) rfl ?_
  have v_4 := iv_sub hx_3 (show (1 : Int32).toInt = ((1 : Nat) : Int) from by decide) (show -2147483648 ≤ ((tl 4) - ((1 : Nat) : Int)) by omega) (show ((tl 4) - ((1 : Nat) : Int)) < 2147483648 by omega)
  refine n_call tb_pres act hEnd (gx (P := G_call) gp_229 (w := 0x40c330000d9000d0f) rfl (by decide) rfl) (d' := D_217) rfl (as := [.int a, .int (0 : Int32), .int (x_1 - (1 : Int32))]) (rest := []) (b_in ha (show (0 : Int32).toInt = ((0 : Nat) : Int) from by decide) v_4) (show (3 : Nat) = fb 0x40c330000d9000d0f % 16 by decide) (by show (3 : Nat) ≤ 3; decide) (fun q => absurd q (by decide)) (by omega) (by show 8 + (3 + 11) + 0 ≤ R.locals; omega) (by show (0 : Nat) ≤ 8; decide) (by show kc + 0 ≤ _; omega) (by show ks + 0 ≤ _; omega) (fun r9 h3 hpo hr9 => ?_) (fun x9 hs9 hx9 hpo => ?_)
  · obtain ⟨-, rfl, hin_6⟩ := hpo
    obtain ⟨rv_5, rfl, hin_6o⟩ := in1_t hin_6
    show WpN (gp g0 wp) CLS p l e R s m args below meth c Q D_229.2.2.1 kc0 ks0 13 [some (.ref 124), some (.int a)] (hs, kc, ks) [.int rv_5]
    exact g_retZ hEnd (gx gp_229 (w := 0x23) rfl (by decide) rfl) (in1_of hin_6o).2 ⟨rfl, rfl, (in1_of hin_6o).1⟩ (by show kc ≤ kc + 0; omega) (by show ks ≤ ks + 0; omega)
  · exact absurd hpo.1 (by omega)

theorem b_demandOf {g0 : GG} {bl : Nat} {xs : Nat → Int32} {l : Launch} {hs : List CE} {wl : Nat → Int} {a b : Int32} {i9 n9 : Nat} (rw0 : RW hs) (hW : IArr hs 127 39 wl) (ha : a.toInt = (i9 : Int)) (hb : b.toInt = (n9 : Int)) (hi4 : i9 < 4) (hn4 : n9 < 4) : BodyN SSX TBL g0 CLS bl xs l D_200 0 0 0 0 [.ref 124, .int a, .int b] hs (fun kd r h2 => kd = 0 ∧ hs = h2 ∧ ∃ z : Int32, r = some (.int z) ∧ z.toInt = wl (22 + 4 * i9 + n9)) := by
  intro wp p e R s m args below meth c Q kc0 ks0 kc ks act hf hl hc hsl hEnd
  show WpN (gp g0 wp) CLS p l e R s m args below meth c Q D_200.2.2.1 kc0 ks0 0 [some (.ref 124), some (.int a), some (.int b)] (hs, kc, ks) []
  refine g_loadA act (gx gp_200 (w := 0x103) rfl (by decide) rfl) (a := 0) (n := 1) rfl rfl rfl ?_
  refine r_getf act (gx gp_200 (w := 0x30000c9000404) rfl (by decide) rfl) (n := 4) (ci := 9) (j := 3) (N := 39) rfl rfl rfl rw0.1 (by decide) (rw0.2 (3, 127, 32, 39) (by decide)).1 ?_
  refine g_constI act (gx gp_200 (w := 0x4000000b4000000b1000000000601) rfl (by decide) rfl) (n := 6) (x := (22 : Int32)) (by decide) rfl ?_
  refine g_constI act (gx gp_200 (w := 0x40000002400000021000000000701) rfl (by decide) rfl) (n := 7) (x := (4 : Int32)) (by decide) rfl ?_
  refine g_loadI act (gx gp_200 (w := 0x1000802) rfl (by decide) rfl) (a := 1) (n := 8) rfl rfl rfl ?_
  refine g_imul act (gx gp_200 (w := 0x911) rfl (by decide) rfl) (n := 9) rfl ?_
  have v_1 := iv_mulN (show (4 : Int32).toInt = ((4 : Nat) : Int) from by decide) ha (show (4 * i9) < 2147483648 by omega)
  refine g_iadd act (gx gp_200 (w := 0xa0a) rfl (by decide) rfl) (n := 10) rfl ?_
  have v_2 := iv_addN (show (22 : Int32).toInt = ((22 : Nat) : Int) from by decide) v_1 (show (22 + (4 * i9)) < 2147483648 by omega)
  refine g_loadI act (gx gp_200 (w := 0x2000b02) rfl (by decide) rfl) (a := 2) (n := 11) rfl rfl rfl ?_
  refine g_iadd act (gx gp_200 (w := 0xc0a) rfl (by decide) rfl) (n := 12) rfl ?_
  have v_3 := iv_addN v_2 hb (show ((22 + (4 * i9)) + n9) < 2147483648 by omega)
  obtain ⟨x_4, e_5, hx_6⟩ := hW ((22 + (4 * i9)) + n9) (by omega)
  refine r_iald act (gx gp_200 (w := 0xd1a) rfl (by decide) rfl) (n := 13) (j := ((22 + (4 * i9)) + n9)) rfl (rw0.2 (3, 127, 32, 39) (by decide)).2 v_3 (show ((22 + (4 * i9)) + n9) < 39 by omega) (v := .int x_4) e_5 ?_
  exact g_retI hEnd (gx gp_200 (w := 0x2f) rfl (by decide) rfl) ⟨rfl, rfl, _, rfl, hx_6⟩ (by show kc ≤ kc + 0; omega) (by show ks ≤ ks + 0; omega)

theorem WK_rw : ∀ q ∈ RWT, ¬ WK 124 q.1 := by
  intro q hq
  have : q.1 ≠ 24 := by revert q; decide
  unfold WK
  omega

theorem ask_3 {g0 : GG} {bl : Nat} {xs : Nat → Int32} {l : Launch} {wp : va_W} {p : Program} {e : Env} {R : Room} {s : State} {m : MethodId} {args : Array Value} {below : List Frame} {meth : Method} {c : Code} {Q : State → Prop} {kc0 ks0 kc ks f lam KC KS : Nat} {hs : List CE} {wl : Nat → Int} {a : Int32} {i9 : Nat} (ha : a.toInt = (i9 : Int)) (hi4 : i9 < 4) (hf : 1 ≤ R.frames) (hl : 22 ≤ R.locals) (hc : kc ≤ R.cells + kc0) (hsl : ks ≤ R.slots + ks0) (act : Act SSX TBL (gp g0 wp) CLS bl xs D_182 p l s m args meth c) (hEnd : EndN SSX TBL (gp g0 wp) CLS D_182 p l e R s m args below meth c Q kc0 ks0 f lam KC KS (fun kd _ h2 => kd = 0 ∧ (∃ f : Nat → Int, IArr h2 135 4 f ∧ ∀ j, j < 4 → f j = wl (22 + 4 * i9 + j)) ∧ (∃ f : Nat → Int, IArr h2 136 6 f ∧ ∀ j, j < 6 → f j = wl j) ∧ (∃ f : Nat → Int, IArr h2 137 6 f ∧ ∀ j, j < 6 → f j = wl (6 + j)) ∧ (∃ f : Nat → Int, IArr h2 138 5 f ∧ ∀ j, j < 5 → f j = wl (17 + j)) ∧ (∃ oi : Int32, rd h2 124 24 = .int oi ∧ oi.toInt = wl 38) ∧ FrS WK hs h2)) (hk1 : kc ≤ KC) (hk2 : ks ≤ KS) : ∀ j9 : Nat, j9 ≤ 5 → ∀ (xi : Int32) (hj : List CE) (f1 f2 f3 f4 : Nat → Int), xi.toInt = (j9 : Int) → RW hj → IArr hj 127 39 wl → IArr hj 135 4 f1 → IArr hj 136 6 f2 → IArr hj 137 6 f3 → IArr hj 138 5 f4 → (∀ j, j < 4 → f1 j = wl (22 + 4 * i9 + j)) → (∀ j, j < 6 → f2 j = wl j) → (∀ j, j < 6 → f3 j = wl (6 + j)) → (∀ j, j < j9 → f4 j = wl (17 + j)) → FrS WK hs hj → WpN (gp g0 wp) CLS p l e R s m args below meth c Q D_182.2.2.1 kc0 ks0 70 [some (.ref 124), some (.int a), some (.int xi)] (hj, kc, ks) [] := by
  refine dn (fun j9 hj9 ih => ?_)
  intro xi hj f1 f2 f3 f4 hxi rwj hW hA hB hC hD hz1 hz2 hz3 hz4 hfr
  refine g_loadI act (gx gp_182 (w := 0x2004702) rfl (by decide) rfl) (a := 2) (n := 71) rfl rfl rfl ?_
  refine g_constI act (gx gp_182 (w := 0x40000002c00000029000000004801) rfl (by decide) rfl) (n := 72) (x := (5 : Int32)) (by decide) rfl ?_
  refine g_icmpGe act (gx gp_182 (w := 0x60004b08) rfl (by decide) rfl) (tgt := 96) (n := 75) rfl rfl (fun h3 => ?_) (fun h3 => ?_)
  · simp only [i_le, show (5 : Int32).toInt = 5 from by decide] at h3
    refine g_loadA act (gx gp_182 (w := 0x6103) rfl (by decide) rfl) (a := 0) (n := 97) rfl rfl rfl ?_
    refine g_loadA act (gx gp_182 (w := 0x6203) rfl (by decide) rfl) (a := 0) (n := 98) rfl rfl rfl ?_
    refine r_getf act (gx gp_182 (w := 0x30000c9006504) rfl (by decide) rfl) (n := 101) (ci := 9) (j := 3) (N := 39) rfl rfl rfl rwj.1 (by decide) (rwj.2 (3, 127, 32, 39) (by decide)).1 ?_
    refine g_constI act (gx gp_182 (w := 0x40000013400000131000000006701) rfl (by decide) rfl) (n := 103) (x := (38 : Int32)) (by decide) rfl ?_
    obtain ⟨x_1, e_2, hx_3⟩ := hW 38 (by omega)
    refine r_iald act (gx gp_182 (w := 0x681a) rfl (by decide) rfl) (n := 104) (j := 38) rfl (rwj.2 (3, 127, 32, 39) (by decide)).2 (show (38 : Int32).toInt = ((38 : Nat) : Int) from by decide) (show 38 < 39 by omega) (v := .int x_1) e_2 ?_
    refine r_putf act (gx gp_182 (w := 0x609006b13) rfl (by decide) rfl) (n := 107) (ci := 9) (j := 24) (N := 39) rfl rfl rfl rwj.1 (by decide) (Or.inl ⟨rfl, _, rfl⟩) ?_
    have rw_4 := RW.wr (k := 124) (j := 24) (v := .int x_1) rwj (Or.inr (by decide))
    have f_5 := hW.ne (k := 124) (j := 24) (v := .int x_1) (by decide)
    have f_6 := hA.ne (k := 124) (j := 24) (v := .int x_1) (by decide)
    have f_7 := hB.ne (k := 124) (j := 24) (v := .int x_1) (by decide)
    have f_8 := hC.ne (k := 124) (j := 24) (v := .int x_1) (by decide)
    have f_9 := hD.ne (k := 124) (j := 24) (v := .int x_1) (by decide)
    have f_10 := rd_same (j := 24) (v := .int x_1) rwj.1
    have fr_11 := hfr.wr (k := 124) (j := 24) (.int x_1) (by unfold WK; omega)
    clear rwj hfr hW hA hB hC hD
    generalize (wr hj 124 24 (.int x_1)) = hs_12 at *
    obtain rfl : j9 = 5 := by omega
    exact g_retV hEnd (gx gp_182 (w := 0x18) rfl (by decide) rfl) ⟨rfl, ⟨_, f_6, hz1⟩, ⟨_, f_7, hz2⟩, ⟨_, f_8, hz3⟩, ⟨_, f_9, hz4⟩, ⟨_, f_10, hx_3⟩, fr_11⟩ hk1 hk2
  · simp only [i_le, show (5 : Int32).toInt = 5 from by decide] at h3
    refine g_loadA act (gx gp_182 (w := 0x4c03) rfl (by decide) rfl) (a := 0) (n := 76) rfl rfl rfl ?_
    refine r_getf act (gx gp_182 (w := 0x30005c9004f04) rfl (by decide) rfl) (n := 79) (ci := 9) (j := 23) (N := 39) rfl rfl rfl rwj.1 (by decide) (rwj.2 (23, 138, 32, 5) (by decide)).1 ?_
    refine g_loadI act (gx gp_182 (w := 0x2005002) rfl (by decide) rfl) (a := 2) (n := 80) rfl rfl rfl ?_
    refine g_loadA act (gx gp_182 (w := 0x5103) rfl (by decide) rfl) (a := 0) (n := 81) rfl rfl rfl ?_
    refine r_getf act (gx gp_182 (w := 0x30000c9005404) rfl (by decide) rfl) (n := 84) (ci := 9) (j := 3) (N := 39) rfl rfl rfl rwj.1 (by decide) (rwj.2 (3, 127, 32, 39) (by decide)).1 ?_
    refine g_constI act (gx gp_182 (w := 0x40000008c00000089000000005601) rfl (by decide) rfl) (n := 86) (x := (17 : Int32)) (by decide) rfl ?_
    refine g_loadI act (gx gp_182 (w := 0x2005702) rfl (by decide) rfl) (a := 2) (n := 87) rfl rfl rfl ?_
    refine g_iadd act (gx gp_182 (w := 0x580a) rfl (by decide) rfl) (n := 88) rfl ?_
    have v_13 := iv_addN (show (17 : Int32).toInt = ((17 : Nat) : Int) from by decide) hxi (show (17 + j9) < 2147483648 by omega)
    obtain ⟨x_14, e_15, hx_16⟩ := hW (17 + j9) (by omega)
    refine r_iald act (gx gp_182 (w := 0x591a) rfl (by decide) rfl) (n := 89) (j := (17 + j9)) rfl (rwj.2 (3, 127, 32, 39) (by decide)).2 v_13 (show (17 + j9) < 39 by omega) (v := .int x_14) e_15 ?_
    refine r_iast act (gx gp_182 (w := 0x5a24) rfl (by decide) rfl) (n := 90) (j := j9) rfl (rwj.2 (23, 138, 32, 5) (by decide)).2 hxi (show j9 < 5 by omega) ?_
    have rw_17 := RW.wr (k := 138) (j := j9) (v := .int x_14) rwj (Or.inl (by decide))
    have f_18 := hW.ne (k := 138) (j := j9) (v := .int x_14) (by decide)
    have f_19 := hA.ne (k := 138) (j := j9) (v := .int x_14) (by decide)
    have f_20 := hB.ne (k := 138) (j := j9) (v := .int x_14) (by decide)
    have f_21 := hC.ne (k := 138) (j := j9) (v := .int x_14) (by decide)
    have f_22 := hD.put (j := j9) (rwj.2 (23, 138, 32, 5) (by decide)).2 hx_16
    have fr_23 := hfr.wr (k := 138) (j := j9) (.int x_14) (by unfold WK; omega)
    clear rwj hfr hW hA hB hC hD
    generalize (wr hj 138 j9 (.int x_14)) = hs_24 at *
    refine g_iinc act (gx gp_182 (w := 0x80000001000002005d09) rfl (by decide) rfl) (a := 2) (i := (1 : Int32)) (n := 93) rfl (by decide) rfl rfl (L2 := [some (.ref 124), some (.int a), some (.int (xi + (1 : Int32)))]) rfl ?_
    have v_25 := iv_addN hxi (show (1 : Int32).toInt = ((1 : Nat) : Int) from by decide) (show (j9 + 1) < 2147483648 by omega)
    refine g_goto act (gx gp_182 (w := 0x4607) rfl (by decide) rfl) (n := 70) rfl ?_
    exact ih (j9 + 1) (by omega) (by omega) _ _ _ _ _ _ v_25 rw_17 f_18 f_19 f_20 f_21 f_22 hz1 hz2 hz3 (upI_next hz4 (by first | rfl | (rw [Nat.zero_add]))) fr_23

theorem ask_2 {g0 : GG} {bl : Nat} {xs : Nat → Int32} {l : Launch} {wp : va_W} {p : Program} {e : Env} {R : Room} {s : State} {m : MethodId} {args : Array Value} {below : List Frame} {meth : Method} {c : Code} {Q : State → Prop} {kc0 ks0 kc ks f lam KC KS : Nat} {hs : List CE} {wl : Nat → Int} {a : Int32} {i9 : Nat} (ha : a.toInt = (i9 : Int)) (hi4 : i9 < 4) (hf : 1 ≤ R.frames) (hl : 22 ≤ R.locals) (hc : kc ≤ R.cells + kc0) (hsl : ks ≤ R.slots + ks0) (act : Act SSX TBL (gp g0 wp) CLS bl xs D_182 p l s m args meth c) (hEnd : EndN SSX TBL (gp g0 wp) CLS D_182 p l e R s m args below meth c Q kc0 ks0 f lam KC KS (fun kd _ h2 => kd = 0 ∧ (∃ f : Nat → Int, IArr h2 135 4 f ∧ ∀ j, j < 4 → f j = wl (22 + 4 * i9 + j)) ∧ (∃ f : Nat → Int, IArr h2 136 6 f ∧ ∀ j, j < 6 → f j = wl j) ∧ (∃ f : Nat → Int, IArr h2 137 6 f ∧ ∀ j, j < 6 → f j = wl (6 + j)) ∧ (∃ f : Nat → Int, IArr h2 138 5 f ∧ ∀ j, j < 5 → f j = wl (17 + j)) ∧ (∃ oi : Int32, rd h2 124 24 = .int oi ∧ oi.toInt = wl 38) ∧ FrS WK hs h2)) (hk1 : kc ≤ KC) (hk2 : ks ≤ KS) : ∀ j9 : Nat, j9 ≤ 6 → ∀ (xi : Int32) (hj : List CE) (f1 f2 f3 f4 : Nat → Int), xi.toInt = (j9 : Int) → RW hj → IArr hj 127 39 wl → IArr hj 135 4 f1 → IArr hj 136 6 f2 → IArr hj 137 6 f3 → IArr hj 138 5 f4 → (∀ j, j < 4 → f1 j = wl (22 + 4 * i9 + j)) → (∀ j, j < j9 → f2 j = wl j) → (∀ j, j < j9 → f3 j = wl (6 + j)) → FrS WK hs hj → WpN (gp g0 wp) CLS p l e R s m args below meth c Q D_182.2.2.1 kc0 ks0 27 [some (.ref 124), some (.int a), some (.int xi)] (hj, kc, ks) [] := by
  refine dn (fun j9 hj9 ih => ?_)
  intro xi hj f1 f2 f3 f4 hxi rwj hW hA hB hC hD hz1 hz2 hz3 hfr
  refine g_loadI act (gx gp_182 (w := 0x2001c02) rfl (by decide) rfl) (a := 2) (n := 28) rfl rfl rfl ?_
  refine g_constI act (gx gp_182 (w := 0x40000003400000031000000001e01) rfl (by decide) rfl) (n := 30) (x := (6 : Int32)) (by decide) rfl ?_
  refine g_icmpGe act (gx gp_182 (w := 0x44002108) rfl (by decide) rfl) (tgt := 68) (n := 33) rfl rfl (fun h3 => ?_) (fun h3 => ?_)
  · simp only [i_le, show (6 : Int32).toInt = 6 from by decide] at h3
    refine g_constI act (gx gp_182 (w := 0x40000000400000001000000004501) rfl (by decide) rfl) (n := 69) (x := (0 : Int32)) (by decide) rfl ?_
    refine g_storeI act (gx gp_182 (w := 0x2004610) rfl (by decide) rfl) (a := 2) (n := 70) rfl rfl (L2 := [some (.ref 124), some (.int a), some (.int (0 : Int32))]) rfl ?_
    obtain rfl : j9 = 6 := by omega
    exact ask_3 ha hi4 hf hl hc hsl act hEnd hk1 hk2 0 (by omega) _ hj f1 f2 f3 f4 rfl rwj hW hA hB hC hD hz1 hz2 hz3 (fun j h => absurd h (by omega)) hfr
  · simp only [i_le, show (6 : Int32).toInt = 6 from by decide] at h3
    refine g_loadA act (gx gp_182 (w := 0x2203) rfl (by decide) rfl) (a := 0) (n := 34) rfl rfl rfl ?_
    refine r_getf act (gx gp_182 (w := 0x3000549002504) rfl (by decide) rfl) (n := 37) (ci := 9) (j := 21) (N := 39) rfl rfl rfl rwj.1 (by decide) (rwj.2 (21, 136, 32, 6) (by decide)).1 ?_
    refine g_loadI act (gx gp_182 (w := 0x2002602) rfl (by decide) rfl) (a := 2) (n := 38) rfl rfl rfl ?_
    refine g_loadA act (gx gp_182 (w := 0x2703) rfl (by decide) rfl) (a := 0) (n := 39) rfl rfl rfl ?_
    refine r_getf act (gx gp_182 (w := 0x30000c9002a04) rfl (by decide) rfl) (n := 42) (ci := 9) (j := 3) (N := 39) rfl rfl rfl rwj.1 (by decide) (rwj.2 (3, 127, 32, 39) (by decide)).1 ?_
    refine g_constI act (gx gp_182 (w := 0x40000000400000001000000002b01) rfl (by decide) rfl) (n := 43) (x := (0 : Int32)) (by decide) rfl ?_
    refine g_loadI act (gx gp_182 (w := 0x2002c02) rfl (by decide) rfl) (a := 2) (n := 44) rfl rfl rfl ?_
    refine g_iadd act (gx gp_182 (w := 0x2d0a) rfl (by decide) rfl) (n := 45) rfl ?_
    have v_1 := iv_addN (show (0 : Int32).toInt = ((0 : Nat) : Int) from by decide) hxi (show (0 + j9) < 2147483648 by omega)
    obtain ⟨x_2, e_3, hx_4⟩ := hW (0 + j9) (by omega)
    refine r_iald act (gx gp_182 (w := 0x2e1a) rfl (by decide) rfl) (n := 46) (j := (0 + j9)) rfl (rwj.2 (3, 127, 32, 39) (by decide)).2 v_1 (show (0 + j9) < 39 by omega) (v := .int x_2) e_3 ?_
    refine r_iast act (gx gp_182 (w := 0x2f24) rfl (by decide) rfl) (n := 47) (j := j9) rfl (rwj.2 (21, 136, 32, 6) (by decide)).2 hxi (show j9 < 6 by omega) ?_
    have rw_5 := RW.wr (k := 136) (j := j9) (v := .int x_2) rwj (Or.inl (by decide))
    have f_6 := hW.ne (k := 136) (j := j9) (v := .int x_2) (by decide)
    have f_7 := hA.ne (k := 136) (j := j9) (v := .int x_2) (by decide)
    have f_8 := hB.put (j := j9) (rwj.2 (21, 136, 32, 6) (by decide)).2 hx_4
    have f_9 := hC.ne (k := 136) (j := j9) (v := .int x_2) (by decide)
    have f_10 := hD.ne (k := 136) (j := j9) (v := .int x_2) (by decide)
    have fr_11 := hfr.wr (k := 136) (j := j9) (.int x_2) (by unfold WK; omega)
    clear rwj hfr hW hA hB hC hD
    generalize (wr hj 136 j9 (.int x_2)) = hs_12 at *
    refine g_loadA act (gx gp_182 (w := 0x3003) rfl (by decide) rfl) (a := 0) (n := 48) rfl rfl rfl ?_
    refine r_getf act (gx gp_182 (w := 0x3000589003304) rfl (by decide) rfl) (n := 51) (ci := 9) (j := 22) (N := 39) rfl rfl rfl rw_5.1 (by decide) (rw_5.2 (22, 137, 32, 6) (by decide)).1 ?_
    refine g_loadI act (gx gp_182 (w := 0x2003402) rfl (by decide) rfl) (a := 2) (n := 52) rfl rfl rfl ?_
    refine g_loadA act (gx gp_182 (w := 0x3503) rfl (by decide) rfl) (a := 0) (n := 53) rfl rfl rfl ?_
    refine r_getf act (gx gp_182 (w := 0x30000c9003804) rfl (by decide) rfl) (n := 56) (ci := 9) (j := 3) (N := 39) rfl rfl rfl rw_5.1 (by decide) (rw_5.2 (3, 127, 32, 39) (by decide)).1 ?_
    refine g_constI act (gx gp_182 (w := 0x40000003400000031000000003a01) rfl (by decide) rfl) (n := 58) (x := (6 : Int32)) (by decide) rfl ?_
    refine g_loadI act (gx gp_182 (w := 0x2003b02) rfl (by decide) rfl) (a := 2) (n := 59) rfl rfl rfl ?_
    refine g_iadd act (gx gp_182 (w := 0x3c0a) rfl (by decide) rfl) (n := 60) rfl ?_
    have v_13 := iv_addN (show (6 : Int32).toInt = ((6 : Nat) : Int) from by decide) hxi (show (6 + j9) < 2147483648 by omega)
    obtain ⟨x_14, e_15, hx_16⟩ := f_6 (6 + j9) (by omega)
    refine r_iald act (gx gp_182 (w := 0x3d1a) rfl (by decide) rfl) (n := 61) (j := (6 + j9)) rfl (rw_5.2 (3, 127, 32, 39) (by decide)).2 v_13 (show (6 + j9) < 39 by omega) (v := .int x_14) e_15 ?_
    refine r_iast act (gx gp_182 (w := 0x3e24) rfl (by decide) rfl) (n := 62) (j := j9) rfl (rw_5.2 (22, 137, 32, 6) (by decide)).2 hxi (show j9 < 6 by omega) ?_
    have rw_17 := RW.wr (k := 137) (j := j9) (v := .int x_14) rw_5 (Or.inl (by decide))
    have f_18 := f_6.ne (k := 137) (j := j9) (v := .int x_14) (by decide)
    have f_19 := f_7.ne (k := 137) (j := j9) (v := .int x_14) (by decide)
    have f_20 := f_8.ne (k := 137) (j := j9) (v := .int x_14) (by decide)
    have f_21 := f_9.put (j := j9) (rw_5.2 (22, 137, 32, 6) (by decide)).2 hx_16
    have f_22 := f_10.ne (k := 137) (j := j9) (v := .int x_14) (by decide)
    have fr_23 := fr_11.wr (k := 137) (j := j9) (.int x_14) (by unfold WK; omega)
    clear rw_5 fr_11 f_6 f_7 f_8 f_9 f_10
    generalize (wr hs_12 137 j9 (.int x_14)) = hs_24 at *
    refine g_iinc act (gx gp_182 (w := 0x80000001000002004109) rfl (by decide) rfl) (a := 2) (i := (1 : Int32)) (n := 65) rfl (by decide) rfl rfl (L2 := [some (.ref 124), some (.int a), some (.int (xi + (1 : Int32)))]) rfl ?_
    have v_25 := iv_addN hxi (show (1 : Int32).toInt = ((1 : Nat) : Int) from by decide) (show (j9 + 1) < 2147483648 by omega)
    refine g_goto act (gx gp_182 (w := 0x1b07) rfl (by decide) rfl) (n := 27) rfl ?_
    exact ih (j9 + 1) (by omega) (by omega) _ _ _ _ _ _ v_25 rw_17 f_18 f_19 f_20 f_21 f_22 hz1 (upI_next hz2 (by first | rfl | (rw [Nat.zero_add]))) (upI_next hz3 (by first | rfl | (rw [Nat.zero_add]))) fr_23

theorem ask_1 {g0 : GG} {bl : Nat} {xs : Nat → Int32} {l : Launch} {wp : va_W} {p : Program} {e : Env} {R : Room} {s : State} {m : MethodId} {args : Array Value} {below : List Frame} {meth : Method} {c : Code} {Q : State → Prop} {kc0 ks0 kc ks f lam KC KS : Nat} {hs : List CE} {wl : Nat → Int} {a : Int32} {i9 : Nat} (ha : a.toInt = (i9 : Int)) (hi4 : i9 < 4) (hf : 1 ≤ R.frames) (hl : 22 ≤ R.locals) (hc : kc ≤ R.cells + kc0) (hsl : ks ≤ R.slots + ks0) (act : Act SSX TBL (gp g0 wp) CLS bl xs D_182 p l s m args meth c) (hEnd : EndN SSX TBL (gp g0 wp) CLS D_182 p l e R s m args below meth c Q kc0 ks0 f lam KC KS (fun kd _ h2 => kd = 0 ∧ (∃ f : Nat → Int, IArr h2 135 4 f ∧ ∀ j, j < 4 → f j = wl (22 + 4 * i9 + j)) ∧ (∃ f : Nat → Int, IArr h2 136 6 f ∧ ∀ j, j < 6 → f j = wl j) ∧ (∃ f : Nat → Int, IArr h2 137 6 f ∧ ∀ j, j < 6 → f j = wl (6 + j)) ∧ (∃ f : Nat → Int, IArr h2 138 5 f ∧ ∀ j, j < 5 → f j = wl (17 + j)) ∧ (∃ oi : Int32, rd h2 124 24 = .int oi ∧ oi.toInt = wl 38) ∧ FrS WK hs h2)) (hk1 : kc ≤ KC) (hk2 : ks ≤ KS) : ∀ j9 : Nat, j9 ≤ 4 → ∀ (xi : Int32) (hj : List CE) (f1 f2 f3 f4 : Nat → Int), xi.toInt = (j9 : Int) → RW hj → IArr hj 127 39 wl → IArr hj 135 4 f1 → IArr hj 136 6 f2 → IArr hj 137 6 f3 → IArr hj 138 5 f4 → (∀ j, j < j9 → f1 j = wl (22 + 4 * i9 + j)) → FrS WK hs hj → WpN (gp g0 wp) CLS p l e R s m args below meth c Q D_182.2.2.1 kc0 ks0 2 [some (.ref 124), some (.int a), some (.int xi)] (hj, kc, ks) [] := by
  refine dn (fun j9 hj9 ih => ?_)
  intro xi hj f1 f2 f3 f4 hxi rwj hW hA hB hC hD hz1 hfr
  refine g_loadI act (gx gp_182 (w := 0x2000302) rfl (by decide) rfl) (a := 2) (n := 3) rfl rfl rfl ?_
  refine g_constI act (gx gp_182 (w := 0x40000002400000021000000000401) rfl (by decide) rfl) (n := 4) (x := (4 : Int32)) (by decide) rfl ?_
  refine g_icmpGe act (gx gp_182 (w := 0x19000708) rfl (by decide) rfl) (tgt := 25) (n := 7) rfl rfl (fun h3 => ?_) (fun h3 => ?_)
  · simp only [i_le, show (4 : Int32).toInt = 4 from by decide] at h3
    refine g_constI act (gx gp_182 (w := 0x40000000400000001000000001a01) rfl (by decide) rfl) (n := 26) (x := (0 : Int32)) (by decide) rfl ?_
    refine g_storeI act (gx gp_182 (w := 0x2001b10) rfl (by decide) rfl) (a := 2) (n := 27) rfl rfl (L2 := [some (.ref 124), some (.int a), some (.int (0 : Int32))]) rfl ?_
    obtain rfl : j9 = 4 := by omega
    exact ask_2 ha hi4 hf hl hc hsl act hEnd hk1 hk2 0 (by omega) _ hj f1 f2 f3 f4 rfl rwj hW hA hB hC hD hz1 (fun j h => absurd h (by omega)) (fun j h => absurd h (by omega)) hfr
  · simp only [i_le, show (4 : Int32).toInt = 4 from by decide] at h3
    refine g_loadA act (gx gp_182 (w := 0x803) rfl (by decide) rfl) (a := 0) (n := 8) rfl rfl rfl ?_
    refine r_getf act (gx gp_182 (w := 0x3000509000b04) rfl (by decide) rfl) (n := 11) (ci := 9) (j := 20) (N := 39) rfl rfl rfl rwj.1 (by decide) (rwj.2 (20, 135, 32, 4) (by decide)).1 ?_
    refine g_loadI act (gx gp_182 (w := 0x2000c02) rfl (by decide) rfl) (a := 2) (n := 12) rfl rfl rfl ?_
    refine g_loadA act (gx gp_182 (w := 0xd03) rfl (by decide) rfl) (a := 0) (n := 13) rfl rfl rfl ?_
    refine g_loadI act (gx gp_182 (w := 0x1000e02) rfl (by decide) rfl) (a := 1) (n := 14) rfl rfl rfl ?_
    refine g_loadI act (gx gp_182 (w := 0x2000f02) rfl (by decide) rfl) (a := 2) (n := 15) rfl rfl rfl ?_
    refine n_call tb_pres act hEnd (gx (P := G_call) gp_182 (w := 0xa000000000000c0c330000c800120f) rfl (by decide) rfl) (d' := D_200) rfl (as := [.ref 124, .int a, .int xi]) (rest := [.int xi, .ref 135]) (b_demandOf rwj hW ha hxi (by omega) (by omega)) (show (3 : Nat) = fb 0xa000000000000c0c330000c800120f % 16 by decide) (by show (3 : Nat) ≤ 3; decide) (fun _ => ⟨_, _, rfl, _, shp_at rwj.1, Or.inr (show fb 0xa000000000000c0c330000c800120f >>> 68 = 10 by decide)⟩) (by omega) (by show 8 + (3 + 11) + 0 ≤ R.locals; omega) (by show (2 : Nat) ≤ 8; decide) (by show kc + 0 ≤ _; omega) (by show ks + 0 ≤ _; omega) (fun r9 h3 hpo hr9 => ?_) (fun x9 hs9 hx9 hpo => ?_)
    · obtain ⟨-, rfl, x_1, rfl, hx_2⟩ := hpo
      show WpN (gp g0 wp) CLS p l e R s m args below meth c Q D_182.2.2.1 kc0 ks0 18 [some (.ref 124), some (.int a), some (.int xi)] (hj, kc, ks) [.int x_1, .int xi, .ref 135]
      refine r_iast act (gx gp_182 (w := 0x1324) rfl (by decide) rfl) (n := 19) (j := j9) rfl (rwj.2 (20, 135, 32, 4) (by decide)).2 hxi (show j9 < 4 by omega) ?_
      have rw_3 := RW.wr (k := 135) (j := j9) (v := .int x_1) rwj (Or.inl (by decide))
      have f_4 := hW.ne (k := 135) (j := j9) (v := .int x_1) (by decide)
      have f_5 := hA.put (j := j9) (rwj.2 (20, 135, 32, 4) (by decide)).2 hx_2
      have f_6 := hB.ne (k := 135) (j := j9) (v := .int x_1) (by decide)
      have f_7 := hC.ne (k := 135) (j := j9) (v := .int x_1) (by decide)
      have f_8 := hD.ne (k := 135) (j := j9) (v := .int x_1) (by decide)
      have fr_9 := hfr.wr (k := 135) (j := j9) (.int x_1) (by unfold WK; omega)
      clear rwj hfr hW hA hB hC hD
      generalize (wr hj 135 j9 (.int x_1)) = hs_10 at *
      refine g_iinc act (gx gp_182 (w := 0x80000001000002001609) rfl (by decide) rfl) (a := 2) (i := (1 : Int32)) (n := 22) rfl (by decide) rfl rfl (L2 := [some (.ref 124), some (.int a), some (.int (xi + (1 : Int32)))]) rfl ?_
      have v_11 := iv_addN hxi (show (1 : Int32).toInt = ((1 : Nat) : Int) from by decide) (show (j9 + 1) < 2147483648 by omega)
      refine g_goto act (gx gp_182 (w := 0x207) rfl (by decide) rfl) (n := 2) rfl ?_
      exact ih (j9 + 1) (by omega) (by omega) _ _ _ _ _ _ v_11 rw_3 f_4 f_5 f_6 f_7 f_8 (upI_next hz1 rfl) fr_9
    · exact absurd hpo.1 (by omega)

theorem b_asks {g0 : GG} {bl : Nat} {xs : Nat → Int32} {l : Launch} {hs : List CE} {wl : Nat → Int} {a : Int32} {i9 : Nat} (ha : a.toInt = (i9 : Int)) (hi4 : i9 < 4) (rw0 : RW hs) (hW : IArr hs 127 39 wl) : BodyN SSX TBL g0 CLS bl xs l D_182 1 22 0 0 [.ref 124, .int a] hs (fun kd _ h2 => kd = 0 ∧ (∃ f : Nat → Int, IArr h2 135 4 f ∧ ∀ j, j < 4 → f j = wl (22 + 4 * i9 + j)) ∧ (∃ f : Nat → Int, IArr h2 136 6 f ∧ ∀ j, j < 6 → f j = wl j) ∧ (∃ f : Nat → Int, IArr h2 137 6 f ∧ ∀ j, j < 6 → f j = wl (6 + j)) ∧ (∃ f : Nat → Int, IArr h2 138 5 f ∧ ∀ j, j < 5 → f j = wl (17 + j)) ∧ (∃ oi : Int32, rd h2 124 24 = .int oi ∧ oi.toInt = wl 38) ∧ FrS WK hs h2) := by
  intro wp p e R s m args below meth c Q kc0 ks0 kc ks act hf hl hc hsl hEnd
  show WpN (gp g0 wp) CLS p l e R s m args below meth c Q D_182.2.2.1 kc0 ks0 0 [some (.ref 124), some (.int a), none] (hs, kc, ks) []
  refine n_ints (k := 135) (N := 4) (rw0.2 (20, 135, 32, 4) (by decide)).2 (fun i1 => ?_)
  refine n_ints (k := 136) (N := 6) (rw0.2 (21, 136, 32, 6) (by decide)).2 (fun i2 => ?_)
  refine n_ints (k := 137) (N := 6) (rw0.2 (22, 137, 32, 6) (by decide)).2 (fun i3 => ?_)
  refine n_ints (k := 138) (N := 5) (rw0.2 (23, 138, 32, 5) (by decide)).2 (fun i4 => ?_)
  obtain ⟨f1, hA⟩ := IArr.start i1
  obtain ⟨f2, hB⟩ := IArr.start i2
  obtain ⟨f3, hC⟩ := IArr.start i3
  obtain ⟨f4, hD⟩ := IArr.start i4
  refine g_constI act (gx gp_182 (w := 0x40000000400000001000000000101) rfl (by decide) rfl) (n := 1) (x := (0 : Int32)) (by decide) rfl ?_
  refine g_storeI act (gx gp_182 (w := 0x2000210) rfl (by decide) rfl) (a := 2) (n := 2) rfl rfl (L2 := [some (.ref 124), some (.int a), some (.int (0 : Int32))]) rfl ?_
  exact ask_1 ha hi4 hf hl hc hsl act hEnd (by omega) (by omega) 0 (by omega) _ hs f1 f2 f3 f4 rfl rw0 hW hA hB hC hD (fun j h => absurd h (by omega)) (FrS.rf _ _)

theorem b_findsP {g0 : GG} {bl : Nat} {xs : Nat → Int32} {l : Launch} {hs : List CE} {tl wl : Nat → Int} {nl n ng nr : Nat} {ou bd9 bl9 : Int} (hNW : NW tl wl nl n ng nr) (hB : BM hs tl wl) (hA : Ask hs tl nl n ou bd9 bl9) (hbd : bd9 ≤ 220) (hbl : bl9 ≤ 100001) : BodyN SSX TBL g0 CLS bl xs l D_206 7 186 0 0 [.ref 124] hs (fun kd r h2 => kd = 0 ∧ (r = some (.int 0) ∨ r = some (.int 1)) ∧ FD9 h2 tl wl nl n ou bd9 bl9 ∧ (ModF hs → ModF h2) ∧ FrS WD hs h2) := by
  intro wp p e R s m args below meth c Q kc0 ks0 kc ks act hf hl hc hsl hEnd
  obtain ⟨rw0, hTo, hW⟩ := hB
  have hA9 := hA
  obtain ⟨hG, ⟨oi, b1, b2⟩, ⟨dm, c1, c2⟩, ⟨lm, d1, d2⟩, ⟨em, e1, e2⟩, ⟨cp, f1, f2⟩⟩ := hA
  obtain ⟨n0, -, n2, n3, -, n5, -, n7, -, -, -, n11, -, -⟩ := hNW
  refine n_longs (k := 131) (N := 48) (rw0.2 (16, 131, 33, 48) (by decide)).2 (fun l131 => ?_)
  refine n_longs (k := 132) (N := 48) (rw0.2 (17, 132, 33, 48) (by decide)).2 (fun l132 => ?_)
  refine n_longs (k := 133) (N := 12) (rw0.2 (18, 133, 33, 12) (by decide)).2 (fun l133 => ?_)
  refine n_longs (k := 134) (N := 12) (rw0.2 (19, 134, 33, 12) (by decide)).2 (fun l134 => ?_)
  refine n_longs (k := 139) (N := 1295) (rw0.2 (25, 139, 33, 1295) (by decide)).2 (fun l139 => ?_)
  refine n_longs (k := 140) (N := 1295) (rw0.2 (26, 140, 33, 1295) (by decide)).2 (fun l140 => ?_)
  refine n_longs (k := 142) (N := 5) (rw0.2 (31, 142, 33, 5) (by decide)).2 (fun l142 => ?_)
  refine n_longs (k := 143) (N := 5) (rw0.2 (32, 143, 33, 5) (by decide)).2 (fun l143 => ?_)
  refine n_ints (k := 141) (N := 30) (rw0.2 (27, 141, 32, 30) (by decide)).2 (fun i1 => ?_)
  obtain ⟨bz, hbz⟩ := IArr.start i1
  exact ((b_finds b2 n0 n2 n3 hG n5 n7 (fun j => by have := c2 j; omega) (fun j => by have := d2 j; omega) (fun j => by have := e2 j; omega) f2 (fun g hg => n11 g (by omega)) rw0 hTo hW c1 d1 e1 f1 b1 hbz l131 l132 l133 l134 l139 l140 l142 l143).mono (fun kd r h2 q => by
    obtain ⟨q1, q2, q3, q4, q5, -, -, q7, q8, q6⟩ := q
    exact ⟨q1, q2, ⟨BM.fr ⟨rw0, hTo, hW⟩ q6 WD_rw (fun j => by unfold WD; omega) (fun j => by unfold WD; omega), hA9.fr q6 (fun k j h1 h2 => by unfold WD; omega) (by unfold WD; omega), q3, q4.kr (facA_den hG).1, fun z => (q5 z).kr ((facA_den hG).2 z)⟩, fun hM => hM.wd q6 q3 q7 q8, q6⟩)) wp p e R s m args below meth c Q kc0 ks0 kc ks act hf hl hc hsl hEnd

def WG (k j : Nat) : Prop := WD k j ∨ WK k j
theorem WG_rw : ∀ q ∈ RWT, ¬ WG 124 q.1 := fun q hq z => z.elim (WD_rw q hq) (WK_rw q hq)

theorem b_isFound {g0 : GG} {bl : Nat} {xs : Nat → Int32} {l : Launch} {hs : List CE} {tl wl : Nat → Int} {nl n ng nr : Nat} {a : Int32} {i9 : Nat} (hNW : NW tl wl nl n ng nr) (hB : BM hs tl wl) (ha : a.toInt = (i9 : Int)) (hi4 : i9 < 4) : BodyN SSX TBL g0 CLS bl xs l D_221 8 207 0 0 [.ref 124, .int a] hs (fun kd r h2 => kd = 0 ∧ (∃ rv : Int32, r = some (.int rv) ∧ (rv = 0 ∨ rv = 1)) ∧ FD9 h2 tl wl nl n (wl 38) 200 400 ∧ (ModF hs → ModF h2) ∧ FrS WG hs h2) := by
  intro wp p e R s m args below meth c Q kc0 ks0 kc ks act hf hl hc hsl hEnd
  show WpN (gp g0 wp) CLS p l e R s m args below meth c Q D_221.2.2.1 kc0 ks0 0 [some (.ref 124), some (.int a)] (hs, kc, ks) []
  refine g_loadA act (gx gp_221 (w := 0x103) rfl (by decide) rfl) (a := 0) (n := 1) rfl rfl rfl ?_
  refine g_loadI act (gx gp_221 (w := 0x1000202) rfl (by decide) rfl) (a := 1) (n := 2) rfl rfl rfl ?_
  refine n_call tb_pres act hEnd (gx (P := G_call) gp_221 (w := 0xa00000000000080c220000b600050f) rfl (by decide) rfl) (d' := D_182) rfl (as := [.ref 124, .int a]) (rest := []) (b_asks ha (by omega) hB.1 hB.2.2) (show (2 : Nat) = fb 0xa00000000000080c220000b600050f % 16 by decide) (by show (2 : Nat) ≤ 3; decide) (fun _ => ⟨_, _, rfl, _, shp_at hB.1.1, Or.inr (show fb 0xa00000000000080c220000b600050f >>> 68 = 10 by decide)⟩) (by omega) (by show 8 + (3 + 11) + 22 ≤ R.locals; omega) (by show (0 : Nat) ≤ 8; decide) (by show kc + 0 ≤ _; omega) (by show ks + 0 ≤ _; omega) (fun r9 h1 hpo hr9 => ?_) (fun x9 hs9 hx9 hpo => ?_)
  · obtain rfl : r9 = none := hr9.elim (fun q => q.2) (fun q => absurd rfl q.1)
    obtain ⟨-, ⟨f1, z1, y1⟩, ⟨f2, z2, y2⟩, ⟨f3, z3, y3⟩, ⟨f4, z4, y4⟩, ho, fr1⟩ := hpo
    have hB1 := hB.fr fr1 WK_rw (fun j => by unfold WK; omega) (fun j => by unfold WK; omega)
    have hA1 : Ask h1 tl nl n (wl 38) 200 400 := ⟨hNW.2.2.2.2.2.2.2.2.2.1, ho, ⟨_, z1.cut, cut4_b (by decide) (fun j hj => by rw [y1 j hj]; have q := hNW.2.2.2.2.2.2.2.2.2.2.2.2.2 (4 * i9 + j) (by omega); rw [← Nat.add_assoc] at q; omega)⟩, ⟨_, z2.cut, cut4_b (by decide) (fun j hj => by rw [y2 j hj]; have q := hNW.2.2.2.2.2.2.2.2.2.2.1 j (by omega); omega)⟩, ⟨_, z3.cut, cut4_b (by decide) (fun j hj => by rw [y3 j hj]; have q := hNW.2.2.2.2.2.2.2.2.2.2.1 (6 + j) (by omega); omega)⟩, ⟨_, z4.cut, cut4_b (by decide) (fun j hj => by rw [y4 j hj]; exact hNW.2.2.2.2.2.2.2.2.2.2.2.2.1 j hj)⟩⟩
    show WpN (gp g0 wp) CLS p l e R s m args below meth c Q D_221.2.2.1 kc0 ks0 5 [some (.ref 124), some (.int a)] (h1, kc, ks) []
    refine g_loadA act (gx gp_221 (w := 0x603) rfl (by decide) rfl) (a := 0) (n := 6) rfl rfl rfl ?_
    refine n_call tb_pres act hEnd (gx (P := G_call) gp_221 (w := 0xa000000000000c08110000ce00090f) rfl (by decide) rfl) (d' := D_206) rfl (as := [.ref 124]) (rest := []) (b_findsP hNW hB1 hA1 (by decide) (by decide)) (show (1 : Nat) = fb 0xa000000000000c08110000ce00090f % 16 by decide) (by show (1 : Nat) ≤ 2; decide) (fun _ => ⟨_, _, rfl, _, shp_at hB1.1.1, Or.inr (show fb 0xa000000000000c08110000ce00090f >>> 68 = 10 by decide)⟩) (by omega) (by show 8 + (2 + 11) + 186 ≤ R.locals; omega) (by show (0 : Nat) ≤ 8; decide) (by show kc + 0 ≤ _; omega) (by show ks + 0 ≤ _; omega) (fun r9 h2 hpo hr9 => ?_) (fun x9 hs9 hx9 hpo => ?_)
    · obtain ⟨-, hr, hFd, hMd, fr2⟩ := hpo
      obtain ⟨rv, rfl, hrv⟩ : ∃ rv : Int32, r9 = some (.int rv) ∧ (rv = 0 ∨ rv = 1) := hr.elim (fun q => ⟨0, q, Or.inl rfl⟩) (fun q => ⟨1, q, Or.inr rfl⟩)
      show WpN (gp g0 wp) CLS p l e R s m args below meth c Q D_221.2.2.1 kc0 ks0 9 [some (.ref 124), some (.int a)] (h2, kc, ks) [.int rv]
      exact g_retZ hEnd (gx gp_221 (w := 0x23) rfl (by decide) rfl) hrv ⟨rfl, ⟨rv, rfl, hrv⟩, hFd, (fun hM => hMd (hM.wk fr1 ho)), (fr1.mono (fun k9 j9 h9 => Or.inr h9)).tr (fr2.mono (fun k9 j9 h9 => Or.inl h9))⟩ (by show kc ≤ kc + 0; omega) (by show ks ≤ ks + 0; omega)
    · exact absurd hpo.1 (by omega)
  · exact absurd hpo.1 (by omega)

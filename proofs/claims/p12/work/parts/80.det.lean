/-! Three rows of whole numbers. -/
abbrev I3 : Type := Int × Int × Int
abbrev Q3 : Type := Rat × Rat × Rat
def m2 (a b c d : Int) : Int := a * d - b * c
def d3 (a b c : I3) : Int := a.1 * m2 b.2.1 b.2.2 c.2.1 c.2.2 - a.2.1 * m2 b.1 b.2.2 c.1 c.2.2 + a.2.2 * m2 b.1 b.2.1 c.1 c.2.1
def dot3 (a : I3) (y : Q3) : Rat := (a.1 : Rat) * y.1 + (a.2.1 : Rat) * y.2.1 + (a.2.2 : Rat) * y.2.2
theorem cram1 (a b c : I3) (y : Q3) : (d3 a b c : Rat) * y.1 = dot3 a y * (m2 b.2.1 b.2.2 c.2.1 c.2.2 : Rat) - dot3 b y * (m2 a.2.1 a.2.2 c.2.1 c.2.2 : Rat) + dot3 c y * (m2 a.2.1 a.2.2 b.2.1 b.2.2 : Rat) := by
  obtain ⟨a1, a2, a3⟩ := a
  obtain ⟨b1, b2, b3⟩ := b
  obtain ⟨c1, c2, c3⟩ := c
  obtain ⟨y1, y2, y3⟩ := y
  simp only [d3, m2, dot3, Rat.intCast_mul, Rat.intCast_sub, Rat.intCast_add]
  grind
theorem cram2 (a b c : I3) (y : Q3) : (d3 a b c : Rat) * y.2.1 = -(dot3 a y * (m2 b.1 b.2.2 c.1 c.2.2 : Rat)) + dot3 b y * (m2 a.1 a.2.2 c.1 c.2.2 : Rat) - dot3 c y * (m2 a.1 a.2.2 b.1 b.2.2 : Rat) := by
  obtain ⟨a1, a2, a3⟩ := a
  obtain ⟨b1, b2, b3⟩ := b
  obtain ⟨c1, c2, c3⟩ := c
  obtain ⟨y1, y2, y3⟩ := y
  simp only [d3, m2, dot3, Rat.intCast_mul, Rat.intCast_sub, Rat.intCast_add]
  grind
theorem cram3 (a b c : I3) (y : Q3) : (d3 a b c : Rat) * y.2.2 = dot3 a y * (m2 b.1 b.2.1 c.1 c.2.1 : Rat) - dot3 b y * (m2 a.1 a.2.1 c.1 c.2.1 : Rat) + dot3 c y * (m2 a.1 a.2.1 b.1 b.2.1 : Rat) := by
  obtain ⟨a1, a2, a3⟩ := a
  obtain ⟨b1, b2, b3⟩ := b
  obtain ⟨c1, c2, c3⟩ := c
  obtain ⟨y1, y2, y3⟩ := y
  simp only [d3, m2, dot3, Rat.intCast_mul, Rat.intCast_sub, Rat.intCast_add]
  grind
def crs (a b : I3) : Q3 := ((m2 a.2.1 a.2.2 b.2.1 b.2.2 : Int), (-(m2 a.1 a.2.2 b.1 b.2.2) : Int), (m2 a.1 a.2.1 b.1 b.2.1 : Int))
theorem dot_crs (a b c : I3) : dot3 c (crs a b) = (d3 c a b : Rat) := by
  obtain ⟨a1, a2, a3⟩ := a
  obtain ⟨b1, b2, b3⟩ := b
  obtain ⟨c1, c2, c3⟩ := c
  simp only [d3, m2, dot3, crs, Rat.intCast_mul, Rat.intCast_sub, Rat.intCast_add, Rat.intCast_neg]
  grind
theorem ic0 {a : Int} (h : (a : Rat) = 0) : a = 0 := by
  have : (a : Rat) = ((0 : Int) : Rat) := h
  exact Rat.intCast_inj.mp this
/-- rows that only 0 is orthogonal to: three of them have a determinant that isn't 0 -/
theorem ex3 {P : I3 → Prop} (hk : ∀ z : Q3, (∀ a, P a → dot3 a z = 0) → z = (0, 0, 0)) : ∃ a b c, P a ∧ P b ∧ P c ∧ d3 a b c ≠ 0 := by
  refine Classical.byContradiction (fun hno => ?_)
  have hd : ∀ a b c, P a → P b → P c → d3 a b c = 0 := fun a b c ha hb hc => Classical.byContradiction (fun q => hno ⟨a, b, c, ha, hb, hc, q⟩)
  have hx : ∀ a b, P a → P b → crs a b = (0, 0, 0) := fun a b ha hb => hk _ (fun c hc => by rw [dot_crs, hd c a b hc ha hb]; rfl)
  have key : ∀ a b, P a → P b → m2 a.2.1 a.2.2 b.2.1 b.2.2 = 0 ∧ m2 a.1 a.2.2 b.1 b.2.2 = 0 ∧ m2 a.1 a.2.1 b.1 b.2.1 = 0 := fun a b ha hb => by
    have h := hx a b ha hb
    have e1 := congrArg Prod.fst h
    have e2 := congrArg (fun q : Q3 => q.2.1) h
    have e3 := congrArg (fun q : Q3 => q.2.2) h
    have e2 := ic0 e2
    exact ⟨ic0 e1, by omega, ic0 e3⟩
  rcases Classical.em (∃ a, P a ∧ (a.1 ≠ 0 ∨ a.2.1 ≠ 0)) with ⟨a, ha, hne⟩ | hz
  · have := hk ((a.2.1 : Int), (-a.1 : Int), (0 : Int)) (fun b hb => by
      have h := (key b a hb ha).2.2
      show (b.1 : Rat) * ((a.2.1 : Int) : Rat) + (b.2.1 : Rat) * ((-a.1 : Int) : Rat) + (b.2.2 : Rat) * ((0 : Int) : Rat) = 0
      have h2 : ((m2 b.1 b.2.1 a.1 a.2.1 : Int) : Rat) = ((0 : Int) : Rat) := by rw [h]
      simp only [m2, Rat.intCast_mul, Rat.intCast_sub, Rat.intCast_neg, Rat.intCast_zero] at h2 ⊢
      grind)
    have e1 := congrArg Prod.fst this
    have e2 := congrArg (fun q : Q3 => q.2.1) this
    have e1 := ic0 e1
    have e2 := ic0 e2
    omega
  · rcases Classical.em (∃ a, P a ∧ a.2.2 ≠ 0) with ⟨a, ha, hne⟩ | hz2
    · have := hk (((1 : Int) : Rat), ((0 : Int) : Rat), ((0 : Int) : Rat)) (fun b hb => by
        have h : b.1 = 0 := Classical.byContradiction (fun q => hz ⟨b, hb, Or.inl q⟩)
        show (b.1 : Rat) * ((1 : Int) : Rat) + (b.2.1 : Rat) * ((0 : Int) : Rat) + (b.2.2 : Rat) * ((0 : Int) : Rat) = 0
        rw [h]
        simp only [Rat.intCast_zero]
        grind)
      have e1 := ic0 (congrArg Prod.fst this)
      omega
    · have := hk (((1 : Int) : Rat), ((0 : Int) : Rat), ((0 : Int) : Rat)) (fun b hb => by
        have h : b.1 = 0 := Classical.byContradiction (fun q => hz ⟨b, hb, Or.inl q⟩)
        show (b.1 : Rat) * ((1 : Int) : Rat) + (b.2.1 : Rat) * ((0 : Int) : Rat) + (b.2.2 : Rat) * ((0 : Int) : Rat) = 0
        rw [h]
        simp only [Rat.intCast_zero]
        grind)
      have e1 := ic0 (congrArg Prod.fst this)
      omega

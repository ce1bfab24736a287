/-! The start's run: it ends alike for every script. What a run does for a number that it never looks at is shown at a number of which nothing is known: one that would be a counterexample, if there is one. -/
def L0 : Nat := 108614429106001839915031
def H0 : HP := (0, 0, 0, 0, 0, 65536, 0, 0)
def BXT : Nat := mk (wTop * ((2 ^ (72 * 3072) - 1) / (2 ^ 72 - 1)))
noncomputable def RS0 : RES := Option.rec (motive := fun _ => RES) (0, 0, 0, H0, 0) (fun r => r) (run 0 0 20000 15 616 P_0s 0 L0 H0 0)
noncomputable def eqR (a b : RES) : Bool := an (Nat.beq a.1 b.1) (an (Nat.beq a.2.1 b.2.1) (an (Nat.beq a.2.2.1 b.2.2.1) (an (Nat.beq a.2.2.2.2 b.2.2.2.2) (an (Nat.beq a.2.2.2.1.1 b.2.2.2.1.1) (an (Nat.beq a.2.2.2.1.2.1 b.2.2.2.1.2.1) (an (Nat.beq a.2.2.2.1.2.2.1 b.2.2.2.1.2.2.1) (an (Nat.beq a.2.2.2.1.2.2.2.1 b.2.2.2.1.2.2.2.1) (an (Nat.beq a.2.2.2.1.2.2.2.2.1 b.2.2.2.1.2.2.2.2.1) (an (Nat.beq a.2.2.2.1.2.2.2.2.2.1 b.2.2.2.1.2.2.2.2.2.1) (an (Nat.beq a.2.2.2.1.2.2.2.2.2.2.1 b.2.2.2.1.2.2.2.2.2.2.1) (Nat.beq a.2.2.2.1.2.2.2.2.2.2.2 b.2.2.2.1.2.2.2.2.2.2.2)))))))))))
theorem eqR_t : ∀ {a b : RES}, eqR a b = true → a = b := by
  rintro ⟨a1, a2, a3, ⟨h1, h2, h3, h4, h5, h6, h7, h8⟩, a4⟩ ⟨b1, b2, b3, ⟨g1, g2, g3, g4, g5, g6, g7, g8⟩, b4⟩ h
  obtain ⟨e1, h⟩ := an_t h
  obtain ⟨e2, h⟩ := an_t h
  obtain ⟨e3, h⟩ := an_t h
  obtain ⟨e4, h⟩ := an_t h
  obtain ⟨f1, h⟩ := an_t h
  obtain ⟨f2, h⟩ := an_t h
  obtain ⟨f3, h⟩ := an_t h
  obtain ⟨f4, h⟩ := an_t h
  obtain ⟨f5, h⟩ := an_t h
  obtain ⟨f6, h⟩ := an_t h
  obtain ⟨f7, f8⟩ := an_t h
  obtain rfl : a1 = b1 := Nat.eq_of_beq_eq_true e1
  obtain rfl : a2 = b2 := Nat.eq_of_beq_eq_true e2
  obtain rfl : a3 = b3 := Nat.eq_of_beq_eq_true e3
  obtain rfl : a4 = b4 := Nat.eq_of_beq_eq_true e4
  obtain rfl : h1 = g1 := Nat.eq_of_beq_eq_true f1
  obtain rfl : h2 = g2 := Nat.eq_of_beq_eq_true f2
  obtain rfl : h3 = g3 := Nat.eq_of_beq_eq_true f3
  obtain rfl : h4 = g4 := Nat.eq_of_beq_eq_true f4
  obtain rfl : h5 = g5 := Nat.eq_of_beq_eq_true f5
  obtain rfl : h6 = g6 := Nat.eq_of_beq_eq_true f6
  obtain rfl : h7 = g7 := Nat.eq_of_beq_eq_true f7
  obtain rfl : h8 = g8 := Nat.eq_of_beq_eq_true f8
  rfl
noncomputable def okst (bl : Nat) : Bool := Option.rec (motive := fun _ => Bool) false (fun r => eqR r RS0) (run BXT bl 20000 15 616 P_0s 0 L0 H0 0)
noncomputable def bl0 : Nat := Classical.epsilon (fun bl => okst bl = false)
theorem okst_0 : okst bl0 = true := by decide +kernel
theorem okst_all (bl : Nat) : okst bl = true := by
  cases h : okst bl with
  | true => rfl
  | false =>
    have h2 : okst bl0 = false := Classical.epsilon_spec (p := fun bl => okst bl = false) ⟨bl, h⟩
    rw [okst_0] at h2
    exact absurd h2 Bool.noConfusion
theorem run_s (bl : Nat) : run BXT bl 20000 15 616 P_0s 0 L0 H0 0 = some RS0 := by
  have h := okst_all bl
  unfold okst at h
  cases hr : run BXT bl 20000 15 616 P_0s 0 L0 H0 0 with
  | none => rw [hr] at h; exact absurd h Bool.false_ne_true
  | some r =>
    rw [hr] at h
    have h : eqR r RS0 = true := h
    rw [eqR_t h]
theorem bx_get : ∀ a, a < 48 → ∀ b, b < 64 → pget BXT (64 * a + b) = wTop := by decide +kernel
theorem bx_vr {xs : Nat → Int32} {L : Nat} (hL : L ≤ 3072) : ∀ (g : GG) (ws : va_W) (j : Nat), j < L → VR g ws (pget BXT j) (.int (xs j)) := by
  intro g ws j hj
  have e := bx_get (j / 64) (by omega) (j % 64) (by omega)
  rw [show 64 * (j / 64) + j % 64 = j by omega] at e
  rw [e]
  exact VR_top g ws (xs j)

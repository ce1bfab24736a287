/-! Boxes and scripts. -/
theorem VR_iv {g : GG} {ws : va_W} {l h : Nat} {i : Int32} (hl : l < 4294967296) (hh : h < 4294967296) (a : l ≤ iEx i) (b : iEx i ≤ h) : VR g ws (1 + 8 * (l + 4294967296 * h)) (.int i) := by
  refine ⟨by unfold WB; omega, Or.inr (Or.inl ⟨by omega, i, rfl, ?_, ?_⟩)⟩
  · unfold ilo; show (1 + 8 * (l + 4294967296 * h)) / 8 % 4294967296 ≤ _; omega
  · unfold ihi; show _ ≤ (1 + 8 * (l + 4294967296 * h)) / 8 / 4294967296; omega
theorem vr6 {xs : Nat → Int32} {bx k l1 h1 l2 h2 l3 h3 l4 h4 l5 h5 : Nat} (hb : pget bx 0 = 8 * (k + 1) ∧ pget bx 1 = 1 + 8 * (l1 + 4294967296 * h1) ∧ pget bx 2 = 1 + 8 * (l2 + 4294967296 * h2) ∧ pget bx 3 = 1 + 8 * (l3 + 4294967296 * h3) ∧ pget bx 4 = 1 + 8 * (l4 + 4294967296 * h4) ∧ pget bx 5 = 1 + 8 * (l5 + 4294967296 * h5))
    (hlt : k < 64 ∧ l1 < 4294967296 ∧ h1 < 4294967296 ∧ l2 < 4294967296 ∧ h2 < 4294967296 ∧ l3 < 4294967296 ∧ h3 < 4294967296 ∧ l4 < 4294967296 ∧ h4 < 4294967296 ∧ l5 < 4294967296 ∧ h5 < 4294967296) (hk : iEx (xs 0 &&& 63) = k + 2147483648)
    (b : (l1 ≤ iEx (xs 1) ∧ iEx (xs 1) ≤ h1) ∧ (l2 ≤ iEx (xs 2) ∧ iEx (xs 2) ≤ h2) ∧ (l3 ≤ iEx (xs 3) ∧ iEx (xs 3) ≤ h3) ∧ (l4 ≤ iEx (xs 4) ∧ iEx (xs 4) ≤ h4) ∧ (l5 ≤ iEx (xs 5) ∧ iEx (xs 5) ≤ h5)) : ∀ (g : GG) (ws : va_W) (j : Nat), j < 6 → VR g ws (pget bx j) (.int (xs j)) := by
  intro g ws j hj
  obtain ⟨e0, e1, e2, e3, e4, e5⟩ := hb
  obtain ⟨q0, q1, q2, q3, q4, q5, q6, q7, q8, q9, q10⟩ := hlt
  obtain ⟨⟨c1, c2⟩, ⟨c3, c4⟩, ⟨c5, c6⟩, ⟨c7, c8⟩, c9, c10⟩ := b
  rcases (show j = 0 ∨ j = 1 ∨ j = 2 ∨ j = 3 ∨ j = 4 ∨ j = 5 by omega) with rfl | rfl | rfl | rfl | rfl | rfl
  · rw [e0]
    exact ⟨by unfold WB; omega, Or.inl ⟨by omega, by omega, xs 0, rfl, by rw [hk]; omega⟩⟩
  · rw [e1]; exact VR_iv q1 q2 c1 c2
  · rw [e2]; exact VR_iv q3 q4 c3 c4
  · rw [e3]; exact VR_iv q5 q6 c5 c6
  · rw [e4]; exact VR_iv q7 q8 c7 c8
  · rw [e5]; exact VR_iv q9 q10 c9 c10
def Cov (xs : Nat → Int32) : Prop := ∃ bx : Nat, (∀ (g : GG) (ws : va_W) (j : Nat), j < 6 → VR g ws (pget bx j) (.int (xs j))) ∧ okl bx 6 120000 = true

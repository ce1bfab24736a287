/-! The law's start alone: its program up to the loop's head, where it stops. -/
def P_0s : Nat := P_0 % 2 ^ (72 + 128 * 28) + 0x37 * 2 ^ (72 + 128 * 28)
theorem ftc_s : ∀ pc, pc < 28 → ftc P_0s pc = ftc P_0 pc := by decide +kernel
theorem ftc_28 : ftc P_0s 28 = 0x37 := by decide +kernel
theorem P_0s_lt : P_0s < 2 ^ (72 + 128 * 29) := by decide +kernel
theorem ftc_gt {pc : Nat} (h : 28 < pc) : ftc P_0s pc = 0 := by
  unfold ftc
  show (P_0s >>> (72 + 128 * pc)) % _ = 0
  rw [Nat.shiftRight_eq_div_pow, Nat.div_eq_of_lt (Nat.lt_of_lt_of_le P_0s_lt (Nat.pow_le_pow_right (by decide) (by omega))), Nat.zero_mod]
theorem gp_0s : GPd SSX TBL CLS ftX mdx D_0 P_0s := fun pc h => by
  rcases Nat.lt_trichotomy pc 28 with q | rfl | q
  · rw [ftc_s pc q] at h ⊢
    exact gp_0 pc h
  · rw [ftc_28]
    exact ⟨G_stop, rfl, trivial⟩
  · exact absurd (ftc_gt q) h

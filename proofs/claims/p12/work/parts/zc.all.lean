/-! All hands of the class under K2. -/
theorem handsC_KCQ : HandsCQ KCQ InvCQ := ⟨handsB_KCQ invC_KCQ, sh_40Q⟩

/-! Types behind a frame: what is written is typed again. -/
theorem hty_frsQ {K : KX} {R : List Nat} {hs h2 : List CE} {W : Nat → Nat → Prop} (h : HTy K R hs) (f : FrS W hs h2) (hw : ∀ k r j, W k j → R[k]? = some r → r ≠ 0 → j < lnK K r → VT K R (ftK K r j) (rd h2 k j)) : HTy K R h2 := by
  refine ⟨h.1.trans f.1.symm, fun k r hk hr => ?_, h.2.2⟩
  obtain ⟨q1, q2⟩ := h.2.1 k r hk hr
  refine ⟨(f.2.1 k).trans q1, fun j hj => ?_⟩
  by_cases w : W k j
  · exact hw k r j w hk hr hj
  · rw [f.2.2 k j w]
    exact q2 j hj

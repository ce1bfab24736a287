/-! The class's hands under K2: the grids' limits are known. -/
def InvCQ (R : List Nat) (hs : List CE) : Prop := ∀ kg : Nat, R[kg]? = some 505 → ∃ (n : Int32) (kl : Nat), rd hs kg 2 = .int n ∧ rd hs kg 8 = .ref kl ∧ R[kl]? = some 546 ∧ n.toInt ≤ 6 ∧ kl = kg + 3 ∧ ∀ j : Nat, (j : Int) < n.toInt → ∃ z : Int32, rd hs kl j = .int z ∧ 1 ≤ z.toInt
theorem invC_KCQ : StI KCQ InvCQ := by
  intro R hs R' hs' h hR h4 h5 hp k hk
  have hk0 := h5 k 505 (Or.inr (by decide)) hk
  obtain ⟨n, kl, e1, e2, e3, e4, e6, e5⟩ := h k hk0
  exact ⟨n, kl, (rd_of (h4 _ _ hk0 (by decide)) 2).trans e1, (rd_of (h4 _ _ hk0 (by decide)) 8).trans e2, hR _ _ e3 (by decide), e4, e6, fun j hj => by
    obtain ⟨z, z1, z2⟩ := e5 j hj
    exact ⟨z, (rd_of (h4 _ _ e3 (by decide)) j).trans z1, z2⟩⟩
/-- what loadBits knows while it goes on -/
def InvFQ (kp kg : Nat) (n9 : Int32) (R : List Nat) (hs : List CE) : Prop := InvCQ R hs ∧ R[kp]? = some 501 ∧ R[kg]? = some 505 ∧ rd hs kp 6 = .ref kg ∧ rd hs kg 2 = .int n9
theorem invF_KCQ (kp kg : Nat) (n9 : Int32) : StI KCQ (InvFQ kp kg n9) := by
  intro R hs R' hs' h hR h4 h5 hp
  obtain ⟨i, a, b, e1, e2⟩ := h
  exact ⟨invC_KCQ R hs R' hs' i hR h4 h5 hp, hR _ _ a (by decide), hR _ _ b (by decide), (rd_of (h4 _ _ a (by decide)) 6).trans e1, (rd_of (h4 _ _ b (by decide)) 2).trans e2⟩
theorem handsB_KCQ {Inv : List Nat → List CE → Prop} (hI : StI KCQ Inv) : HandsBQ KCQ Inv := ⟨hI, sh_104Q hI, sh_84Q hI, sh_85Q hI, si_0Q hI, si_1Q hI, si_2Q hI, si_3Q hI, si_4Q hI⟩

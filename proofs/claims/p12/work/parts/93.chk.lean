/-! A checker of methods over typed cells: states, and what they say. -/
abbrev FT : Type := Nat × Nat × Int × Int
abbrev AV : Type := Nat × Nat × Nat × Int
abbrev EV : Type := Int × Int × Bool
abbrev RO : Type := Nat × Nat × FT × List FT
/-- roles; groups of roles; registers (role, cell, place) -/
abbrev KX : Type := List (Nat × RO) × List (List Nat) × List (Nat × Nat × Nat)
/-- numbers, locals, stack, registers -/
abbrev ST : Type := List EV × List AV × List AV × List AV
def roK (K : KX) (r : Nat) : RO := ((K.1.find? (fun x => Nat.beq x.1 r)).getD (0, 0, 0, (9, 0, 0, 0), [])).2
def kdK (K : KX) (r : Nat) : Nat := (roK K r).1
def lnK (K : KX) (r : Nat) : Nat := (roK K r).2.1
def ftK (K : KX) (r j : Nat) : FT := (roK K r).2.2.2.getD j (roK K r).2.2.1
def inG (K : KX) (g r : Nat) : Bool := bif Nat.ble 1000 g then (K.2.1.getD (g - 1000) []).any (fun x => Nat.beq x r) else Nat.beq g r
def froz (r : Nat) : Bool := Nat.beq r 0 || Nat.ble 500 r
def ofG (K : KX) (R : List Nat) (g : Nat) (v : Value) : Prop := ∃ k r : Nat, v = .ref k ∧ R[k]? = some r ∧ r ≠ 0 ∧ inG K g r = true
def VT (K : KX) (R : List Nat) (t : FT) (v : Value) : Prop :=
  t.1 = 0 ∨ (t.1 = 1 ∧ ∃ x : Int32, v = .int x ∧ t.2.2.1 ≤ x.toInt ∧ x.toInt ≤ t.2.2.2) ∨ (t.1 = 2 ∧ ∃ x : Int64, v = .long x ∧ t.2.2.1 ≤ x.toInt ∧ x.toInt ≤ t.2.2.2 ∧ (t.2.1 = 1 → x.toInt ≠ 0)) ∨
  (t.1 = 3 ∧ ofG K R t.2.1 v) ∨ (t.1 = 4 ∧ (v = .null ∨ ofG K R t.2.1 v)) ∨
  ((t.1 = 6 ∨ t.1 = 8) ∧ ∃ x : Int32, v = .int x ∧ t.2.2.1 ≤ x.toInt ∧ x.toInt ≤ t.2.2.2) ∨ (t.1 = 7 ∧ ofG K R t.2.1 v)
/-- what may be written: 6, 7 only by hand, 8 above 0 -/
def VW (K : KX) (R : List Nat) (t : FT) (v : Value) : Prop := VT K R t v ∧ (t.1 < 6 ∨ (t.1 = 8 ∧ ∃ x : Int32, v = .int x ∧ 1 ≤ x.toInt))
theorem vw_of {K : KX} {R : List Nat} {t : FT} {v : Value} (h : VT K R t v) (ht : t.1 < 6) : VW K R t v := ⟨h, Or.inl ht⟩
/-- what is known of a double: 1 no NaN, 2 a number and not 0, 3 a number -/
def DPr (c : Nat) (x : UInt64) : Prop := (c = 1 → FP.Core.val64 x ≠ .nan) ∧ (c = 2 → ∃ (s : Bool) (m : Nat) (q : Int), FP.Core.val64 x = .fin s m q ∧ m ≠ 0) ∧ (c = 3 → ∃ (s : Bool) (m : Nat) (q : Int), FP.Core.val64 x = .fin s m q)
theorem DPr.zero (x : UInt64) : DPr 0 x := ⟨fun h => absurd h (by decide), fun h => absurd h (by decide), fun h => absurd h (by decide)⟩
def VM (K : KX) (n0 : Nat) (hs : List CE) (R : List Nat) (n : Nat) (σ : Nat → Int) (a : AV) (v : Value) : Prop :=
  a.1 = 0 ∨ (a.1 = 1 ∧ ∃ x : Int32, v = .int x ∧ a.2.1 < n ∧ x.toInt = σ a.2.1 + a.2.2.2) ∨ (a.1 = 2 ∧ ∃ x : Int64, v = .long x ∧ a.2.1 < n ∧ x.toInt = σ a.2.1) ∨
  (a.1 = 3 ∧ ofG K R a.2.1 v) ∨ (a.1 = 4 ∧ (v = .null ∨ ofG K R a.2.1 v)) ∨ (a.1 = 5 ∧ v = .null) ∨
  (a.1 = 6 ∧ ∃ x : Int32, v = .int x ∧ a.2.1 < n ∧ a.2.2.1 < n ∧ (x < 0 ↔ σ a.2.1 < σ a.2.2.1) ∧ (x = 0 ↔ σ a.2.1 = σ a.2.2.1)) ∨
  (a.1 = 7 ∧ ∃ k : Nat, v = .ref k ∧ (a.2.1 = 1 → ∃ i : Nat, i < 21 ∧ k = litK i)) ∨ (a.1 = 8 ∧ ∃ x : UInt32, v = .float x) ∨ (a.1 = 9 ∧ ∃ x : UInt64, v = .double x ∧ DPr a.2.1 x) ∨
  (a.1 = 11 ∧ ∃ k : Nat, v = .ref k ∧ R[k]? = some 0 ∧ n0 ≤ k ∧ hs[k]? = some (a.2.2.1, a.2.2.2.toNat, fun j => dv (ftX a.2.2.1 j)) ∧ a.2.1 < n ∧ σ a.2.1 = (k : Int))
theorem ofG.mono {K : KX} {R R' : List Nat} {g : Nat} {v : Value} (h : ofG K R g v) (hR : ∀ k r : Nat, R[k]? = some r → r ≠ 0 → R'[k]? = some r) : ofG K R' g v := by
  obtain ⟨k, r, h1, h2, h3, h4⟩ := h
  exact ⟨k, r, h1, hR k r h2 h3, h3, h4⟩
theorem VT.mono {K : KX} {R R' : List Nat} {t : FT} {v : Value} (h : VT K R t v) (hR : ∀ k r : Nat, R[k]? = some r → r ≠ 0 → R'[k]? = some r) : VT K R' t v := by
  rcases h with h | h | h | ⟨h, q⟩ | ⟨h, q | q⟩ | h | ⟨h, q⟩
  · exact Or.inl h
  · exact Or.inr (Or.inl h)
  · exact Or.inr (Or.inr (Or.inl h))
  · exact Or.inr (Or.inr (Or.inr (Or.inl ⟨h, q.mono hR⟩)))
  · exact Or.inr (Or.inr (Or.inr (Or.inr (Or.inl ⟨h, Or.inl q⟩))))
  · exact Or.inr (Or.inr (Or.inr (Or.inr (Or.inl ⟨h, Or.inr (q.mono hR)⟩))))
  · exact Or.inr (Or.inr (Or.inr (Or.inr (Or.inr (Or.inl h)))))
  · exact Or.inr (Or.inr (Or.inr (Or.inr (Or.inr (Or.inr ⟨h, q.mono hR⟩)))))
section VMS
variable {K : KX} {n0 n : Nat} {hs : List CE} {R : List Nat} {σ : Nat → Int} {a : AV} {v : Value}
theorem VM.int (h : VM K n0 hs R n σ a v) (e : a.1 = 1) : ∃ x : Int32, v = .int x ∧ a.2.1 < n ∧ x.toInt = σ a.2.1 + a.2.2.2 := by
  rcases h with h | ⟨-, h⟩ | ⟨h, -⟩ | ⟨h, -⟩ | ⟨h, -⟩ | ⟨h, -⟩ | ⟨h, -⟩ | ⟨h, -⟩ | ⟨h, -⟩ | ⟨h, -⟩ | ⟨h, -⟩
  rotate_left
  · exact h
  all_goals (rw [e] at h; exact absurd h (by decide))
theorem VM.lng (h : VM K n0 hs R n σ a v) (e : a.1 = 2) : ∃ x : Int64, v = .long x ∧ a.2.1 < n ∧ x.toInt = σ a.2.1 := by
  rcases h with h | ⟨h, -⟩ | ⟨-, h⟩ | ⟨h, -⟩ | ⟨h, -⟩ | ⟨h, -⟩ | ⟨h, -⟩ | ⟨h, -⟩ | ⟨h, -⟩ | ⟨h, -⟩ | ⟨h, -⟩
  rotate_left 2
  · exact h
  all_goals (rw [e] at h; exact absurd h (by decide))
theorem VM.rf3 (h : VM K n0 hs R n σ a v) (e : a.1 = 3) : ofG K R a.2.1 v := by
  rcases h with h | ⟨h, -⟩ | ⟨h, -⟩ | ⟨-, h⟩ | ⟨h, -⟩ | ⟨h, -⟩ | ⟨h, -⟩ | ⟨h, -⟩ | ⟨h, -⟩ | ⟨h, -⟩ | ⟨h, -⟩
  rotate_left 3
  · exact h
  all_goals (rw [e] at h; exact absurd h (by decide))
theorem VM.rf4 (h : VM K n0 hs R n σ a v) (e : a.1 = 4) : v = .null ∨ ofG K R a.2.1 v := by
  rcases h with h | ⟨h, -⟩ | ⟨h, -⟩ | ⟨h, -⟩ | ⟨-, h⟩ | ⟨h, -⟩ | ⟨h, -⟩ | ⟨h, -⟩ | ⟨h, -⟩ | ⟨h, -⟩ | ⟨h, -⟩
  rotate_left 4
  · exact h
  all_goals (rw [e] at h; exact absurd h (by decide))
theorem VM.nul (h : VM K n0 hs R n σ a v) (e : a.1 = 5) : v = .null := by
  rcases h with h | ⟨h, -⟩ | ⟨h, -⟩ | ⟨h, -⟩ | ⟨h, -⟩ | ⟨-, h⟩ | ⟨h, -⟩ | ⟨h, -⟩ | ⟨h, -⟩ | ⟨h, -⟩ | ⟨h, -⟩
  rotate_left 5
  · exact h
  all_goals (rw [e] at h; exact absurd h (by decide))
theorem VM.cmp (h : VM K n0 hs R n σ a v) (e : a.1 = 6) : ∃ x : Int32, v = .int x ∧ a.2.1 < n ∧ a.2.2.1 < n ∧ (x < 0 ↔ σ a.2.1 < σ a.2.2.1) ∧ (x = 0 ↔ σ a.2.1 = σ a.2.2.1) := by
  rcases h with h | ⟨h, -⟩ | ⟨h, -⟩ | ⟨h, -⟩ | ⟨h, -⟩ | ⟨h, -⟩ | ⟨-, h⟩ | ⟨h, -⟩ | ⟨h, -⟩ | ⟨h, -⟩ | ⟨h, -⟩
  rotate_left 6
  · exact h
  all_goals (rw [e] at h; exact absurd h (by decide))
theorem VM.opq (h : VM K n0 hs R n σ a v) (e : a.1 = 7) : ∃ k : Nat, v = .ref k ∧ (a.2.1 = 1 → ∃ i : Nat, i < 21 ∧ k = litK i) := by
  rcases h with h | ⟨h, -⟩ | ⟨h, -⟩ | ⟨h, -⟩ | ⟨h, -⟩ | ⟨h, -⟩ | ⟨h, -⟩ | ⟨-, h⟩ | ⟨h, -⟩ | ⟨h, -⟩ | ⟨h, -⟩
  rotate_left 7
  · exact h
  all_goals (rw [e] at h; exact absurd h (by decide))
theorem VM.dbl (h : VM K n0 hs R n σ a v) (e : a.1 = 9) : ∃ x : UInt64, v = .double x ∧ DPr a.2.1 x := by
  rcases h with h | ⟨h, -⟩ | ⟨h, -⟩ | ⟨h, -⟩ | ⟨h, -⟩ | ⟨h, -⟩ | ⟨h, -⟩ | ⟨h, -⟩ | ⟨h, -⟩ | ⟨-, h⟩ | ⟨h, -⟩
  rotate_left 9
  · exact h
  all_goals (rw [e] at h; exact absurd h (by decide))
theorem VM.raw (h : VM K n0 hs R n σ a v) (e : a.1 = 11) : ∃ k : Nat, v = .ref k ∧ R[k]? = some 0 ∧ n0 ≤ k ∧ hs[k]? = some (a.2.2.1, a.2.2.2.toNat, fun j => dv (ftX a.2.2.1 j)) ∧ a.2.1 < n ∧ σ a.2.1 = (k : Int) := by
  rcases h with h | ⟨h, -⟩ | ⟨h, -⟩ | ⟨h, -⟩ | ⟨h, -⟩ | ⟨h, -⟩ | ⟨h, -⟩ | ⟨h, -⟩ | ⟨h, -⟩ | ⟨h, -⟩ | ⟨-, h⟩
  rotate_left 10
  · exact h
  all_goals (rw [e] at h; exact absurd h (by decide))
theorem VM.mkI {s b : Nat} {δ : Int} {x : Int32} (h1 : s < n) (h2 : x.toInt = σ s + δ) : VM K n0 hs R n σ (1, s, b, δ) (.int x) := Or.inr (Or.inl ⟨rfl, x, rfl, h1, h2⟩)
theorem VM.mkL {s b : Nat} {δ : Int} {x : Int64} (h1 : s < n) (h2 : x.toInt = σ s) : VM K n0 hs R n σ (2, s, b, δ) (.long x) := Or.inr (Or.inr (Or.inl ⟨rfl, x, rfl, h1, h2⟩))
theorem VM.mk3 {s b : Nat} {δ : Int} (h : ofG K R s v) : VM K n0 hs R n σ (3, s, b, δ) v := Or.inr (Or.inr (Or.inr (Or.inl ⟨rfl, h⟩)))
theorem VM.mk4 {s b : Nat} {δ : Int} (h : v = .null ∨ ofG K R s v) : VM K n0 hs R n σ (4, s, b, δ) v := Or.inr (Or.inr (Or.inr (Or.inr (Or.inl ⟨rfl, h⟩))))
theorem VM.mk5 {s b : Nat} {δ : Int} : VM K n0 hs R n σ (5, s, b, δ) .null := Or.inr (Or.inr (Or.inr (Or.inr (Or.inr (Or.inl ⟨rfl, rfl⟩)))))
theorem VM.mk7 {s b k : Nat} {δ : Int} (h : s = 1 → ∃ i : Nat, i < 21 ∧ k = litK i) : VM K n0 hs R n σ (7, s, b, δ) (.ref k) := Or.inr (Or.inr (Or.inr (Or.inr (Or.inr (Or.inr (Or.inr (Or.inl ⟨rfl, k, rfl, h⟩)))))))
theorem VM.mk9 {s b : Nat} {δ : Int} {x : UInt64} (h : DPr s x) : VM K n0 hs R n σ (9, s, b, δ) (.double x) := Or.inr (Or.inr (Or.inr (Or.inr (Or.inr (Or.inr (Or.inr (Or.inr (Or.inr (Or.inl ⟨rfl, x, rfl, h⟩)))))))))
/-- cells and roles go on -/
def SBx (R : List Nat) (hs : List CE) (R' : List Nat) (hs' : List CE) : Prop := (∀ k r : Nat, R[k]? = some r → R'[k]? = some r) ∧ ∀ k : Nat, R[k]? = some 0 → hs'[k]? = hs[k]?
theorem SBx.rf (R : List Nat) (hs : List CE) : SBx R hs R hs := ⟨fun _ _ h => h, fun _ _ => rfl⟩
theorem VM.mono {R' : List Nat} {hs' : List CE} {n' : Nat} {σ' : Nat → Int} (h : VM K n0 hs R n σ a v) (hn : n ≤ n') (hσ : ∀ s, s < n → σ' s = σ s) (hR : SBx R hs R' hs') : VM K n0 hs' R' n' σ' a v := by
  have hm : ∀ k r : Nat, R[k]? = some r → r ≠ 0 → R'[k]? = some r := fun k r h _ => hR.1 k r h
  rcases h with h | ⟨e, x, h1, h2, h3⟩ | ⟨e, x, h1, h2, h3⟩ | ⟨e, h⟩ | ⟨e, h | h⟩ | h | ⟨e, x, h1, h2, h3, h4, h5⟩ | h | h | h | ⟨e, k, h1, h2, h3, h4, h5, h6⟩
  · exact Or.inl h
  · exact Or.inr (Or.inl ⟨e, x, h1, Nat.lt_of_lt_of_le h2 hn, by rw [hσ _ h2]; exact h3⟩)
  · exact Or.inr (Or.inr (Or.inl ⟨e, x, h1, Nat.lt_of_lt_of_le h2 hn, by rw [hσ _ h2]; exact h3⟩))
  · exact Or.inr (Or.inr (Or.inr (Or.inl ⟨e, h.mono hm⟩)))
  · exact Or.inr (Or.inr (Or.inr (Or.inr (Or.inl ⟨e, Or.inl h⟩))))
  · exact Or.inr (Or.inr (Or.inr (Or.inr (Or.inl ⟨e, Or.inr (h.mono hm)⟩))))
  · exact Or.inr (Or.inr (Or.inr (Or.inr (Or.inr (Or.inl h)))))
  · exact Or.inr (Or.inr (Or.inr (Or.inr (Or.inr (Or.inr (Or.inl ⟨e, x, h1, Nat.lt_of_lt_of_le h2 hn, Nat.lt_of_lt_of_le h3 hn, by rw [hσ _ h2, hσ _ h3]; exact h4, by rw [hσ _ h2, hσ _ h3]; exact h5⟩))))))
  · exact Or.inr (Or.inr (Or.inr (Or.inr (Or.inr (Or.inr (Or.inr (Or.inl h)))))))
  · exact Or.inr (Or.inr (Or.inr (Or.inr (Or.inr (Or.inr (Or.inr (Or.inr (Or.inl h))))))))
  · exact Or.inr (Or.inr (Or.inr (Or.inr (Or.inr (Or.inr (Or.inr (Or.inr (Or.inr (Or.inl h)))))))))
  · exact Or.inr (Or.inr (Or.inr (Or.inr (Or.inr (Or.inr (Or.inr (Or.inr (Or.inr (Or.inr ⟨e, k, h1, hR.1 _ _ h2, h3, (hR.2 _ h2).trans h4, Nat.lt_of_lt_of_le h5 hn, by rw [hσ _ h5]; exact h6⟩)))))))))
/-- without raw cells: any roles that go on where they are not 0 -/
theorem VM.mono2 {R' : List Nat} {hs' : List CE} {n0' n' : Nat} {σ' : Nat → Int} (h : VM K n0 hs R n σ a v) (ha : a.1 ≠ 11) (hn : n ≤ n') (hσ : ∀ s, s < n → σ' s = σ s) (hm : ∀ k r : Nat, R[k]? = some r → r ≠ 0 → R'[k]? = some r) : VM K n0' hs' R' n' σ' a v := by
  rcases h with h | ⟨e, x, h1, h2, h3⟩ | ⟨e, x, h1, h2, h3⟩ | ⟨e, h⟩ | ⟨e, h | h⟩ | h | ⟨e, x, h1, h2, h3, h4, h5⟩ | h | h | h | ⟨e, _⟩
  · exact Or.inl h
  · exact Or.inr (Or.inl ⟨e, x, h1, Nat.lt_of_lt_of_le h2 hn, by rw [hσ _ h2]; exact h3⟩)
  · exact Or.inr (Or.inr (Or.inl ⟨e, x, h1, Nat.lt_of_lt_of_le h2 hn, by rw [hσ _ h2]; exact h3⟩))
  · exact Or.inr (Or.inr (Or.inr (Or.inl ⟨e, h.mono hm⟩)))
  · exact Or.inr (Or.inr (Or.inr (Or.inr (Or.inl ⟨e, Or.inl h⟩))))
  · exact Or.inr (Or.inr (Or.inr (Or.inr (Or.inl ⟨e, Or.inr (h.mono hm)⟩))))
  · exact Or.inr (Or.inr (Or.inr (Or.inr (Or.inr (Or.inl h)))))
  · exact Or.inr (Or.inr (Or.inr (Or.inr (Or.inr (Or.inr (Or.inl ⟨e, x, h1, Nat.lt_of_lt_of_le h2 hn, Nat.lt_of_lt_of_le h3 hn, by rw [hσ _ h2, hσ _ h3]; exact h4, by rw [hσ _ h2, hσ _ h3]; exact h5⟩))))))
  · exact Or.inr (Or.inr (Or.inr (Or.inr (Or.inr (Or.inr (Or.inr (Or.inl h)))))))
  · exact Or.inr (Or.inr (Or.inr (Or.inr (Or.inr (Or.inr (Or.inr (Or.inr (Or.inl h))))))))
  · exact Or.inr (Or.inr (Or.inr (Or.inr (Or.inr (Or.inr (Or.inr (Or.inr (Or.inr (Or.inl h)))))))))
  · exact absurd e ha
/-- one word or two -/
def catA (a : AV) : Nat := bif Nat.beq a.1 2 || Nat.beq a.1 9 then 2 else bif Nat.beq a.1 0 || Nat.beq a.1 10 || Nat.ble 12 a.1 then 9 else 1
theorem VM.cat (h : VM K n0 hs R n σ a v) (ha : a.1 ≠ 0) : v.category = catA a := by
  obtain ⟨t, a⟩ := a
  rcases h with h | ⟨e, x, rfl, h2, h3⟩ | ⟨e, x, rfl, h2, h3⟩ | ⟨e, k, r, rfl, -⟩ | ⟨e, rfl | ⟨k, r, rfl, -⟩⟩ | ⟨e, rfl⟩ | ⟨e, x, rfl, h2, h3, h4, h5⟩ | ⟨e, k, rfl, -⟩ | ⟨e, x, rfl⟩ | ⟨e, x, rfl, -⟩ | ⟨e, k, rfl, h2, h3, h4, h5, h6⟩
  · exact absurd h ha
  all_goals (have e : t = _ := e; subst e; rfl)
end VMS
def evg (E : List EV) (s : Nat) : EV := E.getD s (0, 0, false)
def EM (E : List EV) (σ : Nat → Int) : Prop := ∀ s, s < E.length → (evg E s).1 ≤ σ s ∧ σ s ≤ (evg E s).2.1 ∧ ((evg E s).2.2 = true → σ s ≠ 0)
def upS (σ : Nat → Int) (n : Nat) (x : Int) : Nat → Int := fun s => if s = n then x else σ s
theorem upS_same (σ : Nat → Int) (n : Nat) (x : Int) : upS σ n x n = x := if_pos rfl
theorem upS_lt (σ : Nat → Int) {n s : Nat} (x : Int) (h : s < n) : upS σ n x s = σ s := if_neg (by omega)
theorem evg_app_lt {E F : List EV} {s : Nat} (h : s < E.length) : evg (E ++ F) s = evg E s := by
  unfold evg
  rw [List.getD_eq_getElem?_getD, List.getD_eq_getElem?_getD, List.getElem?_append_left h]
theorem evg_app_same (E : List EV) (e : EV) : evg (E ++ [e]) E.length = e := by
  unfold evg
  rw [List.getD_eq_getElem?_getD, List.getElem?_append_right (Nat.le_refl _), Nat.sub_self]
  rfl
theorem evg_app_ge {E F : List EV} {s : Nat} (h : E.length ≤ s) : evg (E ++ F) s = evg F (s - E.length) := by
  unfold evg
  rw [List.getD_eq_getElem?_getD, List.getD_eq_getElem?_getD, List.getElem?_append_right h]
theorem EM.ext {E : List EV} {σ : Nat → Int} (h : EM E σ) {e : EV} {x : Int} (h1 : e.1 ≤ x) (h2 : x ≤ e.2.1) (h3 : e.2.2 = true → x ≠ 0) : EM (E ++ [e]) (upS σ E.length x) := fun s hs => by
  rw [List.length_append] at hs
  have hs : s < E.length + 1 := hs
  rcases Nat.lt_or_ge s E.length with q | q
  · rw [evg_app_lt q, upS_lt σ x q]
    exact h s q
  · have : s = E.length := by omega
    subst this
    rw [evg_app_same, upS_same]
    exact ⟨h1, h2, h3⟩
theorem evg_set_same {E : List EV} {s : Nat} {e : EV} (h : s < E.length) : evg (E.set s e) s = e := by
  unfold evg
  rw [List.getD_eq_getElem?_getD, List.getElem?_set_self h]
  rfl
theorem evg_set_ne {E : List EV} {s s' : Nat} {e : EV} (h : s ≠ s') : evg (E.set s e) s' = evg E s' := by
  unfold evg
  rw [List.getD_eq_getElem?_getD, List.getD_eq_getElem?_getD, List.getElem?_set_ne h]
theorem EM.set {E : List EV} {σ : Nat → Int} (h : EM E σ) {s : Nat} {e : EV} (h1 : e.1 ≤ σ s) (h2 : σ s ≤ e.2.1) (h3 : e.2.2 = true → σ s ≠ 0) : EM (E.set s e) σ := fun s' hs => by
  rw [List.length_set] at hs
  by_cases q : s = s'
  · subst q
    rw [evg_set_same hs]
    exact ⟨h1, h2, h3⟩
  · rw [evg_set_ne q]
    exact h s' hs
def SV (P : AV → Value → Prop) : List AV → List Value → Prop
  | [], S => S = []
  | a :: t, S => ∃ (v : Value) (S' : List Value), S = v :: S' ∧ P a v ∧ SV P t S'
theorem SV.mono {P Q : AV → Value → Prop} (hPQ : ∀ a v, P a v → Q a v) : ∀ {as : List AV} {S : List Value}, SV P as S → SV Q as S
  | [], _, h => h
  | _ :: _, _, h => by
    obtain ⟨v, S', rfl, h1, h2⟩ := h
    exact ⟨v, S', rfl, hPQ _ _ h1, SV.mono hPQ h2⟩
theorem SV.monoM {P Q : AV → Value → Prop} : ∀ {as : List AV} {S : List Value}, (∀ a ∈ as, ∀ v, P a v → Q a v) → SV P as S → SV Q as S
  | [], _, _, h => h
  | _ :: _, _, hPQ, h => by
    obtain ⟨v, S', rfl, h1, h2⟩ := h
    exact ⟨v, S', rfl, hPQ _ List.mem_cons_self _ h1, SV.monoM (fun a ha => hPQ a (List.mem_cons_of_mem _ ha)) h2⟩
theorem SV.len {P : AV → Value → Prop} : ∀ {as : List AV} {S : List Value}, SV P as S → S.length = as.length
  | [], _, h => by have h := show _ = [] from h; subst h; rfl
  | _ :: _, _, h => by
    obtain ⟨v, S', rfl, h1, h2⟩ := h
    rw [List.length_cons, List.length_cons, SV.len h2]
theorem SV.app {P : AV → Value → Prop} : ∀ {as bs : List AV} {S T : List Value}, SV P as S → SV P bs T → SV P (as ++ bs) (S ++ T)
  | [], _, _, _, h, h' => by rw [show _ = [] from h]; exact h'
  | _ :: _, _, _, _, h, h' => by
    obtain ⟨v, S', rfl, h1, h2⟩ := h
    exact ⟨v, _, rfl, h1, SV.app h2 h'⟩
theorem SV.split {P : AV → Value → Prop} : ∀ {as bs : List AV} {S : List Value}, SV P (as ++ bs) S → ∃ S1 S2, S = S1 ++ S2 ∧ SV P as S1 ∧ SV P bs S2
  | [], _, S, h => ⟨[], S, rfl, rfl, h⟩
  | _ :: _, _, _, h => by
    obtain ⟨v, S', rfl, h1, h2⟩ := h
    obtain ⟨S1, S2, rfl, h3, h4⟩ := SV.split h2
    exact ⟨v :: S1, S2, rfl, ⟨v, S1, rfl, h1, h3⟩, h4⟩
theorem SV.rev {P : AV → Value → Prop} : ∀ {as : List AV} {S : List Value}, SV P as S → SV P as.reverse S.reverse
  | [], _, h => by rw [show _ = [] from h]; exact rfl
  | _ :: _, _, h => by
    obtain ⟨v, S', rfl, h1, h2⟩ := h
    rw [List.reverse_cons, List.reverse_cons]
    exact SV.app (SV.rev h2) ⟨v, [], rfl, h1, rfl⟩
/-- the values' part of a state -/
def VX (K : KX) (n0 m0 nL : Nat) (σ0 : Nat → Int) (hs : List CE) (R : List Nat) (σ : Nat → Int) (A : ST) (L : LN) (S : List Value) : Prop :=
  (∀ s, s < m0 → σ s = σ0 s) ∧ m0 ≤ A.1.length ∧ EM A.1 σ ∧ L.length = nL ∧
  (∀ (i : Nat) (a : AV), A.2.1[i]? = some a → a.1 ≠ 0 → ∃ v : Value, L[i]? = some (some v) ∧ VM K n0 hs R A.1.length σ a v) ∧
  SV (VM K n0 hs R A.1.length σ) A.2.2.1 S ∧
  (∀ (i : Nat) (q : Nat × Nat × Nat) (a : AV), K.2.2[i]? = some q → A.2.2.2[i]? = some a → VM K n0 hs R A.1.length σ a (rd hs q.2.1 q.2.2))
section VXS
variable {K : KX} {n0 m0 nL : Nat} {σ0 σ : Nat → Int} {hs : List CE} {R : List Nat} {E : List EV} {Ls St Rg : List AV} {L : LN} {S : List Value} {a : AV} {v : Value}
theorem VX.ext (h : VX K n0 m0 nL σ0 hs R σ (E, Ls, St, Rg) L S) {e : EV} {x : Int} (h1 : e.1 ≤ x) (h2 : x ≤ e.2.1) (h3 : e.2.2 = true → x ≠ 0) : VX K n0 m0 nL σ0 hs R (upS σ E.length x) (E ++ [e], Ls, St, Rg) L S := by
  obtain ⟨q1, q2, q3, q4, q5, q6, q7⟩ := h
  have hn : E.length ≤ (E ++ [e]).length := by rw [List.length_append]; exact Nat.le_add_right _ _
  have hσ : ∀ s, s < E.length → upS σ E.length x s = σ s := fun s hs => upS_lt σ x hs
  refine ⟨fun s hs => (hσ s (Nat.lt_of_lt_of_le hs q2)).trans (q1 s hs), Nat.le_trans q2 hn, q3.ext h1 h2 h3, q4, fun i a hi ha => ?_, q6.mono (fun a v q => q.mono hn hσ (SBx.rf _ _)), fun i q a hi ha => (q7 i q a hi ha).mono hn hσ (SBx.rf _ _)⟩
  obtain ⟨v, w1, w2⟩ := q5 i a hi ha
  exact ⟨v, w1, w2.mono hn hσ (SBx.rf _ _)⟩
theorem VX.push (h : VX K n0 m0 nL σ0 hs R σ (E, Ls, St, Rg) L S) (hv : VM K n0 hs R E.length σ a v) : VX K n0 m0 nL σ0 hs R σ (E, Ls, a :: St, Rg) L (v :: S) := by
  obtain ⟨q1, q2, q3, q4, q5, q6, q7⟩ := h
  exact ⟨q1, q2, q3, q4, q5, ⟨v, S, rfl, hv, q6⟩, q7⟩
theorem VX.pop (h : VX K n0 m0 nL σ0 hs R σ (E, Ls, a :: St, Rg) L S) : ∃ (v : Value) (S' : List Value), S = v :: S' ∧ VM K n0 hs R E.length σ a v ∧ VX K n0 m0 nL σ0 hs R σ (E, Ls, St, Rg) L S' := by
  obtain ⟨q1, q2, q3, q4, q5, ⟨v, S', e, w1, w2⟩, q7⟩ := h
  exact ⟨v, S', e, w1, q1, q2, q3, q4, q5, w2, q7⟩
theorem VX.em (h : VX K n0 m0 nL σ0 hs R σ (E, Ls, St, Rg) L S) : EM E σ := h.2.2.1
theorem VX.env (h : VX K n0 m0 nL σ0 hs R σ (E, Ls, St, Rg) L S) {E' : List EV} (hE : EM E' σ) (hl : E'.length = E.length) : VX K n0 m0 nL σ0 hs R σ (E', Ls, St, Rg) L S := by
  obtain ⟨q1, q2, q3, q4, q5, q6, q7⟩ := h
  have q2 : m0 ≤ E.length := q2
  refine ⟨q1, by show m0 ≤ E'.length; omega, hE, q4, ?_, ?_, ?_⟩
  · show ∀ (i : Nat) (a : AV), Ls[i]? = some a → a.1 ≠ 0 → ∃ v : Value, L[i]? = some (some v) ∧ VM K n0 hs R E'.length σ a v
    rw [hl]; exact q5
  · show SV (VM K n0 hs R E'.length σ) St S
    rw [hl]; exact q6
  · show ∀ (i : Nat) (q : Nat × Nat × Nat) (a : AV), K.2.2[i]? = some q → Rg[i]? = some a → VM K n0 hs R E'.length σ a (rd hs q.2.1 q.2.2)
    rw [hl]; exact q7
theorem VX.load (h : VX K n0 m0 nL σ0 hs R σ (E, Ls, St, Rg) L S) {i : Nat} (hi : Ls[i]? = some a) (ha : a.1 ≠ 0) : ∃ v : Value, L[i]? = some (some v) ∧ VM K n0 hs R E.length σ a v := h.2.2.2.2.1 i a hi ha
/-- cells change: what registers hold is told anew -/
theorem VX.hp (h : VX K n0 m0 nL σ0 hs R σ (E, Ls, St, Rg) L S) {R' : List Nat} {hs' : List CE} {Rg' : List AV} (hR : SBx R hs R' hs') (hr : ∀ (i : Nat) (q : Nat × Nat × Nat) (a : AV), K.2.2[i]? = some q → Rg'[i]? = some a → VM K n0 hs' R' E.length σ a (rd hs' q.2.1 q.2.2)) : VX K n0 m0 nL σ0 hs' R' σ (E, Ls, St, Rg') L S := by
  obtain ⟨q1, q2, q3, q4, q5, q6, q7⟩ := h
  refine ⟨q1, q2, q3, q4, fun i a hi ha => ?_, q6.mono (fun a v q => q.mono (Nat.le_refl _) (fun _ _ => rfl) hR), hr⟩
  obtain ⟨v, w1, w2⟩ := q5 i a hi ha
  exact ⟨v, w1, w2.mono (Nat.le_refl _) (fun _ _ => rfl) hR⟩
/-- a local is stored -/
def cutA (Ls : List AV) (i : Nat) : List AV := match i with
  | 0 => Ls
  | b + 1 => bif Nat.beq (catA (Ls.getD b (0, 0, 0, 0))) 2 then Ls.set b (0, 0, 0, 0) else Ls
def stA (Ls : List AV) (i : Nat) (a : AV) : List AV := (cutA Ls i).set i a
def stA2 (Ls : List AV) (i : Nat) (a : AV) : List AV := ((cutA Ls i).set i a).set (i + 1) (0, 0, 0, 0)
theorem cutA_get {i j : Nat} (h : (cutA Ls i)[j]? = some a) (ha : a.1 ≠ 0) : Ls[j]? = some a ∧ (j + 1 = i → catA a ≠ 2) := by
  unfold cutA at h
  cases i with
  | zero => exact ⟨h, fun q => by omega⟩
  | succ b =>
    simp only at h
    cases hc : Nat.beq (catA (Ls.getD b (0, 0, 0, 0))) 2 with
    | true =>
      rw [hc] at h
      have h : (Ls.set b (0, 0, 0, 0))[j]? = some a := h
      by_cases q : b = j
      · subst q
        rw [List.getElem?_set] at h
        split at h
        · split at h
          · cases h; exact absurd rfl ha
          · cases h
        · contradiction
      · rw [List.getElem?_set_ne q] at h
        exact ⟨h, fun r => by omega⟩
    | false =>
      rw [hc] at h
      have h2 : Ls[j]? = some a := h
      refine ⟨h2, fun r => ?_⟩
      have : j = b := by omega
      subst this
      intro q
      rw [List.getD_eq_getElem?_getD, h2] at hc
      have hc : Nat.beq (catA a) 2 = false := hc
      rw [q] at hc
      cases hc
theorem cutN_len (L : LN) (a : Nat) : (cutN L a).length = L.length := by
  unfold cutN
  split
  · rfl
  · split
    · split
      · rw [List.length_set]
      · rfl
    · rfl
theorem cutN_keep {L : LN} {i j : Nat} (h : L[j]? = some (some v)) (hc : j + 1 = i → v.category ≠ 2) : (cutN L i)[j]? = some (some v) := by
  unfold cutN
  cases i with
  | zero => exact h
  | succ b =>
    simp only
    cases hb : L[b]? with
    | none => exact h
    | some o =>
      cases o with
      | none => exact h
      | some u =>
        simp only
        by_cases q : u.category = 2
        · rw [if_pos q]
          by_cases r : b = j
          · subst r
            rw [h] at hb
            cases hb
            exact absurd q (hc rfl)
          · rw [List.getElem?_set_ne r]; exact h
        · rw [if_neg q]; exact h
theorem VX.store (h : VX K n0 m0 nL σ0 hs R σ (E, Ls, St, Rg) L S) {i : Nat} (hv : VM K n0 hs R E.length σ a v) (ha : a.1 ≠ 0) (hi : i < nL) : VX K n0 m0 nL σ0 hs R σ (E, stA Ls i a, St, Rg) (st1 L i v) S := by
  obtain ⟨q1, q2, q3, q4, q5, q6, q7⟩ := h
  refine ⟨q1, q2, q3, by unfold st1; rw [List.length_set, cutN_len]; exact q4, fun j b hj hb => ?_, q6, q7⟩
  have hj : ((cutA Ls i).set i a)[j]? = some b := hj
  by_cases q : i = j
  · subst q
    rw [List.getElem?_set] at hj
    simp only [if_true] at hj
    split at hj
    · cases hj
      exact ⟨v, by unfold st1; rw [List.getElem?_set_self (by rw [cutN_len]; omega)], hv⟩
    · cases hj
  · rw [List.getElem?_set_ne q] at hj
    obtain ⟨w1, w2⟩ := cutA_get hj hb
    obtain ⟨u, w3, w4⟩ := q5 j b w1 hb
    refine ⟨u, ?_, w4⟩
    unfold st1
    rw [List.getElem?_set_ne q]
    exact cutN_keep w3 (fun r => by rw [w4.cat hb]; exact w2 r)
theorem VX.store2 (h : VX K n0 m0 nL σ0 hs R σ (E, Ls, St, Rg) L S) {i : Nat} (hv : VM K n0 hs R E.length σ a v) (ha : a.1 ≠ 0) (hi : i + 1 < nL) : VX K n0 m0 nL σ0 hs R σ (E, stA2 Ls i a, St, Rg) (stw2 L i v) S := by
  obtain ⟨q1, q2, q3, q4, q5, q6, q7⟩ := h
  refine ⟨q1, q2, q3, by unfold stw2; rw [List.length_set, List.length_set, cutN_len]; exact q4, fun j b hj hb => ?_, q6, q7⟩
  have hj : (((cutA Ls i).set i a).set (i + 1) (0, 0, 0, 0))[j]? = some b := hj
  by_cases q : i + 1 = j
  · subst q
    rw [List.getElem?_set] at hj
    simp only [if_true] at hj
    split at hj
    · cases hj
      exact absurd rfl hb
    · cases hj
  · rw [List.getElem?_set_ne q] at hj
    by_cases q' : i = j
    · subst q'
      rw [List.getElem?_set] at hj
      simp only [if_true] at hj
      split at hj
      · cases hj
        refine ⟨v, ?_, hv⟩
        unfold stw2
        rw [List.getElem?_set_ne (by omega), List.getElem?_set_self (by rw [cutN_len]; omega)]
      · cases hj
    · rw [List.getElem?_set_ne q'] at hj
      obtain ⟨w1, w2⟩ := cutA_get hj hb
      obtain ⟨u, w3, w4⟩ := q5 j b w1 hb
      refine ⟨u, ?_, w4⟩
      unfold stw2
      rw [List.getElem?_set_ne q, List.getElem?_set_ne q']
      exact cutN_keep w3 (fun r => by rw [w4.cat hb]; exact w2 r)
end VXS

/-! Trees of a small net: the determinant is positive just where every cut is crossed. -/
/-- the net's matrix without node 0; a node that isn't there has a 1 -/
def mK (n k01 k02 k03 k12 k13 k23 : Nat) (i j : Nat) : Int :=
  if i = 0 then (if j = 0 then ((k01 + k12 + k13 : Nat) : Int) + (if n ≤ 0 then 1 else 0) else if j = 1 then -(k12 : Int) else -(k13 : Int))
  else if i = 1 then (if j = 0 then -(k12 : Int) else if j = 1 then ((k02 + k12 + k23 : Nat) : Int) + (if n ≤ 1 then 1 else 0) else -(k23 : Int))
  else (if j = 0 then -(k13 : Int) else if j = 1 then -(k23 : Int) else ((k03 + k13 + k23 : Nat) : Int) + (if n ≤ 2 then 1 else 0))
def cof3 (M : Nat → Nat → Int) (i j : Nat) : Int := M ((i + 1) % 3) ((j + 1) % 3) * M ((i + 2) % 3) ((j + 2) % 3) - M ((i + 1) % 3) ((j + 2) % 3) * M ((i + 2) % 3) ((j + 1) % 3)
def det3 (M : Nat → Nat → Int) : Int := 0 + M 0 0 * cof3 M 0 0 + M 0 1 * cof3 M 0 1 + M 0 2 * cof3 M 0 2
def crsK (k01 k02 k03 k12 k13 k23 : Nat) (u1 u2 u3 : Bool) : Bool := (decide (0 < k01) && !u1) || ((decide (0 < k02) && !u2) || ((decide (0 < k03) && !u3) || ((decide (0 < k12) && (u1 != u2)) || ((decide (0 < k13) && (u1 != u3)) || (decide (0 < k23) && (u2 != u3))))))
def ntr (n : Nat) (u1 u2 u3 : Bool) : Bool := (decide (1 ≤ n) && !u1) || ((decide (2 ≤ n) && !u2) || (decide (3 ≤ n) && !u3))
def BB8 : List (Bool × Bool × Bool) := [(false, false, false), (false, false, true), (false, true, false), (false, true, true), (true, false, false), (true, false, true), (true, true, false), (true, true, true)]
def conK (n k01 k02 k03 k12 k13 k23 : Nat) : Bool := BB8.all fun u => !(ntr n u.1 u.2.1 u.2.2) || crsK k01 k02 k03 k12 k13 k23 u.1 u.2.1 u.2.2
def okN (n k02 k03 k12 k13 k23 : Nat) : Bool := decide (1 ≤ n) && ((decide (2 ≤ n) || (k02 == 0 && k12 == 0)) && (decide (3 ≤ n) || (k03 == 0 && (k13 == 0 && k23 == 0))))
def kirQ (n a b c d e f : Nat) : Bool := !(okN n b c d e f) || (decide (0 < det3 (mK n a b c d e f)) == conK n a b c d e f)
/-- all of them, with at most r lines left -/
def kirL (n : Nat) : Bool := (List.range 7).all fun a => (List.range (7 - a)).all fun b => (List.range (7 - a - b)).all fun c => (List.range (7 - a - b - c)).all fun d => (List.range (7 - a - b - c - d)).all fun e => (List.range (7 - a - b - c - d - e)).all fun f => kirQ n a b c d e f
theorem kir_1 : kirL 1 = true := by decide +kernel
theorem kir_2 : kirL 2 = true := by decide +kernel
theorem kir_3 : kirL 3 = true := by decide +kernel
theorem kirL_at {n : Nat} (h : kirL n = true) {a b c d e f : Nat} (hs : a + b + c + d + e + f ≤ 6) : kirQ n a b c d e f = true := by
  unfold kirL at h
  have h := List.all_eq_true.mp h a (List.mem_range.mpr (by omega))
  have h := List.all_eq_true.mp h b (List.mem_range.mpr (by omega))
  have h := List.all_eq_true.mp h c (List.mem_range.mpr (by omega))
  have h := List.all_eq_true.mp h d (List.mem_range.mpr (by omega))
  have h := List.all_eq_true.mp h e (List.mem_range.mpr (by omega))
  exact List.all_eq_true.mp h f (List.mem_range.mpr (by omega))
theorem kir {n a b c d e f : Nat} (h1 : 1 ≤ n) (h3 : n ≤ 3) (hs : a + b + c + d + e + f ≤ 6) (h2 : n < 2 → b = 0 ∧ d = 0) (h4 : n < 3 → c = 0 ∧ e = 0 ∧ f = 0) : 0 < det3 (mK n a b c d e f) ↔ conK n a b c d e f = true := by
  have hL : kirL n = true := by
    rcases (show n = 1 ∨ n = 2 ∨ n = 3 by omega) with rfl | rfl | rfl
    · exact kir_1
    · exact kir_2
    · exact kir_3
  have hq := kirL_at hL hs
  have hok : okN n b c d e f = true := by
    unfold okN
    simp only [Bool.and_eq_true, Bool.or_eq_true, decide_eq_true_eq, beq_iff_eq]
    omega
  unfold kirQ at hq
  rw [hok] at hq
  have hq : (decide (0 < det3 (mK n a b c d e f)) == conK n a b c d e f) = true := hq
  rw [← beq_iff_eq.mp hq]
  exact decide_eq_true_iff.symm
/-- how many of the first t lines, but z, lie between x and y -/
def kcn (fv : Nat → Int) (z x y : Int) : Nat → Nat
  | 0 => 0
  | t + 1 => kcn fv z x y t + (if (t : Int) ≠ z ∧ ((fv (5 + t) = x ∧ fv (11 + t) = y) ∨ (fv (5 + t) = y ∧ fv (11 + t) = x)) then 1 else 0)
theorem kcn_pos {fv : Nat → Int} {z x y : Int} : ∀ {t : Nat}, 0 < kcn fv z x y t ↔ ∃ l, l < t ∧ (l : Int) ≠ z ∧ ((fv (5 + l) = x ∧ fv (11 + l) = y) ∨ (fv (5 + l) = y ∧ fv (11 + l) = x))
  | 0 => ⟨fun h => absurd h (Nat.lt_irrefl 0), fun ⟨l, h, _⟩ => absurd h (Nat.not_lt_zero l)⟩
  | t + 1 => by
    have ih := kcn_pos (fv := fv) (z := z) (x := x) (y := y) (t := t)
    constructor
    · intro h
      by_cases q : (t : Int) ≠ z ∧ ((fv (5 + t) = x ∧ fv (11 + t) = y) ∨ (fv (5 + t) = y ∧ fv (11 + t) = x))
      · exact ⟨t, Nat.lt_succ_self t, q.1, q.2⟩
      · have h : 0 < kcn fv z x y t + (if _ then 1 else 0) := h
        rw [if_neg q] at h
        obtain ⟨l, l1, l2⟩ := ih.mp h
        exact ⟨l, Nat.lt_succ_of_lt l1, l2⟩
    · rintro ⟨l, l1, l2, l3⟩
      show 0 < kcn fv z x y t + (if _ then 1 else 0)
      by_cases q : l = t
      · subst q
        rw [if_pos ⟨l2, l3⟩]
        omega
      · have := ih.mpr ⟨l, by omega, l2, l3⟩
        omega
theorem kcn_sum {fv : Nat → Int} {z : Int} : ∀ t : Nat, kcn fv z 0 1 t + kcn fv z 0 2 t + kcn fv z 0 3 t + kcn fv z 1 2 t + kcn fv z 1 3 t + kcn fv z 2 3 t ≤ t
  | 0 => Nat.le_refl 0
  | t + 1 => by
    have ih := kcn_sum (fv := fv) (z := z) t
    have st : ∀ x y : Int, kcn fv z x y (t + 1) = kcn fv z x y t + (if (t : Int) ≠ z ∧ ((fv (5 + t) = x ∧ fv (11 + t) = y) ∨ (fv (5 + t) = y ∧ fv (11 + t) = x)) then 1 else 0) := fun _ _ => rfl
    rw [st 0 1, st 0 2, st 0 3, st 1 2, st 1 3, st 2 3]
    have one : ∀ x y : Int, (if (t : Int) ≠ z ∧ ((fv (5 + t) = x ∧ fv (11 + t) = y) ∨ (fv (5 + t) = y ∧ fv (11 + t) = x)) then 1 else 0) = (0 : Nat) ∨ ((if (t : Int) ≠ z ∧ ((fv (5 + t) = x ∧ fv (11 + t) = y) ∨ (fv (5 + t) = y ∧ fv (11 + t) = x)) then 1 else 0) = (1 : Nat) ∧ ((fv (5 + t) = x ∧ fv (11 + t) = y) ∨ (fv (5 + t) = y ∧ fv (11 + t) = x))) := fun x y => by
      split
      · rename_i q; exact Or.inr ⟨rfl, q.2⟩
      · exact Or.inl rfl
    have a := one 0 1
    have b := one 0 2
    have c := one 0 3
    have d := one 1 2
    have e := one 1 3
    have f := one 2 3
    generalize ((if (t : Int) ≠ z ∧ ((fv (5 + t) = 0 ∧ fv (11 + t) = 1) ∨ (fv (5 + t) = 1 ∧ fv (11 + t) = 0)) then 1 else 0 : Nat)) = a9 at *
    generalize ((if (t : Int) ≠ z ∧ ((fv (5 + t) = 0 ∧ fv (11 + t) = 2) ∨ (fv (5 + t) = 2 ∧ fv (11 + t) = 0)) then 1 else 0 : Nat)) = b9 at *
    generalize ((if (t : Int) ≠ z ∧ ((fv (5 + t) = 0 ∧ fv (11 + t) = 3) ∨ (fv (5 + t) = 3 ∧ fv (11 + t) = 0)) then 1 else 0 : Nat)) = c9 at *
    generalize ((if (t : Int) ≠ z ∧ ((fv (5 + t) = 1 ∧ fv (11 + t) = 2) ∨ (fv (5 + t) = 2 ∧ fv (11 + t) = 1)) then 1 else 0 : Nat)) = d9 at *
    generalize ((if (t : Int) ≠ z ∧ ((fv (5 + t) = 1 ∧ fv (11 + t) = 3) ∨ (fv (5 + t) = 3 ∧ fv (11 + t) = 1)) then 1 else 0 : Nat)) = e9 at *
    generalize ((if (t : Int) ≠ z ∧ ((fv (5 + t) = 2 ∧ fv (11 + t) = 3) ∨ (fv (5 + t) = 3 ∧ fv (11 + t) = 2)) then 1 else 0 : Nat)) = f9 at *
    rcases a with a | ⟨a, a'⟩ <;> rcases b with b | ⟨b, b'⟩ <;> rcases c with c | ⟨c, c'⟩ <;> rcases d with d | ⟨d, d'⟩ <;> rcases e with e | ⟨e, e'⟩ <;> rcases f with f | ⟨f, f'⟩ <;> omega
/-- the six counts say whether every cut is crossed -/
theorem cut_con {fv : Nat → Int} {z : Int} {nl n : Nat} (hn : n ≤ 3) (hr : ∀ l, l < nl → 0 ≤ fv (5 + l) ∧ fv (5 + l) ≤ (n : Int) ∧ 0 ≤ fv (11 + l) ∧ fv (11 + l) ≤ (n : Int)) : CutOK fv nl z n ↔ conK n (kcn fv z 0 1 nl) (kcn fv z 0 2 nl) (kcn fv z 0 3 nl) (kcn fv z 1 2 nl) (kcn fv z 1 3 nl) (kcn fv z 2 3 nl) = true := by
  have hc : ∀ u1 u2 u3 : Bool, crsK (kcn fv z 0 1 nl) (kcn fv z 0 2 nl) (kcn fv z 0 3 nl) (kcn fv z 1 2 nl) (kcn fv z 1 3 nl) (kcn fv z 2 3 nl) u1 u2 u3 = true ↔ ∃ l, l < nl ∧ (l : Int) ≠ z ∧ (fun x : Nat => if x = 0 then true else if x = 1 then u1 else if x = 2 then u2 else u3) (fv (5 + l)).toNat ≠ (fun x : Nat => if x = 0 then true else if x = 1 then u1 else if x = 2 then u2 else u3) (fv (11 + l)).toNat := by
    intro u1 u2 u3
    unfold crsK
    simp only [Bool.or_eq_true, Bool.and_eq_true, decide_eq_true_eq, kcn_pos]
    constructor
    · rintro (⟨⟨l, l1, l2, l3⟩, q⟩ | ⟨⟨l, l1, l2, l3⟩, q⟩ | ⟨⟨l, l1, l2, l3⟩, q⟩ | ⟨⟨l, l1, l2, l3⟩, q⟩ | ⟨⟨l, l1, l2, l3⟩, q⟩ | ⟨⟨l, l1, l2, l3⟩, q⟩) <;> refine ⟨l, l1, l2, ?_⟩ <;> rcases l3 with ⟨e1, e2⟩ | ⟨e1, e2⟩ <;> rw [e1, e2] <;> revert q <;> cases u1 <;> cases u2 <;> cases u3 <;> decide
    · rintro ⟨l, l1, l2, l3⟩
      obtain ⟨r1, r2, r3, r4⟩ := hr l l1
      have f1 : fv (5 + l) = 0 ∨ fv (5 + l) = 1 ∨ fv (5 + l) = 2 ∨ fv (5 + l) = 3 := by omega
      have f2 : fv (11 + l) = 0 ∨ fv (11 + l) = 1 ∨ fv (11 + l) = 2 ∨ fv (11 + l) = 3 := by omega
      rcases f1 with f1 | f1 | f1 | f1 <;> rcases f2 with f2 | f2 | f2 | f2 <;> rw [f1, f2] at l3
      · exact absurd rfl l3
      · exact Or.inl ⟨⟨l, l1, l2, Or.inl ⟨f1, f2⟩⟩, by cases u1 <;> first | rfl | exact absurd rfl l3⟩
      · exact Or.inr (Or.inl ⟨⟨l, l1, l2, Or.inl ⟨f1, f2⟩⟩, by cases u2 <;> first | rfl | exact absurd rfl l3⟩)
      · exact Or.inr (Or.inr (Or.inl ⟨⟨l, l1, l2, Or.inl ⟨f1, f2⟩⟩, by cases u3 <;> first | rfl | exact absurd rfl l3⟩))
      · exact Or.inl ⟨⟨l, l1, l2, Or.inr ⟨f1, f2⟩⟩, by cases u1 <;> first | rfl | exact absurd rfl l3⟩
      · exact absurd rfl l3
      · exact Or.inr (Or.inr (Or.inr (Or.inl ⟨⟨l, l1, l2, Or.inl ⟨f1, f2⟩⟩, by cases u1 <;> cases u2 <;> first | rfl | exact absurd rfl l3⟩)))
      · exact Or.inr (Or.inr (Or.inr (Or.inr (Or.inl ⟨⟨l, l1, l2, Or.inl ⟨f1, f2⟩⟩, by cases u1 <;> cases u3 <;> first | rfl | exact absurd rfl l3⟩))))
      · exact Or.inr (Or.inl ⟨⟨l, l1, l2, Or.inr ⟨f1, f2⟩⟩, by cases u2 <;> first | rfl | exact absurd rfl l3⟩)
      · exact Or.inr (Or.inr (Or.inr (Or.inl ⟨⟨l, l1, l2, Or.inr ⟨f1, f2⟩⟩, by cases u1 <;> cases u2 <;> first | rfl | exact absurd rfl l3⟩)))
      · exact absurd rfl l3
      · exact Or.inr (Or.inr (Or.inr (Or.inr (Or.inr ⟨⟨l, l1, l2, Or.inl ⟨f1, f2⟩⟩, by cases u2 <;> cases u3 <;> first | rfl | exact absurd rfl l3⟩))))
      · exact Or.inr (Or.inr (Or.inl ⟨⟨l, l1, l2, Or.inr ⟨f1, f2⟩⟩, by cases u3 <;> first | rfl | exact absurd rfl l3⟩))
      · exact Or.inr (Or.inr (Or.inr (Or.inr (Or.inl ⟨⟨l, l1, l2, Or.inr ⟨f1, f2⟩⟩, by cases u1 <;> cases u3 <;> first | rfl | exact absurd rfl l3⟩))))
      · exact Or.inr (Or.inr (Or.inr (Or.inr (Or.inr ⟨⟨l, l1, l2, Or.inr ⟨f1, f2⟩⟩, by cases u2 <;> cases u3 <;> first | rfl | exact absurd rfl l3⟩))))
      · exact absurd rfl l3
  have hall : conK n (kcn fv z 0 1 nl) (kcn fv z 0 2 nl) (kcn fv z 0 3 nl) (kcn fv z 1 2 nl) (kcn fv z 1 3 nl) (kcn fv z 2 3 nl) = true ↔ ∀ u1 u2 u3 : Bool, ntr n u1 u2 u3 = true → crsK (kcn fv z 0 1 nl) (kcn fv z 0 2 nl) (kcn fv z 0 3 nl) (kcn fv z 1 2 nl) (kcn fv z 1 3 nl) (kcn fv z 2 3 nl) u1 u2 u3 = true := by
    unfold conK
    rw [List.all_eq_true]
    constructor
    · intro h u1 u2 u3 q
      have := h (u1, u2, u3) (by cases u1 <;> cases u2 <;> cases u3 <;> decide)
      have this : (!(ntr n u1 u2 u3) || crsK _ _ _ _ _ _ u1 u2 u3) = true := this
      rw [q] at this
      exact this
    · rintro h ⟨u1, u2, u3⟩ -
      show (!(ntr n u1 u2 u3) || crsK _ _ _ _ _ _ u1 u2 u3) = true
      cases q : ntr n u1 u2 u3 with
      | false => rfl
      | true => exact h u1 u2 u3 q
  rw [hall]
  constructor
  · intro h u1 u2 u3 q
    refine (hc u1 u2 u3).mpr (h (fun x : Nat => if x = 0 then true else if x = 1 then u1 else if x = 2 then u2 else u3) rfl ?_)
    unfold ntr at q
    simp only [Bool.or_eq_true, Bool.and_eq_true, decide_eq_true_eq, Bool.not_eq_true'] at q
    rcases q with ⟨q1, q2⟩ | ⟨q1, q2⟩ | ⟨q1, q2⟩
    · exact ⟨1, q1, q2⟩
    · exact ⟨2, q1, q2⟩
    · exact ⟨3, q1, q2⟩
  · intro h U hU hx
    obtain ⟨x, x1, x2⟩ := hx
    have hx0 : x ≠ 0 := fun q => by
      rw [q, hU] at x2
      cases x2
    have q : ntr n (U 1) (U 2) (U 3) = true := by
      unfold ntr
      simp only [Bool.or_eq_true, Bool.and_eq_true, decide_eq_true_eq, Bool.not_eq_true']
      rcases (show x = 1 ∨ x = 2 ∨ x = 3 by omega) with rfl | rfl | rfl
      · exact Or.inl ⟨x1, x2⟩
      · exact Or.inr (Or.inl ⟨x1, x2⟩)
      · exact Or.inr (Or.inr ⟨x1, x2⟩)
    obtain ⟨l, l1, l2, l3⟩ := (hc _ _ _).mp (h _ _ _ q)
    refine ⟨l, l1, l2, ?_⟩
    obtain ⟨r1, r2, r3, r4⟩ := hr l l1
    have e : ∀ v : Int, 0 ≤ v → v ≤ 3 → (fun x : Nat => if x = 0 then true else if x = 1 then U 1 else if x = 2 then U 2 else U 3) v.toNat = U v.toNat := fun v v0 v3 => by
      rcases (show v.toNat = 0 ∨ v.toNat = 1 ∨ v.toNat = 2 ∨ v.toNat = 3 by omega) with w | w | w | w <;> rw [w]
      · exact hU.symm
      · rfl
      · rfl
      · rfl
    rw [e _ r1 (by omega), e _ r3 (by omega)] at l3
    exact l3

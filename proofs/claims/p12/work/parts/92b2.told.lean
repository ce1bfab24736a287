/-! Nets as they are told. -/
def NetL4 (tl : Nat → Int) (nl n : Nat) : Prop := ∀ l, l < nl → 0 ≤ tl (5 + l) ∧ tl (5 + l) ≤ (n : Int) ∧ 0 ≤ tl (11 + l) ∧ tl (11 + l) ≤ (n : Int) ∧ tl (5 + l) ≠ tl (11 + l)
/-- every cut of the nodes is crossed by a line (but one) -/
def CutOK (tl : Nat → Int) (nl : Nat) (but : Int) (n : Nat) : Prop := ∀ U : Nat → Bool, U 0 = true → (∃ x, x ≤ n ∧ U x = false) → ∃ l, l < nl ∧ (l : Int) ≠ but ∧ U (tl (5 + l)).toNat ≠ U (tl (11 + l)).toNat
section NET
variable {tl : Nat → Int} {nl n : Nat} {but : Int}
theorem cnt_succ (tl : Nat → Int) (but x y : Int) (k : Nat) : cnt tl but x y (k + 1) = cnt tl but x y k + if (k : Int) ≠ but ∧ ((tl (5 + k) = x ∧ tl (11 + k) = y) ∨ (tl (5 + k) = y ∧ tl (11 + k) = x)) then 1 else 0 := rfl
theorem cnt_sum (hN : NetL4 tl nl n) (hn3 : n ≤ 3) : ∀ k, k ≤ nl → cnt tl but 0 1 k + cnt tl but 0 2 k + cnt tl but 0 3 k + cnt tl but 1 2 k + cnt tl but 1 3 k + cnt tl but 2 3 k ≤ k
  | 0, _ => Nat.le_refl _
  | k + 1, hk => by
    have ih := cnt_sum hN hn3 k (by omega)
    obtain ⟨h1, h2, h3, h4, h5⟩ := hN k (by omega)
    simp only [cnt_succ]
    generalize tl (5 + k) = p at *
    generalize tl (11 + k) = q at *
    by_cases hb : (k : Int) = but
    · simp only [hb, ne_eq, not_true_eq_false, false_and, if_false]
      omega
    · have hp : p = 0 ∨ p = 1 ∨ p = 2 ∨ p = 3 := by omega
      have hq : q = 0 ∨ q = 1 ∨ q = 2 ∨ q = 3 := by omega
      rcases hp with rfl | rfl | rfl | rfl <;> rcases hq with rfl | rfl | rfl | rfl <;> simp [hb] <;> omega
theorem cnt0 (hN : NetL4 tl nl n) {x y : Int} (hy : (n : Int) < y) : ∀ k, k ≤ nl → cnt tl but x y k = 0
  | 0, _ => rfl
  | k + 1, hk => by
    have ih := cnt0 hN (x := x) hy k (by omega)
    obtain ⟨h1, h2, h3, h4, h5⟩ := hN k (by omega)
    rw [cnt_succ, ih, if_neg (by omega)]
theorem cnt_pos {x y : Int} {l : Nat} (hb : (l : Int) ≠ but) (h : (tl (5 + l) = x ∧ tl (11 + l) = y) ∨ (tl (5 + l) = y ∧ tl (11 + l) = x)) : ∀ k, l < k → 0 < cnt tl but x y k
  | 0, hk => absurd hk (by omega)
  | k + 1, hk => by
    rw [cnt_succ]
    by_cases q : l = k
    · subst q
      rw [if_pos ⟨hb, h⟩]
      omega
    · have := cnt_pos hb h k (by omega)
      omega
theorem cnt_out {x y : Int} {o : Nat} : ∀ k, cnt tl (-1) x y k = cnt tl (o : Int) x y k + if o < k ∧ ((tl (5 + o) = x ∧ tl (11 + o) = y) ∨ (tl (5 + o) = y ∧ tl (11 + o) = x)) then 1 else 0
  | 0 => by rw [if_neg (by omega)]; rfl
  | k + 1 => by
    rw [cnt_succ, cnt_succ, cnt_out (x := x) (y := y) (o := o) k]
    have e1 : (k : Int) ≠ -1 := by omega
    by_cases q : o = k
    · subst q
      simp only [e1, ne_eq, not_false_eq_true, true_and, not_true_eq_false, false_and, if_false, Nat.lt_irrefl, Nat.lt_succ_self]
      try omega
    · have e2 : (k : Int) ≠ (o : Int) := by omega
      have e3 : (o < k + 1) ↔ o < k := by omega
      simp only [e1, e2, e3, ne_eq, not_false_eq_true, true_and]
      omega
theorem crs6 (hN : NetL4 tl nl n) (hn3 : n ≤ 3) (hC : CutOK tl nl but n) (U : Nat → Bool) (h0 : U 0 = true) (hx : ∃ x, x ≤ n ∧ U x = false) : (0 < cnt tl but 0 1 nl ∧ U 0 ≠ U 1) ∨ (0 < cnt tl but 0 2 nl ∧ U 0 ≠ U 2) ∨ (0 < cnt tl but 0 3 nl ∧ U 0 ≠ U 3) ∨ (0 < cnt tl but 1 2 nl ∧ U 1 ≠ U 2) ∨ (0 < cnt tl but 1 3 nl ∧ U 1 ≠ U 3) ∨ (0 < cnt tl but 2 3 nl ∧ U 2 ≠ U 3) := by
  obtain ⟨l, hl, hb, hU⟩ := hC U h0 hx
  obtain ⟨h1, h2, h3, h4, h5⟩ := hN l hl
  have hp : tl (5 + l) = 0 ∨ tl (5 + l) = 1 ∨ tl (5 + l) = 2 ∨ tl (5 + l) = 3 := by omega
  have hq : tl (11 + l) = 0 ∨ tl (11 + l) = 1 ∨ tl (11 + l) = 2 ∨ tl (11 + l) = 3 := by omega
  rcases hp with hp | hp | hp | hp <;> rcases hq with hq | hq | hq | hq <;> rw [hp, hq] at hU
  · exact absurd rfl hU
  · exact Or.inl (⟨cnt_pos hb (Or.inl ⟨hp, hq⟩) nl hl, hU⟩)
  · exact Or.inr (Or.inl (⟨cnt_pos hb (Or.inl ⟨hp, hq⟩) nl hl, hU⟩))
  · exact Or.inr (Or.inr (Or.inl (⟨cnt_pos hb (Or.inl ⟨hp, hq⟩) nl hl, hU⟩)))
  · exact Or.inl (⟨cnt_pos hb (Or.inr ⟨hp, hq⟩) nl hl, fun z => hU z.symm⟩)
  · exact absurd rfl hU
  · exact Or.inr (Or.inr (Or.inr (Or.inl (⟨cnt_pos hb (Or.inl ⟨hp, hq⟩) nl hl, hU⟩))))
  · exact Or.inr (Or.inr (Or.inr (Or.inr (Or.inl (⟨cnt_pos hb (Or.inl ⟨hp, hq⟩) nl hl, hU⟩)))))
  · exact Or.inr (Or.inl (⟨cnt_pos hb (Or.inr ⟨hp, hq⟩) nl hl, fun z => hU z.symm⟩))
  · exact Or.inr (Or.inr (Or.inr (Or.inl (⟨cnt_pos hb (Or.inr ⟨hp, hq⟩) nl hl, fun z => hU z.symm⟩))))
  · exact absurd rfl hU
  · exact Or.inr (Or.inr (Or.inr (Or.inr (Or.inr (⟨cnt_pos hb (Or.inl ⟨hp, hq⟩) nl hl, hU⟩)))))
  · exact Or.inr (Or.inr (Or.inl (⟨cnt_pos hb (Or.inr ⟨hp, hq⟩) nl hl, fun z => hU z.symm⟩)))
  · exact Or.inr (Or.inr (Or.inr (Or.inr (Or.inl (⟨cnt_pos hb (Or.inr ⟨hp, hq⟩) nl hl, fun z => hU z.symm⟩)))))
  · exact Or.inr (Or.inr (Or.inr (Or.inr (Or.inr (⟨cnt_pos hb (Or.inr ⟨hp, hq⟩) nl hl, fun z => hU z.symm⟩)))))
  · exact absurd rfl hU
theorem cuts_t (hN : NetL4 tl nl n) (hn1 : 1 ≤ n) (hn3 : n ≤ 3) (hC : CutOK tl nl but n) : cuts n (cnt tl but 0 1 nl) (cnt tl but 0 2 nl) (cnt tl but 0 3 nl) (cnt tl but 1 2 nl) (cnt tl but 1 3 nl) (cnt tl but 2 3 nl) = true := by
  have hz : n = 1 ∨ n = 2 ∨ n = 3 := by omega
  rcases hz with rfl | rfl | rfl
  · have z02 := cnt0 (but := but) hN (x := 0) (y := 2) (by decide) nl (Nat.le_refl _)
    have z03 := cnt0 (but := but) hN (x := 0) (y := 3) (by decide) nl (Nat.le_refl _)
    have z12 := cnt0 (but := but) hN (x := 1) (y := 2) (by decide) nl (Nat.le_refl _)
    have z13 := cnt0 (but := but) hN (x := 1) (y := 3) (by decide) nl (Nat.le_refl _)
    have z23 := cnt0 (but := but) hN (x := 2) (y := 3) (by decide) nl (Nat.le_refl _)
    show (_) = true
    rcases crs6 hN (by omega) hC (fun x => Nat.beq x 0) rfl ⟨1, by omega, rfl⟩ with h | h | h | h | h | h <;> first | exact absurd rfl h.2 | (have := h.1; exact Nat.ble_eq_true_of_le (by omega))
  · have z03 := cnt0 (but := but) hN (x := 0) (y := 3) (by decide) nl (Nat.le_refl _)
    have z13 := cnt0 (but := but) hN (x := 1) (y := 3) (by decide) nl (Nat.le_refl _)
    have z23 := cnt0 (but := but) hN (x := 2) (y := 3) (by decide) nl (Nat.le_refl _)
    show (_ && _) = true
    simp only [Bool.and_eq_true]
    refine ⟨?_, ?_, ?_⟩
    · rcases crs6 hN (by omega) hC (fun x => Nat.beq x 0) rfl ⟨1, by omega, rfl⟩ with h | h | h | h | h | h <;> first | exact absurd rfl h.2 | (have := h.1; exact Nat.ble_eq_true_of_le (by omega))
    · rcases crs6 hN (by omega) hC (fun x => Nat.beq x 0 || Nat.beq x 1) rfl ⟨2, by omega, rfl⟩ with h | h | h | h | h | h <;> first | exact absurd rfl h.2 | (have := h.1; exact Nat.ble_eq_true_of_le (by omega))
    · rcases crs6 hN (by omega) hC (fun x => Nat.beq x 0 || Nat.beq x 2) rfl ⟨1, by omega, rfl⟩ with h | h | h | h | h | h <;> first | exact absurd rfl h.2 | (have := h.1; exact Nat.ble_eq_true_of_le (by omega))
  · show (_ && _) = true
    simp only [Bool.and_eq_true]
    refine ⟨?_, ?_, ?_, ?_, ?_, ?_, ?_⟩
    · rcases crs6 hN (by omega) hC (fun x => Nat.beq x 0) rfl ⟨1, by omega, rfl⟩ with h | h | h | h | h | h <;> first | exact absurd rfl h.2 | (have := h.1; exact Nat.ble_eq_true_of_le (by omega))
    · rcases crs6 hN (by omega) hC (fun x => Nat.beq x 0 || Nat.beq x 1) rfl ⟨2, by omega, rfl⟩ with h | h | h | h | h | h <;> first | exact absurd rfl h.2 | (have := h.1; exact Nat.ble_eq_true_of_le (by omega))
    · rcases crs6 hN (by omega) hC (fun x => Nat.beq x 0 || Nat.beq x 2) rfl ⟨1, by omega, rfl⟩ with h | h | h | h | h | h <;> first | exact absurd rfl h.2 | (have := h.1; exact Nat.ble_eq_true_of_le (by omega))
    · rcases crs6 hN (by omega) hC (fun x => Nat.beq x 0 || Nat.beq x 3) rfl ⟨1, by omega, rfl⟩ with h | h | h | h | h | h <;> first | exact absurd rfl h.2 | (have := h.1; exact Nat.ble_eq_true_of_le (by omega))
    · rcases crs6 hN (by omega) hC (fun x => Nat.beq x 0 || Nat.beq x 1 || Nat.beq x 2) rfl ⟨3, by omega, rfl⟩ with h | h | h | h | h | h <;> first | exact absurd rfl h.2 | (have := h.1; exact Nat.ble_eq_true_of_le (by omega))
    · rcases crs6 hN (by omega) hC (fun x => Nat.beq x 0 || Nat.beq x 1 || Nat.beq x 3) rfl ⟨2, by omega, rfl⟩ with h | h | h | h | h | h <;> first | exact absurd rfl h.2 | (have := h.1; exact Nat.ble_eq_true_of_le (by omega))
    · rcases crs6 hN (by omega) hC (fun x => Nat.beq x 0 || Nat.beq x 2 || Nat.beq x 3) rfl ⟨1, by omega, rfl⟩ with h | h | h | h | h | h <;> first | exact absurd rfl h.2 | (have := h.1; exact Nat.ble_eq_true_of_le (by omega))
def lA (tl : Nat → Int) (nl n : Nat) (but : Int) : List Int := angL n (cnt tl but 0 1 nl) (cnt tl but 0 2 nl) (cnt tl but 0 3 nl) (cnt tl but 1 2 nl) (cnt tl but 1 3 nl) (cnt tl but 2 3 nl)
def rA (tl : Nat → Int) (nl n : Nat) (but : Int) : List I3 := rwsI (cnt tl but 0 1 nl) (cnt tl but 0 2 nl) (cnt tl but 0 3 nl) (cnt tl but 1 2 nl) (cnt tl but 1 3 nl) (cnt tl but 2 3 nl) (lA tl nl n but)
theorem ok_t (hN : NetL4 tl nl n) (hn1 : 1 ≤ n) (hn3 : n ≤ 3) (h6 : nl ≤ 6) : okNet n (cnt tl but 0 1 nl) (cnt tl but 0 2 nl) (cnt tl but 0 3 nl) (cnt tl but 1 2 nl) (cnt tl but 1 3 nl) (cnt tl but 2 3 nl) = true := by
  have hs := cnt_sum (but := but) hN hn3 nl (Nat.le_refl _)
  refine okNet_all hn1 hn3 (by omega) (fun q => ⟨cnt0 hN (by omega) nl (Nat.le_refl _), cnt0 hN (by omega) nl (Nat.le_refl _), cnt0 hN (by omega) nl (Nat.le_refl _)⟩) (fun q => ⟨cnt0 hN (by omega) nl (Nat.le_refl _), cnt0 hN (by omega) nl (Nat.le_refl _)⟩)
theorem eq_rep {nd : Nat} : ∀ j, j < 12 → Rep ((eqL (cnt tl but 0 1 nl) (cnt tl but 0 2 nl) (cnt tl but 0 3 nl) (cnt tl but 1 2 nl) (cnt tl but 1 3 nl) (cnt tl but 2 3 nl) nd).getD j qz) (eqs0 tl but nl nd j) := fun j hj => by
  have one : ∀ x : Int, Rep (x, 1) ((x : Int) : Rat) := fun x => ⟨Nat.one_pos, by show ((1 : Nat) : Rat) * _ = _; rw [show ((1 : Nat) : Rat) = 1 from rfl, Rat.one_mul]⟩
  unfold eqL
  rw [getD_map _ _ hj]
  unfold eqs0 upI
  cases hb : Nat.beq j (4 * nd + 3) with
  | true => rw [if_pos (Nat.eq_of_beq_eq_true hb)]; exact one 1
  | false =>
    rw [if_neg (Nat.ne_of_beq_eq_false hb)]
    have e : (lapL (cnt tl but 0 1 nl) (cnt tl but 0 2 nl) (cnt tl but 0 3 nl) (cnt tl but 1 2 nl) (cnt tl but 1 3 nl) (cnt tl but 2 3 nl)).getD j 0 = lapc tl but nl j := by
      match j, hj with
      | 0, _ => rfl
      | 1, _ => rfl
      | 2, _ => rfl
      | 3, _ => rfl
      | 4, _ => rfl
      | 5, _ => rfl
      | 6, _ => rfl
      | 7, _ => rfl
      | 8, _ => rfl
      | 9, _ => rfl
      | 10, _ => rfl
      | 11, _ => rfl
    show Rep ((lapL (cnt tl but 0 1 nl) (cnt tl but 0 2 nl) (cnt tl but 0 3 nl) (cnt tl but 1 2 nl) (cnt tl but 1 3 nl) (cnt tl but 2 3 nl)).getD j 0, 1) _
    rw [e]
    exact one _
theorem net_el (hN : NetL4 tl nl n) (hn1 : 1 ≤ n) (hn3 : n ≤ 3) (h6 : nl ≤ 6) (hC : CutOK tl nl but n) : ElOK tl but nl n ∧ 0 < (lA tl nl n but).getD 0 0 ∧ (lA tl nl n but).getD 0 0 ≤ 16 ∧ (∀ nd, nd < n → ∀ x : Int, 0 ≤ x → x ≤ (n : Int) → ((lA tl nl n but).getD 0 0 : Rat) * the tl but nl n nd x = (ang (lA tl nl n but) x.toNat nd : Rat)) ∧ rowsOK ((lA tl nl n but).getD 0 0) (rA tl nl n but) = true := by
  have h := ok_t (but := but) hN hn1 hn3 h6
  have hc := cuts_t hN hn1 hn3 hC
  unfold okNet at h
  rw [hc] at h
  rw [show ∀ b : Bool, (!true || b) = b from fun b => by cases b <;> rfl, fL_t, Bool.and_eq_true, Bool.and_eq_true, Bool.and_eq_true, f3_t, Bool.and_eq_true] at h
  obtain ⟨h1, h2, h3, h4, h5⟩ := h
  have h1 := of_decide_eq_true h1
  have h2 := of_decide_eq_true h2
  have hE := fun nd (hd : nd < n) => elR_t (f := eqs0 tl but nl nd) hn3 (all_r h3 hd) (by omega) eq_rep
  refine ⟨fun nd hd => ⟨fun m hm => (hE nd hd).1 m (by omega) hm, (hE nd hd).2.1⟩, h1, h2, fun nd hd x hx0 hxn => ?_, h4⟩
  unfold the
  by_cases z : x.toNat = 0
  · rw [if_pos z, z, Rat.mul_zero]
    rfl
  · rw [if_neg z]
    obtain ⟨y, hy⟩ : ∃ y, x.toNat = y + 1 := ⟨x.toNat - 1, by omega⟩
    rw [hy, Nat.add_sub_cancel]
    exact (hE nd hd).2.2 y (by omega)
end NET

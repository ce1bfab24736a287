/-! The end of the argument. -/
section SEG
variable {R : Nat} {TT GG : Nat → Nat → Nat → Rat} {bb : Nat → Nat → Nat} {ss rr : Nat → Nat} {i j : Nat}
theorem sg_fwd (hP : ∀ n, i ≤ n → n < j → Piv R (TT n) (GG n) (bb n) (TT (n+1)) (GG (n+1)) (bb (n+1)) (ss n) (rr n)) {t : Nat} (hno : ∀ n, i ≤ n → n < j → bb n (rr n) ≠ t) {n x : Nat} (h1 : i ≤ n) (hx : x < R) (e : bb n x = t) : ∀ d, n + d ≤ j → bb (n + d) x = t
  | 0, _ => e
  | d + 1, h => by
    have a := sg_fwd hP hno h1 hx e d (by omega)
    show bb (n + d + 1) x = t
    rw [(hP (n + d) (by omega) (by omega)).2.2.2.2.2.2.2.2 x hx]
    by_cases q : x = rr (n + d)
    · exact absurd (q ▸ a) (hno (n + d) (by omega) (by omega))
    · rw [if_neg q]; exact a
theorem sg_stay (hP : ∀ n, i ≤ n → n < j → Piv R (TT n) (GG n) (bb n) (TT (n+1)) (GG (n+1)) (bb (n+1)) (ss n) (rr n)) {x : Nat} (hx : x < R) (hno : ∀ n, i ≤ n → n < j → rr n ≠ x) : ∀ d, i + d ≤ j → bb (i + d) x = bb i x
  | 0, _ => rfl
  | d + 1, h => by
    rw [← sg_stay hP hx hno d (by omega)]
    show bb (i + d + 1) x = _
    rw [(hP (i + d) (by omega) (by omega)).2.2.2.2.2.2.2.2 x hx, if_neg (fun q => hno (i + d) (by omega) (by omega) q.symm)]
theorem sg_false (hC : ∀ n, i ≤ n → n ≤ j → Can R (TT n) (GG n) (bb n)) (hP : ∀ n, i ≤ n → n < j → Piv R (TT n) (GG n) (bb n) (TT (n+1)) (GG (n+1)) (bb (n+1)) (ss n) (rr n)) (hb : ∀ x, x < R → bb i x = bb j x) (hij : i < j) : False := by
  obtain ⟨n1, a1, a2, hmax⟩ := mx_ex ss i (j - i - 1)
  rw [show i + (j - i - 1 + 1) = j by omega] at a2 hmax
  have p1 := hP n1 a1 a2
  have hC1 := hC n1 a1 (by omega)
  have hn2 : ∃ n2, i ≤ n2 ∧ n2 < j ∧ bb n2 (rr n2) = ss n1 := by
    refine Classical.byContradiction (fun hno => ?_)
    have hno' : ∀ n, i ≤ n → n < j → bb n (rr n) ≠ ss n1 := fun n x y z => hno ⟨n, x, y, z⟩
    have e1 : bb (n1 + 1) (rr n1) = ss n1 := by rw [p1.2.2.2.2.2.2.2.2 _ p1.2.2.2.1, if_pos rfl]
    have e2 := sg_fwd hP hno' (n := n1 + 1) (by omega) p1.2.2.2.1 e1 (j - (n1 + 1)) (by omega)
    rw [show n1 + 1 + (j - (n1 + 1)) = j by omega, ← hb _ p1.2.2.2.1] at e2
    have e4 := sg_fwd hP hno' (Nat.le_refl i) p1.2.2.2.1 e2 (n1 - i) (by omega)
    rw [show i + (n1 - i) = n1 by omega] at e4
    exact hC1.out p1.2.1 p1.1 _ p1.2.2.2.1 e4
  obtain ⟨n2, c1, c2, hl⟩ := hn2
  have p2 := hP n2 c1 c2
  have hC2 := hC n2 c1 (by omega)
  have hout := hC2.out p2.2.1 p2.1
  have hs : ss n2 < ss n1 := by
    have h1 := hmax n2 c1 c2
    have h2 := hout _ p2.2.2.2.1
    rw [hl] at h2
    omega
  have hv2 : ∀ x, x < R → rowv (TT n2) (bb n2) (fun q => 1 * (if ss n2 = q then 1 else 0) + (-1) * spr (bb n2) (fun x => TT n2 x (ss n2)) R q) x = 0 := fun x hx => by
    rw [dir_row hC2 (by have := p2.1; omega) hout 1 (-1) _ hx]; grind
  have hvi := (sg_sol hC hP hb (fun q => 1 * (if ss n2 = q then 1 else 0) + (-1) * spr (bb n2) (fun x => TT n2 x (ss n2)) R q) (n2 - i) (by omega)).mpr (by rw [show i + (n2 - i) = n2 by omega]; exact hv2)
  have e : ∀ k, k < 7 → GG n2 k (ss n2) = GG n1 k (ss n2) + smq (fun x => if bb n2 x < 35 then -(TT n2 x (ss n2)) * GG n1 k (bb n2 x) else 0) R := fun k hk => by
    have g2 := sg_gol hC hP hb hvi hk (n2 - i) (by omega)
    have g1 := sg_gol hC hP hb hvi hk (n1 - i) (by omega)
    rw [show i + (n2 - i) = n2 by omega] at g2
    rw [show i + (n1 - i) = n1 by omega, ← g2, dir_gol _ _ (by have := p2.1; omega), dir_gol _ _ (by have := p2.1; omega), gol_bas hC2 _ hk, ← smq_mul] at g1
    rw [smq_cong (f := fun x => if bb n2 x < 35 then -(TT n2 x (ss n2)) * GG n1 k (bb n2 x) else 0) (g := fun x => (-1) * (if bb n2 x < 35 then GG n1 k (bb n2 x) * TT n2 x (ss n2) else 0)) (fun x _ => by
      by_cases h : bb n2 x < 35
      · rw [if_pos h, if_pos h]; grind
      · rw [if_neg h, if_neg h]; grind)]
    grind
  refine nn_cong (fun k hk => (e k hk).symm) (nn_add (p1.2.2.1 _ hs) (nn_smq (fun x hx => ?_))) p2.2.1
  by_cases h35 : bb n2 x < 35
  · refine nn_cong (a := fun k => -(TT n2 x (ss n2)) * GG n1 k (bb n2 x)) (fun k _ => by show _ = if bb n2 x < 35 then _ else _; rw [if_pos h35]) ?_
    by_cases hxr : x = rr n2
    · rw [hxr, hl]
      exact nn_neg (Rat.le_of_lt p2.2.2.2.2.1) p1.2.1
    · by_cases hF : ∃ m, i ≤ m ∧ m < j ∧ ss m = bb n2 x
      · obtain ⟨m, m1, m2, m3⟩ := hF
        have hlt : bb n2 x < ss n1 := by
          have h1 := hmax m m1 m2
          have h2 : bb n2 x ≠ ss n1 := fun q => hxr (hC2.2.1 x (rr n2) hx p2.2.2.2.1 (q.trans hl.symm))
          omega
        have hnn := p1.2.2.1 _ hlt
        have hside : TT n2 x 34 = 0 := by
          refine Classical.byContradiction (fun hne => ?_)
          have hno : ∀ n, i ≤ n → n < j → rr n ≠ x := fun n u w q => hne (by
            rw [sg_sidem hC hP hb hx c1 (by omega) u (by omega : n ≤ j), ← q]
            exact sg_zero hC hP hb u w)
          have e1 := sg_stay hP hx hno (m - i) (by omega)
          have e2 := sg_stay hP hx hno (n2 - i) (by omega)
          rw [show i + (m - i) = m by omega] at e1
          rw [show i + (n2 - i) = n2 by omega] at e2
          have pm := hP m m1 m2
          exact (hC m m1 (by omega)).out pm.2.1 pm.1 x hx (by rw [e1, ← e2, m3])
        rcases Classical.em (0 < TT n2 x (ss n2)) with hy | hy
        · have h6 := (p2.2.2.2.2.2.1 x hx hy).2 (by rw [hside, sg_zero hC hP hb c1 c2, Rat.div_def, Rat.div_def]; grind)
          rw [hl] at h6
          omega
        · exact nn_mul (by grind) hnn
      · have hq := sg_all hP hb c1 (by omega) hx rfl (fun m u w q => hF ⟨m, u, w, q⟩) a1 (by omega : n1 ≤ j)
        refine nn_zero (fun k hk => ?_)
        have h34 : bb n2 x < 34 := by have := hC2.1 x hx; omega
        have := hC1.2.2.2.1 k x hk hx (by rw [hq]; exact h34)
        rw [hq] at this
        show -(TT n2 x (ss n2)) * GG n1 k (bb n2 x) = 0
        rw [this]; grind
  · exact nn_zero (fun k _ => if_neg h35)
end SEG
theorem pig : ∀ (B : Nat) (f : Nat → Nat), (∀ n, f n < B) → ∃ i j, i < j ∧ f i = f j
  | 0, f, h => absurd (h 0) (by omega)
  | B + 1, f, h => by
    rcases Classical.em (∃ i, f i = B) with ⟨i, hi⟩ | hn
    · rcases Classical.em (∃ j, i < j ∧ f j = B) with ⟨j, h1, h2⟩ | hn
      · exact ⟨i, j, h1, by rw [hi, h2]⟩
      · obtain ⟨a, c, h1, h2⟩ := pig B (fun n => f (i + 1 + n)) (fun n => by
          have h1 := h (i + 1 + n)
          have h2 : f (i + 1 + n) ≠ B := fun q => hn ⟨i + 1 + n, by omega, q⟩
          show f (i + 1 + n) < B
          omega)
        exact ⟨i + 1 + a, i + 1 + c, by omega, h2⟩
    · exact pig B f (fun n => by
        have h1 := h n
        have h2 : f n ≠ B := fun q => hn ⟨n, q⟩
        omega)
def cdb (b : Nat → Nat) : Nat → Nat
  | 0 => 0
  | R + 1 => cdb b R * 200 + b R
theorem cdb_lt {b : Nat → Nat} : ∀ {R : Nat}, (∀ x, x < R → b x < 200) → cdb b R < 200 ^ R
  | 0, _ => by show 0 < 200 ^ 0; decide
  | R + 1, h => by
    have h1 := cdb_lt (fun x hx => h x (by omega : x < R + 1)) (R := R)
    have h2 := h R (by omega)
    show cdb b R * 200 + b R < 200 ^ R * 200
    omega
theorem cdb_inj {b b' : Nat → Nat} : ∀ {R : Nat}, (∀ x, x < R → b x < 200) → (∀ x, x < R → b' x < 200) → cdb b R = cdb b' R → ∀ x, x < R → b x = b' x
  | 0, _, _, _ => fun x hx => absurd hx (by omega)
  | R + 1, h, h', e => by
    have e : cdb b R * 200 + b R = cdb b' R * 200 + b' R := e
    have h2 := h R (by omega)
    have h3 := h' R (by omega)
    intro x hx
    by_cases q : x = R
    · rw [q]; omega
    · exact cdb_inj (R := R) (fun x hx => h x (by omega)) (fun x hx => h' x (by omega)) (by omega) x (by omega)
theorem bland {R : Nat} {TT GG : Nat → Nat → Nat → Rat} {bb : Nat → Nat → Nat} {ss rr : Nat → Nat} (h0 : Can R (TT 0) (GG 0) (bb 0)) (hP : ∀ n, Piv R (TT n) (GG n) (bb n) (TT (n+1)) (GG (n+1)) (bb (n+1)) (ss n) (rr n)) : False := by
  have hC : ∀ n, Can R (TT n) (GG n) (bb n) := fun n => by
    induction n with
    | zero => exact h0
    | succ n ih => exact ih.step (hP n)
  have hlt : ∀ n x, x < R → bb n x < 200 := fun n x hx => by have := (hC n).1 x hx; omega
  obtain ⟨i, j, hij, he⟩ := pig (200 ^ R) (fun n => cdb (bb n) R) (fun n => cdb_lt (hlt n))
  exact sg_false (i := i) (j := j) (fun n _ _ => hC n) (fun n _ _ => hP n) (cdb_inj (hlt i) (hlt j) he) hij

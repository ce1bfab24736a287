/-! Floats: what is normal and above 0, doubling, halving; what is no NaN. -/
section FLT
theorem fl_lead (A B : Nat) : FP.Core.leading A B = (A.log2 : Int) - (B.log2 : Int) ∨ FP.Core.leading A B = (A.log2 : Int) - (B.log2 : Int) - 1 := by
  unfold FP.Core.leading
  dsimp only
  split
  · exact Or.inl rfl
  · exact Or.inr rfl
theorem fl_rr {f : FP.Core.Fmt} (hf : FP.Core.Good f) {s : Bool} {A B : Nat} {e q : Int} (hA : 0 < A) (hB : 0 < B) (hq : q = FP.Core.leading A B + e - ((f.p : Int) - 1)) (h1 : f.qmin < q) (h2 : q + 1 ≤ f.qmax) : ∃ (c : Nat) (q' : Int), FP.Core.roundRatio f s A B e = .fin s c q' ∧ f.tails ≤ c ∧ c < 2 ^ f.p ∧ q ≤ q' ∧ q' ≤ q + 1 := by
  have hqu : FP.Core.quantum f A B e = q := by unfold FP.Core.quantum; omega
  have hfit := FP.Core.roundRatio_fits hf s A hB e
  have h3 := FP.Core.two_tails hf
  have h4 := FP.Core.tails_pos f
  have hr : FP.Core.roundRatio f s A B e = FP.Core.settle f s (FP.Core.nearest (FP.Core.unitsNum A e q) (FP.Core.unitsDen B e q)) q := by
    unfold FP.Core.roundRatio
    rw [if_neg (by omega)]
    unfold FP.Core.roundAt
    rw [hqu]
  rw [hr] at hfit ⊢
  generalize FP.Core.nearest (FP.Core.unitsNum A e q) (FP.Core.unitsDen B e q) = c at *
  unfold FP.Core.settle FP.Core.bound at hfit ⊢
  by_cases hc : c < 2 ^ f.p
  · rw [if_pos hc, if_pos (by omega)] at hfit ⊢
    have h5 : q = f.qmin ∨ f.tails ≤ c := hfit.2.2.2
    exact ⟨c, q, rfl, h5.resolve_left (by omega), hc, by omega, by omega⟩
  · rw [if_neg hc, if_pos (by omega)]
    exact ⟨f.tails, q + 1, rfl, Nat.le_refl _, by omega, by omega, by omega⟩
theorem p32 : (FP.Core.b32.p : Int) - 1 = 23 := by decide
theorem pp32 : (2 : Nat) ^ FP.Core.b32.p = 16777216 := by decide
theorem qm32 : FP.Core.b32.qmin = -149 := by decide
theorem qx32 : FP.Core.b32.qmax = 104 := by decide
theorem t32 : FP.Core.b32.tails = 8388608 := by decide
theorem fl_rr32 {s : Bool} {A B : Nat} {e q : Int} (hA : 0 < A) (hB : 0 < B) (hq : q = FP.Core.leading A B + e - 23) (h1 : -149 < q) (h2 : q ≤ 103) : ∃ (c : Nat) (q' : Int), FP.Core.roundRatio FP.Core.b32 s A B e = .fin s c q' ∧ 8388608 ≤ c ∧ c < 16777216 ∧ q ≤ q' ∧ q' ≤ q + 1 := by
  have := fl_rr FP.Core.good_b32 (s := s) (q := q) hA hB (by rw [p32]; exact hq) (by rw [qm32]; exact h1) (by rw [qx32]; omega)
  rw [t32, pp32] at this
  exact this
theorem quo_fin {f : FP.Core.Fmt} {s t : Bool} {c d : Nat} {q r : Int} (hd : d ≠ 0) : FP.Core.quotient f (.fin s c q) (.fin t d r) = FP.Core.roundRatio f (s != t) c d (q - r) := if_neg hd
/-- a float above 0, normal, its last digit's exponent from a to b -/
def NF (x : UInt32) (a b : Int) : Prop := ∃ (c : Nat) (q : Int), FP.Core.val32 x = .fin false c q ∧ 8388608 ≤ c ∧ c < 16777216 ∧ a ≤ q ∧ q ≤ b
def ZF (x : UInt32) : Prop := FP.Core.val32 x = .fin false 0 (-149)
theorem log_c {c : Nat} (h1 : 8388608 ≤ c) (h2 : c < 16777216) : c.log2 = 23 := by
  have a : c.log2 < 24 := (Nat.log2_lt (by omega)).mpr (by omega)
  have b : ¬ c.log2 < 23 := fun h => by
    have := (Nat.log2_lt (n := c) (by omega)).mp h
    omega
  omega
theorem nf_round {x : UInt32} {i : Int} {k : Nat} (e : FP.Core.val32 x = FP.Core.round FP.Core.b32 (FP.Core.ofInt i)) (h0 : 0 < i) (hk : i.natAbs < 2 ^ k) (hk9 : k ≤ 64) : NF x (-24) ((k : Int) - 23) := by
  have h3 : i.natAbs.log2 < k := (Nat.log2_lt (by omega)).mpr hk
  have h1 : (1 : Nat).log2 = 0 := by decide
  obtain ⟨c, q', e1, e2, e3, e4, e5⟩ := fl_rr32 (s := false) (A := i.natAbs) (B := 1) (e := 0) (q := FP.Core.leading i.natAbs 1 + 0 - 23) (by omega) (by decide) rfl (by rcases fl_lead i.natAbs 1 with h | h <;> rw [h, h1] <;> omega) (by rcases fl_lead i.natAbs 1 with h | h <;> rw [h, h1] <;> omega)
  refine ⟨c, q', ?_, e2, e3, ?_, ?_⟩
  · rw [e, ← e1]
    unfold FP.Core.ofInt
    rw [show decide (i < 0) = false from decide_eq_false (by omega)]
    rfl
  · rcases fl_lead i.natAbs 1 with h | h <;> rw [h, h1] at e4 <;> omega
  · rcases fl_lead i.natAbs 1 with h | h <;> rw [h, h1] at e5 <;> omega
theorem zf_round {x : UInt32} (e : FP.Core.val32 x = FP.Core.round FP.Core.b32 (FP.Core.ofInt 0)) : ZF x := by
  unfold ZF
  rw [e]
  decide +kernel
theorem nf_div {x y : UInt32} {a b a2 b2 : Int} (h : NF x a b) (h2 : NF y a2 b2) (h3 : -124 ≤ a - b2) (h4 : b - a2 ≤ 120) : NF (FP.fdiv x y) (a - b2 - 24) (b - a2 - 22) := by
  obtain ⟨c, q, e1, c1, c2, q1, q2⟩ := h
  obtain ⟨d, r, e2, d1, d2, r1, r2⟩ := h2
  have l1 := log_c c1 c2
  have l2 := log_c d1 d2
  have hL : FP.Core.leading c d = 0 ∨ FP.Core.leading c d = -1 := by
    rcases fl_lead c d with h | h <;> rw [h, l1, l2] <;> omega
  obtain ⟨c', q', e3, e4, e5, e6, e7⟩ := fl_rr32 (s := false) (A := c) (B := d) (e := q - r) (q := FP.Core.leading c d + (q - r) - 23) (by omega) (by omega) rfl (by omega) (by omega)
  refine ⟨c', q', ?_, e4, e5, by omega, by omega⟩
  rw [show FP.fdiv x y = FP.Core.fdiv x y from rfl, FP.Core.val32_fdiv, e1, e2]
  rw [quo_fin (by omega)]
  exact e3
theorem zf_div {x y : UInt32} {a2 b2 : Int} (h : ZF x) (h2 : NF y a2 b2) : ZF (FP.fdiv x y) := by
  obtain ⟨d, r, e2, d1, d2, r1, r2⟩ := h2
  unfold ZF at h ⊢
  rw [show FP.fdiv x y = FP.Core.fdiv x y from rfl, FP.Core.val32_fdiv, h, e2]
  rw [quo_fin (by omega)]
  unfold FP.Core.roundRatio
  rw [if_pos rfl, qm32]
  rfl
theorem v_one : FP.Core.val32 FP.fconst1 = .fin false 8388608 (-23) := by decide +kernel
theorem v_two : FP.Core.val32 FP.fconst2 = .fin false 8388608 (-22) := by decide +kernel
theorem v_zero : FP.Core.val32 FP.fconst0 = .fin false 0 (-149) := by decide +kernel
theorem nf_mul2 {x : UInt32} {q : Int} (h : NF x q q) (h1 : -149 ≤ q) (h2 : q ≤ 103) : NF (FP.fmul x FP.fconst2) (q + 1) (q + 1) := by
  obtain ⟨c, q9, e1, c1, c2, q1, q2⟩ := h
  obtain rfl : q9 = q := by omega
  refine ⟨c, q9 + 1, ?_, c1, c2, Int.le_refl _, Int.le_refl _⟩
  rw [show FP.fmul x FP.fconst2 = FP.Core.fmul x FP.fconst2 from rfl, FP.Core.val32_fmul, e1, v_two]
  show FP.Core.roundRatio FP.Core.b32 (false != false) (c * 8388608) 1 (q9 + -22) = _
  refine FP.Core.roundRatio_exact FP.Core.good_b32 (by decide) ⟨by rw [pp32]; exact c2, by rw [qm32]; omega, by rw [qx32]; omega, Or.inr (by rw [t32]; exact c1)⟩ ?_
  rw [show (q9 + -22 - (q9 + 1)).toNat = 0 by omega, show (q9 + 1 - (q9 + -22)).toNat = 23 by omega]
  omega
theorem nf_div2 {x : UInt32} {q : Int} (h : NF x q q) (h1 : -149 < q) (h2 : q ≤ 104) : NF (FP.fdiv x FP.fconst2) (q - 1) (q - 1) := by
  obtain ⟨c, q9, e1, c1, c2, q1, q2⟩ := h
  obtain rfl : q9 = q := by omega
  refine ⟨c, q9 - 1, ?_, c1, c2, Int.le_refl _, Int.le_refl _⟩
  rw [show FP.fdiv x FP.fconst2 = FP.Core.fdiv x FP.fconst2 from rfl, FP.Core.val32_fdiv, e1, v_two]
  rw [quo_fin (by decide)]
  refine FP.Core.roundRatio_exact FP.Core.good_b32 (by decide) ⟨by rw [pp32]; exact c2, by rw [qm32]; omega, by rw [qx32]; omega, Or.inr (by rw [t32]; exact c1)⟩ ?_
  rw [show (q9 - -22 - (q9 - 1)).toNat = 23 by omega, show (q9 - 1 - (q9 - -22)).toNat = 0 by omega]
  omega
theorem fcmp_o (x y : UInt32) : FP.fcmp x y = FP.Core.order (FP.Core.val32 x) (FP.Core.val32 y) := rfl
theorem cmp_lt1 {x : UInt32} {q : Int} (h : NF x q q) (hc : FP.fcmp x FP.fconst1 = some .lt) : q ≤ -24 := by
  obtain ⟨c, q9, e1, c1, c2, q1, q2⟩ := h
  obtain rfl : q9 = q := by omega
  refine Int.not_lt.mp (fun z => ?_)
  rw [fcmp_o, e1, v_one] at hc
  have hc : some (compare (FP.Core.signed false (FP.Core.inUnits c q9 (min q9 (-23)))) (FP.Core.signed false (FP.Core.inUnits 8388608 (-23) (min q9 (-23))))) = some .lt := hc
  rw [show min q9 (-23) = -23 by omega] at hc
  have hc := Option.some.inj hc
  rw [FP.Core.compare_ite] at hc
  have h1 : (FP.Core.inUnits c q9 (-23)) ≥ 8388608 := by
    unfold FP.Core.inUnits
    have := Nat.two_pow_pos (q9 - -23).toNat
    exact Nat.le_trans c1 (Nat.le_mul_of_pos_right _ this)
  have h2 : FP.Core.inUnits 8388608 (-23) (-23) = 8388608 := by decide
  rw [h2] at hc
  unfold FP.Core.signed at hc
  simp only [Bool.false_eq_true, if_false] at hc
  rw [if_neg (by omega)] at hc
  split at hc
  · cases hc
  · cases hc
theorem cmp_ge2 {x : UInt32} {q : Int} (h : NF x q q) (hc : FP.fcmp x FP.fconst2 = some .eq ∨ FP.fcmp x FP.fconst2 = some .gt) : -22 ≤ q := by
  obtain ⟨c, q9, e1, c1, c2, q1, q2⟩ := h
  obtain rfl : q9 = q := by omega
  refine Int.not_lt.mp (fun z => ?_)
  have hl : FP.fcmp x FP.fconst2 = some .lt := by
    rw [fcmp_o, e1, v_two]
    show some (compare (FP.Core.signed false (FP.Core.inUnits c q9 (min q9 (-22)))) (FP.Core.signed false (FP.Core.inUnits 8388608 (-22) (min q9 (-22))))) = some .lt
    rw [show min q9 (-22) = q9 by omega, FP.Core.compare_ite]
    have h1 : FP.Core.inUnits 8388608 (-22) q9 ≥ 16777216 := by
      unfold FP.Core.inUnits
      have := Nat.pow_le_pow_right (n := 2) (by decide) (show 1 ≤ (-22 - q9).toNat by omega)
      omega
    have h2 : FP.Core.inUnits c q9 q9 = c := by
      unfold FP.Core.inUnits
      rw [Int.sub_self]
      show c * 1 = c
      omega
    rw [h2]
    unfold FP.Core.signed
    simp only [Bool.false_eq_true, if_false]
    rw [if_pos (by omega)]
  rw [hl] at hc
  rcases hc with hc | hc <;> cases hc
theorem zf_eq {x : UInt32} (h : ZF x) : FP.fcmp x FP.fconst0 = some .eq := by
  unfold ZF at h
  rw [fcmp_o, h, v_zero]
  decide
theorem nn_of {x : UInt32} (h : FP.Core.val32 x ≠ .nan) : vf_n32 x := by
  have h1 := (FP.Core.ne_nan32 x).mp h
  unfold vf_n32
  rw [UInt32.le_iff_toNat_le, UInt32.toNat_and]
  show x.toNat &&& (2 ^ 31 - 1) ≤ 2139095040
  rw [Nat.and_two_pow_sub_one_eq_mod]
  exact h1
theorem nn64_of {x : UInt64} (h : FP.Core.val64 x ≠ .nan) : vf_n64 x := by
  have h1 := (FP.Core.ne_nan x).mp h
  unfold vf_n64
  rw [UInt64.le_iff_toNat_le, UInt64.toNat_and]
  show x.toNat &&& (2 ^ 63 - 1) ≤ 9218868437227405312
  rw [Nat.and_two_pow_sub_one_eq_mod]
  exact h1
theorem NF.nn {x : UInt32} {a b : Int} (h : NF x a b) : FP.Core.val32 x ≠ .nan := by
  obtain ⟨c, q, e, -⟩ := h
  rw [e]
  exact FP.Core.Datum.noConfusion
theorem ZF.nn {x : UInt32} (h : ZF x) : FP.Core.val32 x ≠ .nan := by
  unfold ZF at h
  rw [h]
  exact FP.Core.Datum.noConfusion
theorem rnd_nn {f : FP.Core.Fmt} {d : FP.Core.Datum} (h : d ≠ .nan) : FP.Core.round f d ≠ .nan := by
  cases d with
  | nan => exact absurd rfl h
  | inf s => exact FP.Core.Datum.noConfusion
  | fin s c q => exact FP.Core.roundRatio_ne_nan f s c 1 q
theorem sub1_nn {x : UInt32} (h : FP.Core.val32 x ≠ .nan) : FP.Core.val32 (FP.fsub x FP.fconst1) ≠ .nan := by
  rw [show FP.fsub x FP.fconst1 = FP.Core.fsub x FP.fconst1 from rfl, FP.Core.val32_fsub, v_one]
  refine rnd_nn ?_
  cases hx : FP.Core.val32 x with
  | nan => exact absurd hx h
  | inf s => exact FP.Core.Datum.noConfusion
  | fin s c q => exact FP.Core.Datum.noConfusion
theorem mulK_nn {x y : UInt32} (h : FP.Core.val32 x ≠ .nan) {t : Bool} {d : Nat} {r : Int} (hy : FP.Core.val32 y = .fin t d r) (hd : d ≠ 0) : FP.Core.val32 (FP.fmul x y) ≠ .nan := by
  rw [show FP.fmul x y = FP.Core.fmul x y from rfl, FP.Core.val32_fmul, hy]
  refine rnd_nn ?_
  cases hx : FP.Core.val32 x with
  | nan => exact absurd hx h
  | inf s =>
    show (if d = 0 then _ else _) ≠ _
    rw [if_neg hd]
    exact FP.Core.Datum.noConfusion
  | fin s c q => exact FP.Core.Datum.noConfusion
/-- no NaN behind a quotient: the divisor is a number and not 0 -/
theorem quo_nn {f : FP.Core.Fmt} {x : FP.Core.Datum} (h : x ≠ .nan) {t : Bool} {d : Nat} {r : Int} (hd : d ≠ 0) : FP.Core.quotient f x (.fin t d r) ≠ .nan := by
  cases x with
  | nan => exact absurd rfl h
  | inf s => exact FP.Core.Datum.noConfusion
  | fin s c q =>
    rw [quo_fin hd]
    exact FP.Core.roundRatio_ne_nan _ _ _ _ _
/-- or the dividend is a number and not 0 -/
theorem quo_nn2 {f : FP.Core.Fmt} {s t : Bool} {c d : Nat} {q r : Int} (h : c ≠ 0 ∨ d ≠ 0) : FP.Core.quotient f (.fin s c q) (.fin t d r) ≠ .nan := by
  by_cases hd : d = 0
  · have e : FP.Core.quotient f (.fin s c q) (.fin t d r) = .inf (s != t) := (if_pos hd).trans (if_neg (h.resolve_right (fun z => z hd)))
    rw [e]
    exact FP.Core.Datum.noConfusion
  · rw [quo_fin hd]
    exact FP.Core.roundRatio_ne_nan _ _ _ _ _
/-- a whole number as a datum: 0 alone becomes 0 -/
theorem int_c {f : FP.Core.Fmt} (hf : FP.Core.Good f) (hp : f.qmin + (f.p : Int) + 1 ≤ 0) (hx : 65 - (f.p : Int) ≤ f.qmax) {i : Int} (hi : i.natAbs < 2 ^ 64) : ∃ (s : Bool) (c : Nat) (q : Int), FP.Core.round f (FP.Core.ofInt i) = .fin s c q ∧ (i ≠ 0 → c ≠ 0) := by
  by_cases h0 : i = 0
  · refine ⟨false, 0, f.qmin, ?_, fun z => absurd h0 z⟩
    rw [h0]
    rfl
  · have h3 : i.natAbs.log2 < 64 := (Nat.log2_lt (by omega)).mpr hi
    have h1 : (1 : Nat).log2 = 0 := by decide
    have hl : -1 ≤ FP.Core.leading i.natAbs 1 ∧ FP.Core.leading i.natAbs 1 ≤ 63 := by
      rcases fl_lead i.natAbs 1 with h | h <;> rw [h, h1] <;> omega
    obtain ⟨c, q', e1, e2, -⟩ := fl_rr hf (s := decide (i < 0)) (A := i.natAbs) (B := 1) (e := 0) (q := FP.Core.leading i.natAbs 1 + 0 - ((f.p : Int) - 1)) (by omega) (by decide) rfl (by omega) (by omega)
    have := FP.Core.tails_pos f
    exact ⟨_, c, q', e1, fun _ => by omega⟩
theorem lt64 {i : Int} (h1 : -9223372036854775808 ≤ i) (h2 : i < 9223372036854775808) : i.natAbs < 2 ^ 64 := by omega
theorem l2f_c (a : Int64) : ∃ (s : Bool) (c : Nat) (q : Int), FP.Core.val32 (FP.l2f a) = .fin s c q ∧ (a.toInt ≠ 0 → c ≠ 0) := by
  rw [show FP.l2f a = FP.Core.l2f a from rfl, FP.Core.val32_l2f]
  exact int_c FP.Core.good_b32 (by decide) (by decide) (lt64 (Int64.le_toInt a) (Int64.toInt_lt a))
theorem i2f_c (a : Int32) : ∃ (s : Bool) (c : Nat) (q : Int), FP.Core.val32 (FP.i2f a) = .fin s c q ∧ (a.toInt ≠ 0 → c ≠ 0) := by
  rw [show FP.i2f a = FP.Core.i2f a from rfl, FP.Core.val32_i2f]
  have h1 := Int32.le_toInt a
  have h2 := Int32.toInt_lt a
  exact int_c FP.Core.good_b32 (by decide) (by decide) (by omega)
theorem l2d_c (a : Int64) : ∃ (s : Bool) (c : Nat) (q : Int), FP.Core.val64 (FP.l2d a) = .fin s c q ∧ (a.toInt ≠ 0 → c ≠ 0) := by
  rw [show FP.l2d a = FP.Core.l2d a from rfl, FP.Core.val64_l2d]
  exact int_c FP.Core.good_b64 (by decide) (by decide) (lt64 (Int64.le_toInt a) (Int64.toInt_lt a))
theorem i2d_c (a : Int32) : ∃ (s : Bool) (c : Nat) (q : Int), FP.Core.val64 (FP.i2d a) = .fin s c q ∧ (a.toInt ≠ 0 → c ≠ 0) := by
  rw [show FP.i2d a = FP.Core.i2d a from rfl, FP.Core.val64_i2d]
  have h1 := Int32.le_toInt a
  have h2 := Int32.toInt_lt a
  exact int_c FP.Core.good_b64 (by decide) (by decide) (by omega)
/-- what loadBits divides -/
theorem nf_load {n w : Int64} {z : Int32} (h0 : 0 ≤ n.toInt) (hw : 0 < w.toInt) (hz : 0 < z.toInt) (hz4 : z.toInt ≤ 400) : vf_n32 (FP.fdiv (FP.l2f n) (FP.l2f w)) ∧ vf_n32 (FP.fdiv (FP.fdiv (FP.l2f n) (FP.l2f w)) (FP.i2f z)) ∧ (ZF (FP.fdiv (FP.fdiv (FP.l2f n) (FP.l2f w)) (FP.i2f z)) ∨ ∃ q : Int, NF (FP.fdiv (FP.fdiv (FP.l2f n) (FP.l2f w)) (FP.i2f z)) q q ∧ -148 ≤ q ∧ q ≤ 103) := by
  have hw2 := Int64.toInt_lt w
  have hn2 := Int64.toInt_lt n
  have nw : NF (FP.l2f w) (-24) 40 := nf_round (k := 63) (by rw [← FP.Core.val32_l2f]) hw (by omega) (by decide)
  have nz : NF (FP.i2f z) (-24) (-14) := nf_round (k := 9) (by rw [← FP.Core.val32_i2f]) hz (by omega) (by decide)
  by_cases h : n.toInt = 0
  · have a1 : ZF (FP.l2f n) := zf_round (by rw [← h, ← FP.Core.val32_l2f])
    have a2 := zf_div a1 nw
    have a3 := zf_div a2 nz
    exact ⟨nn_of a2.nn, nn_of a3.nn, Or.inl a3⟩
  · have a1 : NF (FP.l2f n) (-24) 40 := nf_round (k := 63) (by rw [← FP.Core.val32_l2f]) (by omega) (by omega) (by decide)
    have a2 := nf_div a1 nw (by decide) (by decide)
    have a3 := nf_div a2 nz (by decide) (by decide)
    refine ⟨nn_of a2.nn, nn_of a3.nn, Or.inr ?_⟩
    obtain ⟨c, q, e1, e2, e3, e4, e5⟩ := a3
    exact ⟨q, ⟨c, q, e1, e2, e3, Int.le_refl _, Int.le_refl _⟩, by omega, by omega⟩
theorem nf_l1 {n w : Int64} (h0 : 0 ≤ n.toInt) (hw : 0 < w.toInt) : vf_n32 (FP.fdiv (FP.l2f n) (FP.l2f w)) := (nf_load (z := 1) h0 hw (by decide) (by decide)).1
theorem cg_neg {o : Option Ordering} (h : (Op.cmpValue o .g).toInt < 0) : o = some .lt := by
  rcases o with _ | (_ | _ | _)
  · exact absurd h (by decide)
  · rfl
  · exact absurd h (by decide)
  · exact absurd h (by decide)
theorem cl_ge {o : Option Ordering} (h : ¬ (Op.cmpValue o .l).toInt < 0) : o = some .eq ∨ o = some .gt := by
  rcases o with _ | (_ | _ | _)
  · exact absurd (by decide) h
  · exact absurd (by decide) h
  · exact Or.inl rfl
  · exact Or.inr rfl
theorem c_eq {op : CmpOp} : (Op.cmpValue (some .eq) op).toInt = 0 := by cases op <;> decide
theorem md_1 {t w : Int64} (hw : w.toInt ≠ 0) : FP.Core.val64 (FP.ddiv (FP.l2d t) (FP.l2d w)) ≠ .nan := by
  obtain ⟨s, c, q, e, -⟩ := l2d_c t
  obtain ⟨s2, d, r, e2, h2⟩ := l2d_c w
  rw [show FP.ddiv (FP.l2d t) (FP.l2d w) = FP.Core.ddiv (FP.l2d t) (FP.l2d w) from rfl, FP.Core.val64_ddiv, e, e2]
  exact quo_nn2 (Or.inr (h2 hw))
theorem md_2 {x : UInt64} (hx : FP.Core.val64 x ≠ .nan) {z : Int32} (hz : z.toInt ≠ 0) : FP.Core.val64 (FP.ddiv x (FP.i2d z)) ≠ .nan := by
  obtain ⟨s2, d, r, e2, h2⟩ := i2d_c z
  rw [show FP.ddiv x (FP.i2d z) = FP.Core.ddiv x (FP.i2d z) from rfl, FP.Core.val64_ddiv, e2]
  exact quo_nn hx (h2 hz)
theorem v_K : FP.Core.val32 (1258291200 : UInt32) = .fin false 8388608 0 := by decide +kernel
end FLT

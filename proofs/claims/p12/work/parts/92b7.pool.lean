/-! The pool of a net's rows: what the list says of all its determinants. -/
def ng3 (a : I3) : I3 := (-a.1, -a.2.1, -a.2.2)
theorem d3_c (a b c : I3) : d3c c (m2 a.2.1 a.2.2 b.2.1 b.2.2) (m2 a.1 a.2.2 b.1 b.2.2) (m2 a.1 a.2.1 b.1 b.2.1) = d3 c a b := rfl
theorem d3_12 (a b c : I3) : d3 b a c = -d3 a b c := by unfold d3 m2; grind
theorem d3_23 (a b c : I3) : d3 a c b = -d3 a b c := by unfold d3 m2; grind
theorem d3_aa (a c : I3) : d3 a a c = 0 := by unfold d3 m2; grind
theorem d3_bb (a c : I3) : d3 c a a = 0 := by unfold d3 m2; grind
theorem d3_n1 (a b c : I3) : d3 (ng3 a) b c = -d3 a b c := by unfold d3 m2 ng3; grind
theorem d3_n2 (a b c : I3) : d3 a (ng3 b) c = -d3 a b c := by unfold d3 m2 ng3; grind
theorem d3_n3 (a b c : I3) : d3 a b (ng3 c) = -d3 a b c := by unfold d3 m2 ng3; grind
def DOK (S : List Nat) (lam : Nat) (a b c : I3) : Prop := dok S lam (d3 a b c).natAbs = true
theorem DOK.s12 {S : List Nat} {lam : Nat} {a b c : I3} (h : DOK S lam a b c) : DOK S lam b a c := by unfold DOK at *; rw [d3_12, Int.natAbs_neg]; exact h
theorem DOK.s23 {S : List Nat} {lam : Nat} {a b c : I3} (h : DOK S lam a b c) : DOK S lam a c b := by unfold DOK at *; rw [d3_23, Int.natAbs_neg]; exact h
theorem DOK.z12 {S : List Nat} {lam : Nat} (a c : I3) : DOK S lam a a c := by unfold DOK; rw [d3_aa]; rfl
theorem DOK.z23 {S : List Nat} {lam : Nat} (a c : I3) : DOK S lam c a a := by unfold DOK; rw [d3_bb]; rfl
def MOK (a b : I3) : Prop := (m2 a.2.1 a.2.2 b.2.1 b.2.2).natAbs ≤ 52 ∧ (m2 a.1 a.2.2 b.1 b.2.2).natAbs ≤ 52 ∧ (m2 a.1 a.2.1 b.1 b.2.1).natAbs ≤ 52
theorem m2_sw (a b c d : Int) : m2 c d a b = -m2 a b c d := by unfold m2; grind
theorem m2_n1 (a b c d : Int) : m2 (-a) (-b) c d = -m2 a b c d := by unfold m2; grind
theorem m2_n2 (a b c d : Int) : m2 a b (-c) (-d) = -m2 a b c d := by unfold m2; grind
theorem m2_z (a b : Int) : m2 a b a b = 0 := by unfold m2; grind
theorem MOK.s {a b : I3} (h : MOK a b) : MOK b a := by
  unfold MOK at *
  rw [m2_sw a.2.1, m2_sw a.1 a.2.2, m2_sw a.1 a.2.1, Int.natAbs_neg, Int.natAbs_neg, Int.natAbs_neg]; exact h
theorem MOK.z (a : I3) : MOK a a := by unfold MOK; rw [m2_z, m2_z, m2_z]; decide
theorem MOK.n1 {a b : I3} (h : MOK a b) : MOK (ng3 a) b := by
  unfold MOK at *
  show (m2 (-a.2.1) (-a.2.2) _ _).natAbs ≤ 52 ∧ (m2 (-a.1) (-a.2.2) _ _).natAbs ≤ 52 ∧ (m2 (-a.1) (-a.2.1) _ _).natAbs ≤ 52
  rw [m2_n1, m2_n1, m2_n1, Int.natAbs_neg, Int.natAbs_neg, Int.natAbs_neg]; exact h
theorem mok_t {a b : I3} (h : mok a b = true) : MOK a b := by
  unfold mok at h
  rw [Bool.and_eq_true, Bool.and_eq_true] at h
  exact ⟨Nat.le_of_ble_eq_true h.1, Nat.le_of_ble_eq_true h.2.1, Nat.le_of_ble_eq_true h.2.2⟩
theorem pairA_t {S : List Nat} {lam : Nat} {a : I3} : ∀ {l : List I3}, pairA S lam a l = true → (∀ b ∈ l, MOK a b) ∧ ∀ b ∈ l, ∀ c ∈ l, DOK S lam a b c
  | [], _ => ⟨fun _ h => (by cases h), fun _ h => (by cases h)⟩
  | b :: l, h => by
    have h : (mok a b && (fI (m2 a.2.1 a.2.2 b.2.1 b.2.2) (fun x => fI (m2 a.1 a.2.2 b.1 b.2.2) fun y => fI (m2 a.1 a.2.1 b.1 b.2.1) fun z => l.all fun c => fN (d3c c x y z).natAbs fun v => dok S lam v) && pairA S lam a l)) = true := h
    rw [Bool.and_eq_true, Bool.and_eq_true, fI_t, fI_t, fI_t] at h
    obtain ⟨h1, h2, h3⟩ := h
    obtain ⟨i1, i2⟩ := pairA_t h3
    have hb : ∀ c ∈ l, DOK S lam a b c := fun c hc => by
      have := List.all_eq_true.mp h2 c hc
      rw [fN_t, d3_c] at this
      have q : DOK S lam c a b := this
      exact q.s12.s23
    refine ⟨fun x hx => ?_, fun x hx y hy => ?_⟩
    · rcases List.mem_cons.mp hx with rfl | hx2
      · exact mok_t h1
      · exact i1 x hx2
    · rcases List.mem_cons.mp hx with rfl | hx2
      · rcases List.mem_cons.mp hy with rfl | hy2
        · exact DOK.z23 _ _
        · exact hb y hy2
      · rcases List.mem_cons.mp hy with rfl | hy2
        · exact (hb x hx2).s23
        · exact i2 x hx2 y hy2
theorem triA_t {S : List Nat} {lam : Nat} : ∀ {l : List I3}, triA S lam l = true → (∀ a ∈ l, ∀ b ∈ l, MOK a b) ∧ ∀ a ∈ l, ∀ b ∈ l, ∀ c ∈ l, DOK S lam a b c
  | [], _ => ⟨fun _ h => (by cases h), fun _ h => (by cases h)⟩
  | x :: l, h => by
    have h : (pairA S lam x l && triA S lam l) = true := h
    rw [Bool.and_eq_true] at h
    obtain ⟨p1, p2⟩ := pairA_t h.1
    obtain ⟨i1, i2⟩ := triA_t h.2
    refine ⟨fun a ha b hb => ?_, fun a ha b hb c hc => ?_⟩
    · rcases List.mem_cons.mp ha with rfl | ha2
      · rcases List.mem_cons.mp hb with rfl | hb2
        · exact MOK.z _
        · exact p1 b hb2
      · rcases List.mem_cons.mp hb with rfl | hb2
        · exact (p1 a ha2).s
        · exact i1 a ha2 b hb2
    · rcases List.mem_cons.mp ha with rfl | ha2
      · rcases List.mem_cons.mp hb with rfl | hb2
        · exact DOK.z12 _ _
        · rcases List.mem_cons.mp hc with rfl | hc2
          · exact (DOK.z12 _ _).s23
          · exact p2 b hb2 c hc2
      · rcases List.mem_cons.mp hb with rfl | hb2
        · rcases List.mem_cons.mp hc with rfl | hc2
          · exact DOK.z23 _ _
          · exact (p2 a ha2 c hc2).s12
        · rcases List.mem_cons.mp hc with rfl | hc2
          · exact (p2 a ha2 b hb2).s12.s23
          · exact i2 a ha2 b hb2 c hc2
def InP (l : List I3) (a : I3) : Prop := a ∈ l ∨ ng3 a ∈ l
theorem ng3_ng (a : I3) : ng3 (ng3 a) = a := by
  obtain ⟨x, y, z⟩ := a
  show (- -x, - -y, - -z) = (x, y, z)
  rw [Int.neg_neg, Int.neg_neg, Int.neg_neg]
theorem inP_t {S : List Nat} {lam : Nat} {l : List I3} (h : triA S lam l = true) : (∀ a b, InP l a → InP l b → MOK a b) ∧ ∀ a b c, InP l a → InP l b → InP l c → DOK S lam a b c := by
  obtain ⟨h1, h2⟩ := triA_t h
  have e : ∀ a, InP l a → ∃ x, x ∈ l ∧ (a = x ∨ a = ng3 x) := fun a ha => by
    rcases ha with ha | ha
    · exact ⟨a, ha, Or.inl rfl⟩
    · exact ⟨ng3 a, ha, Or.inr (ng3_ng a).symm⟩
  refine ⟨fun a b ha hb => ?_, fun a b c ha hb hc => ?_⟩
  · obtain ⟨x, hx, ex⟩ := e a ha
    obtain ⟨y, hy, ey⟩ := e b hb
    have q := h1 x hx y hy
    rcases ex with rfl | rfl <;> rcases ey with rfl | rfl
    · exact q
    · exact q.s.n1.s
    · exact q.n1
    · exact q.n1.s.n1.s
  · obtain ⟨x, hx, ex⟩ := e a ha
    obtain ⟨y, hy, ey⟩ := e b hb
    obtain ⟨z, hz, ez⟩ := e c hc
    have q := h2 x hx y hy z hz
    unfold DOK at *
    rcases ex with rfl | rfl <;> rcases ey with rfl | rfl <;> rcases ez with rfl | rfl <;> (try simp only [d3_n1, d3_n2, d3_n3, Int.natAbs_neg]) <;> exact q
theorem dok_t {S : List Nat} {lam x : Nat} (h : dok S lam x = true) : x * lam ≤ 17576 ∧ x ≤ 256 ∧ (x ≠ 0 → ∃ e ∈ S, x ∣ e) := by
  unfold dok at h
  rw [Bool.or_eq_true, Bool.and_eq_true, Bool.and_eq_true] at h
  rcases h with h | ⟨h1, h2, h3⟩
  · have : x = 0 := Nat.eq_of_beq_eq_true h
    subst this
    exact ⟨by omega, by omega, fun q => absurd rfl q⟩
  · refine ⟨Nat.le_of_ble_eq_true h1, Nat.le_of_ble_eq_true h2, fun _ => ?_⟩
    obtain ⟨e, he, hb⟩ := List.any_eq_true.mp h3
    exact ⟨e, he, Nat.dvd_of_mod_eq_zero (Nat.eq_of_beq_eq_true hb)⟩
section NET
variable {tl : Nat → Int} {nl n : Nat}
/-- a net as it is told, with the line that is out (or -1) -/
def NG (tl : Nat → Int) (nl n : Nat) (ou : Int) : Prop := 1 ≤ n ∧ n ≤ 3 ∧ nl ≤ 6 ∧ NetL4 tl nl n ∧ CutOK tl nl (-1) n ∧ (ou = -1 ∨ (0 ≤ ou ∧ ou < (nl : Int) ∧ CutOK tl nl ou n))
def tA (tl : Nat → Int) (nl n : Nat) (but : Int) : Nat := ((lA tl nl n but).getD 0 0).toNat
def poolL (tl : Nat → Int) (nl n : Nat) (ou : Int) : List I3 := (rA tl nl n (-1) ++ (if ou = -1 then [] else rA tl nl n ou)) ++ E4
def lamA (tl : Nat → Int) (nl n : Nat) (ou : Int) : Nat := if ou = -1 then tA tl nl n (-1) else Nat.lcm (tA tl nl n (-1)) (tA tl nl n ou)
theorem out6 (hN : NetL4 tl nl n) (hn3 : n ≤ 3) {o : Nat} (ho : o < nl) : (0 < cnt tl (-1) 0 1 nl ∧ cnt tl (o : Int) 0 1 nl = cnt tl (-1) 0 1 nl - 1 ∧ cnt tl (o : Int) 0 2 nl = cnt tl (-1) 0 2 nl ∧ cnt tl (o : Int) 0 3 nl = cnt tl (-1) 0 3 nl ∧ cnt tl (o : Int) 1 2 nl = cnt tl (-1) 1 2 nl ∧ cnt tl (o : Int) 1 3 nl = cnt tl (-1) 1 3 nl ∧ cnt tl (o : Int) 2 3 nl = cnt tl (-1) 2 3 nl) ∨ (0 < cnt tl (-1) 0 2 nl ∧ cnt tl (o : Int) 0 1 nl = cnt tl (-1) 0 1 nl ∧ cnt tl (o : Int) 0 2 nl = cnt tl (-1) 0 2 nl - 1 ∧ cnt tl (o : Int) 0 3 nl = cnt tl (-1) 0 3 nl ∧ cnt tl (o : Int) 1 2 nl = cnt tl (-1) 1 2 nl ∧ cnt tl (o : Int) 1 3 nl = cnt tl (-1) 1 3 nl ∧ cnt tl (o : Int) 2 3 nl = cnt tl (-1) 2 3 nl) ∨ (0 < cnt tl (-1) 0 3 nl ∧ cnt tl (o : Int) 0 1 nl = cnt tl (-1) 0 1 nl ∧ cnt tl (o : Int) 0 2 nl = cnt tl (-1) 0 2 nl ∧ cnt tl (o : Int) 0 3 nl = cnt tl (-1) 0 3 nl - 1 ∧ cnt tl (o : Int) 1 2 nl = cnt tl (-1) 1 2 nl ∧ cnt tl (o : Int) 1 3 nl = cnt tl (-1) 1 3 nl ∧ cnt tl (o : Int) 2 3 nl = cnt tl (-1) 2 3 nl) ∨ (0 < cnt tl (-1) 1 2 nl ∧ cnt tl (o : Int) 0 1 nl = cnt tl (-1) 0 1 nl ∧ cnt tl (o : Int) 0 2 nl = cnt tl (-1) 0 2 nl ∧ cnt tl (o : Int) 0 3 nl = cnt tl (-1) 0 3 nl ∧ cnt tl (o : Int) 1 2 nl = cnt tl (-1) 1 2 nl - 1 ∧ cnt tl (o : Int) 1 3 nl = cnt tl (-1) 1 3 nl ∧ cnt tl (o : Int) 2 3 nl = cnt tl (-1) 2 3 nl) ∨ (0 < cnt tl (-1) 1 3 nl ∧ cnt tl (o : Int) 0 1 nl = cnt tl (-1) 0 1 nl ∧ cnt tl (o : Int) 0 2 nl = cnt tl (-1) 0 2 nl ∧ cnt tl (o : Int) 0 3 nl = cnt tl (-1) 0 3 nl ∧ cnt tl (o : Int) 1 2 nl = cnt tl (-1) 1 2 nl ∧ cnt tl (o : Int) 1 3 nl = cnt tl (-1) 1 3 nl - 1 ∧ cnt tl (o : Int) 2 3 nl = cnt tl (-1) 2 3 nl) ∨ (0 < cnt tl (-1) 2 3 nl ∧ cnt tl (o : Int) 0 1 nl = cnt tl (-1) 0 1 nl ∧ cnt tl (o : Int) 0 2 nl = cnt tl (-1) 0 2 nl ∧ cnt tl (o : Int) 0 3 nl = cnt tl (-1) 0 3 nl ∧ cnt tl (o : Int) 1 2 nl = cnt tl (-1) 1 2 nl ∧ cnt tl (o : Int) 1 3 nl = cnt tl (-1) 1 3 nl ∧ cnt tl (o : Int) 2 3 nl = cnt tl (-1) 2 3 nl - 1) := by
  obtain ⟨h1, h2, h3, h4, h5⟩ := hN o ho
  have c01 := cnt_out (tl := tl) (x := 0) (y := 1) (o := o) nl
  have c02 := cnt_out (tl := tl) (x := 0) (y := 2) (o := o) nl
  have c03 := cnt_out (tl := tl) (x := 0) (y := 3) (o := o) nl
  have c12 := cnt_out (tl := tl) (x := 1) (y := 2) (o := o) nl
  have c13 := cnt_out (tl := tl) (x := 1) (y := 3) (o := o) nl
  have c23 := cnt_out (tl := tl) (x := 2) (y := 3) (o := o) nl
  have hp : tl (5 + o) = 0 ∨ tl (5 + o) = 1 ∨ tl (5 + o) = 2 ∨ tl (5 + o) = 3 := by omega
  have hq : tl (11 + o) = 0 ∨ tl (11 + o) = 1 ∨ tl (11 + o) = 2 ∨ tl (11 + o) = 3 := by omega
  rcases hp with hp | hp | hp | hp <;> rcases hq with hq | hq | hq | hq <;> simp only [hp, hq, ho, true_and] at c01 c02 c03 c12 c13 c23
  · exact absurd (hp.trans hq.symm) h5
  · exact Or.inl (by
      simp at c01 c02 c03 c12 c13 c23
      omega)
  · exact Or.inr (Or.inl (by
      simp at c01 c02 c03 c12 c13 c23
      omega))
  · exact Or.inr (Or.inr (Or.inl (by
      simp at c01 c02 c03 c12 c13 c23
      omega)))
  · exact Or.inl (by
      simp at c01 c02 c03 c12 c13 c23
      omega)
  · exact absurd (hp.trans hq.symm) h5
  · exact Or.inr (Or.inr (Or.inr (Or.inl (by
      simp at c01 c02 c03 c12 c13 c23
      omega))))
  · exact Or.inr (Or.inr (Or.inr (Or.inr (Or.inl (by
      simp at c01 c02 c03 c12 c13 c23
      omega)))))
  · exact Or.inr (Or.inl (by
      simp at c01 c02 c03 c12 c13 c23
      omega))
  · exact Or.inr (Or.inr (Or.inr (Or.inl (by
      simp at c01 c02 c03 c12 c13 c23
      omega))))
  · exact absurd (hp.trans hq.symm) h5
  · exact Or.inr (Or.inr (Or.inr (Or.inr (Or.inr (by
      simp at c01 c02 c03 c12 c13 c23
      omega)))))
  · exact Or.inr (Or.inr (Or.inl (by
      simp at c01 c02 c03 c12 c13 c23
      omega)))
  · exact Or.inr (Or.inr (Or.inr (Or.inr (Or.inl (by
      simp at c01 c02 c03 c12 c13 c23
      omega)))))
  · exact Or.inr (Or.inr (Or.inr (Or.inr (Or.inr (by
      simp at c01 c02 c03 c12 c13 c23
      omega)))))
  · exact absurd (hp.trans hq.symm) h5
theorem net_pool {ou : Int} (h : NG tl nl n ou) : ∃ S ∈ S5, triA S (lamA tl nl n ou) (poolL tl nl n ou) = true := by
  obtain ⟨hn1, hn3, h6, hN, hC, ho⟩ := h
  have h := ok_t (but := -1) hN hn1 hn3 h6
  have hc := cuts_t hN hn1 hn3 hC
  unfold okNet at h
  rw [hc] at h
  rw [show ∀ b : Bool, (!true || b) = b from fun b => by cases b <;> rfl, fL_t, Bool.and_eq_true, Bool.and_eq_true, Bool.and_eq_true, f3_t, Bool.and_eq_true, Bool.and_eq_true] at h
  obtain ⟨-, -, -, -, h5, h6⟩ := h
  rcases ho with rfl | ⟨o1, o2, o3⟩
  · obtain ⟨S, hS, hs⟩ := List.any_eq_true.mp h5
    refine ⟨S, hS, ?_⟩
    unfold lamA poolL
    rw [if_pos rfl, if_pos rfl, List.append_nil]
    exact hs
  · obtain ⟨o, rfl⟩ := Int.eq_ofNat_of_zero_le o1
    have hne : ¬ ((o : Int) = -1) := by omega
    have hco := cuts_t hN hn1 hn3 o3
    simp only [Bool.and_eq_true] at h6
    obtain ⟨q0, q1, q2, q3, q4, q5⟩ := h6
    have fin : ∀ {a b c d e f : Nat}, okOut n (((lA tl nl n (-1)).getD 0 0).toNat) (rA tl nl n (-1)) a b c d e f = true → cnt tl (o : Int) 0 1 nl = a → cnt tl (o : Int) 0 2 nl = b → cnt tl (o : Int) 0 3 nl = c → cnt tl (o : Int) 1 2 nl = d → cnt tl (o : Int) 1 3 nl = e → cnt tl (o : Int) 2 3 nl = f → ∃ S ∈ S5, triA S (lamA tl nl n (o : Int)) (poolL tl nl n (o : Int)) = true := by
      intro a b c d e f hk e0 e1 e2 e3 e4 e5
      rw [e0, e1, e2, e3, e4, e5] at hco
      unfold okOut at hk
      rw [hco, show ∀ b : Bool, (!true || b) = b from fun b => by cases b <;> rfl, fL_t, f3_t] at hk
      obtain ⟨S, hS, hs⟩ := List.any_eq_true.mp hk
      refine ⟨S, hS, ?_⟩
      unfold lamA poolL tA rA lA
      rw [if_neg hne, if_neg hne]
      rw [e0, e1, e2, e3, e4, e5]
      exact hs
    rcases out6 hN hn3 (show o < nl by omega) with h | h | h | h | h | h
    · have hq := q0
      rw [show Nat.blt 0 (cnt tl (-1) 0 1 nl) = true from Nat.ble_eq_true_of_le h.1] at hq
      exact fin (show _ = true from hq) h.2.1 h.2.2.1 h.2.2.2.1 h.2.2.2.2.1 h.2.2.2.2.2.1 h.2.2.2.2.2.2
    · have hq := q1
      rw [show Nat.blt 0 (cnt tl (-1) 0 2 nl) = true from Nat.ble_eq_true_of_le h.1] at hq
      exact fin (show _ = true from hq) h.2.1 h.2.2.1 h.2.2.2.1 h.2.2.2.2.1 h.2.2.2.2.2.1 h.2.2.2.2.2.2
    · have hq := q2
      rw [show Nat.blt 0 (cnt tl (-1) 0 3 nl) = true from Nat.ble_eq_true_of_le h.1] at hq
      exact fin (show _ = true from hq) h.2.1 h.2.2.1 h.2.2.2.1 h.2.2.2.2.1 h.2.2.2.2.2.1 h.2.2.2.2.2.2
    · have hq := q3
      rw [show Nat.blt 0 (cnt tl (-1) 1 2 nl) = true from Nat.ble_eq_true_of_le h.1] at hq
      exact fin (show _ = true from hq) h.2.1 h.2.2.1 h.2.2.2.1 h.2.2.2.2.1 h.2.2.2.2.2.1 h.2.2.2.2.2.2
    · have hq := q4
      rw [show Nat.blt 0 (cnt tl (-1) 1 3 nl) = true from Nat.ble_eq_true_of_le h.1] at hq
      exact fin (show _ = true from hq) h.2.1 h.2.2.1 h.2.2.2.1 h.2.2.2.2.1 h.2.2.2.2.2.1 h.2.2.2.2.2.2
    · have hq := q5
      rw [show Nat.blt 0 (cnt tl (-1) 2 3 nl) = true from Nat.ble_eq_true_of_le h.1] at hq
      exact fin (show _ = true from hq) h.2.1 h.2.2.1 h.2.2.2.1 h.2.2.2.2.1 h.2.2.2.2.2.1 h.2.2.2.2.2.2
end NET


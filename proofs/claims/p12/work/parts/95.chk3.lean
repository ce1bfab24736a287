/-! The checker: linear forms, points, contracts. -/
abbrev LF : Type := Int × List (Nat × Int)
def lft (σ : Nat → Int) : List (Nat × Int) → Int
  | [] => 0
  | x :: t => x.2 * σ x.1 + lft σ t
def lfv (σ : Nat → Int) (F : LF) : Int := F.1 + lft σ F.2
def cof (s : Nat) : List (Nat × Int) → Int
  | [] => 0
  | x :: t => (bif Nat.beq x.1 s then x.2 else 0) + cof s t
def wo (s : Nat) : List (Nat × Int) → List (Nat × Int)
  | [] => []
  | x :: t => bif Nat.beq x.1 s then wo s t else x :: wo s t
theorem lft_wo (σ : Nat → Int) (s : Nat) : ∀ t : List (Nat × Int), lft σ t = cof s t * σ s + lft σ (wo s t)
  | [] => by show (0 : Int) = 0 * σ s + 0; omega
  | x :: t => by
    have ih := lft_wo σ s t
    show x.2 * σ x.1 + lft σ t = ((bif Nat.beq x.1 s then x.2 else 0) + cof s t) * σ s + lft σ (bif Nat.beq x.1 s then wo s t else x :: wo s t)
    cases h : Nat.beq x.1 s with
    | true =>
      have := Nat.eq_of_beq_eq_true h
      show x.2 * σ x.1 + lft σ t = (x.2 + cof s t) * σ s + lft σ (wo s t)
      rw [this, Int.add_mul, ih]
      omega
    | false =>
      show x.2 * σ x.1 + lft σ t = (0 + cof s t) * σ s + (x.2 * σ x.1 + lft σ (wo s t))
      rw [Int.zero_add, ih]
      omega
def ubt (E : List EV) : Nat → List (Nat × Int) → Option Int
  | _, [] => some 0
  | 0, _ :: _ => none
  | n + 1, x :: t => bif Nat.blt x.1 E.length then (ubt E n (wo x.1 t)).map (fun u => (bif decide (0 ≤ x.2 + cof x.1 t) then (x.2 + cof x.1 t) * (evg E x.1).2.1 else (x.2 + cof x.1 t) * (evg E x.1).1) + u) else none
theorem ubt_t {E : List EV} {σ : Nat → Int} (hE : EM E σ) : ∀ {n : Nat} {t : List (Nat × Int)} {u : Int}, ubt E n t = some u → lft σ t ≤ u
  | 0, [], u, h => by cases h; exact Int.le_refl _
  | _ + 1, [], u, h => by cases h; exact Int.le_refl _
  | 0, _ :: _, _, h => by cases h
  | n + 1, x :: t, u, h => by
    unfold ubt at h
    cases h1 : Nat.blt x.1 E.length with
    | false => rw [h1] at h; cases h
    | true =>
      rw [h1] at h
      have h : (ubt E n (wo x.1 t)).map (fun u => (bif decide (0 ≤ x.2 + cof x.1 t) then (x.2 + cof x.1 t) * (evg E x.1).2.1 else (x.2 + cof x.1 t) * (evg E x.1).1) + u) = some u := h
      cases h2 : ubt E n (wo x.1 t) with
      | none => rw [h2] at h; cases h
      | some u' =>
        rw [h2] at h
        cases h
        have ih := ubt_t hE h2
        obtain ⟨b1, b2, -⟩ := hE x.1 (Nat.le_of_ble_eq_true h1)
        show x.2 * σ x.1 + lft σ t ≤ _
        rw [lft_wo σ x.1 t]
        have e : x.2 * σ x.1 + (cof x.1 t * σ x.1 + lft σ (wo x.1 t)) = (x.2 + cof x.1 t) * σ x.1 + lft σ (wo x.1 t) := by rw [Int.add_mul]; omega
        rw [e]
        generalize x.2 + cof x.1 t = c
        cases h3 : decide (0 ≤ c) with
        | true =>
          have := Int.mul_le_mul_of_nonneg_left b2 (of_decide_eq_true h3)
          show c * σ x.1 + lft σ (wo x.1 t) ≤ c * (evg E x.1).2.1 + u'
          omega
        | false =>
          have h4 : c ≤ 0 := by have := of_decide_eq_false h3; omega
          have := Int.mul_le_mul_of_nonpos_left h4 b1
          show c * σ x.1 + lft σ (wo x.1 t) ≤ c * (evg E x.1).1 + u'
          omega
def chkF (E : List EV) (c : Int) (t : List (Nat × Int)) : Bool := match ubt E t.length t with
  | some u => decide (c + u ≤ 0)
  | none => false
theorem chkF_t {E : List EV} {σ : Nat → Int} {c : Int} {t : List (Nat × Int)} (hE : EM E σ) (h : chkF E c t = true) : c + lft σ t ≤ 0 := by
  unfold chkF at h
  split at h
  · rename_i u hu
    have := ubt_t hE hu
    have := of_decide_eq_true h
    omega
  · cases h
def negT : List (Nat × Int) → List (Nat × Int)
  | [] => []
  | x :: t => (x.1, -x.2) :: negT t
theorem lft_neg (σ : Nat → Int) : ∀ t : List (Nat × Int), lft σ (negT t) = -lft σ t
  | [] => rfl
  | x :: t => by
    show -x.2 * σ x.1 + lft σ (negT t) = -(x.2 * σ x.1 + lft σ t)
    rw [lft_neg σ t, Int.neg_mul]
    omega
theorem lft_app (σ : Nat → Int) : ∀ t u : List (Nat × Int), lft σ (t ++ u) = lft σ t + lft σ u
  | [], u => by show lft σ u = 0 + lft σ u; omega
  | x :: t, u => by
    show x.2 * σ x.1 + lft σ (t ++ u) = x.2 * σ x.1 + lft σ t + lft σ u
    rw [lft_app σ t u]
    omega
def ltT (n : Nat) (t : List (Nat × Int)) : Bool := t.all (fun x => Nat.blt x.1 n)
theorem lft_cong {σ σ' : Nat → Int} {n : Nat} (h : ∀ s, s < n → σ' s = σ s) : ∀ {t : List (Nat × Int)}, ltT n t = true → lft σ' t = lft σ t
  | [], _ => rfl
  | x :: t, q => by
    unfold ltT at q
    rw [List.all_cons, Bool.and_eq_true] at q
    show x.2 * σ' x.1 + lft σ' t = x.2 * σ x.1 + lft σ t
    rw [h x.1 (Nat.le_of_ble_eq_true q.1), lft_cong h q.2]
/-- numbers of a point out of numbers of a state -/
def sgS (m : Nat) (σ : Nat → Int) (sub : List (Nat × Int)) : Nat → Int := fun s => if s < m then σ s else match sub[s - m]? with
  | some x => σ x.1 + x.2
  | none => 0
theorem sgS_lt {m : Nat} {σ : Nat → Int} {sub : List (Nat × Int)} {s : Nat} (h : s < m) : sgS m σ sub s = σ s := if_pos h
theorem sgS_at {m : Nat} {σ : Nat → Int} {sub : List (Nat × Int)} {i : Nat} {x : Nat × Int} (h : sub[i]? = some x) : sgS m σ sub (m + i) = σ x.1 + x.2 := by
  unfold sgS
  rw [if_neg (by omega), show m + i - m = i by omega, h]
def sbF (m : Nat) (sub : List (Nat × Int)) : List (Nat × Int) → LF
  | [] => (0, [])
  | x :: t => bif Nat.blt x.1 m then ((sbF m sub t).1, x :: (sbF m sub t).2) else ((sbF m sub t).1 + x.2 * (sub.getD (x.1 - m) (0, 0)).2, ((sub.getD (x.1 - m) (0, 0)).1, x.2) :: (sbF m sub t).2)
theorem sbF_t {m : Nat} {σ : Nat → Int} {sub : List (Nat × Int)} : ∀ {t : List (Nat × Int)}, ltT (m + sub.length) t = true → lft (sgS m σ sub) t = lfv σ (sbF m sub t)
  | [], _ => rfl
  | x :: t, h => by
    unfold ltT at h
    rw [List.all_cons, Bool.and_eq_true] at h
    have ih := sbF_t (σ := σ) (t := t) h.2
    have hx : x.1 + 1 ≤ m + sub.length := Nat.le_of_ble_eq_true h.1
    show x.2 * sgS m σ sub x.1 + lft (sgS m σ sub) t = lfv σ (bif Nat.blt x.1 m then ((sbF m sub t).1, x :: (sbF m sub t).2) else ((sbF m sub t).1 + x.2 * (sub.getD (x.1 - m) (0, 0)).2, ((sub.getD (x.1 - m) (0, 0)).1, x.2) :: (sbF m sub t).2))
    rw [ih]
    unfold lfv
    cases h1 : Nat.blt x.1 m with
    | true =>
      have : x.1 + 1 ≤ m := Nat.le_of_ble_eq_true h1
      rw [sgS_lt this]
      show x.2 * σ x.1 + ((sbF m sub t).1 + lft σ (sbF m sub t).2) = (sbF m sub t).1 + (x.2 * σ x.1 + lft σ (sbF m sub t).2)
      omega
    | false =>
      have h2 : m ≤ x.1 := by
        refine Nat.le_of_not_lt (fun q => ?_)
        have : Nat.blt x.1 m = true := Nat.ble_eq_true_of_le q
        rw [h1] at this
        cases this
      obtain ⟨y, hy⟩ : ∃ y, sub[x.1 - m]? = some y := ⟨_, List.getElem?_eq_getElem (by omega)⟩
      have e := sgS_at (m := m) (σ := σ) hy
      rw [show m + (x.1 - m) = x.1 by omega] at e
      rw [e, List.getD_eq_getElem?_getD, hy]
      show x.2 * (σ y.1 + y.2) + ((sbF m sub t).1 + lft σ (sbF m sub t).2) = ((sbF m sub t).1 + x.2 * y.2) + (x.2 * σ y.1 + lft σ (sbF m sub t).2)
      rw [Int.mul_add]
      omega
/-- a form of the point is, with c, at most one of the start -/
def leF (E : List EV) (m m0 : Nat) (sub : List (Nat × Int)) (c : Int) (F G : LF) : Bool := ltT (m + sub.length) F.2 && (ltT m0 G.2 && chkF E (c + F.1 + (sbF m sub F.2).1 - G.1) ((sbF m sub F.2).2 ++ negT G.2))
theorem leF_t {E : List EV} {m m0 : Nat} {sub : List (Nat × Int)} {c : Int} {F G : LF} {σ σ0 : Nat → Int} (hE : EM E σ) (h0 : ∀ s, s < m0 → σ s = σ0 s) (h : leF E m m0 sub c F G = true) : c + lfv (sgS m σ sub) F ≤ lfv σ0 G := by
  unfold leF at h
  rw [Bool.and_eq_true, Bool.and_eq_true] at h
  obtain ⟨h1, h2, h3⟩ := h
  have := chkF_t hE h3
  rw [lft_app, lft_neg, lft_cong h0 h2] at this
  have e := sbF_t (σ := σ) h1
  unfold lfv at e ⊢
  omega
/-- points: place, state, measure, room -/
abbrev PT9 : Type := Nat × ST × LF × LF
def inM (m : Nat) (Ep Ec : List EV) : Bool := (List.range m).all (fun s => incl (evg Ep s) (evg Ec s) 0)
theorem inM_t {m : Nat} {Ep Ec : List EV} {σ : Nat → Int} (hE : EM Ec σ) (hm : m ≤ Ec.length) (h : inM m Ep Ec = true) {s : Nat} (hs : s < m) : (evg Ep s).1 ≤ σ s ∧ σ s ≤ (evg Ep s).2.1 ∧ ((evg Ep s).2.2 = true → σ s ≠ 0) := by
  unfold inM at h
  rw [List.all_eq_true] at h
  have h := h s (List.mem_range.mpr hs)
  obtain ⟨b1, b2, b3⟩ := hE s (Nat.lt_of_lt_of_le hs hm)
  have := incl_t h b1 b2 b3
  rwa [show σ s + 0 = σ s by omega] at this
def arr (K : KX) (m m0 : Nat) (Fm Fa : LF) (Q : PT9) (A : ST) (q : Nat) : Bool :=
  match ent K m Q.2.1.1 A.1 m Q.2.1.2.1 A.2.1 with
  | none => false
  | some s1 => match ent K m Q.2.1.1 A.1 (m + s1.length) Q.2.1.2.2.1 A.2.2.1 with
    | none => false
    | some s2 => match ent K m Q.2.1.1 A.1 (m + s1.length + s2.length) Q.2.1.2.2.2 A.2.2.2 with
      | none => false
      | some s3 => Nat.beq Q.2.1.1.length (m + (s1 ++ (s2 ++ s3)).length) && (inM m Q.2.1.1 A.1 && (leF A.1 m m0 (s1 ++ (s2 ++ s3)) 1 Q.2.2.1 Fm && leF A.1 m m0 (s1 ++ (s2 ++ s3)) (Int.ofNat q) Q.2.2.2 Fa))
theorem ix1 {s1 s2 s3 : List (Nat × Int)} {i : Nat} {x : Nat × Int} (h : s1[i]? = some x) : (s1 ++ (s2 ++ s3))[i]? = some x := by
  rw [List.getElem?_append_left (List.getElem?_eq_some_iff.mp h).1]; exact h
theorem ix2 {s1 s2 s3 : List (Nat × Int)} {i : Nat} {x : Nat × Int} (h : s2[i]? = some x) : (s1 ++ (s2 ++ s3))[s1.length + i]? = some x := by
  rw [List.getElem?_append_right (by omega), show s1.length + i - s1.length = i by omega, List.getElem?_append_left (List.getElem?_eq_some_iff.mp h).1]; exact h
theorem ix3 {s1 s2 s3 : List (Nat × Int)} {i : Nat} {x : Nat × Int} (h : s3[i]? = some x) : (s1 ++ (s2 ++ s3))[s1.length + s2.length + i]? = some x := by
  rw [List.getElem?_append_right (by omega), show s1.length + s2.length + i - s1.length = s2.length + i by omega, List.getElem?_append_right (by omega), show s2.length + i - s2.length = i by omega]; exact h
theorem SV.ix {P : AV → Value → Prop} : ∀ {as : List AV} {S : List Value}, SV P as S → ∀ (i : Nat) (a : AV), as[i]? = some a → ∃ v : Value, S[i]? = some v ∧ P a v
  | [], _, _, _, _, h => by cases h
  | _ :: _, _, h, i, a, hi => by
    obtain ⟨v, S', rfl, h1, h2⟩ := h
    match i, hi with
    | 0, hi => cases hi; exact ⟨v, rfl, h1⟩
    | i + 1, hi => exact SV.ix h2 i a hi
theorem SV.of {P Q : AV → Value → Prop} : ∀ {ps cs : List AV} {S : List Value}, SV P cs S → ps.length = cs.length → (∀ (i : Nat) (p : AV), ps[i]? = some p → ∃ c : AV, cs[i]? = some c ∧ ∀ v : Value, P c v → Q p v) → SV Q ps S
  | [], [], _, h, _, _ => h
  | [], _ :: _, _, _, h, _ => by cases h
  | _ :: _, [], _, _, h, _ => by cases h
  | p :: ps, c :: cs, S, h, hl, hq => by
    obtain ⟨v, S', rfl, h1, h2⟩ := h
    obtain ⟨c', e, w⟩ := hq 0 p rfl
    cases e
    exact ⟨v, S', rfl, w v h1, SV.of h2 (Nat.succ.inj hl) (fun i p' hp => hq (i + 1) p' hp)⟩
theorem sub_i {m n : Nat} {E Ep : List EV} {σ : Nat → Int} {sub : List (Nat × Int)} (hE : EM E σ) (hm : inM m Ep E = true) (hml : m ≤ E.length) (hl : n = m + sub.length) (hs : ∀ (i : Nat) (x : Nat × Int), sub[i]? = some x → (evg Ep (m + i)).1 ≤ σ x.1 + x.2 ∧ σ x.1 + x.2 ≤ (evg Ep (m + i)).2.1 ∧ ((evg Ep (m + i)).2.2 = true → σ x.1 + x.2 ≠ 0)) : ∀ s, s < n → (evg Ep s).1 ≤ sgS m σ sub s ∧ sgS m σ sub s ≤ (evg Ep s).2.1 ∧ ((evg Ep s).2.2 = true → sgS m σ sub s ≠ 0) := by
  intro s hs9
  rcases Nat.lt_or_ge s m with q | q
  · rw [sgS_lt q]
    exact inM_t hE hml hm q
  · obtain ⟨y, hy⟩ : ∃ y, sub[s - m]? = some y := ⟨_, List.getElem?_eq_getElem (by omega)⟩
    have e := sgS_at (m := m) (σ := σ) hy
    have b := hs _ _ hy
    rw [show m + (s - m) = s by omega] at e b
    rw [e]
    exact b
theorem vmlt {K : KX} {n0 n : Nat} {hs : List CE} {R : List Nat} {σ : Nat → Int} {a : AV} {v : Value} (h : VM K n0 hs R n σ a v) (ha : a.1 = 1 ∨ a.1 = 2) : a.2.1 < n := by
  rcases ha with ha | ha
  · obtain ⟨x, -, w, -⟩ := h.int ha; exact w
  · obtain ⟨x, -, w, -⟩ := h.lng ha; exact w
theorem arr_t {K : KX} {n0 m m0 nL : Nat} {Fm Fa : LF} {Q : PT9} {A : ST} {q : Nat} {hs : List CE} {R : List Nat} {σ σ0 : Nat → Int} {L : LN} {S : List Value} (hK : A.2.2.2.length ≤ K.2.2.length) (hm : m ≤ m0) (h : arr K m m0 Fm Fa Q A q = true) (hV : VX K n0 m0 nL σ0 hs R σ A L S) :
    ∃ σ' : Nat → Int, (∀ s, s < m → σ' s = σ0 s) ∧ VX K n0 Q.2.1.1.length nL σ' hs R σ' Q.2.1 L S ∧ 1 + lfv σ' Q.2.2.1 ≤ lfv σ0 Fm ∧ (q : Int) + lfv σ' Q.2.2.2 ≤ lfv σ0 Fa := by
  obtain ⟨v1, v2, v3, v4, v5, v6, v7⟩ := hV
  unfold arr at h
  split at h
  · cases h
  rename_i s1 e1
  split at h
  · cases h
  rename_i s2 e2
  split at h
  · cases h
  rename_i s3 e3
  rw [Bool.and_eq_true, Bool.and_eq_true, Bool.and_eq_true] at h
  obtain ⟨w1, w2, w3, w4⟩ := h
  have w1 := Nat.eq_of_beq_eq_true w1
  have hmA : m ≤ A.1.length := Nat.le_trans hm v2
  have hlen : (s1 ++ (s2 ++ s3)).length = s1.length + (s2.length + s3.length) := by rw [List.length_append, List.length_append]
  have hσ : ∀ s, s < m → sgS m σ (s1 ++ (s2 ++ s3)) s = σ s := fun s hs => sgS_lt hs
  have a1 := ent_t (n0 := n0) (n0' := n0) (hs := hs) (hs' := hs) (R := R) (n' := Q.2.1.1.length) (σ' := sgS m σ (s1 ++ (s2 ++ s3))) v3 hσ (by omega) e1 (fun i x hx => sgS_at (ix1 hx)) (by omega)
  have a2 := ent_t (n0 := n0) (n0' := n0) (hs := hs) (hs' := hs) (R := R) (n' := Q.2.1.1.length) (σ' := sgS m σ (s1 ++ (s2 ++ s3))) v3 hσ (by omega) e2 (fun i x hx => by rw [show m + s1.length + i = m + (s1.length + i) by omega]; exact sgS_at (ix2 hx)) (by omega)
  have a3 := ent_t (n0 := n0) (n0' := n0) (hs := hs) (hs' := hs) (R := R) (n' := Q.2.1.1.length) (σ' := sgS m σ (s1 ++ (s2 ++ s3))) v3 hσ (by omega) e3 (fun i x hx => by rw [show m + s1.length + s2.length + i = m + (s1.length + s2.length + i) by omega]; exact sgS_at (ix3 hx)) (by omega)
  have b1 := ent_b (n0 := n0) (hs := hs) (R := R) v3 e1 (fun i c hc ht => by
    have h0 : c.1 ≠ 0 := by rcases ht with q | q <;> rw [q] <;> decide
    obtain ⟨v, z1, z2⟩ := v5 i c hc h0
    exact vmlt z2 ht)
  have b2 := ent_b (n0 := n0) (hs := hs) (R := R) v3 e2 (fun i c hc ht => by
    obtain ⟨v, z1, z2⟩ := v6.ix i c hc
    exact vmlt z2 ht)
  have b3 := ent_b (n0 := n0) (hs := hs) (R := R) v3 e3 (fun i c hc ht => by
    have hi : i < K.2.2.length := Nat.lt_of_lt_of_le (List.getElem?_eq_some_iff.mp hc).1 hK
    exact vmlt (v7 i _ c (List.getElem?_eq_getElem hi) hc) ht)
  refine ⟨sgS m σ (s1 ++ (s2 ++ s3)), fun s hs => (hσ s hs).trans (v1 s (Nat.lt_of_lt_of_le hs hm)), ⟨fun _ _ => rfl, Nat.le_refl _, ?_, v4, fun i p hp h0 => ?_, ?_, fun i q p hq hp => ?_⟩, leF_t v3 v1 w3, leF_t v3 v1 w4⟩
  · refine sub_i v3 w2 hmA w1 (fun i x hx => ?_)
    rcases Nat.lt_or_ge i s1.length with z | z
    · rw [List.getElem?_append_left z] at hx
      exact (b1 i x hx).2
    · rw [List.getElem?_append_right z] at hx
      rcases Nat.lt_or_ge (i - s1.length) s2.length with y | y
      · rw [List.getElem?_append_left y] at hx
        have := (b2 _ x hx).2
        rwa [show m + s1.length + (i - s1.length) = m + i by omega] at this
      · rw [List.getElem?_append_right y] at hx
        have := (b3 _ x hx).2
        rwa [show m + s1.length + s2.length + (i - s1.length - s2.length) = m + i by omega] at this
  · obtain ⟨c, z1, z2⟩ := a1.2 i p hp
    by_cases h9 : c.1 = 0
    · exact absurd h9 ((z2 .null (Or.inl h9)).1 h0)
    · obtain ⟨v, y1, y2⟩ := v5 i c z1 h9
      exact ⟨v, y1, (z2 v y2).2⟩
  · exact SV.of v6 a2.1 (fun i p hp => by
      obtain ⟨c, z1, z2⟩ := a2.2 i p hp
      exact ⟨c, z1, fun v hv => (z2 v hv).2⟩)
  · obtain ⟨c, z1, z2⟩ := a3.2 i p hp
    exact (z2 _ (v7 i q c hq z1)).2
/-- ends: kind, further numbers, answer, registers, bounds of the numbers before -/
abbrev PS9 : Type := Nat × List EV × List AV × List AV × List EV
/-- method; numbers, arguments, registers; ends; frames, words, room, locals -/
abbrev CT9 : Type := Nat × (List EV × List AV × List AV) × List PS9 × (Nat × Nat × Nat × Nat)
def RgM (K : KX) (hs : List CE) (R : List Nat) (n : Nat) (σ : Nat → Int) (Rg : List AV) : Prop := ∀ (i : Nat) (q : Nat × Nat × Nat) (a : AV), K.2.2[i]? = some q → Rg[i]? = some a → VM K 0 hs R n σ a (rd hs q.2.1 q.2.2)
def PO9 (K : KX) (Inv : List Nat → List CE → Prop) (c : CT9) (R : List Nat) (hs : List CE) (σ : Nat → Int) : Nat → Option Value → List CE → Prop := fun kd r h2 =>
  ∃ (R' : List Nat) (σ' : Nat → Int) (pt : PS9), pt ∈ c.2.2.1 ∧ pt.1 = kd ∧ HX K Inv R hs R' h2 ∧ h2.length ≤ hs.length + c.2.2.2.2.2.1 ∧ (∀ s, s < c.2.1.1.length → σ' s = σ s) ∧ pt.2.2.2.2.length = c.2.1.1.length ∧ EM (pt.2.2.2.2 ++ pt.2.1) σ' ∧ SV (VM K 0 h2 R' (c.2.1.1 ++ pt.2.1).length σ') pt.2.2.1 r.toList ∧ RgM K h2 R' (c.2.1.1 ++ pt.2.1).length σ' pt.2.2.2.1
/-- the array classes are there -/
def TYg (g : GG) : Prop := ∀ c : Nat, 32 ≤ c → c ≤ 41 → ∃ cA : ClassId, g.2.1[c - 32]? = some (cA, aty c)
def SemC (K : KX) (Inv : List Nat → List CE → Prop) (c : CT9) : Prop :=
  ∃ d : MD, mdx c.1 = some d ∧ d.2.2.1 = c.2.2.2.2.2.2 ∧ ∀ (g0 : GG) (bl : Nat) (xs : Nat → Int32) (l : Launch) (hs : List CE) (R : List Nat) (σ : Nat → Int) (as : List Value),
    TYg g0 → HTy K R hs → Inv R hs → hs.length + c.2.2.2.2.2.1 ≤ 6999999999999 → EM c.2.1.1 σ → SV (VM K 0 hs R c.2.1.1.length σ) c.2.1.2.1 as → RgM K hs R c.2.1.1.length σ c.2.1.2.2 →
    BodyN SSX TBL g0 CLS bl xs l d c.2.2.2.1 c.2.2.2.2.1 c.2.2.2.2.2.1 (11 * c.2.2.2.2.2.1) as hs (PO9 K Inv c R hs σ)

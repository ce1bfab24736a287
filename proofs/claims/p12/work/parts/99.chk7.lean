/-! The checker's operations: calls, making, switches. -/
/-- numbers after a call -/
def mpA (m n : Nat) (sub : List (Nat × Int)) (a : AV) : AV :=
  bif Nat.beq a.1 1 then (bif Nat.blt a.2.1 m then (1, (sub.getD a.2.1 (0, 0)).1, 0, (sub.getD a.2.1 (0, 0)).2 + a.2.2.2) else (1, n + (a.2.1 - m), 0, a.2.2.2))
  else bif Nat.beq a.1 2 then (bif Nat.blt a.2.1 m then (bif decide ((sub.getD a.2.1 (0, 0)).2 = 0) then (2, (sub.getD a.2.1 (0, 0)).1, 0, 0) else (0, 0, 0, 0)) else (2, n + (a.2.1 - m), 0, 0))
  else bif Nat.beq a.1 6 || Nat.beq a.1 11 then (0, 0, 0, 0) else a
def cmS (n m : Nat) (σ σ' : Nat → Int) : Nat → Int := fun s => if s < n then σ s else σ' (s - n + m)
theorem cmS_lt {n m : Nat} {σ σ' : Nat → Int} {s : Nat} (h : s < n) : cmS n m σ σ' s = σ s := if_pos h
theorem cmS_ge {n m : Nat} {σ σ' : Nat → Int} {s : Nat} (h : m ≤ s) : cmS n m σ σ' (n + (s - m)) = σ' s := by
  unfold cmS
  rw [if_neg (by omega), show n + (s - m) - n + m = s by omega]
theorem mpA_t {K : KX} {n0 m n x : Nat} {hs : List CE} {R : List Nat} {σ σ' : Nat → Int} {sub : List (Nat × Int)} {a : AV} {v : Value} (hl : sub.length = m) (hs9 : ∀ (i : Nat) (y : Nat × Int), sub[i]? = some y → y.1 < n ∧ σ' i = σ y.1 + y.2) (hv : VM K 0 hs R (m + x) σ' a v) : VM K n0 hs R (n + x) (cmS n m σ σ') (mpA m n sub a) v := by
  obtain ⟨t, a1, a2, a3⟩ := a
  have get : ∀ i, i < m → (sub.getD i (0, 0)).1 < n ∧ σ' i = σ (sub.getD i (0, 0)).1 + (sub.getD i (0, 0)).2 := fun i hi => by
    obtain ⟨y, hy⟩ : ∃ y, sub[i]? = some y := ⟨_, List.getElem?_eq_getElem (by omega)⟩
    rw [List.getD_eq_getElem?_getD, hy]
    exact hs9 i y hy
  unfold mpA
  cases h1 : Nat.beq t 1 with
  | true =>
    have := Nat.eq_of_beq_eq_true h1
    subst this
    obtain ⟨z, rfl, lz, ez⟩ := hv.int rfl
    have lz : a1 < m + x := lz
    have ez : z.toInt = σ' a1 + a3 := ez
    cases h2 : Nat.blt a1 m with
    | true =>
      obtain ⟨g1, g2⟩ := get a1 (blt_t h2)
      exact VM.mkI (Nat.lt_of_lt_of_le g1 (Nat.le_add_right _ _)) (by rw [cmS_lt g1]; show z.toInt = σ (sub.getD a1 (0, 0)).1 + ((sub.getD a1 (0, 0)).2 + a3); omega)
    | false =>
      have h3 : m ≤ a1 := Nat.le_of_not_lt (fun r => by rw [show Nat.blt a1 m = true from Nat.ble_eq_true_of_le r] at h2; cases h2)
      exact VM.mkI (by omega) (by rw [cmS_ge h3]; exact ez)
  | false =>
    cases h4 : Nat.beq t 2 with
    | true =>
      have := Nat.eq_of_beq_eq_true h4
      subst this
      obtain ⟨z, rfl, lz, ez⟩ := hv.lng rfl
      have lz : a1 < m + x := lz
      have ez : z.toInt = σ' a1 := ez
      cases h2 : Nat.blt a1 m with
      | true =>
        obtain ⟨g1, g2⟩ := get a1 (blt_t h2)
        cases h5 : decide ((sub.getD a1 (0, 0)).2 = 0) with
        | true =>
          have := of_decide_eq_true h5
          exact VM.mkL (Nat.lt_of_lt_of_le g1 (Nat.le_add_right _ _)) (by rw [cmS_lt g1]; omega)
        | false => exact Or.inl rfl
      | false =>
        have h3 : m ≤ a1 := Nat.le_of_not_lt (fun r => by rw [show Nat.blt a1 m = true from Nat.ble_eq_true_of_le r] at h2; cases h2)
        exact VM.mkL (by omega) (by rw [cmS_ge h3]; exact ez)
    | false =>
      cases h6 : Nat.beq t 6 || Nat.beq t 11 with
      | true => exact Or.inl rfl
      | false =>
        show VM K n0 hs R (n + x) (cmS n m σ σ') (t, a1, a2, a3) v
        have n1 : t ≠ 1 := fun r => by rw [r] at h1; cases h1
        have n2 : t ≠ 2 := fun r => by rw [r] at h4; cases h4
        have n6 : t ≠ 6 := fun r => by rw [r] at h6; cases h6
        have n11 : t ≠ 11 := fun r => by rw [r] at h6; cases h6
        rcases hv with h | ⟨e, _⟩ | ⟨e, _⟩ | ⟨e, h⟩ | ⟨e, h⟩ | h | ⟨e, _⟩ | h | h | h | ⟨e, _⟩
        · exact Or.inl h
        · exact absurd e n1
        · exact absurd e n2
        · exact Or.inr (Or.inr (Or.inr (Or.inl ⟨e, h⟩)))
        · exact Or.inr (Or.inr (Or.inr (Or.inr (Or.inl ⟨e, h⟩))))
        · exact Or.inr (Or.inr (Or.inr (Or.inr (Or.inr (Or.inl h)))))
        · exact absurd e n6
        · exact Or.inr (Or.inr (Or.inr (Or.inr (Or.inr (Or.inr (Or.inr (Or.inl h)))))))
        · exact Or.inr (Or.inr (Or.inr (Or.inr (Or.inr (Or.inr (Or.inr (Or.inr (Or.inl h))))))))
        · exact Or.inr (Or.inr (Or.inr (Or.inr (Or.inr (Or.inr (Or.inr (Or.inr (Or.inr (Or.inl h)))))))))
        · exact absurd e n11
theorem SV.mp {K : KX} {n0 m n x : Nat} {hs : List CE} {R : List Nat} {σ σ' : Nat → Int} {sub : List (Nat × Int)} (hl : sub.length = m) (hs9 : ∀ (i : Nat) (y : Nat × Int), sub[i]? = some y → y.1 < n ∧ σ' i = σ y.1 + y.2) : ∀ {as : List AV} {S : List Value}, SV (VM K 0 hs R (m + x) σ') as S → SV (VM K n0 hs R (n + x) (cmS n m σ σ')) (as.map (mpA m n sub)) S
  | [], _, h => h
  | _ :: _, _, h => by
    obtain ⟨v, S', rfl, h1, h2⟩ := h
    exact ⟨v, S', rfl, mpA_t hl hs9 h1, SV.mp hl hs9 h2⟩
/-- the state after an end of a callee -/
def rfA : List EV → List (Nat × Int) → List EV → List EV
  | E, x :: sub, r :: rs => rfA (E.set x.1 (mxI (evg E x.1).1 (r.1 - x.2), mnI (evg E x.1).2.1 (r.2.1 - x.2), (evg E x.1).2.2 || (r.2.2 && decide (x.2 = 0)))) sub rs
  | E, _, _ => E
theorem rfA_len : ∀ (E : List EV) (sub : List (Nat × Int)) (rs : List EV), (rfA E sub rs).length = E.length
  | _, [], _ => by unfold rfA; rfl
  | _, _ :: _, [] => by unfold rfA; rfl
  | E, x :: sub, r :: rs => by
    unfold rfA
    rw [rfA_len, List.length_set]
theorem EM.rfa {σ : Nat → Int} : ∀ {E : List EV} {sub : List (Nat × Int)} {rs : List EV}, EM E σ → (∀ (i : Nat) (x : Nat × Int) (r : EV), sub[i]? = some x → rs[i]? = some r → x.1 < E.length ∧ r.1 ≤ σ x.1 + x.2 ∧ σ x.1 + x.2 ≤ r.2.1 ∧ (r.2.2 = true → σ x.1 + x.2 ≠ 0)) → EM (rfA E sub rs) σ
  | _, [], _, h, _ => by unfold rfA; exact h
  | _, _ :: _, [], h, _ => by unfold rfA; exact h
  | E, x :: sub, r :: rs, h, hq => by
    unfold rfA
    obtain ⟨q1, q2, q3, q4⟩ := hq 0 x r rfl rfl
    obtain ⟨b1, b2, b3⟩ := h x.1 q1
    refine EM.rfa (h.set (mxI_t b1 (by omega)) (mnI_t b2 (by omega)) (fun z => ?_)) (fun i y t hi ht => by rw [List.length_set]; exact hq (i + 1) y t hi ht)
    have z : ((evg E x.1).2.2 || (r.2.2 && decide (x.2 = 0))) = true := z
    rw [Bool.or_eq_true, Bool.and_eq_true] at z
    rcases z with z | ⟨z, z2⟩
    · exact b3 z
    · have := q4 z
      have := of_decide_eq_true z2
      omega
def afS (A : ST) (St : List AV) (m : Nat) (sub : List (Nat × Int)) (pt : PS9) (res : List AV) : ST := (rfA A.1 sub pt.2.2.2.2 ++ pt.2.1, A.2.1, res ++ St, pt.2.2.2.1.map (mpA m A.1.length sub))
def rcvA (K : KX) (b : Nat) (as : List AV) : Bool := bif Nat.beq (b / 524288 % 2) 1 then (match as with
  | (3, g, _, _) :: _ => Nat.blt g 1000 && (Nat.beq (b >>> 68) 0 || Nat.beq (b >>> 68) (kdK K g + 1))
  | _ => false) else true
theorem rcvA_t {K : KX} {hs : List CE} {R : List Nat} {n : Nat} {σ : Nat → Int} {b : Nat} {as : List AV} {vs : List Value} (hT : HTy K R hs) (h : rcvA K b as = true) (hv : SV (VM K 0 hs R n σ) as vs) : RcvN hs vs b := by
  intro hb
  unfold rcvA at h
  rw [hb, Nat.beq_refl, cond_true] at h
  split at h
  · obtain ⟨v, S', rfl, h1, h2⟩ := hv
    rw [Bool.and_eq_true, Bool.or_eq_true] at h
    obtain ⟨k, rfl, hk, h0⟩ := (h1.rf3 rfl).one h.1
    refine ⟨k, S', rfl, _, shp_at (hT.2.1 k _ hk h0).1, ?_⟩
    rcases h.2 with z | z
    · exact Or.inl (Nat.eq_of_beq_eq_true z)
    · exact Or.inr (Nat.eq_of_beq_eq_true z)
  · cases h
def cal1 (K : KX) (ct : CT9) (hh : Bool) (m0 : Nat) (Fa : LF) (c : CT9) (w : Nat) (A : ST) (q : Nat) (go : GO) : Bool :=
  match ent K 0 c.2.1.1 A.1 0 c.2.1.2.1 (A.2.2.1.take (fb w % 16)).reverse with
  | none => false
  | some s1 => match ent K 0 c.2.1.1 A.1 (0 + s1.length) c.2.1.2.2 A.2.2.2 with
    | none => false
    | some s2 => Nat.beq c.2.1.1.length (s1 ++ s2).length && (Nat.beq c.2.1.2.1.length (fb w % 16) && (Nat.ble A.2.2.2.length K.2.2.length && (Nat.ble (c.2.2.2.1 + 1) ct.2.2.2.1 && (Nat.ble (8 + (c.2.2.2.2.2.2 + 11) + c.2.2.2.2.1) ct.2.2.2.2.1 && (Nat.ble (catS (A.2.2.1.drop (fb w % 16))) 8 && (Nat.ble (catS c.2.1.2.1) c.2.2.2.2.2.2 && (rcvA K (fb w) c.2.1.2.1 && (okq A.1 m0 Fa (q + c.2.2.2.2.2.1) &&
      c.2.2.1.all (fun pt => bif Nat.beq pt.1 0 then go (nxt w) (afS A (A.2.2.1.drop (fb w % 16)) c.2.1.1.length (s1 ++ s2) pt (pt.2.2.1.map (mpA c.2.1.1.length A.1.length (s1 ++ s2)))) (q + c.2.2.2.2.2.1)
        else bif Nat.beq ((fb w >>> (20 + 12 * (pt.1 - 1))) % 4096) 0 then hh && poF K ct pt.1 (rfA A.1 (s1 ++ s2) pt.2.2.2.2 ++ pt.2.1) [] (pt.2.2.2.1.map (mpA c.2.1.1.length A.1.length (s1 ++ s2)))
        else go ((fb w >>> (20 + 12 * (pt.1 - 1))) % 4096) (afS A [] c.2.1.1.length (s1 ++ s2) pt [(7, 0, 0, 0)]) (q + c.2.2.2.2.2.1))))))))))
theorem HX.tr {K : KX} {Inv : List Nat → List CE → Prop} {R0 R R' : List Nat} {hs0 hs hs' : List CE} (h1 : HX K Inv R0 hs0 R hs) (h2 : HX K Inv R hs R' hs') : HX K Inv R0 hs0 R' hs' :=
  ⟨h2.1, fun k r h => h2.2.1 k r (h1.2.1 k r h), fun k r h hf => (h2.2.2.1 k r (h1.2.1 k r h) hf).trans (h1.2.2.1 k r h hf), h2.2.2.2⟩
theorem HX.sb {K : KX} {Inv : List Nat → List CE → Prop} {R R' : List Nat} {hs hs' : List CE} (h : HX K Inv R hs R' hs') : SBx R hs R' hs' := ⟨h.2.1, fun k hk => h.2.2.1 k 0 hk rfl⟩
section OPS4
variable {K : KX} {Inv : List Nat → List CE → Prop} {R0 : List Nat} {hs0 : List CE} {m0 kcP ksP lnP : Nat} {σ0 : Nat → Int}
variable {g : GG} {bl : Nat} {xs : Nat → Int32} {d : MD} {p : Program} {l : Launch} {e : Env} {Rm : Room} {s : State} {mm : MethodId} {args : Array Value} {below : List Frame} {meth : Method} {c : Code} {Q : State → Prop} {kc0 ks0 pc w q : Nat} {A : ST} {go : GO}
variable {ct : CT9} {Fa : LF} {σe : Nat → Int} {KC KS : Nat}

theorem cal1_t {c9 : CT9} {hh : Bool} (act : Act SSX TBL g CLS bl xs d p l s mm args meth c) (hEnd : EndN SSX TBL g CLS d p l e Rm s mm args below meth c Q kc0 ks0 ct.2.2.2.1 ct.2.2.2.2.1 KC KS (PO9 K Inv ct R0 hs0 σe)) (hR : ROOMX ct Rm kc0 ks0 KC KS hs0 σ0 σe m0 Fa kcP ksP lnP) (hG : G_call SSX TBL CLS ftX mdx d pc w) (hgo : ∀ pc A q, go pc A q = true → Good K Inv R0 hs0 m0 d.2.2.1 kcP ksP lnP σ0 (WN g p l e Rm s mm args below meth c Q d kc0 ks0) pc A q) (hTY : TYg g) (hS : SemC K Inv c9) (hu : c9.1 = fa w) (hhh : hh = true → d.2.2.2.2 = []) (hps : ∀ pt ∈ c9.2.2.1, pt.1 ≤ 4 ∧ (pt.1 ≠ 0 → pt.2.2.1 = [])) (h : cal1 K ct hh m0 Fa c9 w A q go = true) : Good K Inv R0 hs0 m0 d.2.2.1 kcP ksP lnP σ0 (WN g p l e Rm s mm args below meth c Q d kc0 ks0) pc A q := by
  unfold cal1 at h
  split at h
  · cases h
  rename_i s1 e1
  split at h
  · cases h
  rename_i s2 e2
  simp only [Bool.and_eq_true] at h
  obtain ⟨w1, w2, w3, w4, w5, w6, w7, w8, w9, w10⟩ := h
  have w1 := Nat.eq_of_beq_eq_true w1
  have w2 := Nat.eq_of_beq_eq_true w2
  have w3 := Nat.le_of_ble_eq_true w3
  have w4 := Nat.le_of_ble_eq_true w4
  have w5 := Nat.le_of_ble_eq_true w5
  have w6 := Nat.le_of_ble_eq_true w6
  have w7 := Nat.le_of_ble_eq_true w7
  obtain ⟨d', hd1, hd2, hB⟩ := hS
  intro R σ L hs kc ks S hX hV k1 k2 k3
  have hR2 := hR
  obtain ⟨y1, y2, y3, y4, y5, y6, y7, y8, y9, y10, y11⟩ := hR2
  have hl2 : (s1 ++ s2).length = s1.length + s2.length := List.length_append
  obtain ⟨v1, v2, v3, v4, v5, v6, v7⟩ := hV
  have hq := okq_t v3 v1 w9
  have hst : A.2.2.1 = A.2.2.1.take (fb w % 16) ++ A.2.2.1.drop (fb w % 16) := (List.take_append_drop _ _).symm
  have v6' := v6
  rw [hst] at v6'
  obtain ⟨S1, S2, rfl, hS1, hS2⟩ := v6'.split
  have hS1r := hS1.rev
  -- the callee's numbers
  have hσ0 : ∀ s, s < 0 → sgS 0 σ (s1 ++ s2) s = σ s := fun s hs => absurd hs (Nat.not_lt_zero _)
  have at0 : ∀ (i : Nat) (x : Nat × Int), (s1 ++ s2)[i]? = some x → sgS 0 σ (s1 ++ s2) i = σ x.1 + x.2 := fun i x hx => by
    have := sgS_at (m := 0) (σ := σ) hx
    rwa [Nat.zero_add] at this
  have a1 := ent_t (n0 := R0.length) (n0' := 0) (hs := hs) (hs' := hs) (R := R) (n' := c9.2.1.1.length) (σ' := sgS 0 σ (s1 ++ s2)) v3 hσ0 (Nat.zero_le _) e1 (fun i x hx => by rw [Nat.zero_add]; exact at0 i x (ic1 hx)) (by omega)
  have a2 := ent_t (n0 := R0.length) (n0' := 0) (hs := hs) (hs' := hs) (R := R) (n' := c9.2.1.1.length) (σ' := sgS 0 σ (s1 ++ s2)) v3 hσ0 (Nat.zero_le _) e2 (fun i x hx => by rw [show 0 + s1.length + i = s1.length + i by omega]; exact at0 _ x (ic2 hx)) (by omega)
  have b1 := ent_b (n0 := R0.length) (hs := hs) (R := R) v3 e1 (fun i c hc ht => by
    obtain ⟨v, z1, z2⟩ := hS1r.ix i c hc
    exact vmlt z2 ht)
  have b2 := ent_b (n0 := R0.length) (hs := hs) (R := R) v3 e2 (fun i c hc ht => by
    have hi : i < K.2.2.length := Nat.lt_of_lt_of_le (List.getElem?_eq_some_iff.mp hc).1 w3
    exact vmlt (v7 i _ c (List.getElem?_eq_getElem hi) hc) ht)
  have bb : ∀ (i : Nat) (x : Nat × Int), (s1 ++ s2)[i]? = some x → x.1 < A.1.length ∧ (evg c9.2.1.1 i).1 ≤ σ x.1 + x.2 ∧ σ x.1 + x.2 ≤ (evg c9.2.1.1 i).2.1 ∧ ((evg c9.2.1.1 i).2.2 = true → σ x.1 + x.2 ≠ 0) := fun i x hx => by
    rcases Nat.lt_or_ge i s1.length with z | z
    · rw [List.getElem?_append_left z] at hx
      have := b1 i x hx
      rwa [Nat.zero_add] at this
    · rw [List.getElem?_append_right z] at hx
      have := b2 _ x hx
      rwa [show 0 + s1.length + (i - s1.length) = i by omega] at this
  have hEM : EM c9.2.1.1 (sgS 0 σ (s1 ++ s2)) := fun i hi => by
    obtain ⟨y, hy⟩ : ∃ y, (s1 ++ s2)[i]? = some y := ⟨_, List.getElem?_eq_getElem (by omega)⟩
    rw [at0 i y hy]
    exact (bb i y hy).2
  have hAS : SV (VM K 0 hs R c9.2.1.1.length (sgS 0 σ (s1 ++ s2))) c9.2.1.2.1 S1.reverse := SV.of hS1r a1.1 (fun i p hp => by
    obtain ⟨c, z1, z2⟩ := a1.2 i p hp
    exact ⟨c, z1, fun v hv => (z2 v hv).2⟩)
  have hRG : RgM K hs R c9.2.1.1.length (sgS 0 σ (s1 ++ s2)) c9.2.1.2.2 := fun i q p hq hp => by
    obtain ⟨c, z1, z2⟩ := a2.2 i p hp
    exact (z2 _ (v7 i q c hq z1)).2
  have hBody := hB g bl xs l hs R _ S1.reverse hTY hX.1 hX.2.2.2 (by omega) hEM hAS hRG
  have hlen : S1.reverse.length = fb w % 16 := by rw [hAS.len, w2]
  have hcat : (S2.map fun v => v.category).sum ≤ 8 := Nat.le_trans (catS_t hS2) w6
  -- after the call
  have aft : ∀ (pt : PS9) (r : Option Value) (h' : List CE) (R' : List Nat) (σ' : Nat → Int) (res : List AV) (St : List AV) (vs : List Value), HX K Inv R hs R' h' → (∀ s, s < c9.2.1.1.length → σ' s = sgS 0 σ (s1 ++ s2) s) → pt.2.2.2.2.length = c9.2.1.1.length → EM (pt.2.2.2.2 ++ pt.2.1) σ' → RgM K h' R' (c9.2.1.1 ++ pt.2.1).length σ' pt.2.2.2.1 →
      SV (VM K R0.length h' R' (A.1.length + pt.2.1.length) (cmS A.1.length c9.2.1.1.length σ σ')) (res ++ St) vs → VX K R0.length m0 d.2.2.1 σ0 h' R' (cmS A.1.length c9.2.1.1.length σ σ') (afS A St c9.2.1.1.length (s1 ++ s2) pt res) L vs := by
    intro pt r h' R' σ' res St vs hX' hσ' hrl hE' hR' hsv
    have hrf : (rfA A.1 (s1 ++ s2) pt.2.2.2.2).length = A.1.length := rfA_len _ _ _
    have hlen9 : (rfA A.1 (s1 ++ s2) pt.2.2.2.2 ++ pt.2.1).length = A.1.length + pt.2.1.length := by rw [List.length_append, hrf]
    have sub9 : ∀ (i : Nat) (y : Nat × Int), (s1 ++ s2)[i]? = some y → y.1 < A.1.length ∧ σ' i = σ y.1 + y.2 := fun i y hy => by
      have hi := (List.getElem?_eq_some_iff.mp hy).1
      exact ⟨(bb i y hy).1, by rw [hσ' i (by omega), at0 i y hy]⟩
    refine ⟨fun s hs9 => by rw [cmS_lt (Nat.lt_of_lt_of_le hs9 v2)]; exact v1 s hs9, by show m0 ≤ (rfA A.1 (s1 ++ s2) pt.2.2.2.2 ++ pt.2.1).length; omega, fun s hs9 => ?_, v4, fun i a hi ha => ?_, ?_, fun i q a hq ha => ?_⟩
    · have hs9 : s < (rfA A.1 (s1 ++ s2) pt.2.2.2.2 ++ pt.2.1).length := hs9
      have hEr : EM (rfA A.1 (s1 ++ s2) pt.2.2.2.2) σ := EM.rfa v3 (fun i x r hi hr => by
        have hi2 := (List.getElem?_eq_some_iff.mp hi).1
        obtain ⟨u1, u2⟩ := sub9 i x hi
        have u3 := hE' i (by rw [List.length_append, hrl]; omega)
        rw [evg_app_lt (by rw [hrl]; omega), u2] at u3
        have u4 : evg pt.2.2.2.2 i = r := by unfold evg; rw [List.getD_eq_getElem?_getD, hr]; rfl
        rw [u4] at u3
        exact ⟨u1, u3⟩)
      show (evg (rfA A.1 (s1 ++ s2) pt.2.2.2.2 ++ pt.2.1) s).1 ≤ _ ∧ _ ≤ (evg (rfA A.1 (s1 ++ s2) pt.2.2.2.2 ++ pt.2.1) s).2.1 ∧ ((evg (rfA A.1 (s1 ++ s2) pt.2.2.2.2 ++ pt.2.1) s).2.2 = true → _)
      rcases Nat.lt_or_ge s A.1.length with z | z
      · rw [evg_app_lt (by rw [hrf]; exact z), cmS_lt z]
        exact hEr s (by rw [hrf]; exact z)
      · have e9 := cmS_ge (n := A.1.length) (m := c9.2.1.1.length) (σ := σ) (σ' := σ') (s := s - A.1.length + c9.2.1.1.length) (by omega)
        rw [show A.1.length + (s - A.1.length + c9.2.1.1.length - c9.2.1.1.length) = s by omega] at e9
        rw [evg_app_ge (by rw [hrf]; exact z), e9, hrf]
        have := hE' (s - A.1.length + c9.2.1.1.length) (by rw [List.length_append, hrl]; omega)
        rwa [evg_app_ge (by omega), hrl, show s - A.1.length + c9.2.1.1.length - c9.2.1.1.length = s - A.1.length by omega] at this
    · obtain ⟨v, z1, z2⟩ := v5 i a hi ha
      refine ⟨v, z1, ?_⟩
      show VM K R0.length h' R' (rfA A.1 (s1 ++ s2) pt.2.2.2.2 ++ pt.2.1).length _ a v
      rw [hlen9]
      exact z2.mono (Nat.le_add_right _ _) (fun s hs9 => cmS_lt hs9) hX'.sb
    · show SV (VM K R0.length h' R' (rfA A.1 (s1 ++ s2) pt.2.2.2.2 ++ pt.2.1).length _) (res ++ St) vs
      rw [hlen9]
      exact hsv
    · show VM K R0.length h' R' (rfA A.1 (s1 ++ s2) pt.2.2.2.2 ++ pt.2.1).length _ a _
      rw [hlen9]
      have ha : (pt.2.2.2.1.map (mpA c9.2.1.1.length A.1.length (s1 ++ s2)))[i]? = some a := ha
      rw [List.getElem?_map] at ha
      cases hb : pt.2.2.2.1[i]? with
      | none => rw [hb] at ha; cases ha
      | some b =>
        rw [hb] at ha
        cases ha
        have := hR' i q b hq hb
        rw [List.length_append] at this
        exact mpA_t w1.symm sub9 this
  rw [List.all_eq_true] at w10
  have hn6 : nxt w = pc + 3 := by obtain ⟨_, _, _, _, _, _, h6, _⟩ := hG; exact h6
  have key := n_call (d' := d') (rest := S2) (as := S1.reverse) (h := (hs, kc, ks)) (L := L) tb_pres act hEnd hG (by rw [← hu]; exact hd1) hBody hlen (Nat.le_trans (argS_le _) (Nat.le_trans (catS_t hAS) (by rw [hd2]; exact w7))) (rcvA_t hX.1 w8 hAS) (by omega) (by rw [hd2]; omega) hcat (by show kc + _ ≤ _; omega) (by show ks + _ ≤ _; omega) ?_ ?_
  · rw [List.reverse_reverse] at key
    exact key
  · intro r h' hPO hret
    obtain ⟨R', σ', pt, p1, p2, p3, p4, p5, p0, p6, p7, p8⟩ := hPO
    have g1 := w10 pt p1
    rw [p2, Nat.beq_refl, cond_true] at g1
    rw [← hn6]
    have sub9 : ∀ (i : Nat) (y : Nat × Int), (s1 ++ s2)[i]? = some y → y.1 < A.1.length ∧ σ' i = σ y.1 + y.2 := fun i y hy => by
      have hi := (List.getElem?_eq_some_iff.mp hy).1
      exact ⟨(bb i y hy).1, by rw [p5 i (by omega), at0 i y hy]⟩
    rw [List.length_append] at p7
    have hsv := (SV.mp (n0 := R0.length) w1.symm sub9 p7).app (SV.mono (fun a v z => z.mono (Nat.le_add_right _ pt.2.1.length) (fun s hs9 => cmS_lt (m := c9.2.1.1.length) (σ' := σ') hs9) p3.sb) hS2)
    exact hgo _ _ _ g1 R' _ L h' _ _ _ (hX.tr p3) (aft pt r h' R' σ' _ _ _ p3 p5 p0 p6 p8 hsv) (by show kc + _ ≤ _; omega) (by show ks + _ ≤ _; omega) (by omega)
  · intro x h' hx3 hPO
    obtain ⟨R', σ', pt, p1, p2, p3, p4, p5, p0, p6, p7, p8⟩ := hPO
    have g1 := w10 pt p1
    have hne : Nat.beq pt.1 0 = false := by rw [p2]; cases hb : Nat.beq (1 + x) 0 with
      | true => have := Nat.eq_of_beq_eq_true hb; omega
      | false => rfl
    rw [hne, cond_false, show pt.1 - 1 = x by omega] at g1
    have sub9 : ∀ (i : Nat) (y : Nat × Int), (s1 ++ s2)[i]? = some y → y.1 < A.1.length ∧ σ' i = σ y.1 + y.2 := fun i y hy => by
      have hi := (List.getElem?_eq_some_iff.mp hy).1
      exact ⟨(bb i y hy).1, by rw [p5 i (by omega), at0 i y hy]⟩
    cases hb : Nat.beq ((fb w >>> (20 + 12 * x)) % 4096) 0 with
    | true =>
      rw [hb, cond_true, Bool.and_eq_true] at g1
      right
      have V := aft pt none h' R' σ' [] [] [] p3 p5 p0 p6 p8 rfl
      have hm : ct.2.1.1.length ≤ (rfA A.1 (s1 ++ s2) pt.2.2.2.2 ++ pt.2.1).length := Nat.le_trans y9 V.2.1
      have hP := poF_t (r := none) (res := []) (R0 := R0) (hs0 := hs0) (Inv := Inv) (σe := σe) V.em hm (fun s hs9 => (V.1 s (Nat.lt_of_lt_of_le hs9 y9)).trans (y10 s hs9)) y11 rfl V.2.2.2.2.2.2 (hX.tr p3) (by omega) g1.2
      rw [p2] at hP
      exact ⟨hhh g1.1, hP, by show kc + _ ≤ KC; omega, by show ks + _ ≤ KS; omega⟩
    | false =>
      rw [hb, cond_false] at g1
      left
      refine ⟨(fun z => by rw [z] at hb; cases hb), ?_⟩
      exact hgo _ _ _ g1 R' _ L h' _ _ _ (hX.tr p3) (aft pt none h' R' σ' _ _ _ p3 p5 p0 p6 p8 ⟨_, _, rfl, VM.mk7 (fun z => absurd z (by decide)), rfl⟩) (by show kc + _ ≤ _; omega) (by show ks + _ ≤ _; omega) (by omega)

end OPS4

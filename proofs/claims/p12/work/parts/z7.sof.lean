/-! of and over: contracts. -/
theorem BodyN.impQ {ss : SS} {TBL : List Cond} {g0 : GG} {cl : List vw_C} {bl : Nat} {xs : Nat → Int32} {l : Launch} {d : MD} {f lam mc ms : Nat} {as : List Value} {h : List CE} {PO PO' : Nat → Option Value → List CE → Prop} (hB : BodyN ss TBL g0 cl bl xs l d f lam mc ms as h PO) (hi : ∀ k r h2, PO k r h2 → PO' k r h2) : BodyN ss TBL g0 cl bl xs l d f lam mc ms as h PO' :=
  fun wp p e R s m args below meth c Q kc0 ks0 kc ks act hf hl hc hs hEnd => hB wp p e R s m args below meth c Q kc0 ks0 kc ks act hf hl hc hs
    ⟨fun pc L h S r a b c d => hEnd.1 pc L h S r a (hi _ _ _ b) c d, fun pc x L h a b c d e f g => hEnd.2.1 pc x L h a b (hi _ _ _ c) d e f g, fun pc x L h S a b c d e => hEnd.2.2 pc x L h S a b (hi _ _ _ c) d e⟩
theorem BodyN.upQ {ss : SS} {TBL : List Cond} {g0 : GG} {cl : List vw_C} {bl : Nat} {xs : Nat → Int32} {l : Launch} {d : MD} {f lam f' lam' mc ms : Nat} {as : List Value} {h : List CE} {PO : Nat → Option Value → List CE → Prop} (hB : BodyN ss TBL g0 cl bl xs l d f lam mc ms as h PO) (h1 : f ≤ f') (h2 : lam ≤ lam') : BodyN ss TBL g0 cl bl xs l d f' lam' mc ms as h PO :=
  fun wp p e R s m args below meth c Q kc0 ks0 kc ks act hf hl hc hs hEnd => hB wp p e R s m args below meth c Q kc0 ks0 kc ks act (Nat.le_trans h1 hf) (Nat.le_trans h2 hl) hc hs
    ⟨hEnd.1, fun pc x L h a b c d e f g => hEnd.2.1 pc x L h a b c d e (Nat.le_trans f h1) (Nat.le_trans g h2), hEnd.2.2⟩
theorem HX.appQ {K : KX} {Inv : List Nat → List CE → Prop} {R0 : List Nat} {hs0 : List CE} {R : List Nat} {hs : List CE} (hI : StI K Inv) (h : HX K Inv R0 hs0 R hs) {c : CE} {r : Nat} (hn : noR K r = true) (h5 : r ≠ 5 ∧ r < 400) (h1 : c.1 = kdK K r) (h2 : c.2.1 = lnK K r) (h3 : ∀ j, j < lnK K r → VT K (R ++ [r]) (ftK K r j) (c.2.2 j)) (hl0 : R0.length = hs0.length) : HX K Inv R0 hs0 (R ++ [r]) (hs ++ [c]) := by
  obtain ⟨q1, q2, q3, q4⟩ := h
  have ha : ∀ k r' : Nat, R[k]? = some r' → (R ++ [r])[k]? = some r' := fun k r' h => by
    rw [List.getElem?_append_left (List.getElem?_eq_some_iff.mp h).1]; exact h
  have hb : ∀ k : Nat, k < R.length → (hs ++ [c])[k]? = hs[k]? := fun k h => List.getElem?_append_left (by rw [← q1.1]; exact h)
  refine ⟨q1.app hn h1 h2 h3, fun k r' h => ha k r' (q2 k r' h), fun k r' h h' => ?_, hI R hs _ _ q4 (fun k r' h _ => ha k r' h) (fun k r' h _ => hb k (List.getElem?_eq_some_iff.mp h).1) (fun k r9 hr9 h => ?_) (fun k r' j h _ _ _ => Or.inl ?_)⟩
  · rw [hb k (List.getElem?_eq_some_iff.mp (q2 k r' h)).1]; exact q3 k r' h h'
  · rcases Nat.lt_trichotomy k R.length with q | q | q
    · rw [List.getElem?_append_left q] at h; exact h
    · subst q
      rw [List.getElem?_append_right (Nat.le_refl _), Nat.sub_self] at h
      have := Option.some.inj h
      omega
    · rw [List.getElem?_eq_none (by rw [List.length_append]; exact q)] at h
      cases h
  · unfold rd
    rw [hb k (List.getElem?_eq_some_iff.mp h).1]
theorem nwf_eqQ {hs h2 : List CE} {n d : Int64} (h : NWFQ hs h2 n d) : h2 = hs ++ [((2, 2, rd h2 hs.length) : CE)] := by
  refine List.ext_getElem? fun k => ?_
  rcases Nat.lt_trichotomy k hs.length with q | q | q
  · rw [List.getElem?_append_left q]; exact h.2.1 k q
  · subst q
    rw [List.getElem?_append_right (Nat.le_refl _), Nat.sub_self]
    exact shp_at h.2.2.1
  · rw [List.getElem?_eq_none (by rw [h.1]; exact q), List.getElem?_eq_none (by rw [List.length_append]; exact q)]
theorem nwf_hxQ {K : KX} {Inv : List Nat → List CE → Prop} {R0 : List Nat} {hs0 : List CE} {R : List Nat} {hs h2 : List CE} (hI : StI K Inv) (h : HX K Inv R0 hs0 R hs) {r : Nat} {n d : Int64} (hN : NWFQ hs h2 n d) (hn : noR K r = true) (h5 : r ≠ 5 ∧ r < 400) (h1 : kdK K r = 2) (h2' : lnK K r = 2) (t0 : VT K (R ++ [r]) (ftK K r 0) (.long n)) (t1 : VT K (R ++ [r]) (ftK K r 1) (.long d)) (hl0 : R0.length = hs0.length) : HX K Inv R0 hs0 (R ++ [r]) h2 := by
  have := HX.appQ hI h (c := (2, 2, rd h2 hs.length)) hn h5 h1.symm h2'.symm (fun j hj => by
    rw [h2'] at hj
    match j, hj with
    | 0, _ => show VT K _ _ (rd h2 hs.length 0); rw [hN.2.2.2.1]; exact t0
    | 1, _ => show VT K _ _ (rd h2 hs.length 1); rw [hN.2.2.2.2]; exact t1
    | j + 2, hj => exact absurd hj (by omega)) hl0
  rw [← nwf_eqQ hN] at this
  exact this
theorem po_refQ {K : KX} {Inv : List Nat → List CE → Prop} {c : CT9} {R R' : List Nat} {hs h2 : List CE} {σ : Nat → Int} {k r : Nat} (hm : ((0, [], [(3, r, 0, 0)], c.2.1.2.2, c.2.1.1) : PS9) ∈ c.2.2.1) (hn : noRaw c.2.1.2.2 = true) (hX : HX K Inv R hs R' h2) (hl : h2.length ≤ hs.length + c.2.2.2.2.2.1) (hE : EM c.2.1.1 σ) (hRg : RgM K hs R c.2.1.1.length σ c.2.1.2.2) (hrg : ∀ q ∈ K.2.2, rd h2 q.2.1 q.2.2 = rd hs q.2.1 q.2.2) (hk : R'[k]? = some r) (h0 : r ≠ 0) (hG : inG K r r = true) : PO9 K Inv c R hs σ 0 (some (.ref k)) h2 := by
  refine ⟨R', σ, _, hm, rfl, hX, hl, fun _ _ => rfl, rfl, ?_, ⟨.ref k, [], rfl, Or.inr (Or.inr (Or.inr (Or.inl ⟨rfl, k, r, rfl, hk, h0, hG⟩))), rfl⟩, fun i q a hi ha => ?_⟩
  · show EM (c.2.1.1 ++ []) σ
    rw [List.append_nil]
    exact hE
  · rw [hrg q (List.mem_of_getElem? hi)]
    refine (hRg i q a hi ha).mono2 (noRaw_t hn ha) ?_ (fun _ _ => rfl) (fun k r h _ => hX.2.1 k r h)
    rw [List.append_nil]
    exact Nat.le_refl _
theorem reg_ltQ {K : KX} {R : List Nat} {hs : List CE} (hT : HTy K R hs) {q : Nat × Nat × Nat} (hq : q ∈ K.2.2) : q.2.1 < hs.length := by
  obtain ⟨w1, w2, -⟩ := hT.2.2 q hq
  rw [← hT.1]
  exact (List.getElem?_eq_some_iff.mp w2).1
theorem app_roleQ {R : List Nat} {r : Nat} : (R ++ [r])[R.length]? = some r := by
  rw [List.getElem?_append_right (Nat.le_refl _), Nat.sub_self]
  rfl
theorem vt_lLQ {K : KX} {R : List Nat} {t : FT} {x : Int64} (h : t.1 = 2) (h1 : t.2.2.1 = -9223372036854775808) (h2 : t.2.2.2 = 9223372036854775807) (h3 : t.2.1 = 1 → x.toInt ≠ 0) : VT K R t (.long x) := by
  have := l_rng x
  exact vt_lngQ h (by omega) (by omega) h3
theorem vt_lQ {K : KX} {R : List Nat} {t : FT} {v : Value} (h : VT K R t v) (e : t.1 = 2) : ∃ x : Int64, v = .long x ∧ t.2.2.1 ≤ x.toInt ∧ x.toInt ≤ t.2.2.2 ∧ (t.2.1 = 1 → x.toInt ≠ 0) := by
  rcases h with h | ⟨h, -⟩ | ⟨-, h⟩ | ⟨h, -⟩ | ⟨h, -⟩ | ⟨h, -⟩ | ⟨h, -⟩
  rotate_left 2
  · exact h
  all_goals (rw [e] at h; exact absurd h (by decide))

theorem sh_84Q {Inv : List Nat → List CE → Prop} (hI : StI KCQ Inv) : SemC KCQ Inv ch_84Q := by
  refine ⟨D_84, rfl, rfl, fun g0 bl xs l hs R0 σ as hTY hT hInv hlen hE hA hRg => ?_⟩
  obtain ⟨v0, S0, rfl, m0, v1, S1, rfl, m1, hz⟩ := hA
  have hz : S1 = [] := hz
  subst hz
  obtain ⟨a, rfl, -⟩ := m0.lng rfl
  obtain ⟨b, rfl, -⟩ := m1.lng rfl
  have hlen : hs.length + 1 ≤ 6999999999999 := hlen
  refine ((b_ofXQ (a := a) (b := b) hlen).up (by decide) (by decide)).imp fun kd r h2 => ?_
  rintro ⟨rfl, rfl, n, d, hN, hO⟩
  have X0 : HX KCQ Inv R0 hs R0 hs := ⟨hT, fun _ _ h => h, fun _ _ _ _ => rfl, hInv⟩
  exact po_refQ (r := 9) (by decide) (by decide) (nwf_hxQ (r := 9) hI X0 hN (by decide) (by decide) rfl rfl (vt_lLQ rfl rfl rfl (fun h => by cases h)) (vt_lLQ rfl rfl rfl (fun _ => hO.nz)) hT.1) (by rw [hN.1]; exact Nat.le_refl _) hE hRg (fun q hq => nwf_rdQ hN (reg_ltQ hT hq)) (by rw [← hT.1]; exact app_roleQ) (by decide) (by decide)
theorem sh_85Q {Inv : List Nat → List CE → Prop} (hI : StI KCQ Inv) : SemC KCQ Inv ch_85Q := by
  refine ⟨D_85, rfl, rfl, fun g0 bl xs l hs R0 σ as hTY hT hInv hlen hE hA hRg => ?_⟩
  obtain ⟨v0, S0, rfl, m0, v1, S1, rfl, m1, hz⟩ := hA
  have hz : S1 = [] := hz
  subst hz
  obtain ⟨k, rfl, hk, -⟩ := (m0.rf3 rfl).one rfl
  have hk : R0[k]? = some 9 := hk
  obtain ⟨k2, rfl, hk2, -⟩ := (m1.rf3 rfl).one rfl
  have hk2 : R0[k2]? = some 10 := hk2
  have hlen : hs.length + 2 ≤ 6999999999999 := hlen
  obtain ⟨s1, t1⟩ := hT.2.1 k 9 hk (by decide)
  obtain ⟨s2, t2⟩ := hT.2.1 k2 10 hk2 (by decide)
  obtain ⟨a, ea, -, -, -⟩ := vt_lQ (t1 0 (by decide)) rfl
  obtain ⟨b, eb, -, -, hb⟩ := vt_lQ (t1 1 (by decide)) rfl
  obtain ⟨on, eo, lo, -, -⟩ := vt_lQ (t2 0 (by decide)) rfl
  obtain ⟨od, ed, l1, l2, -⟩ := vt_lQ (t2 1 (by decide)) rfl
  have lo : -9223372036854775807 ≤ on.toInt := lo
  have l1 : 1 ≤ od.toInt := l1
  have l2 : od.toInt ≤ 1 := l2
  refine ((b_overXQ (a := a) (b := b) (on := on) (od := od) hlen s1 ea eb s2 eo ed (by omega) (by omega) (hb rfl)).up (by decide) (by decide)).imp fun kd r h2 => ?_
  rintro ⟨rfl, rfl, hm, n1, m1, n, d, hN, hM, hnz⟩
  have X0 : HX KCQ Inv R0 hs R0 hs := ⟨hT, fun _ _ h => h, fun _ _ _ _ => rfl, hInv⟩
  have X1 := nwf_hxQ (r := 3) hI X0 hN (by decide) (by decide) rfl rfl (vt_lLQ rfl rfl rfl (fun h => by cases h)) (vt_lLQ rfl rfl rfl (fun h => by cases h)) hT.1
  have ln : h2.length = hs.length + 2 := by rw [hM.1, hN.1]
  have rl : (R0 ++ [3]).length = hs.length + 1 := by rw [List.length_append, hT.1]; rfl
  have rg : ∀ q ∈ KCQ.2.2, rd h2 q.2.1 q.2.2 = rd hs q.2.1 q.2.2 := fun q hq => (nwf_rdQ hM (by rw [hN.1]; exact Nat.lt_succ_of_lt (reg_ltQ hT hq))).trans (nwf_rdQ hN (reg_ltQ hT hq))
  rcases hnz with hnz | hnz
  · exact po_refQ (r := 11) (by decide) (by decide) (nwf_hxQ (r := 11) hI X1 hM (by decide) (by decide) rfl rfl (vt_lLQ rfl rfl rfl (fun _ => hnz)) (vt_lLQ rfl rfl rfl (fun h => by cases h)) hT.1) (by rw [ln]; exact Nat.le_refl _) hE hRg rg (by rw [← rl]; exact app_roleQ) (by decide) (by decide)
  · exact po_refQ (r := 9) (by decide) (by decide) (nwf_hxQ (r := 9) hI X1 hM (by decide) (by decide) rfl rfl (vt_lLQ rfl rfl rfl (fun h => by cases h)) (vt_lLQ rfl rfl rfl (fun _ => hnz)) hT.1) (by rw [ln]; exact Nat.le_refl _) hE hRg rg (by rw [← rl]; exact app_roleQ) (by decide) (by decide)

theorem sk_84Q {Inv : List Nat → List CE → Prop} (hI : StI KDQ Inv) : SemC KDQ Inv ch_84Q := by
  refine ⟨D_84, rfl, rfl, fun g0 bl xs l hs R0 σ as hTY hT hInv hlen hE hA hRg => ?_⟩
  obtain ⟨v0, S0, rfl, m0, v1, S1, rfl, m1, hz⟩ := hA
  have hz : S1 = [] := hz
  subst hz
  obtain ⟨a, rfl, -⟩ := m0.lng rfl
  obtain ⟨b, rfl, -⟩ := m1.lng rfl
  have hlen : hs.length + 1 ≤ 6999999999999 := hlen
  refine ((b_ofXQ (a := a) (b := b) hlen).up (by decide) (by decide)).imp fun kd r h2 => ?_
  rintro ⟨rfl, rfl, n, d, hN, hO⟩
  have X0 : HX KDQ Inv R0 hs R0 hs := ⟨hT, fun _ _ h => h, fun _ _ _ _ => rfl, hInv⟩
  exact po_refQ (r := 9) (by decide) (by decide) (nwf_hxQ (r := 9) hI X0 hN (by decide) (by decide) rfl rfl (vt_lLQ rfl rfl rfl (fun h => by cases h)) (vt_lLQ rfl rfl rfl (fun _ => hO.nz)) hT.1) (by rw [hN.1]; exact Nat.le_refl _) hE hRg (fun q hq => nwf_rdQ hN (reg_ltQ hT hq)) (by rw [← hT.1]; exact app_roleQ) (by decide) (by decide)
theorem sk_85Q {Inv : List Nat → List CE → Prop} (hI : StI KDQ Inv) : SemC KDQ Inv ch_85Q := by
  refine ⟨D_85, rfl, rfl, fun g0 bl xs l hs R0 σ as hTY hT hInv hlen hE hA hRg => ?_⟩
  obtain ⟨v0, S0, rfl, m0, v1, S1, rfl, m1, hz⟩ := hA
  have hz : S1 = [] := hz
  subst hz
  obtain ⟨k, rfl, hk, -⟩ := (m0.rf3 rfl).one rfl
  have hk : R0[k]? = some 9 := hk
  obtain ⟨k2, rfl, hk2, -⟩ := (m1.rf3 rfl).one rfl
  have hk2 : R0[k2]? = some 10 := hk2
  have hlen : hs.length + 2 ≤ 6999999999999 := hlen
  obtain ⟨s1, t1⟩ := hT.2.1 k 9 hk (by decide)
  obtain ⟨s2, t2⟩ := hT.2.1 k2 10 hk2 (by decide)
  obtain ⟨a, ea, -, -, -⟩ := vt_lQ (t1 0 (by decide)) rfl
  obtain ⟨b, eb, -, -, hb⟩ := vt_lQ (t1 1 (by decide)) rfl
  obtain ⟨on, eo, lo, -, -⟩ := vt_lQ (t2 0 (by decide)) rfl
  obtain ⟨od, ed, l1, l2, -⟩ := vt_lQ (t2 1 (by decide)) rfl
  have lo : -9223372036854775807 ≤ on.toInt := lo
  have l1 : 1 ≤ od.toInt := l1
  have l2 : od.toInt ≤ 1 := l2
  refine ((b_overXQ (a := a) (b := b) (on := on) (od := od) hlen s1 ea eb s2 eo ed (by omega) (by omega) (hb rfl)).up (by decide) (by decide)).imp fun kd r h2 => ?_
  rintro ⟨rfl, rfl, hm, n1, m1, n, d, hN, hM, hnz⟩
  have X0 : HX KDQ Inv R0 hs R0 hs := ⟨hT, fun _ _ h => h, fun _ _ _ _ => rfl, hInv⟩
  have X1 := nwf_hxQ (r := 3) hI X0 hN (by decide) (by decide) rfl rfl (vt_lLQ rfl rfl rfl (fun h => by cases h)) (vt_lLQ rfl rfl rfl (fun h => by cases h)) hT.1
  have ln : h2.length = hs.length + 2 := by rw [hM.1, hN.1]
  have rl : (R0 ++ [3]).length = hs.length + 1 := by rw [List.length_append, hT.1]; rfl
  have rg : ∀ q ∈ KDQ.2.2, rd h2 q.2.1 q.2.2 = rd hs q.2.1 q.2.2 := fun q hq => (nwf_rdQ hM (by rw [hN.1]; exact Nat.lt_succ_of_lt (reg_ltQ hT hq))).trans (nwf_rdQ hN (reg_ltQ hT hq))
  rcases hnz with hnz | hnz
  · exact po_refQ (r := 11) (by decide) (by decide) (nwf_hxQ (r := 11) hI X1 hM (by decide) (by decide) rfl rfl (vt_lLQ rfl rfl rfl (fun _ => hnz)) (vt_lLQ rfl rfl rfl (fun h => by cases h)) hT.1) (by rw [ln]; exact Nat.le_refl _) hE hRg rg (by rw [← rl]; exact app_roleQ) (by decide) (by decide)
  · exact po_refQ (r := 9) (by decide) (by decide) (nwf_hxQ (r := 9) hI X1 hM (by decide) (by decide) rfl rfl (vt_lLQ rfl rfl rfl (fun h => by cases h)) (vt_lLQ rfl rfl rfl (fun _ => hnz)) hT.1) (by rw [ln]; exact Nat.le_refl _) hE hRg rg (by rw [← rl]; exact app_roleQ) (by decide) (by decide)


/-! Constructors over new cells. -/
theorem HTy.appQ {K : KX} {R : List Nat} {hs : List CE} (h : HTy K R hs) {c : CE} {r : Nat} (hn : noR K r = true) (h1 : c.1 = kdK K r) (h2 : c.2.1 = lnK K r) (h3 : ∀ j, j < lnK K r → VT K (R ++ [r]) (ftK K r j) (c.2.2 j)) : HTy K (R ++ [r]) (hs ++ [c]) := by
  have ha : ∀ k r' : Nat, R[k]? = some r' → (R ++ [r])[k]? = some r' := fun k r' h => by
    rw [List.getElem?_append_left (List.getElem?_eq_some_iff.mp h).1]; exact h
  have hb : ∀ k r' : Nat, (R ++ [r])[k]? = some r' → R[k]? = some r' ∨ (k = R.length ∧ r' = r) := fun k r' h1 => by
    rcases Nat.lt_trichotomy k R.length with q | q | q
    · rw [List.getElem?_append_left q] at h1; exact Or.inl h1
    · subst q
      rw [List.getElem?_append_right (Nat.le_refl _), Nat.sub_self] at h1
      cases h1
      exact Or.inr ⟨rfl, rfl⟩
    · rw [List.getElem?_eq_none (by rw [List.length_append]; exact q)] at h1
      cases h1
  refine ⟨by rw [List.length_append, List.length_append, h.1]; rfl, fun k r' g1 g2 => ?_, fun q hq => ?_⟩
  · rcases hb k r' g1 with g3 | ⟨rfl, rfl⟩
    · have h4 : k < hs.length := by rw [← h.1]; exact (List.getElem?_eq_some_iff.mp g3).1
      obtain ⟨q1, q2⟩ := h.2.1 k r' g3 g2
      refine ⟨by rw [shp_app h4]; exact q1, fun j hj => ?_⟩
      rw [rd_app h4]
      exact (q2 j hj).mono (fun k r h _ => ha k r h)
    · have e : (hs ++ [c])[R.length]? = some c := by rw [h.1]; exact app_at _ _
      refine ⟨by unfold shp; rw [e, ← h1, ← h2]; rfl, fun j hj => ?_⟩
      have : rd (hs ++ [c]) R.length j = c.2.2 j := by unfold rd; rw [e]
      rw [this]
      exact h3 j hj
  · obtain ⟨w1, w2, w3⟩ := h.2.2 q hq
    refine ⟨w1, ha _ _ w2, fun k hk => ?_⟩
    rcases hb k _ hk with g3 | ⟨-, g4⟩
    · exact w3 k g3
    · unfold noR at hn
      rw [List.all_eq_true] at hn
      have := hn q hq
      rw [g4, Nat.beq_refl] at this
      cases this
theorem HTy.setRQ {K : KX} {R : List Nat} {hs h2 : List CE} {k r : Nat} (hT : HTy K R hs) (h0 : R[k]? = some 0) (hn : noR K r = true) (hl : h2.length = hs.length) (hne : ∀ k', k' ≠ k → h2[k']? = hs[k']?) (hsh : shp h2 k = some (kdK K r, lnK K r)) (hty : ∀ j, j < lnK K r → VT K (R.set k r) (ftK K r j) (rd h2 k j)) : HTy K (R.set k r) h2 := by
  have hk := (List.getElem?_eq_some_iff.mp h0).1
  have hb : ∀ k' r' : Nat, (R.set k r)[k']? = some r' → k' ≠ k → R[k']? = some r' := fun k' r' h1 h2 => by
    rwa [List.getElem?_set_ne (fun z => h2 z.symm)] at h1
  have ha : ∀ k' r' : Nat, R[k']? = some r' → r' ≠ 0 → (R.set k r)[k']? = some r' := fun k' r' h1 h2 => by
    rw [List.getElem?_set_ne (fun z => by subst z; rw [h0] at h1; cases h1; exact h2 rfl)]; exact h1
  have hrd : ∀ k' j, k' ≠ k → rd h2 k' j = rd hs k' j := fun k' j h => by unfold rd; rw [hne k' h]
  refine ⟨by rw [List.length_set, hl]; exact hT.1, fun k' r' g1 g2 => ?_, fun q hq => ?_⟩
  · by_cases z : k' = k
    · subst z
      rw [List.getElem?_set_self hk] at g1
      cases g1
      exact ⟨hsh, hty⟩
    · obtain ⟨q1, q2⟩ := hT.2.1 k' r' (hb k' r' g1 z) g2
      refine ⟨by unfold shp; rw [hne k' z]; exact q1, fun j hj => ?_⟩
      rw [hrd k' j z]
      exact (q2 j hj).mono ha
  · obtain ⟨w1, w2, w3⟩ := hT.2.2 q hq
    refine ⟨w1, ha _ _ w2 w1, fun k' hk' => ?_⟩
    by_cases z : k' = k
    · subst z
      rw [List.getElem?_set_self hk] at hk'
      unfold noR at hn
      rw [List.all_eq_true] at hn
      have := hn q hq
      rw [Option.some.inj hk', Nat.beq_refl] at this
      cases this
    · exact w3 k' (hb k' _ hk' z)
theorem ini_endQ {K : KX} {Inv : List Nat → List CE → Prop} {R R1 : List Nat} {hs hs1 h2 : List CE} {k r mc : Nat} (hI : StI K Inv) (hInv : Inv R hs) (hT0 : HTy K R hs) (h00 : R[k]? = some 0) (hR1 : ∀ k' r' : Nat, R[k']? = some r' → R1[k']? = some r') (hh1 : ∀ k' r' : Nat, R[k']? = some r' → hs1[k']? = hs[k']?) (hT : HTy K R1 hs1) (hn : noR K r = true) (h4 : r ≠ 5 ∧ r < 400) (hR4 : ∀ k' r' : Nat, r' = 5 ∨ 400 ≤ r' → R1[k']? = some r' → R[k']? = some r') (hl : h2.length = hs1.length) (hl2 : hs1.length ≤ hs.length + mc) (hne : ∀ k', k' ≠ k → h2[k']? = hs1[k']?) (hsh : shp h2 k = some (kdK K r, lnK K r)) (hty : ∀ j, j < lnK K r → VT K (R1.set k r) (ftK K r j) (rd h2 k j)) :
    ∃ R' : List Nat, R'[k]? = some r ∧ (∀ k' r' : Nat, R[k']? = some r' → k' ≠ k → R'[k']? = some r') ∧ HTy K R' h2 ∧ Inv R' h2 ∧ (∀ k' r' : Nat, R[k']? = some r' → froz r' = true → k' ≠ k → h2[k']? = hs[k']?) ∧ h2.length ≤ hs.length + mc ∧ ∀ q ∈ K.2.2, rd h2 q.2.1 q.2.2 = rd hs q.2.1 q.2.2 := by
  have h0 := hR1 k 0 h00
  have hk := (List.getElem?_eq_some_iff.mp h0).1
  have hp : ∀ k' r' : Nat, R[k']? = some r' → k' ≠ k → (R1.set k r)[k']? = some r' := fun k' r' h1 h2 => by
    rw [List.getElem?_set_ne (fun z => h2 z.symm)]; exact hR1 k' r' h1
  have hq : ∀ k' r' : Nat, R[k']? = some r' → r' ≠ 0 → k' ≠ k := fun k' r' h1 h2 z => by subst z; rw [h00] at h1; cases h1; exact h2 rfl
  refine ⟨R1.set k r, List.getElem?_set_self hk, hp, hT.setR h0 hn hl hne hsh hty, hI R hs _ _ hInv (fun k' r' h1 h2 => hp k' r' h1 (hq k' r' h1 h2)) (fun k' r' h1 h2 => (hne k' (hq k' r' h1 (by omega))).trans (hh1 k' r' h1)) (fun k' r9 hr9 z => ?_) (fun k' r' j h1 h2 _ _ => Or.inl ?_), fun k' r' h1 _ h3 => (hne k' h3).trans (hh1 k' r' h1), by omega, fun q hqm => ?_⟩
  · by_cases q : k' = k
    · subst q; rw [List.getElem?_set_self hk] at z; have := Option.some.inj z; omega
    · rw [List.getElem?_set_ne (fun r => q r.symm)] at z; exact hR4 k' r9 hr9 z
  · unfold rd
    rw [hne k' (hq k' r' h1 h2), hh1 k' r' h1]
  obtain ⟨w1, w2, -⟩ := hT0.2.2 q hqm
  unfold rd
  rw [hne _ (hq _ _ w2 w1), hh1 _ _ w2]
theorem wr_ne2Q {hs : List CE} {k : Nat} : ∀ {l : List (Nat × Value)} {k' : Nat}, k' ≠ k → (l.foldl (fun h x => wr h k x.1 x.2) hs)[k']? = hs[k']?
  | [], _, _ => rfl
  | x :: t, k', h => by
    show (t.foldl (fun h x => wr h k x.1 x.2) (wr hs k x.1 x.2))[k']? = _
    rw [wr_ne2Q h, wr_ne (fun z => h z.symm)]
theorem wr_len2Q {k : Nat} : ∀ {l : List (Nat × Value)} {hs : List CE}, (l.foldl (fun h x => wr h k x.1 x.2) hs).length = hs.length
  | [], _ => rfl
  | x :: t, hs => by
    show (t.foldl (fun h x => wr h k x.1 x.2) (wr hs k x.1 x.2)).length = _
    rw [wr_len2Q, wr_len]
theorem wr_shp2Q {k k' : Nat} : ∀ {l : List (Nat × Value)} {hs : List CE}, shp (l.foldl (fun h x => wr h k x.1 x.2) hs) k' = shp hs k'
  | [], _ => rfl
  | x :: t, hs => by
    show shp (t.foldl (fun h x => wr h k x.1 x.2) (wr hs k x.1 x.2)) k' = _
    rw [wr_shp2Q, shp_wr]
theorem shp_ofQ {hs : List CE} {k c N : Nat} {f : Nat → Value} (h : hs[k]? = some (c, N, f)) : shp hs k = some (c, N) := by
  unfold shp
  rw [h]
  rfl
theorem vt_intQ {K : KX} {R : List Nat} {t : FT} {x : Int32} (h : t.1 = 1) (h1 : t.2.2.1 ≤ x.toInt) (h2 : x.toInt ≤ t.2.2.2) : VT K R t (.int x) := Or.inr (Or.inl ⟨h, x, rfl, h1, h2⟩)
theorem vt_lngQ {K : KX} {R : List Nat} {t : FT} {x : Int64} (h : t.1 = 2) (h1 : t.2.2.1 ≤ x.toInt) (h2 : x.toInt ≤ t.2.2.2) (h3 : t.2.1 = 1 → x.toInt ≠ 0) : VT K R t (.long x) := Or.inr (Or.inr (Or.inl ⟨h, x, rfl, h1, h2, h3⟩))


theorem si_0Q {Inv : List Nat → List CE → Prop} (hI : StI KCQ Inv) : SemI KCQ Inv ci_0Q := by
  refine ⟨D_78, rfl, rfl, by decide, by decide, fun g0 bl xs l hs R0 σ as k hTY hT hInv hlen h0 hk0 hE hA => ?_⟩
  obtain ⟨v1, S1, rfl, m1, v2, S2, rfl, m2, hz⟩ := hA
  have hz : S2 = [] := hz
  subst hz
  obtain ⟨n9, rfl, -, e0⟩ := m1.lng rfl
  obtain ⟨d9, rfl, -, e1⟩ := m2.lng rfl
  have e0 : n9.toInt = σ 0 := e0
  have e1 : d9.toInt = σ 1 := e1
  have b0 := hE 0 (by decide)
  have b1 := hE 1 (by decide)
  have hk := shp_ofQ hk0
  intro wp p e R s m args below meth c Q kc0 ks0 kc ks act hf hl hc hsl hEnd
  have hf : 1 ≤ R.frames := hf
  have hl : 12 ≤ R.locals := hl
  show WpN (gp g0 wp) CLS p l e R s m args below meth c Q D_78.2.2.1 kc0 ks0 0 [some (.ref k), some (.long n9), none, some (.long d9), none] (hs, kc, ks) []
  refine g_loadA act (gx gp_78 (w := 0x103) rfl (by decide) rfl) (a := 0) (n := 1) rfl rfl rfl ?_
  refine n_objinit act (gx gp_78 (w := 0x429) rfl (by decide) rfl) (by omega) (by show (0 : Nat) + 12 ≤ R.locals; omega) rfl ?_
  refine g_loadA act (gx gp_78 (w := 0x503) rfl (by decide) rfl) (a := 0) (n := 5) rfl rfl rfl ?_
  refine g_loadL act (gx gp_78 (w := 0x1000606) rfl (by decide) rfl) (a := 1) (n := 6) rfl rfl rfl ?_
  refine r_putf act (gx gp_78 (w := 0x2000002000913) rfl (by decide) rfl) (n := 9) (ci := 2) (j := 0) (N := 2) rfl rfl rfl hk (by decide) (Or.inr (Or.inr (Or.inl ⟨rfl, _, rfl⟩))) ?_
  refine g_loadA act (gx gp_78 (w := 0xa03) rfl (by decide) rfl) (a := 0) (n := 10) rfl rfl rfl ?_
  refine g_loadL act (gx gp_78 (w := 0x3000b06) rfl (by decide) rfl) (a := 3) (n := 11) rfl rfl rfl ?_
  refine r_putf act (gx gp_78 (w := 0x2000042000e13) rfl (by decide) rfl) (n := 14) (ci := 2) (j := 1) (N := 2) rfl rfl rfl ((shp_wr _ _ _ _ _).trans hk) (by decide) (Or.inr (Or.inr (Or.inl ⟨rfl, _, rfl⟩))) ?_
  exact g_retV hEnd (gx gp_78 (w := 0x18) rfl (by decide) rfl) ⟨rfl, rfl, ini_endQ (h2 := (wr (wr hs k 0 (.long n9)) k 1 (.long d9))) hI hInv hT h0 (fun _ _ h => h) (fun _ _ _ => rfl) hT (by decide) (by decide) (fun _ _ _ h => h) (wr_len2Q (l := [(0, (.long n9)), (1, (.long d9))])) (by omega) (fun k9 h9 => wr_ne2Q (l := [(0, (.long n9)), (1, (.long d9))]) h9) ((wr_shp2Q (l := [(0, (.long n9)), (1, (.long d9))])).trans hk) (fun j hj => by
    match j, hj with
    | 0, _ => show VT _ _ _ (rd _ k 0); rw [rd_ne _ _ (Or.inr (by decide))]; rw [rd_same hk]; exact vt_lngQ rfl (by have z : -9223372036854775807 ≤ σ 0 := b0.1; rw [e0]; exact z) (by have z : σ 0 ≤ 9223372036854775807 := b0.2.1; rw [e0]; exact z) (fun h => by cases h)
    | 1, _ => show VT _ _ _ (rd _ k 1); rw [rd_same ((shp_wr _ _ _ _ _).trans hk)]; exact vt_lngQ rfl (by have z : 1 ≤ σ 1 := b1.1; rw [e1]; exact z) (by have z : σ 1 ≤ 1 := b1.2.1; rw [e1]; exact z) (fun h => by cases h)
    | j + 2, hj => exact absurd hj (by show ¬ (j + 2 < 2); omega))⟩ (by show kc ≤ kc + _; omega) (by show ks ≤ ks + _; omega)

theorem sj_0Q {Inv : List Nat → List CE → Prop} (hI : StI KDQ Inv) : SemI KDQ Inv ci_0Q := by
  refine ⟨D_78, rfl, rfl, by decide, by decide, fun g0 bl xs l hs R0 σ as k hTY hT hInv hlen h0 hk0 hE hA => ?_⟩
  obtain ⟨v1, S1, rfl, m1, v2, S2, rfl, m2, hz⟩ := hA
  have hz : S2 = [] := hz
  subst hz
  obtain ⟨n9, rfl, -, e0⟩ := m1.lng rfl
  obtain ⟨d9, rfl, -, e1⟩ := m2.lng rfl
  have e0 : n9.toInt = σ 0 := e0
  have e1 : d9.toInt = σ 1 := e1
  have b0 := hE 0 (by decide)
  have b1 := hE 1 (by decide)
  have hk := shp_ofQ hk0
  intro wp p e R s m args below meth c Q kc0 ks0 kc ks act hf hl hc hsl hEnd
  have hf : 1 ≤ R.frames := hf
  have hl : 12 ≤ R.locals := hl
  show WpN (gp g0 wp) CLS p l e R s m args below meth c Q D_78.2.2.1 kc0 ks0 0 [some (.ref k), some (.long n9), none, some (.long d9), none] (hs, kc, ks) []
  refine g_loadA act (gx gp_78 (w := 0x103) rfl (by decide) rfl) (a := 0) (n := 1) rfl rfl rfl ?_
  refine n_objinit act (gx gp_78 (w := 0x429) rfl (by decide) rfl) (by omega) (by show (0 : Nat) + 12 ≤ R.locals; omega) rfl ?_
  refine g_loadA act (gx gp_78 (w := 0x503) rfl (by decide) rfl) (a := 0) (n := 5) rfl rfl rfl ?_
  refine g_loadL act (gx gp_78 (w := 0x1000606) rfl (by decide) rfl) (a := 1) (n := 6) rfl rfl rfl ?_
  refine r_putf act (gx gp_78 (w := 0x2000002000913) rfl (by decide) rfl) (n := 9) (ci := 2) (j := 0) (N := 2) rfl rfl rfl hk (by decide) (Or.inr (Or.inr (Or.inl ⟨rfl, _, rfl⟩))) ?_
  refine g_loadA act (gx gp_78 (w := 0xa03) rfl (by decide) rfl) (a := 0) (n := 10) rfl rfl rfl ?_
  refine g_loadL act (gx gp_78 (w := 0x3000b06) rfl (by decide) rfl) (a := 3) (n := 11) rfl rfl rfl ?_
  refine r_putf act (gx gp_78 (w := 0x2000042000e13) rfl (by decide) rfl) (n := 14) (ci := 2) (j := 1) (N := 2) rfl rfl rfl ((shp_wr _ _ _ _ _).trans hk) (by decide) (Or.inr (Or.inr (Or.inl ⟨rfl, _, rfl⟩))) ?_
  exact g_retV hEnd (gx gp_78 (w := 0x18) rfl (by decide) rfl) ⟨rfl, rfl, ini_endQ (h2 := (wr (wr hs k 0 (.long n9)) k 1 (.long d9))) hI hInv hT h0 (fun _ _ h => h) (fun _ _ _ => rfl) hT (by decide) (by decide) (fun _ _ _ h => h) (wr_len2Q (l := [(0, (.long n9)), (1, (.long d9))])) (by omega) (fun k9 h9 => wr_ne2Q (l := [(0, (.long n9)), (1, (.long d9))]) h9) ((wr_shp2Q (l := [(0, (.long n9)), (1, (.long d9))])).trans hk) (fun j hj => by
    match j, hj with
    | 0, _ => show VT _ _ _ (rd _ k 0); rw [rd_ne _ _ (Or.inr (by decide))]; rw [rd_same hk]; exact vt_lngQ rfl (by have z : -9223372036854775807 ≤ σ 0 := b0.1; rw [e0]; exact z) (by have z : σ 0 ≤ 9223372036854775807 := b0.2.1; rw [e0]; exact z) (fun h => by cases h)
    | 1, _ => show VT _ _ _ (rd _ k 1); rw [rd_same ((shp_wr _ _ _ _ _).trans hk)]; exact vt_lngQ rfl (by have z : 1 ≤ σ 1 := b1.1; rw [e1]; exact z) (by have z : σ 1 ≤ 1 := b1.2.1; rw [e1]; exact z) (fun h => by cases h)
    | j + 2, hj => exact absurd hj (by show ¬ (j + 2 < 2); omega))⟩ (by show kc ≤ kc + _; omega) (by show ks ≤ ks + _; omega)

theorem si_1Q {Inv : List Nat → List CE → Prop} (hI : StI KCQ Inv) : SemI KCQ Inv ci_1Q := by
  refine ⟨D_78, rfl, rfl, by decide, by decide, fun g0 bl xs l hs R0 σ as k hTY hT hInv hlen h0 hk0 hE hA => ?_⟩
  obtain ⟨v1, S1, rfl, m1, v2, S2, rfl, m2, hz⟩ := hA
  have hz : S2 = [] := hz
  subst hz
  obtain ⟨n9, rfl, -, e0⟩ := m1.lng rfl
  obtain ⟨d9, rfl, -, e1⟩ := m2.lng rfl
  have e0 : n9.toInt = σ 0 := e0
  have e1 : d9.toInt = σ 1 := e1
  have b0 := hE 0 (by decide)
  have b1 := hE 1 (by decide)
  have hk := shp_ofQ hk0
  intro wp p e R s m args below meth c Q kc0 ks0 kc ks act hf hl hc hsl hEnd
  have hf : 1 ≤ R.frames := hf
  have hl : 12 ≤ R.locals := hl
  show WpN (gp g0 wp) CLS p l e R s m args below meth c Q D_78.2.2.1 kc0 ks0 0 [some (.ref k), some (.long n9), none, some (.long d9), none] (hs, kc, ks) []
  refine g_loadA act (gx gp_78 (w := 0x103) rfl (by decide) rfl) (a := 0) (n := 1) rfl rfl rfl ?_
  refine n_objinit act (gx gp_78 (w := 0x429) rfl (by decide) rfl) (by omega) (by show (0 : Nat) + 12 ≤ R.locals; omega) rfl ?_
  refine g_loadA act (gx gp_78 (w := 0x503) rfl (by decide) rfl) (a := 0) (n := 5) rfl rfl rfl ?_
  refine g_loadL act (gx gp_78 (w := 0x1000606) rfl (by decide) rfl) (a := 1) (n := 6) rfl rfl rfl ?_
  refine r_putf act (gx gp_78 (w := 0x2000002000913) rfl (by decide) rfl) (n := 9) (ci := 2) (j := 0) (N := 2) rfl rfl rfl hk (by decide) (Or.inr (Or.inr (Or.inl ⟨rfl, _, rfl⟩))) ?_
  refine g_loadA act (gx gp_78 (w := 0xa03) rfl (by decide) rfl) (a := 0) (n := 10) rfl rfl rfl ?_
  refine g_loadL act (gx gp_78 (w := 0x3000b06) rfl (by decide) rfl) (a := 3) (n := 11) rfl rfl rfl ?_
  refine r_putf act (gx gp_78 (w := 0x2000042000e13) rfl (by decide) rfl) (n := 14) (ci := 2) (j := 1) (N := 2) rfl rfl rfl ((shp_wr _ _ _ _ _).trans hk) (by decide) (Or.inr (Or.inr (Or.inl ⟨rfl, _, rfl⟩))) ?_
  exact g_retV hEnd (gx gp_78 (w := 0x18) rfl (by decide) rfl) ⟨rfl, rfl, ini_endQ (h2 := (wr (wr hs k 0 (.long n9)) k 1 (.long d9))) hI hInv hT h0 (fun _ _ h => h) (fun _ _ _ => rfl) hT (by decide) (by decide) (fun _ _ _ h => h) (wr_len2Q (l := [(0, (.long n9)), (1, (.long d9))])) (by omega) (fun k9 h9 => wr_ne2Q (l := [(0, (.long n9)), (1, (.long d9))]) h9) ((wr_shp2Q (l := [(0, (.long n9)), (1, (.long d9))])).trans hk) (fun j hj => by
    match j, hj with
    | 0, _ => show VT _ _ _ (rd _ k 0); rw [rd_ne _ _ (Or.inr (by decide))]; rw [rd_same hk]; exact vt_lngQ rfl (l_rng _).1 (by have := (l_rng n9).2; show _ ≤ (9223372036854775807 : Int); omega) (fun h => by cases h)
    | 1, _ => show VT _ _ _ (rd _ k 1); rw [rd_same ((shp_wr _ _ _ _ _).trans hk)]; exact vt_lngQ rfl (l_rng _).1 (by have := (l_rng d9).2; show _ ≤ (9223372036854775807 : Int); omega) (fun _ => by rw [e1]; exact b1.2.2 rfl)
    | j + 2, hj => exact absurd hj (by show ¬ (j + 2 < 2); omega))⟩ (by show kc ≤ kc + _; omega) (by show ks ≤ ks + _; omega)

theorem sj_1Q {Inv : List Nat → List CE → Prop} (hI : StI KDQ Inv) : SemI KDQ Inv ci_1Q := by
  refine ⟨D_78, rfl, rfl, by decide, by decide, fun g0 bl xs l hs R0 σ as k hTY hT hInv hlen h0 hk0 hE hA => ?_⟩
  obtain ⟨v1, S1, rfl, m1, v2, S2, rfl, m2, hz⟩ := hA
  have hz : S2 = [] := hz
  subst hz
  obtain ⟨n9, rfl, -, e0⟩ := m1.lng rfl
  obtain ⟨d9, rfl, -, e1⟩ := m2.lng rfl
  have e0 : n9.toInt = σ 0 := e0
  have e1 : d9.toInt = σ 1 := e1
  have b0 := hE 0 (by decide)
  have b1 := hE 1 (by decide)
  have hk := shp_ofQ hk0
  intro wp p e R s m args below meth c Q kc0 ks0 kc ks act hf hl hc hsl hEnd
  have hf : 1 ≤ R.frames := hf
  have hl : 12 ≤ R.locals := hl
  show WpN (gp g0 wp) CLS p l e R s m args below meth c Q D_78.2.2.1 kc0 ks0 0 [some (.ref k), some (.long n9), none, some (.long d9), none] (hs, kc, ks) []
  refine g_loadA act (gx gp_78 (w := 0x103) rfl (by decide) rfl) (a := 0) (n := 1) rfl rfl rfl ?_
  refine n_objinit act (gx gp_78 (w := 0x429) rfl (by decide) rfl) (by omega) (by show (0 : Nat) + 12 ≤ R.locals; omega) rfl ?_
  refine g_loadA act (gx gp_78 (w := 0x503) rfl (by decide) rfl) (a := 0) (n := 5) rfl rfl rfl ?_
  refine g_loadL act (gx gp_78 (w := 0x1000606) rfl (by decide) rfl) (a := 1) (n := 6) rfl rfl rfl ?_
  refine r_putf act (gx gp_78 (w := 0x2000002000913) rfl (by decide) rfl) (n := 9) (ci := 2) (j := 0) (N := 2) rfl rfl rfl hk (by decide) (Or.inr (Or.inr (Or.inl ⟨rfl, _, rfl⟩))) ?_
  refine g_loadA act (gx gp_78 (w := 0xa03) rfl (by decide) rfl) (a := 0) (n := 10) rfl rfl rfl ?_
  refine g_loadL act (gx gp_78 (w := 0x3000b06) rfl (by decide) rfl) (a := 3) (n := 11) rfl rfl rfl ?_
  refine r_putf act (gx gp_78 (w := 0x2000042000e13) rfl (by decide) rfl) (n := 14) (ci := 2) (j := 1) (N := 2) rfl rfl rfl ((shp_wr _ _ _ _ _).trans hk) (by decide) (Or.inr (Or.inr (Or.inl ⟨rfl, _, rfl⟩))) ?_
  exact g_retV hEnd (gx gp_78 (w := 0x18) rfl (by decide) rfl) ⟨rfl, rfl, ini_endQ (h2 := (wr (wr hs k 0 (.long n9)) k 1 (.long d9))) hI hInv hT h0 (fun _ _ h => h) (fun _ _ _ => rfl) hT (by decide) (by decide) (fun _ _ _ h => h) (wr_len2Q (l := [(0, (.long n9)), (1, (.long d9))])) (by omega) (fun k9 h9 => wr_ne2Q (l := [(0, (.long n9)), (1, (.long d9))]) h9) ((wr_shp2Q (l := [(0, (.long n9)), (1, (.long d9))])).trans hk) (fun j hj => by
    match j, hj with
    | 0, _ => show VT _ _ _ (rd _ k 0); rw [rd_ne _ _ (Or.inr (by decide))]; rw [rd_same hk]; exact vt_lngQ rfl (l_rng _).1 (by have := (l_rng n9).2; show _ ≤ (9223372036854775807 : Int); omega) (fun h => by cases h)
    | 1, _ => show VT _ _ _ (rd _ k 1); rw [rd_same ((shp_wr _ _ _ _ _).trans hk)]; exact vt_lngQ rfl (l_rng _).1 (by have := (l_rng d9).2; show _ ≤ (9223372036854775807 : Int); omega) (fun _ => by rw [e1]; exact b1.2.2 rfl)
    | j + 2, hj => exact absurd hj (by show ¬ (j + 2 < 2); omega))⟩ (by show kc ≤ kc + _; omega) (by show ks ≤ ks + _; omega)

theorem si_2Q {Inv : List Nat → List CE → Prop} (hI : StI KCQ Inv) : SemI KCQ Inv ci_2Q := by
  refine ⟨D_78, rfl, rfl, by decide, by decide, fun g0 bl xs l hs R0 σ as k hTY hT hInv hlen h0 hk0 hE hA => ?_⟩
  obtain ⟨v1, S1, rfl, m1, v2, S2, rfl, m2, hz⟩ := hA
  have hz : S2 = [] := hz
  subst hz
  obtain ⟨n9, rfl, -, e0⟩ := m1.lng rfl
  obtain ⟨d9, rfl, -, e1⟩ := m2.lng rfl
  have e0 : n9.toInt = σ 0 := e0
  have e1 : d9.toInt = σ 1 := e1
  have b0 := hE 0 (by decide)
  have b1 := hE 1 (by decide)
  have hk := shp_ofQ hk0
  intro wp p e R s m args below meth c Q kc0 ks0 kc ks act hf hl hc hsl hEnd
  have hf : 1 ≤ R.frames := hf
  have hl : 12 ≤ R.locals := hl
  show WpN (gp g0 wp) CLS p l e R s m args below meth c Q D_78.2.2.1 kc0 ks0 0 [some (.ref k), some (.long n9), none, some (.long d9), none] (hs, kc, ks) []
  refine g_loadA act (gx gp_78 (w := 0x103) rfl (by decide) rfl) (a := 0) (n := 1) rfl rfl rfl ?_
  refine n_objinit act (gx gp_78 (w := 0x429) rfl (by decide) rfl) (by omega) (by show (0 : Nat) + 12 ≤ R.locals; omega) rfl ?_
  refine g_loadA act (gx gp_78 (w := 0x503) rfl (by decide) rfl) (a := 0) (n := 5) rfl rfl rfl ?_
  refine g_loadL act (gx gp_78 (w := 0x1000606) rfl (by decide) rfl) (a := 1) (n := 6) rfl rfl rfl ?_
  refine r_putf act (gx gp_78 (w := 0x2000002000913) rfl (by decide) rfl) (n := 9) (ci := 2) (j := 0) (N := 2) rfl rfl rfl hk (by decide) (Or.inr (Or.inr (Or.inl ⟨rfl, _, rfl⟩))) ?_
  refine g_loadA act (gx gp_78 (w := 0xa03) rfl (by decide) rfl) (a := 0) (n := 10) rfl rfl rfl ?_
  refine g_loadL act (gx gp_78 (w := 0x3000b06) rfl (by decide) rfl) (a := 3) (n := 11) rfl rfl rfl ?_
  refine r_putf act (gx gp_78 (w := 0x2000042000e13) rfl (by decide) rfl) (n := 14) (ci := 2) (j := 1) (N := 2) rfl rfl rfl ((shp_wr _ _ _ _ _).trans hk) (by decide) (Or.inr (Or.inr (Or.inl ⟨rfl, _, rfl⟩))) ?_
  exact g_retV hEnd (gx gp_78 (w := 0x18) rfl (by decide) rfl) ⟨rfl, rfl, ini_endQ (h2 := (wr (wr hs k 0 (.long n9)) k 1 (.long d9))) hI hInv hT h0 (fun _ _ h => h) (fun _ _ _ => rfl) hT (by decide) (by decide) (fun _ _ _ h => h) (wr_len2Q (l := [(0, (.long n9)), (1, (.long d9))])) (by omega) (fun k9 h9 => wr_ne2Q (l := [(0, (.long n9)), (1, (.long d9))]) h9) ((wr_shp2Q (l := [(0, (.long n9)), (1, (.long d9))])).trans hk) (fun j hj => by
    match j, hj with
    | 0, _ => show VT _ _ _ (rd _ k 0); rw [rd_ne _ _ (Or.inr (by decide))]; rw [rd_same hk]; exact vt_lngQ rfl (l_rng _).1 (by have := (l_rng n9).2; show _ ≤ (9223372036854775807 : Int); omega) (fun _ => by rw [e0]; exact b0.2.2 rfl)
    | 1, _ => show VT _ _ _ (rd _ k 1); rw [rd_same ((shp_wr _ _ _ _ _).trans hk)]; exact vt_lngQ rfl (l_rng _).1 (by have := (l_rng d9).2; show _ ≤ (9223372036854775807 : Int); omega) (fun h => by cases h)
    | j + 2, hj => exact absurd hj (by show ¬ (j + 2 < 2); omega))⟩ (by show kc ≤ kc + _; omega) (by show ks ≤ ks + _; omega)

theorem sj_2Q {Inv : List Nat → List CE → Prop} (hI : StI KDQ Inv) : SemI KDQ Inv ci_2Q := by
  refine ⟨D_78, rfl, rfl, by decide, by decide, fun g0 bl xs l hs R0 σ as k hTY hT hInv hlen h0 hk0 hE hA => ?_⟩
  obtain ⟨v1, S1, rfl, m1, v2, S2, rfl, m2, hz⟩ := hA
  have hz : S2 = [] := hz
  subst hz
  obtain ⟨n9, rfl, -, e0⟩ := m1.lng rfl
  obtain ⟨d9, rfl, -, e1⟩ := m2.lng rfl
  have e0 : n9.toInt = σ 0 := e0
  have e1 : d9.toInt = σ 1 := e1
  have b0 := hE 0 (by decide)
  have b1 := hE 1 (by decide)
  have hk := shp_ofQ hk0
  intro wp p e R s m args below meth c Q kc0 ks0 kc ks act hf hl hc hsl hEnd
  have hf : 1 ≤ R.frames := hf
  have hl : 12 ≤ R.locals := hl
  show WpN (gp g0 wp) CLS p l e R s m args below meth c Q D_78.2.2.1 kc0 ks0 0 [some (.ref k), some (.long n9), none, some (.long d9), none] (hs, kc, ks) []
  refine g_loadA act (gx gp_78 (w := 0x103) rfl (by decide) rfl) (a := 0) (n := 1) rfl rfl rfl ?_
  refine n_objinit act (gx gp_78 (w := 0x429) rfl (by decide) rfl) (by omega) (by show (0 : Nat) + 12 ≤ R.locals; omega) rfl ?_
  refine g_loadA act (gx gp_78 (w := 0x503) rfl (by decide) rfl) (a := 0) (n := 5) rfl rfl rfl ?_
  refine g_loadL act (gx gp_78 (w := 0x1000606) rfl (by decide) rfl) (a := 1) (n := 6) rfl rfl rfl ?_
  refine r_putf act (gx gp_78 (w := 0x2000002000913) rfl (by decide) rfl) (n := 9) (ci := 2) (j := 0) (N := 2) rfl rfl rfl hk (by decide) (Or.inr (Or.inr (Or.inl ⟨rfl, _, rfl⟩))) ?_
  refine g_loadA act (gx gp_78 (w := 0xa03) rfl (by decide) rfl) (a := 0) (n := 10) rfl rfl rfl ?_
  refine g_loadL act (gx gp_78 (w := 0x3000b06) rfl (by decide) rfl) (a := 3) (n := 11) rfl rfl rfl ?_
  refine r_putf act (gx gp_78 (w := 0x2000042000e13) rfl (by decide) rfl) (n := 14) (ci := 2) (j := 1) (N := 2) rfl rfl rfl ((shp_wr _ _ _ _ _).trans hk) (by decide) (Or.inr (Or.inr (Or.inl ⟨rfl, _, rfl⟩))) ?_
  exact g_retV hEnd (gx gp_78 (w := 0x18) rfl (by decide) rfl) ⟨rfl, rfl, ini_endQ (h2 := (wr (wr hs k 0 (.long n9)) k 1 (.long d9))) hI hInv hT h0 (fun _ _ h => h) (fun _ _ _ => rfl) hT (by decide) (by decide) (fun _ _ _ h => h) (wr_len2Q (l := [(0, (.long n9)), (1, (.long d9))])) (by omega) (fun k9 h9 => wr_ne2Q (l := [(0, (.long n9)), (1, (.long d9))]) h9) ((wr_shp2Q (l := [(0, (.long n9)), (1, (.long d9))])).trans hk) (fun j hj => by
    match j, hj with
    | 0, _ => show VT _ _ _ (rd _ k 0); rw [rd_ne _ _ (Or.inr (by decide))]; rw [rd_same hk]; exact vt_lngQ rfl (l_rng _).1 (by have := (l_rng n9).2; show _ ≤ (9223372036854775807 : Int); omega) (fun _ => by rw [e0]; exact b0.2.2 rfl)
    | 1, _ => show VT _ _ _ (rd _ k 1); rw [rd_same ((shp_wr _ _ _ _ _).trans hk)]; exact vt_lngQ rfl (l_rng _).1 (by have := (l_rng d9).2; show _ ≤ (9223372036854775807 : Int); omega) (fun h => by cases h)
    | j + 2, hj => exact absurd hj (by show ¬ (j + 2 < 2); omega))⟩ (by show kc ≤ kc + _; omega) (by show ks ≤ ks + _; omega)

theorem si_3Q {Inv : List Nat → List CE → Prop} (hI : StI KCQ Inv) : SemI KCQ Inv ci_3Q := by
  refine ⟨D_78, rfl, rfl, by decide, by decide, fun g0 bl xs l hs R0 σ as k hTY hT hInv hlen h0 hk0 hE hA => ?_⟩
  obtain ⟨v1, S1, rfl, m1, v2, S2, rfl, m2, hz⟩ := hA
  have hz : S2 = [] := hz
  subst hz
  obtain ⟨n9, rfl, -, e0⟩ := m1.lng rfl
  obtain ⟨d9, rfl, -, e1⟩ := m2.lng rfl
  have e0 : n9.toInt = σ 0 := e0
  have e1 : d9.toInt = σ 1 := e1
  have b0 := hE 0 (by decide)
  have b1 := hE 1 (by decide)
  have hk := shp_ofQ hk0
  intro wp p e R s m args below meth c Q kc0 ks0 kc ks act hf hl hc hsl hEnd
  have hf : 1 ≤ R.frames := hf
  have hl : 12 ≤ R.locals := hl
  show WpN (gp g0 wp) CLS p l e R s m args below meth c Q D_78.2.2.1 kc0 ks0 0 [some (.ref k), some (.long n9), none, some (.long d9), none] (hs, kc, ks) []
  refine g_loadA act (gx gp_78 (w := 0x103) rfl (by decide) rfl) (a := 0) (n := 1) rfl rfl rfl ?_
  refine n_objinit act (gx gp_78 (w := 0x429) rfl (by decide) rfl) (by omega) (by show (0 : Nat) + 12 ≤ R.locals; omega) rfl ?_
  refine g_loadA act (gx gp_78 (w := 0x503) rfl (by decide) rfl) (a := 0) (n := 5) rfl rfl rfl ?_
  refine g_loadL act (gx gp_78 (w := 0x1000606) rfl (by decide) rfl) (a := 1) (n := 6) rfl rfl rfl ?_
  refine r_putf act (gx gp_78 (w := 0x2000002000913) rfl (by decide) rfl) (n := 9) (ci := 2) (j := 0) (N := 2) rfl rfl rfl hk (by decide) (Or.inr (Or.inr (Or.inl ⟨rfl, _, rfl⟩))) ?_
  refine g_loadA act (gx gp_78 (w := 0xa03) rfl (by decide) rfl) (a := 0) (n := 10) rfl rfl rfl ?_
  refine g_loadL act (gx gp_78 (w := 0x3000b06) rfl (by decide) rfl) (a := 3) (n := 11) rfl rfl rfl ?_
  refine r_putf act (gx gp_78 (w := 0x2000042000e13) rfl (by decide) rfl) (n := 14) (ci := 2) (j := 1) (N := 2) rfl rfl rfl ((shp_wr _ _ _ _ _).trans hk) (by decide) (Or.inr (Or.inr (Or.inl ⟨rfl, _, rfl⟩))) ?_
  exact g_retV hEnd (gx gp_78 (w := 0x18) rfl (by decide) rfl) ⟨rfl, rfl, ini_endQ (h2 := (wr (wr hs k 0 (.long n9)) k 1 (.long d9))) hI hInv hT h0 (fun _ _ h => h) (fun _ _ _ => rfl) hT (by decide) (by decide) (fun _ _ _ h => h) (wr_len2Q (l := [(0, (.long n9)), (1, (.long d9))])) (by omega) (fun k9 h9 => wr_ne2Q (l := [(0, (.long n9)), (1, (.long d9))]) h9) ((wr_shp2Q (l := [(0, (.long n9)), (1, (.long d9))])).trans hk) (fun j hj => by
    match j, hj with
    | 0, _ => show VT _ _ _ (rd _ k 0); rw [rd_ne _ _ (Or.inr (by decide))]; rw [rd_same hk]; exact vt_lngQ rfl (l_rng _).1 (by have := (l_rng n9).2; show _ ≤ (9223372036854775807 : Int); omega) (fun h => by cases h)
    | 1, _ => show VT _ _ _ (rd _ k 1); rw [rd_same ((shp_wr _ _ _ _ _).trans hk)]; exact vt_lngQ rfl (l_rng _).1 (by have := (l_rng d9).2; show _ ≤ (9223372036854775807 : Int); omega) (fun h => by cases h)
    | j + 2, hj => exact absurd hj (by show ¬ (j + 2 < 2); omega))⟩ (by show kc ≤ kc + _; omega) (by show ks ≤ ks + _; omega)

theorem sj_3Q {Inv : List Nat → List CE → Prop} (hI : StI KDQ Inv) : SemI KDQ Inv ci_3Q := by
  refine ⟨D_78, rfl, rfl, by decide, by decide, fun g0 bl xs l hs R0 σ as k hTY hT hInv hlen h0 hk0 hE hA => ?_⟩
  obtain ⟨v1, S1, rfl, m1, v2, S2, rfl, m2, hz⟩ := hA
  have hz : S2 = [] := hz
  subst hz
  obtain ⟨n9, rfl, -, e0⟩ := m1.lng rfl
  obtain ⟨d9, rfl, -, e1⟩ := m2.lng rfl
  have e0 : n9.toInt = σ 0 := e0
  have e1 : d9.toInt = σ 1 := e1
  have b0 := hE 0 (by decide)
  have b1 := hE 1 (by decide)
  have hk := shp_ofQ hk0
  intro wp p e R s m args below meth c Q kc0 ks0 kc ks act hf hl hc hsl hEnd
  have hf : 1 ≤ R.frames := hf
  have hl : 12 ≤ R.locals := hl
  show WpN (gp g0 wp) CLS p l e R s m args below meth c Q D_78.2.2.1 kc0 ks0 0 [some (.ref k), some (.long n9), none, some (.long d9), none] (hs, kc, ks) []
  refine g_loadA act (gx gp_78 (w := 0x103) rfl (by decide) rfl) (a := 0) (n := 1) rfl rfl rfl ?_
  refine n_objinit act (gx gp_78 (w := 0x429) rfl (by decide) rfl) (by omega) (by show (0 : Nat) + 12 ≤ R.locals; omega) rfl ?_
  refine g_loadA act (gx gp_78 (w := 0x503) rfl (by decide) rfl) (a := 0) (n := 5) rfl rfl rfl ?_
  refine g_loadL act (gx gp_78 (w := 0x1000606) rfl (by decide) rfl) (a := 1) (n := 6) rfl rfl rfl ?_
  refine r_putf act (gx gp_78 (w := 0x2000002000913) rfl (by decide) rfl) (n := 9) (ci := 2) (j := 0) (N := 2) rfl rfl rfl hk (by decide) (Or.inr (Or.inr (Or.inl ⟨rfl, _, rfl⟩))) ?_
  refine g_loadA act (gx gp_78 (w := 0xa03) rfl (by decide) rfl) (a := 0) (n := 10) rfl rfl rfl ?_
  refine g_loadL act (gx gp_78 (w := 0x3000b06) rfl (by decide) rfl) (a := 3) (n := 11) rfl rfl rfl ?_
  refine r_putf act (gx gp_78 (w := 0x2000042000e13) rfl (by decide) rfl) (n := 14) (ci := 2) (j := 1) (N := 2) rfl rfl rfl ((shp_wr _ _ _ _ _).trans hk) (by decide) (Or.inr (Or.inr (Or.inl ⟨rfl, _, rfl⟩))) ?_
  exact g_retV hEnd (gx gp_78 (w := 0x18) rfl (by decide) rfl) ⟨rfl, rfl, ini_endQ (h2 := (wr (wr hs k 0 (.long n9)) k 1 (.long d9))) hI hInv hT h0 (fun _ _ h => h) (fun _ _ _ => rfl) hT (by decide) (by decide) (fun _ _ _ h => h) (wr_len2Q (l := [(0, (.long n9)), (1, (.long d9))])) (by omega) (fun k9 h9 => wr_ne2Q (l := [(0, (.long n9)), (1, (.long d9))]) h9) ((wr_shp2Q (l := [(0, (.long n9)), (1, (.long d9))])).trans hk) (fun j hj => by
    match j, hj with
    | 0, _ => show VT _ _ _ (rd _ k 0); rw [rd_ne _ _ (Or.inr (by decide))]; rw [rd_same hk]; exact vt_lngQ rfl (l_rng _).1 (by have := (l_rng n9).2; show _ ≤ (9223372036854775807 : Int); omega) (fun h => by cases h)
    | 1, _ => show VT _ _ _ (rd _ k 1); rw [rd_same ((shp_wr _ _ _ _ _).trans hk)]; exact vt_lngQ rfl (l_rng _).1 (by have := (l_rng d9).2; show _ ≤ (9223372036854775807 : Int); omega) (fun h => by cases h)
    | j + 2, hj => exact absurd hj (by show ¬ (j + 2 < 2); omega))⟩ (by show kc ≤ kc + _; omega) (by show ks ≤ ks + _; omega)


/-! The cells at the loop's head: class and reference as they are made. -/
noncomputable def HS : HP := RS0.2.2.2.1
noncomputable def hsS : List CE := hdec HS
theorem okh_S : okh HS = true := by decide +kernel
theorem nc_S : HS.2.2.2.1 = 148 := by decide +kernel
theorem cnt_S : HS.2.2.2.2.2.2.1 ≤ 2000 ∧ HS.2.2.2.2.2.2.2 ≤ 100000 := by decide +kernel
theorem pc_S : RS0.1 = 8 ∧ RS0.2.1 = 28 ∧ dt RS0.2.2.2.2 = 0 := by decide +kernel
noncomputable def rdS (k j : Nat) : Value := (celH HS k).2.2 j
theorem rd_some {hs : List CE} {k : Nat} {c : CE} (h : hs[k]? = some c) (j : Nat) : rd hs k j = c.2.2 j := by
  unfold rd
  rw [h]
theorem rd_S {k : Nat} (j : Nat) (hk : k < 148) : rd hsS k j = rdS k j := by
  unfold rdS
  exact rd_some (hdec_at (h := HS) (by rw [nc_S]; exact hk)) j
theorem shp_some {hs : List CE} {k : Nat} {c : CE} (h : hs[k]? = some c) : shp hs k = some (c.1, c.2.1) := by
  unfold shp
  rw [h]
  rfl
theorem celH_1 (h : HP) (a : Nat) : (celH h a).1 = mcl (mrw h a) := rfl
theorem celH_2 (h : HP) (a : Nat) : (celH h a).2.1 = mln (mrw h a) := rfl
theorem shp_S {k : Nat} (hk : k < 148) : shp hsS k = some (mcl (mrw HS k), mln (mrw HS k)) := by
  have e := shp_some (hs := hsS) (hdec_at (h := HS) (by rw [nc_S]; exact hk))
  rw [celH_1, celH_2] at e
  exact e
theorem len_S : hsS.length = 148 := by
  unfold hsS
  rw [hdec_len, nc_S]
def R0S : List Nat := [1, 2, 33, 30, 30, 30, 30, 30, 30, 34, 31, 31, 31, 35, 30, 30, 30, 30, 2, 33, 30, 30, 30, 30, 30, 30, 34, 31, 31, 31, 35, 30, 30, 30, 30, 401, 54, 5, 40, 40, 46, 41, 42, 43, 43, 45, 44, 44, 44, 44, 41, 40, 40, 41, 6, 50, 2, 33, 30, 30, 30, 30, 30, 30, 34, 31, 31, 31, 35, 30, 30, 30, 30, 7, 44, 41, 41, 8, 36, 32, 32, 32, 32, 32, 32, 37, 32, 32, 32, 32, 32, 32, 32, 32, 32, 32, 32, 32, 32, 32, 32, 32, 32, 32, 32, 32, 32, 32, 32, 32, 32, 32, 32, 32, 32, 32, 32, 32, 32, 32, 32, 32, 32, 32, 0, 0, 0, 0, 0, 0, 0, 0, 0, 0, 0, 0, 0, 0, 0, 0, 0, 0, 0, 0, 0, 0, 55, 56]
theorem len_R0 : R0S.length = 148 := by decide +kernel
theorem lt_R0 {k r : Nat} (h : R0S[k]? = some r) : k < 148 := by
  have := (List.getElem?_eq_some_iff.mp h).1
  rw [len_R0] at this
  exact this
def vtb (K : KX) (R : List Nat) (t : FT) (v : Value) : Bool := decide (t.1 = 0) || (match v with
  | .int x => decide (t.1 = 1 ∨ t.1 = 6 ∨ t.1 = 8) && decide (t.2.2.1 ≤ x.toInt ∧ x.toInt ≤ t.2.2.2)
  | .long x => decide (t.1 = 2) && decide (t.2.2.1 ≤ x.toInt ∧ x.toInt ≤ t.2.2.2 ∧ (t.2.1 = 1 → x.toInt ≠ 0))
  | .null => decide (t.1 = 4)
  | .ref k => decide (t.1 = 3 ∨ t.1 = 4 ∨ t.1 = 7) && (match R[k]? with
    | some r => decide (r ≠ 0) && inG K t.2.1 r
    | none => false)
  | _ => false)
theorem vtb_t {K : KX} {R : List Nat} {t : FT} {v : Value} (h : vtb K R t v = true) : VT K R t v := by
  unfold vtb at h
  rw [Bool.or_eq_true] at h
  rcases h with h | h
  · exact Or.inl (of_decide_eq_true h)
  · cases v with
    | int x =>
      have h : (decide (t.1 = 1 ∨ t.1 = 6 ∨ t.1 = 8) && decide (t.2.2.1 ≤ x.toInt ∧ x.toInt ≤ t.2.2.2)) = true := h
      rw [Bool.and_eq_true] at h
      have h2 := of_decide_eq_true h.2
      rcases of_decide_eq_true h.1 with q | q | q
      · exact Or.inr (Or.inl ⟨q, x, rfl, h2⟩)
      · exact Or.inr (Or.inr (Or.inr (Or.inr (Or.inr (Or.inl ⟨Or.inl q, x, rfl, h2⟩)))))
      · exact Or.inr (Or.inr (Or.inr (Or.inr (Or.inr (Or.inl ⟨Or.inr q, x, rfl, h2⟩)))))
    | long x =>
      have h : (decide (t.1 = 2) && decide (t.2.2.1 ≤ x.toInt ∧ x.toInt ≤ t.2.2.2 ∧ (t.2.1 = 1 → x.toInt ≠ 0))) = true := h
      rw [Bool.and_eq_true] at h
      exact Or.inr (Or.inr (Or.inl ⟨of_decide_eq_true h.1, x, rfl, of_decide_eq_true h.2⟩))
    | null => exact Or.inr (Or.inr (Or.inr (Or.inr (Or.inl ⟨of_decide_eq_true h, Or.inl rfl⟩))))
    | ref k =>
      have h : (decide (t.1 = 3 ∨ t.1 = 4 ∨ t.1 = 7) && (match R[k]? with
        | some r => decide (r ≠ 0) && inG K t.2.1 r
        | none => false)) = true := h
      rw [Bool.and_eq_true] at h
      obtain ⟨h1, h2⟩ := h
      have h3 : ofG K R t.2.1 (.ref k) := by
        cases hr : R[k]? with
        | none => rw [hr] at h2; exact absurd h2 Bool.false_ne_true
        | some r =>
          rw [hr] at h2
          have h2 : (decide (r ≠ 0) && inG K t.2.1 r) = true := h2
          rw [Bool.and_eq_true] at h2
          exact ⟨k, r, rfl, hr, of_decide_eq_true h2.1, h2.2⟩
      rcases of_decide_eq_true h1 with q | q | q
      · exact Or.inr (Or.inr (Or.inr (Or.inl ⟨q, h3⟩)))
      · exact Or.inr (Or.inr (Or.inr (Or.inr (Or.inl ⟨q, Or.inr h3⟩))))
      · exact Or.inr (Or.inr (Or.inr (Or.inr (Or.inr (Or.inr ⟨q, h3⟩)))))
    | _ => exact absurd h Bool.false_ne_true
noncomputable def htc (k r : Nat) : Bool := decide (r = 0) || (decide (mcl (mrw HS k) = kdK KC r ∧ mln (mrw HS k) = lnK KC r) && (List.range (lnK KC r)).all fun j => vtb KC R0S (ftK KC r j) (rdS k j))
theorem htb_S : ((List.range 148).all fun k => htc k (R0S.getD k 0)) = true := by decide +kernel
theorem reg_S : (KC.2.2.all fun q => decide (q.1 ≠ 0 ∧ R0S[q.2.1]? = some q.1) && (List.range 148).all fun k => decide (R0S[k]? = some q.1 → k = q.2.1)) = true := by decide +kernel
theorem hty_S : HTy KC R0S hsS := by
  refine ⟨by rw [len_R0, len_S], fun k r hk hr => ?_, fun q hq => ?_⟩
  · have hl := lt_R0 hk
    have h := List.all_eq_true.mp htb_S k (List.mem_range.mpr hl)
    rw [show R0S.getD k 0 = r by rw [List.getD_eq_getElem?_getD, hk]; rfl] at h
    unfold htc at h
    rw [Bool.or_eq_true, Bool.and_eq_true] at h
    rcases h with h | ⟨h1, h2⟩
    · exact absurd (of_decide_eq_true h) hr
    · obtain ⟨e1, e2⟩ := of_decide_eq_true h1
      refine ⟨by rw [shp_S hl, e1, e2], fun j hj => ?_⟩
      rw [rd_S j hl]
      exact vtb_t (List.all_eq_true.mp h2 j (List.mem_range.mpr hj))
  · have h := List.all_eq_true.mp reg_S q hq
    rw [Bool.and_eq_true] at h
    obtain ⟨e1, e2⟩ := of_decide_eq_true h.1
    exact ⟨e1, e2, fun k hk => of_decide_eq_true (List.all_eq_true.mp h.2 k (List.mem_range.mpr (lt_R0 hk))) hk⟩
theorem only_S (r k0 : Nat) (h : ((List.range 148).all fun k => decide (R0S[k]? = some r → k = k0)) = true) : ∀ k : Nat, R0S[k]? = some r → k = k0 := fun k hk => of_decide_eq_true (List.all_eq_true.mp h k (List.mem_range.mpr (lt_R0 hk))) hk
theorem only_5 : ∀ k : Nat, R0S[k]? = some 5 → k = 37 := only_S 5 37 (by decide +kernel)
theorem only_401 : ∀ k : Nat, R0S[k]? = some 401 → k = 35 := only_S 401 35 (by decide +kernel)
theorem rS_1 : rdS 37 2 = .int 1 ∧ rdS 37 8 = .ref 40 ∧ rdS 40 0 = .int 1 ∧ R0S[40]? = some 46 := by decide +kernel
theorem rS_2 : rdS 35 0 = .ref 7000000000002 ∧ rdS 35 1 = .int 0 ∧ rdS 35 2 = .int 0 ∧ rdS 54 0 = .int 0 := by decide +kernel
theorem invC_S : InvC R0S hsS := by
  refine ⟨fun k hk => ?_, fun k1 k2 h1 h2 => (only_401 k1 h1).trans (only_401 k2 h2).symm, fun k hk => ?_⟩
  · obtain rfl := only_5 k hk
    refine ⟨1, 40, (rd_S 2 (by decide)).trans rS_1.1, (rd_S 8 (by decide)).trans rS_1.2.1, rS_1.2.2.2, by decide, fun j hj => ?_⟩
    have hj : (j : Int) < 1 := hj
    obtain rfl : j = 0 := by omega
    exact ⟨1, (rd_S 0 (by decide)).trans rS_1.2.2.1, by decide⟩
  · obtain rfl := only_401 k hk
    exact ⟨0, 0, (rd_S 1 (by decide)).trans rS_2.2.1, (rd_S 2 (by decide)).trans rS_2.2.2.1, by decide, by decide, Or.inl ⟨(rd_S 0 (by decide)).trans rS_2.1, by decide⟩⟩
def isIv (v : Value) : Bool := match v with
  | .int _ => true
  | _ => false
def isLg (v : Value) : Bool := match v with
  | .long _ => true
  | _ => false
def ivI (v : Value) : Int := match v with
  | .int x => x.toInt
  | _ => 0
noncomputable def ivS (c j : Nat) : Int := ivI (rdS c j)
theorem isI_t {v : Value} (h : isIv v = true) : ∃ x : Int32, v = .int x ∧ x.toInt = ivI v := by
  cases v with
  | int x => exact ⟨x, rfl, rfl⟩
  | _ => exact absurd h Bool.false_ne_true
theorem isLg_t {v : Value} (h : isLg v = true) : ∃ x : Int64, v = .long x := by
  cases v with
  | long x => exact ⟨x, rfl⟩
  | _ => exact absurd h Bool.false_ne_true
theorem iarr_S {c n : Nat} (hc : c < 148) (h : ((List.range n).all fun j => isIv (rdS c j)) = true) : IArr hsS c n (ivS c) := fun j hj => by
  rw [rd_S j hc]
  exact isI_t (List.all_eq_true.mp h j (List.mem_range.mpr hj))
theorem rw_S : (RWT.all fun q => decide (rdS 124 q.1 = .ref q.2.1 ∧ mcl (mrw HS q.2.1) = q.2.2.1 ∧ mln (mrw HS q.2.1) = q.2.2.2)) = true := by decide +kernel
theorem rw0_S : mcl (mrw HS 124) = 9 ∧ mln (mrw HS 124) = 39 := by decide +kernel
theorem RW_S : RW hsS := by
  refine ⟨by rw [shp_S (by decide), rw0_S.1, rw0_S.2], fun q hq => ?_⟩
  obtain ⟨e1, e2, e3⟩ := of_decide_eq_true (List.all_eq_true.mp rw_S q hq)
  have hl := (rwt_rng q hq).2
  exact ⟨(rd_S _ (by decide)).trans e1, by rw [shp_S (by omega), e2, e3]⟩
theorem nw_1 : ivS 125 0 = 2 ∧ ivS 125 1 = 1 ∧ ivS 125 2 = 1 ∧ ivS 125 3 = 0 ∧ ivS 125 4 = 0 ∧ ivS 125 5 = 0 ∧ ivS 125 11 = 1 ∧ ivS 127 38 = -1 ∧ 1 ≤ ivS 127 0 := by decide +kernel
theorem nw_2 : (∀ l, l < 12 → 0 ≤ ivS 127 l ∧ ivS 127 l ≤ 400) ∧ (∀ g, g < 5 → 0 ≤ ivS 127 (12 + g) ∧ ivS 127 (12 + g) ≤ 99) ∧ (∀ g, g < 5 → 0 ≤ ivS 127 (17 + g) ∧ ivS 127 (17 + g) ≤ 200) ∧ (∀ j, j < 16 → 0 ≤ ivS 127 (22 + j) ∧ ivS 127 (22 + j) ≤ 200) := by decide +kernel
theorem ng_S : NG (ivS 125) 1 1 (ivS 127 38) := by
  obtain ⟨-, -, -, -, -, e5, e11, e38, -⟩ := nw_1
  refine ⟨by decide, by decide, by decide, fun l hl => ?_, fun U h0 hx => ?_, Or.inl e38⟩
  · obtain rfl : l = 0 := by omega
    show 0 ≤ ivS 125 5 ∧ ivS 125 5 ≤ 1 ∧ 0 ≤ ivS 125 11 ∧ ivS 125 11 ≤ 1 ∧ ivS 125 5 ≠ ivS 125 11
    rw [e5, e11]
    decide
  · obtain ⟨x, hx1, hx2⟩ := hx
    have : x = 1 := by
      rcases Nat.lt_or_ge x 1 with q | q
      · obtain rfl : x = 0 := by omega
        rw [h0] at hx2
        exact absurd hx2 Bool.noConfusion
      · omega
    subst this
    refine ⟨0, by decide, by decide, ?_⟩
    show U (ivS 125 5).toNat ≠ U (ivS 125 11).toNat
    rw [e5, e11]
    show U 0 ≠ U 1
    rw [h0, hx2]
    exact Bool.noConfusion
theorem nwx_S : NWx (ivS 125) (ivS 127) 1 1 0 0 := by
  obtain ⟨e0, e1, e2, e3, e4, -, -, -, e9⟩ := nw_1
  refine ⟨⟨by rw [e0]; rfl, by rw [e1]; decide, by rw [e2]; rfl, by rw [e3]; rfl, by rw [e4]; rfl, by decide, by decide, fun g hg => absurd hg (Nat.not_lt_zero g), fun r hr => absurd hr (Nat.not_lt_zero r), ng_S, nw_2⟩, fun l hl => ?_⟩
  obtain rfl : l = 0 := by omega
  exact e9
theorem i_S (j : Nat) (h : isIv (rdS 124 j) = true) : ∃ x : Int32, rd hsS 124 j = .int x := by
  obtain ⟨x, e, -⟩ := isI_t h
  exact ⟨x, (rd_S j (by decide)).trans e⟩
theorem mf_1 : rdS 124 0 = .int 0 ∧ rdS 124 6 = .int 0 ∧ rdS 124 10 = .int 0 ∧ rdS 124 14 = .int 0 ∧ isIv (rdS 124 24) = true ∧ isIv (rdS 124 28) = true ∧ isIv (rdS 124 11) = true ∧ isIv (rdS 124 12) = true ∧ isIv (rdS 124 13) = true ∧ isIv (rdS 124 15) = true := by decide +kernel
theorem mf_2 : isLg (rdS 124 29) = true ∧ isLg (rdS 124 30) = true ∧ isLg (rdS 124 35) = true ∧ isLg (rdS 124 36) = true ∧ isLg (rdS 124 37) = true ∧ isLg (rdS 124 38) = true := by decide +kernel
theorem modF_S : ModF hsS := by
  obtain ⟨e0, -, -, -, e24, e28, -⟩ := mf_1
  obtain ⟨l1, l2, l3, l4, l5, l6⟩ := mf_2
  have hl : ∀ j, isLg (rdS 124 j) = true → ∃ x : Int64, rd hsS 124 j = .long x := fun j h => by
    obtain ⟨x, e⟩ := isLg_t h
    exact ⟨x, (rd_S j (by decide)).trans e⟩
  refine ⟨⟨0, (rd_S 0 (by decide)).trans e0, by decide, by decide⟩, i_S 24 e24, i_S 28 e28, fun j hj => ?_⟩
  rcases hj with rfl | rfl | rfl | rfl | rfl | rfl
  · exact hl _ l1
  · exact hl _ l2
  · exact hl _ l3
  · exact hl _ l4
  · exact hl _ l5
  · exact hl _ l6
theorem pin_S : PIn hsS 0 := by
  obtain ⟨-, -, e10, e14, -, -, e11, e12, e13, e15⟩ := mf_1
  exact ⟨⟨_, iarr_S (c := 130) (n := 700) (by decide) (by decide +kernel)⟩, ⟨0, (rd_S 10 (by decide)).trans e10, by decide⟩, by decide, by decide, i_S 11 e11, i_S 12 e12, i_S 13 e13, i_S 15 e15, ⟨0, (rd_S 14 (by decide)).trans e14, by decide, by decide⟩, ⟨_, iarr_S (c := 126) (n := 46) (by decide) (by decide +kernel)⟩, ⟨_, iarr_S (c := 128) (n := 39) (by decide) (by decide +kernel)⟩⟩
theorem rst_S : RSt hsS 0 := ⟨ivS 125, ivS 127, ivS 129, 1, 1, 0, 0, 0, ⟨RW_S, iarr_S (c := 125) (n := 46) (by decide) (by decide +kernel), iarr_S (c := 127) (n := 39) (by decide) (by decide +kernel)⟩, iarr_S (c := 129) (n := 390) (by decide) (by decide +kernel), ⟨0, (rd_S 6 (by decide)).trans mf_1.2.1, by decide⟩, by decide, nwx_S, fun i hi => absurd hi (Nat.not_lt_zero i), modF_S, pin_S⟩
theorem r0_124 : ((List.range 22).all fun k => decide (R0S[124 + k]? = some 0)) = true := by decide +kernel
theorem li_S : LI hsS R0S 0 0 := ⟨hty_S, invC_S, by decide +kernel, fun k q1 q2 => by
  have := of_decide_eq_true (List.all_eq_true.mp r0_124 (k - 124) (List.mem_range.mpr (by omega)))
  rw [show 124 + (k - 124) = k by omega] at this
  exact this, by decide +kernel, by decide +kernel, rst_S, 0, (rd_S 0 (by decide)).trans rS_2.2.2.2, by decide⟩
theorem pt_S : PT HS.2.2.2.2.2.2.1 HS.2.2.2.2.2.2.2 hsS.length 0 0 := by
  obtain ⟨h1, h2⟩ := cnt_S
  rw [len_S]
  exact ⟨by omega, by omega, by omega, fun h => absurd h (by decide)⟩
def LVS : LN := [some (.ref 7000000000003), some (.ref 0), some (.ref 124), some (.ref 146), some (.ref 147), some (.int 0), none, none, none]
noncomputable def lvc (i : Nat) (v : Value) : Bool := decide (pget RS0.2.2.1 i ≠ 0 ∧ okxw (pget RS0.2.2.1 i) = true ∧ decW 0 (pget RS0.2.2.1 i) = v)
theorem lv_0 : (lvc 0 (.ref 7000000000003) && (lvc 1 (.ref 0) && (lvc 2 (.ref 124) && (lvc 3 (.ref 146) && (lvc 4 (.ref 147) && lvc 5 (.int 0)))))) = true := by decide +kernel
theorem lv_S : ∀ (i : Nat) (v : Value), LVS[i]? = some (some v) → pget RS0.2.2.1 i ≠ 0 ∧ okxw (pget RS0.2.2.1 i) = true ∧ decW 0 (pget RS0.2.2.1 i) = v := by
  have h := lv_0
  simp only [Bool.and_eq_true] at h
  obtain ⟨h0, h1, h2, h3, h4, h5⟩ := h
  intro i v hi
  match i, hi with
  | 0, hi => obtain rfl : (Value.ref 7000000000003) = v := Option.some.inj (Option.some.inj hi); exact of_decide_eq_true h0
  | 1, hi => obtain rfl : (Value.ref 0) = v := Option.some.inj (Option.some.inj hi); exact of_decide_eq_true h1
  | 2, hi => obtain rfl : (Value.ref 124) = v := Option.some.inj (Option.some.inj hi); exact of_decide_eq_true h2
  | 3, hi => obtain rfl : (Value.ref 146) = v := Option.some.inj (Option.some.inj hi); exact of_decide_eq_true h3
  | 4, hi => obtain rfl : (Value.ref 147) = v := Option.some.inj (Option.some.inj hi); exact of_decide_eq_true h4
  | 5, hi => obtain rfl : (Value.int 0) = v := Option.some.inj (Option.some.inj hi); exact of_decide_eq_true h5
  | 6, hi => exact absurd hi (by simp [LVS])
  | 7, hi => exact absurd hi (by simp [LVS])
  | 8, hi => exact absurd hi (by simp [LVS])
  | k + 9, hi => exact absurd hi (by simp [LVS])

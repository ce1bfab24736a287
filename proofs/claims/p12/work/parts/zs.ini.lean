/-! The cells at the loop's head: class and reference as they are made, exactly. -/
noncomputable def HS : HP := RS0.2.2.2.1
noncomputable def hsS : List CE := hdec HS
theorem okh_S : okh HS = true := by decide +kernel
theorem nc_S : HS.2.2.2.1 = 148 := by decide +kernel
theorem cnt_S : HS.2.2.2.2.2.2.1 ≤ 2000 ∧ HS.2.2.2.2.2.2.2 ≤ 100000 := by decide +kernel
theorem pc_S : RS0.1 = 8 ∧ RS0.2.1 = 28 ∧ dt RS0.2.2.2.2 = 0 := by decide +kernel
noncomputable def rdS (k j : Nat) : Value := (celH HS k).2.2 j
theorem rd_some {hs : List CE} {k : Nat} {c : CE} (h : hs[k]? = some c) (j : Nat) : rd hs k j = c.2.2 j := by
  unfold rd
  rw [h]
theorem rd_S {k : Nat} (j : Nat) (hk : k < 148) : rd hsS k j = rdS k j := by
  unfold rdS
  exact rd_some (hdec_at (h := HS) (by rw [nc_S]; exact hk)) j
theorem shp_some {hs : List CE} {k : Nat} {c : CE} (h : hs[k]? = some c) : shp hs k = some (c.1, c.2.1) := by
  unfold shp
  rw [h]
  rfl
theorem celH_1 (h : HP) (a : Nat) : (celH h a).1 = mcl (mrw h a) := rfl
theorem celH_2 (h : HP) (a : Nat) : (celH h a).2.1 = mln (mrw h a) := rfl
theorem shp_S {k : Nat} (hk : k < 148) : shp hsS k = some (mcl (mrw HS k), mln (mrw HS k)) := by
  have e := shp_some (hs := hsS) (hdec_at (h := HS) (by rw [nc_S]; exact hk))
  rw [celH_1, celH_2] at e
  exact e
theorem len_S : hsS.length = 148 := by
  unfold hsS
  rw [hdec_len, nc_S]
def R0S : List Nat := [501, 502, 533, 530, 530, 530, 530, 530, 530, 534, 531, 531, 531, 535, 530, 530, 530, 530, 502, 533, 530, 530, 530, 530, 530, 530, 534, 531, 531, 531, 535, 530, 530, 530, 530, 0, 54, 505, 540, 540, 546, 541, 542, 543, 543, 545, 544, 544, 544, 544, 541, 540, 540, 541, 504, 0, 0, 0, 0, 0, 0, 0, 0, 0, 0, 0, 0, 0, 0, 0, 0, 0, 0, 7, 44, 41, 41, 8, 36, 32, 32, 32, 32, 32, 32, 37, 32, 32, 32, 32, 32, 32, 32, 32, 32, 32, 32, 32, 32, 32, 32, 32, 32, 32, 32, 32, 32, 32, 32, 32, 32, 32, 32, 32, 32, 32, 32, 32, 32, 32, 32, 32, 32, 32, 0, 0, 0, 0, 0, 0, 0, 0, 0, 0, 0, 0, 0, 0, 0, 0, 0, 0, 0, 0, 0, 0, 55, 56]
theorem len_R0 : R0S.length = 148 := by decide +kernel
theorem lt_R0 {k r : Nat} (h : R0S[k]? = some r) : k < 148 := by
  have := (List.getElem?_eq_some_iff.mp h).1
  rw [len_R0] at this
  exact this
def vtbX (K : KX) (R : List Nat) (t : FT) (v : Value) : Bool := decide (t.1 = 0) || (match v with
  | .int x => decide (t.1 = 1 ∨ t.1 = 6 ∨ t.1 = 8) && decide (t.2.2.1 ≤ x.toInt ∧ x.toInt ≤ t.2.2.2)
  | .long x => decide (t.1 = 2) && decide (t.2.2.1 ≤ x.toInt ∧ x.toInt ≤ t.2.2.2 ∧ (t.2.1 = 1 → x.toInt ≠ 0))
  | .null => decide (t.1 = 4)
  | .ref k => decide (t.1 = 3 ∨ t.1 = 4 ∨ t.1 = 7) && (match R[k]? with
    | some r => decide (r ≠ 0) && inG K t.2.1 r
    | none => false)
  | _ => false)
theorem vtbX_t {K : KX} {R : List Nat} {t : FT} {v : Value} (h : vtbX K R t v = true) : VT K R t v := by
  unfold vtbX at h
  rw [Bool.or_eq_true] at h
  rcases h with h | h
  · exact Or.inl (of_decide_eq_true h)
  · cases v with
    | int x =>
      have h : (decide (t.1 = 1 ∨ t.1 = 6 ∨ t.1 = 8) && decide (t.2.2.1 ≤ x.toInt ∧ x.toInt ≤ t.2.2.2)) = true := h
      rw [Bool.and_eq_true] at h
      have h2 := of_decide_eq_true h.2
      rcases of_decide_eq_true h.1 with q | q | q
      · exact Or.inr (Or.inl ⟨q, x, rfl, h2⟩)
      · exact Or.inr (Or.inr (Or.inr (Or.inr (Or.inr (Or.inl ⟨Or.inl q, x, rfl, h2⟩)))))
      · exact Or.inr (Or.inr (Or.inr (Or.inr (Or.inr (Or.inl ⟨Or.inr q, x, rfl, h2⟩)))))
    | long x =>
      have h : (decide (t.1 = 2) && decide (t.2.2.1 ≤ x.toInt ∧ x.toInt ≤ t.2.2.2 ∧ (t.2.1 = 1 → x.toInt ≠ 0))) = true := h
      rw [Bool.and_eq_true] at h
      exact Or.inr (Or.inr (Or.inl ⟨of_decide_eq_true h.1, x, rfl, of_decide_eq_true h.2⟩))
    | null => exact Or.inr (Or.inr (Or.inr (Or.inr (Or.inl ⟨of_decide_eq_true h, Or.inl rfl⟩))))
    | ref k =>
      have h : (decide (t.1 = 3 ∨ t.1 = 4 ∨ t.1 = 7) && (match R[k]? with
        | some r => decide (r ≠ 0) && inG K t.2.1 r
        | none => false)) = true := h
      rw [Bool.and_eq_true] at h
      obtain ⟨h1, h2⟩ := h
      have h3 : ofG K R t.2.1 (.ref k) := by
        cases hr : R[k]? with
        | none => rw [hr] at h2; exact absurd h2 Bool.false_ne_true
        | some r =>
          rw [hr] at h2
          have h2 : (decide (r ≠ 0) && inG K t.2.1 r) = true := h2
          rw [Bool.and_eq_true] at h2
          exact ⟨k, r, rfl, hr, of_decide_eq_true h2.1, h2.2⟩
      rcases of_decide_eq_true h1 with q | q | q
      · exact Or.inr (Or.inr (Or.inr (Or.inl ⟨q, h3⟩)))
      · exact Or.inr (Or.inr (Or.inr (Or.inr (Or.inl ⟨q, Or.inr h3⟩))))
      · exact Or.inr (Or.inr (Or.inr (Or.inr (Or.inr (Or.inr ⟨q, h3⟩)))))
    | _ => exact absurd h Bool.false_ne_true
noncomputable def htc (k r : Nat) : Bool := decide (r = 0) || (decide (mcl (mrw HS k) = kdK KCQ r ∧ mln (mrw HS k) = lnK KCQ r) && (List.range (lnK KCQ r)).all fun j => vtbX KCQ R0S (ftK KCQ r j) (rdS k j))
theorem htb_S : ((List.range 148).all fun k => htc k (R0S.getD k 0)) = true := by decide +kernel
theorem reg_S : (KCQ.2.2.all fun q => decide (q.1 ≠ 0 ∧ R0S[q.2.1]? = some q.1) && (List.range 148).all fun k => decide (R0S[k]? = some q.1 → k = q.2.1)) = true := by decide +kernel
theorem hty_S : HTy KCQ R0S hsS := by
  refine ⟨by rw [len_R0, len_S], fun k r hk hr => ?_, fun q hq => ?_⟩
  · have hl := lt_R0 hk
    have h := List.all_eq_true.mp htb_S k (List.mem_range.mpr hl)
    rw [show R0S.getD k 0 = r by rw [List.getD_eq_getElem?_getD, hk]; rfl] at h
    unfold htc at h
    rw [Bool.or_eq_true, Bool.and_eq_true] at h
    rcases h with h | ⟨h1, h2⟩
    · exact absurd (of_decide_eq_true h) hr
    · obtain ⟨e1, e2⟩ := of_decide_eq_true h1
      refine ⟨by rw [shp_S hl, e1, e2], fun j hj => ?_⟩
      rw [rd_S j hl]
      exact vtbX_t (List.all_eq_true.mp h2 j (List.mem_range.mpr hj))
  · have h := List.all_eq_true.mp reg_S q hq
    rw [Bool.and_eq_true] at h
    obtain ⟨e1, e2⟩ := of_decide_eq_true h.1
    exact ⟨e1, e2, fun k hk => of_decide_eq_true (List.all_eq_true.mp h.2 k (List.mem_range.mpr (lt_R0 hk))) hk⟩
theorem only_S (r k0 : Nat) (h : ((List.range 148).all fun k => decide (R0S[k]? = some r → k = k0)) = true) : ∀ k : Nat, R0S[k]? = some r → k = k0 := fun k hk => of_decide_eq_true (List.all_eq_true.mp h k (List.mem_range.mpr (lt_R0 hk))) hk
def isIv (v : Value) : Bool := match v with
  | .int _ => true
  | _ => false
def isLg (v : Value) : Bool := match v with
  | .long _ => true
  | _ => false
def ivI (v : Value) : Int := match v with
  | .int x => x.toInt
  | _ => 0
noncomputable def ivS (c j : Nat) : Int := ivI (rdS c j)
theorem isI_t {v : Value} (h : isIv v = true) : ∃ x : Int32, v = .int x ∧ x.toInt = ivI v := by
  cases v with
  | int x => exact ⟨x, rfl, rfl⟩
  | _ => exact absurd h Bool.false_ne_true
theorem isLg_t {v : Value} (h : isLg v = true) : ∃ x : Int64, v = .long x := by
  cases v with
  | long x => exact ⟨x, rfl⟩
  | _ => exact absurd h Bool.false_ne_true
theorem iarr_S {c n : Nat} (hc : c < 148) (h : ((List.range n).all fun j => isIv (rdS c j)) = true) : IArr hsS c n (ivS c) := fun j hj => by
  rw [rd_S j hc]
  exact isI_t (List.all_eq_true.mp h j (List.mem_range.mpr hj))
theorem rw_S : (RWT.all fun q => decide (rdS 124 q.1 = .ref q.2.1 ∧ mcl (mrw HS q.2.1) = q.2.2.1 ∧ mln (mrw HS q.2.1) = q.2.2.2)) = true := by decide +kernel
theorem rw0_S : mcl (mrw HS 124) = 9 ∧ mln (mrw HS 124) = 39 := by decide +kernel
theorem RW_S : RW hsS := by
  refine ⟨by rw [shp_S (by decide), rw0_S.1, rw0_S.2], fun q hq => ?_⟩
  obtain ⟨e1, e2, e3⟩ := of_decide_eq_true (List.all_eq_true.mp rw_S q hq)
  have hl := (rwt_rng q hq).2
  exact ⟨(rd_S _ (by decide)).trans e1, by rw [shp_S (by omega), e2, e3]⟩
theorem i_S (j : Nat) (h : isIv (rdS 124 j) = true) : ∃ x : Int32, rd hsS 124 j = .int x := by
  obtain ⟨x, e, -⟩ := isI_t h
  exact ⟨x, (rd_S j (by decide)).trans e⟩
theorem mf_1 : rdS 124 0 = .int 0 ∧ rdS 124 6 = .int 0 ∧ rdS 124 10 = .int 0 ∧ rdS 124 14 = .int 0 ∧ isIv (rdS 124 24) = true ∧ isIv (rdS 124 28) = true ∧ isIv (rdS 124 11) = true ∧ isIv (rdS 124 12) = true ∧ isIv (rdS 124 13) = true ∧ isIv (rdS 124 15) = true := by decide +kernel
theorem mf_2 : isLg (rdS 124 29) = true ∧ isLg (rdS 124 30) = true ∧ isLg (rdS 124 35) = true ∧ isLg (rdS 124 36) = true ∧ isLg (rdS 124 37) = true ∧ isLg (rdS 124 38) = true := by decide +kernel
theorem modF_S : ModF hsS := by
  obtain ⟨e0, -, -, -, e24, e28, -⟩ := mf_1
  obtain ⟨l1, l2, l3, l4, l5, l6⟩ := mf_2
  have hl : ∀ j, isLg (rdS 124 j) = true → ∃ x : Int64, rd hsS 124 j = .long x := fun j h => by
    obtain ⟨x, e⟩ := isLg_t h
    exact ⟨x, (rd_S j (by decide)).trans e⟩
  refine ⟨⟨0, (rd_S 0 (by decide)).trans e0, by decide, by decide⟩, i_S 24 e24, i_S 28 e28, fun j hj => ?_⟩
  rcases hj with rfl | rfl | rfl | rfl | rfl | rfl
  · exact hl _ l1
  · exact hl _ l2
  · exact hl _ l3
  · exact hl _ l4
  · exact hl _ l5
  · exact hl _ l6
def fv0 : Nat → Int := fun j => if j = 0 then 2 else if j = 1 then 1 else if j = 2 then 1 else if j = 11 then 1 else 0
def w0S : Nat → Int := fun j => if j = 0 then 1 else if j = 6 then 1 else if j = 38 then -1 else 0
noncomputable def FS (a j : Nat) : Int32 := match rdS (37 + a) j with
  | .int x => x
  | _ => 0
theorem iarrX {c n : Nat} {f : Nat → Int} (hc : c < 148) (h : ((List.range n).all fun j => isIv (rdS c j) && decide (ivI (rdS c j) = f j)) = true) : IArr hsS c n f := fun j hj => by
  have q := List.all_eq_true.mp h j (List.mem_range.mpr hj)
  rw [Bool.and_eq_true] at q
  obtain ⟨x, e, ex⟩ := isI_t q.1
  exact ⟨x, (rd_S j hc).trans e, ex.trans (of_decide_eq_true q.2)⟩
theorem a125 : IArr hsS 125 46 fv0 := iarrX (by decide) (by decide +kernel)
theorem a127 : IArr hsS 127 39 w0S := iarrX (by decide) (by decide +kernel)
theorem a130 : IArr hsS 130 700 (fun _ => 0) := iarrX (by decide) (by decide +kernel)
theorem a129 : IArr hsS 129 390 (ivS 129) := iarr_S (by decide) (by decide +kernel)
theorem a126 : IArr hsS 126 46 (ivS 126) := iarr_S (by decide) (by decide +kernel)
theorem a128 : IArr hsS 128 39 (ivS 128) := iarr_S (by decide) (by decide +kernel)
theorem cut0 : CutOK fv0 1 (-1) 1 := fun U h0 hx => by
  obtain ⟨x, hx1, hx2⟩ := hx
  have : x = 1 := by
    rcases Nat.lt_or_ge x 1 with q | q
    · obtain rfl : x = 0 := by omega
      rw [h0] at hx2
      exact absurd hx2 Bool.noConfusion
    · omega
  subst this
  refine ⟨0, by decide, by decide, ?_⟩
  show U (fv0 5).toNat ≠ U (fv0 11).toNat
  show U 0 ≠ U 1
  rw [h0, hx2]
  exact Bool.noConfusion
theorem nwx0 : NWx fv0 w0S 1 1 0 0 := by
  refine ⟨⟨rfl, by decide, rfl, rfl, rfl, by decide, by decide, fun g hg => absurd hg (Nat.not_lt_zero g), fun r hr => absurd hr (Nat.not_lt_zero r), ⟨by decide, by decide, by decide, fun l hl => ?_, cut0, Or.inl rfl⟩, by decide, by decide, by decide, by decide⟩, fun l hl => ?_⟩
  · obtain rfl : l = 0 := by omega
    decide
  · obtain rfl : l = 0 := by omega
    decide
theorem zr00 : ZR fv0 := fun j hj => by
  unfold fv0
  unfold NSL at hj
  (repeat' split) <;> omega
theorem spr0 : SPR fv0 (w0S 38) 1 0 0 1 := ⟨rfl, by decide, by decide, by decide, by decide, rfl, by decide, rfl, by decide, rfl, by decide, by decide, by decide, fun l hl => by
  obtain rfl : l = 0 := by omega
  decide, cut0⟩
theorem gst_S : (GST.all fun q => decide (rdS 37 q.1 = .ref (37 + q.2.1) ∧ mcl (mrw HS (37 + q.2.1)) = q.2.2.1 ∧ mln (mrw HS (37 + q.2.1)) = q.2.2.2)) = true := by decide +kernel
theorem gd_S : ∀ i : Fin 4, rdS 45 i.val = .ref (46 + i.val) ∧ mcl (mrw HS (46 + i.val)) = 32 ∧ mln (mrw HS (46 + i.val)) = 4 := by decide +kernel
theorem g37_S : mcl (mrw HS 37) = 4 ∧ mln (mrw HS 37) = 18 := by decide +kernel
def gplb (a j : Nat) : Bool := (decide (a = 0) && decide (j < 6)) || (decide (1 ≤ a ∧ a ≤ 4) && decide (j < 6)) || (decide (5 ≤ a ∧ a ≤ 7) && decide (j < 5)) || (decide (9 ≤ a ∧ a ≤ 12) && decide (j < 4)) || (decide (13 ≤ a ∧ a ≤ 16) && decide (j < 6))
theorem gim_1 : ((List.range 17).all fun a => (List.range 6).all fun j => !(gplb a j) || isIv (rdS (37 + a) j)) = true := by decide +kernel
theorem gim_S : GIM hsS 37 FS := by
  have q0 : ∀ q ∈ GST, q.2.1 ≤ 16 := fun q hq => (gst_rng q hq).2.2.1
  refine ⟨⟨Or.inl rfl, by rw [shp_S (by decide), g37_S.1, g37_S.2], fun q hq => ?_, fun i hi => ?_⟩, fun a j hp => ?_⟩
  · obtain ⟨e1, e2, e3⟩ := of_decide_eq_true (List.all_eq_true.mp gst_S q hq)
    have := q0 q hq
    exact ⟨(rd_S _ (by decide)).trans e1, by rw [shp_S (by omega), e2, e3]⟩
  · obtain ⟨e1, e2, e3⟩ := gd_S ⟨i, hi⟩
    have e1 : rdS 45 i = .ref (46 + i) := e1
    have e2 : mcl (mrw HS (46 + i)) = 32 := e2
    have e3 : mln (mrw HS (46 + i)) = 4 := e3
    refine ⟨(rd_S i (by decide)).trans (by rw [show 37 + (9 + i) = 46 + i by omega]; exact e1), ?_⟩
    rw [show 37 + (9 + i) = 46 + i by omega, shp_S (by omega), e2, e3]
  · have hb : gplb a j = true := by
      unfold gpl at hp
      unfold gplb
      simp only [Bool.or_eq_true, Bool.and_eq_true, decide_eq_true_eq]
      omega
    have hp2 := hp
    unfold gpl at hp2
    have q := List.all_eq_true.mp (List.all_eq_true.mp gim_1 a (List.mem_range.mpr (by omega))) j (List.mem_range.mpr (by omega))
    rw [hb] at q
    have q : isIv (rdS (37 + a) j) = true := q
    obtain ⟨x, e, -⟩ := isI_t q
    rw [rd_S j (by omega), e]
    unfold FS
    rw [e]
theorem dem_S : ∀ i, i < 4 → ∀ n, n < 4 → (FS (9 + i) n).toInt = w0S (22 + 4 * i + n) := by decide +kernel
theorem rel_S : REL FS fv0 w0S (w0S 38) := by
  refine ⟨by decide +kernel, by decide +kernel, by decide +kernel, by decide +kernel, by decide +kernel, by decide +kernel, ?_, ?_, ?_, ?_, ?_, ?_, ?_, fun i n hi hn => dem_S i hi n hn, ?_, ?_, ?_, ?_⟩
  all_goals decide +kernel
theorem f_tab (b : Nat) (hb : b = 1 ∨ b = 18 ∨ b = 56) (h1 : mcl (mrw HS b) = 1 ∧ mln (mrw HS b) = 4 ∧ rdS b 1 = .ref (b + 1) ∧ rdS b 2 = .ref (b + 8) ∧ rdS b 3 = .ref (b + 12)) (h2 : mcl (mrw HS (b + 1)) = 38 ∧ mln (mrw HS (b + 1)) = 6 ∧ mcl (mrw HS (b + 8)) = 38 ∧ mln (mrw HS (b + 8)) = 3 ∧ mcl (mrw HS (b + 12)) = 38 ∧ mln (mrw HS (b + 12)) = 4) (h3 : ∀ i : Fin 6, rdS (b + 1) i.val = .ref (b + (2 + i.val)) ∧ mcl (mrw HS (b + (2 + i.val))) = 33 ∧ mln (mrw HS (b + (2 + i.val))) = 4) (h4 : ∀ i : Fin 3, rdS (b + 8) i.val = .ref (b + (9 + i.val)) ∧ mcl (mrw HS (b + (9 + i.val))) = 33 ∧ mln (mrw HS (b + (9 + i.val))) = 3) (h5 : ∀ i : Fin 4, rdS (b + 12) i.val = .ref (b + (13 + i.val)) ∧ mcl (mrw HS (b + (13 + i.val))) = 33 ∧ mln (mrw HS (b + (13 + i.val))) = 4) : FLS hsS b := by
  obtain ⟨a1, a2, a3, a4, a5⟩ := h1
  obtain ⟨b1, b2, b3, b4, b5, b6⟩ := h2
  refine ⟨hb, by rw [shp_S (by omega), a1, a2], ⟨(rd_S _ (by omega)).trans a3, (rd_S _ (by omega)).trans a4, (rd_S _ (by omega)).trans a5⟩, ⟨by rw [shp_S (by omega), b1, b2], by rw [shp_S (by omega), b3, b4], by rw [shp_S (by omega), b5, b6]⟩, fun i hi => ?_, fun i hi => ?_, fun i hi => ?_⟩
  · obtain ⟨e1, e2, e3⟩ := h3 ⟨i, hi⟩
    exact ⟨(rd_S i (by omega)).trans e1, (shp_S (by omega)).trans (by show some (mcl (mrw HS (b + (2 + i))), mln (mrw HS (b + (2 + i)))) = _; rw [show mcl (mrw HS (b + (2 + i))) = 33 from e2, show mln (mrw HS (b + (2 + i))) = 4 from e3])⟩
  · obtain ⟨e1, e2, e3⟩ := h4 ⟨i, hi⟩
    exact ⟨(rd_S i (by omega)).trans e1, (shp_S (by omega)).trans (by show some (mcl (mrw HS (b + (9 + i))), mln (mrw HS (b + (9 + i)))) = _; rw [show mcl (mrw HS (b + (9 + i))) = 33 from e2, show mln (mrw HS (b + (9 + i))) = 3 from e3])⟩
  · obtain ⟨e1, e2, e3⟩ := h5 ⟨i, hi⟩
    exact ⟨(rd_S i (by omega)).trans e1, (shp_S (by omega)).trans (by show some (mcl (mrw HS (b + (13 + i))), mln (mrw HS (b + (13 + i)))) = _; rw [show mcl (mrw HS (b + (13 + i))) = 33 from e2, show mln (mrw HS (b + (13 + i))) = 4 from e3])⟩
theorem f1_S : FLS hsS 1 := f_tab 1 (by decide) (by decide +kernel) (by decide +kernel) (by decide +kernel) (by decide +kernel) (by decide +kernel)
theorem f18_S : FLS hsS 18 := f_tab 18 (by decide) (by decide +kernel) (by decide +kernel) (by decide +kernel) (by decide +kernel) (by decide +kernel)
theorem f56_S : FLS hsS 56 := f_tab 56 (by decide) (by decide +kernel) (by decide +kernel) (by decide +kernel) (by decide +kernel) (by decide +kernel)
theorem tr_S : rdS 1 0 = .long 1 ∧ rdS 18 0 = .long 1 := by decide +kernel
theorem det_S : det3 (mT fv0 (fv0 0) (-1) 1) = 1 := by decide +kernel
theorem gp_S : mcl (mrw HS 0) = 0 ∧ mln (mrw HS 0) = 7 ∧ rdS 0 0 = .ref 54 ∧ rdS 0 1 = .ref 73 ∧ rdS 0 2 = .ref 1 ∧ rdS 0 3 = .ref 18 ∧ rdS 0 4 = .ref 35 ∧ rdS 0 5 = .ref 36 ∧ mcl (mrw HS 36) = 40 ∧ mln (mrw HS 36) = 4 ∧ rdS 0 6 = .ref 37 := by decide +kernel
theorem rd_S1 : mcl (mrw HS 54) = 5 ∧ mln (mrw HS 54) = 11 ∧ mcl (mrw HS 55) = 34 ∧ mln (mrw HS 55) = 700 ∧ rdS 54 3 = .ref 55 ∧ rdS 54 4 = .ref 56 ∧ rdS 54 0 = .int 0 ∧ isIv (rdS 54 1) = true ∧ isIv (rdS 54 2) = true ∧ isIv (rdS 54 7) = true ∧ isIv (rdS 54 8) = true ∧ isIv (rdS 54 10) = true := by decide +kernel
theorem txb_1 : ((List.range 700).all fun j => isIv (rdS 55 j) && decide (ivI (rdS 55 j) = 0)) = true := by decide +kernel
theorem ls_S : mcl (mrw HS 35) = 10 ∧ mln (mrw HS 35) = 3 ∧ rdS 35 0 = .ref 7000000000002 ∧ rdS 35 1 = .int 0 ∧ isIv (rdS 35 2) = true := by decide +kernel
theorem ec_S : ivI (rdS 124 12) = ivI (rdS 54 1) ∧ ivI (rdS 124 13) = ivI (rdS 54 2) := by decide +kernel
theorem i_X (k j : Nat) (hk : k < 148) (h : isIv (rdS k j) = true) : ∃ x : Int32, rd hsS k j = .int x ∧ x.toInt = ivI (rdS k j) := by
  obtain ⟨x, e, q⟩ := isI_t h
  exact ⟨x, (rd_S j hk).trans e, q⟩
theorem cln_S : CLN hsS (fun _ => 0) ((0 : Nat) : Int) (ivI (rdS 54 1)) (ivI (rdS 54 2)) 37 FS fv0 w0S (w0S 38) 1 0 0 1 := by
  obtain ⟨a1, a2, a3, a4, a5, a6, a7, a8, a9, b1, b2⟩ := gp_S
  obtain ⟨c1, c2, c3, c4, c5, c6, c7, c8, c9, d1, d2, d3⟩ := rd_S1
  have r := fun (k j : Nat) (hk : k < 148) => rd_S j hk
  refine ⟨⟨by rw [shp_S (by decide), a1, a2], (rd_S 0 (by decide)).trans a3, (rd_S 1 (by decide)).trans a4, (rd_S 2 (by decide)).trans a5, (rd_S 3 (by decide)).trans a6, (rd_S 4 (by decide)).trans a7, (rd_S 5 (by decide)).trans a8, by rw [shp_S (by decide), a9, b1]⟩, (rd_S 6 (by decide)).trans b2, ⟨by rw [shp_S (by decide), c1, c2], by rw [shp_S (by decide), c3, c4], (rd_S 3 (by decide)).trans c5, (rd_S 4 (by decide)).trans c6, fun j hj => ?_, ⟨0, (rd_S 0 (by decide)).trans c7, by decide⟩, i_X 54 1 (by decide) c8, i_X 54 2 (by decide) c9, ?_, ?_, ?_, by decide, by decide⟩, gim_S, rel_S, spr0, f1_S, f18_S, f56_S⟩
  · have q := List.all_eq_true.mp txb_1 j (List.mem_range.mpr hj)
    rw [Bool.and_eq_true] at q
    obtain ⟨x, e, ex⟩ := isI_t q.1
    have ex : x.toInt = 0 := ex.trans (of_decide_eq_true q.2)
    exact ⟨x, (rd_S j (by decide)).trans e, by omega, by omega, Or.inl ⟨by omega, ex.symm⟩⟩
  · obtain ⟨x, e, -⟩ := i_X 54 7 (by decide) d1
    exact ⟨x, e⟩
  · obtain ⟨x, e, -⟩ := i_X 54 8 (by decide) d2
    exact ⟨x, e⟩
  · obtain ⟨x, e, -⟩ := i_X 54 10 (by decide) d3
    exact ⟨x, e⟩
theorem only_505 : ∀ k : Nat, R0S[k]? = some 505 → k = 37 := only_S 505 37 (by decide +kernel)
theorem lim_S : rdS 37 2 = .int 1 ∧ rdS 37 8 = .ref 40 ∧ rdS 40 0 = .int 1 ∧ R0S[40]? = some 546 := by decide +kernel
theorem invC_S : InvCQ R0S hsS := fun k hk => by
  obtain rfl := only_505 k hk
  refine ⟨1, 40, (rd_S 2 (by decide)).trans lim_S.1, (rd_S 8 (by decide)).trans lim_S.2.1, lim_S.2.2.2, by decide, rfl, fun j hj => ?_⟩
  have hj : (j : Int) < 1 := hj
  obtain rfl : j = 0 := by omega
  exact ⟨1, (rd_S 0 (by decide)).trans lim_S.2.2.1, by decide⟩
theorem zer_S : ((List.range 148).all fun k => !(decide ((56 ≤ k ∧ k ≤ 72) ∨ (124 ≤ k ∧ k ≤ 145))) || decide (R0S[k]? = some 0)) = true := by decide +kernel
theorem zer_t (k : Nat) (h : (56 ≤ k ∧ k ≤ 72) ∨ (124 ≤ k ∧ k ≤ 145)) : R0S[k]? = some 0 := by
  have q := List.all_eq_true.mp zer_S k (List.mem_range.mpr (by omega))
  rw [Bool.or_eq_true] at q
  rcases q with q | q
  · rw [decide_eq_true h] at q
    exact absurd q (by decide)
  · exact of_decide_eq_true q
theorem lro_S : LRo R0S := ⟨by decide +kernel, by decide +kernel, by decide +kernel, by decide +kernel, by decide +kernel, fun k a b => zer_t k (Or.inl ⟨a, b⟩), fun k a b => zer_t k (Or.inr ⟨a, b⟩), by decide +kernel, by decide +kernel⟩
theorem li_S : LJ hsS R0S (fun _ => 0) 0 (ivI (rdS 54 1)) (ivI (rdS 54 2)) := by
  obtain ⟨m0, m6, m10, m14, m24, m28, m11, m12, m13, m15⟩ := mf_1
  obtain ⟨l1, l2, l3, l4, l5⟩ := ls_S
  refine ⟨hty_S, invC_S, lro_S, fv0, w0S, ivS 129, 1, 1, 0, 0, 0, fun _ _ => 0, 37, ⟨fun _ => Int.le_refl _, by decide, zr00, nwx0, fun i hi => absurd hi (Nat.not_lt_zero _), CHP.zero⟩, ⟨⟨FS, cln_S⟩, ⟨⟨1, (rd_S 0 (by decide)).trans tr_S.1, det_S.symm⟩, ⟨1, (rd_S 0 (by decide)).trans tr_S.2, det_S.symm⟩⟩, ⟨by decide, Or.inl ⟨by rw [shp_S (by decide), l1, l2], ?_, (rd_S 1 (by decide)).trans l4, (rd_S 0 (by decide)).trans l3, rfl⟩⟩⟩, ⟨⟨RW_S, a125, a127⟩, a129, ⟨0, (rd_S 6 (by decide)).trans m6, rfl⟩, by decide, nwx0, modF_S⟩, ⟨a130, ⟨0, (rd_S 10 (by decide)).trans m10, rfl⟩, i_S 11 m11, ?_, ?_, ⟨0, (rd_S 14 (by decide)).trans m14⟩, i_S 15 m15, ⟨_, a126⟩, ⟨_, a128⟩⟩⟩
  · obtain ⟨x, e, -⟩ := i_X 35 2 (by decide) l5
    exact ⟨x, e⟩
  · obtain ⟨x, e, q⟩ := i_X 124 12 (by decide) m12
    exact ⟨x, e, q.trans ec_S.1⟩
  · obtain ⟨x, e, q⟩ := i_X 124 13 (by decide) m13
    exact ⟨x, e, q.trans ec_S.2⟩
theorem pt_S : PT HS.2.2.2.2.2.2.1 HS.2.2.2.2.2.2.2 hsS.length 0 := by
  obtain ⟨h1, h2⟩ := cnt_S
  rw [len_S]
  exact ⟨by omega, by omega, by omega⟩
def LVS : LN := [some (.ref 7000000000003), some (.ref 0), some (.ref 124), some (.ref 146), some (.ref 147), some (.int 0), none, none, none]
noncomputable def lvc (i : Nat) (v : Value) : Bool := decide (pget RS0.2.2.1 i ≠ 0 ∧ okxw (pget RS0.2.2.1 i) = true ∧ decW 0 (pget RS0.2.2.1 i) = v)
theorem lv_0 : (lvc 0 (.ref 7000000000003) && (lvc 1 (.ref 0) && (lvc 2 (.ref 124) && (lvc 3 (.ref 146) && (lvc 4 (.ref 147) && lvc 5 (.int 0)))))) = true := by decide +kernel
theorem lv_S : ∀ (i : Nat) (v : Value), LVS[i]? = some (some v) → pget RS0.2.2.1 i ≠ 0 ∧ okxw (pget RS0.2.2.1 i) = true ∧ decW 0 (pget RS0.2.2.1 i) = v := by
  have h := lv_0
  simp only [Bool.and_eq_true] at h
  obtain ⟨h0, h1, h2, h3, h4, h5⟩ := h
  intro i v hi
  match i, hi with
  | 0, hi => obtain rfl : (Value.ref 7000000000003) = v := Option.some.inj (Option.some.inj hi); exact of_decide_eq_true h0
  | 1, hi => obtain rfl : (Value.ref 0) = v := Option.some.inj (Option.some.inj hi); exact of_decide_eq_true h1
  | 2, hi => obtain rfl : (Value.ref 124) = v := Option.some.inj (Option.some.inj hi); exact of_decide_eq_true h2
  | 3, hi => obtain rfl : (Value.ref 146) = v := Option.some.inj (Option.some.inj hi); exact of_decide_eq_true h3
  | 4, hi => obtain rfl : (Value.ref 147) = v := Option.some.inj (Option.some.inj hi); exact of_decide_eq_true h4
  | 5, hi => obtain rfl : (Value.int 0) = v := Option.some.inj (Option.some.inj hi); exact of_decide_eq_true h5
  | 6, hi => exact absurd hi (by simp [LVS])
  | 7, hi => exact absurd hi (by simp [LVS])
  | 8, hi => exact absurd hi (by simp [LVS])
  | k + 9, hi => exact absurd hi (by simp [LVS])


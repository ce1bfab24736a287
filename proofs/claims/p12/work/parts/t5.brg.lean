/-! From the engine's words to plain states. -/
def decW (ty w : Nat) : Value := if w = 0 then dv ty else if w % 8 = 1 then .int (iOf (ilo w)) else if w % 8 = 2 then .long (lOf (w / 8)) else if w % 8 = 3 then .ref (w / 8) else if w % 8 = 6 then .double (UInt64.ofNat (w / 8)) else if w = 15 then .ref 7000000000002 else if w = 23 then .ref 7000000000003 else .null
noncomputable def okxw (w : Nat) : Bool := orr (Nat.beq w 0) (orr (an (isT 1 w) (Nat.beq (ihi w) (ilo w))) (orr (isT 2 w) (orr (isT 3 w) (orr (Nat.beq w 4) (orr (isT 6 w) (orr (Nat.beq w 15) (Nat.beq w 23)))))))
theorem dec_vn {g : GG} {ws : va_W} {ty w : Nat} {v : Value} (hk : okxw w = true) (h : HV g ws ty w v) : VN g ws (decW ty w) v := by
  rcases h with ⟨rfl, rfl⟩ | h
  · unfold decW
    rw [if_pos rfl]
    unfold dv
    split
    · exact rfl
    · split
      · exact rfl
      · split
        · exact rfl
        · exact rfl
  · have hn := h.ne
    unfold decW
    rw [if_neg hn]
    rcases orr_t hk with q | q
    · exact absurd (beq_t q) hn
    rcases orr_t q with q | q
    · obtain ⟨q1, q2⟩ := an_t q
      have q1 := isT_t q1
      obtain ⟨i, rfl, e⟩ := h.sint q1 (beq_t q2)
      rw [if_pos q1, ← e, iOf_iEx]
      exact rfl
    rcases orr_t q with q | q
    · have q := isT_t q
      obtain ⟨i, rfl, e⟩ := h.long q
      rw [if_neg (by omega), if_pos q, show w / 8 = lEx i by rw [e, mkL_def]; omega, lOf_lEx]
      exact rfl
    rcases orr_t q with q | q
    · have q := isT_t q
      rw [if_neg (by omega), if_neg (by omega), if_pos q]
      obtain ⟨a, e, h1, rfl⟩ := h.cell q
      exact Or.inl ⟨a, e, h1, rfl⟩
    rcases orr_t q with q | q
    · obtain rfl : w = 4 := beq_t q
      rw [h.null rfl]
      exact rfl
    rcases orr_t q with q | q
    · have q := isT_t q
      rw [if_neg (by omega), if_neg (by omega), if_neg (by omega), if_pos q, h.dbl q]
      exact rfl
    rcases orr_t q with q | q
    · obtain rfl : w = 15 := beq_t q
      exact Or.inr (Or.inr (Or.inl ⟨rfl, h.x1⟩))
    · obtain rfl : w = 23 := beq_t q
      exact Or.inr (Or.inr (Or.inr ⟨Nat.le_refl _, h.scr⟩))
theorem vn_int {g : GG} {ws : va_W} {x : Value} {i : Int32} (h : VN g ws x (.int i)) : x = .int i := by
  cases x with
  | ref k => obtain ⟨a, ha⟩ := VN.isref h; cases ha
  | _ => exact (show (_ : Value) = _ from h).symm
theorem vn_long {g : GG} {ws : va_W} {x : Value} {i : Int64} (h : VN g ws x (.long i)) : x = .long i := by
  cases x with
  | ref k => obtain ⟨a, ha⟩ := VN.isref h; cases ha
  | _ => exact (show (_ : Value) = _ from h).symm
theorem vn_dbl {g : GG} {ws : va_W} {x : Value} {i : UInt64} (h : VN g ws x (.double i)) : x = .double i := by
  cases x with
  | ref k => obtain ⟨a, ha⟩ := VN.isref h; cases ha
  | _ => exact (show (_ : Value) = _ from h).symm
def tyc (c j : Nat) : Nat := if c < 32 then ftX c j else if c = 33 then 2 else if c = 36 then 6 else if 37 ≤ c then 3 else 0
noncomputable def celH (h : HP) (a : Nat) : CE := (mcl (mrw h a), mln (mrw h a), fun j => decW (tyc (mcl (mrw h a)) j) (hget h (mof (mrw h a) + j)))
noncomputable def hdec (h : HP) : List CE := (List.range h.2.2.2.1).map (celH h)
noncomputable def okh (h : HP) : Bool := (List.range h.2.2.2.1).all fun a => (List.range (mln (mrw h a))).all fun j => okxw (hget h (mof (mrw h a) + j))
theorem hdec_at {h : HP} {k : Nat} (hk : k < h.2.2.2.1) : (hdec h)[k]? = some (celH h k) := by
  unfold hdec
  rw [List.getElem?_map, List.getElem?_range hk]
  rfl
theorem hdec_len (h : HP) : (hdec h).length = h.2.2.2.1 := by
  unfold hdec
  rw [List.length_map, List.length_range]
theorem okh_at {h : HP} (hok : okh h = true) {k j : Nat} (hk : k < h.2.2.2.1) (hj : j < mln (mrw h k)) : okxw (hget h (mof (mrw h k) + j)) = true :=
  List.all_eq_true.mp (List.all_eq_true.mp hok k (List.mem_range.mpr hk)) j (List.mem_range.mpr hj)
theorem hdec_ok {g : GG} {ws : va_W} {h : HP} (hok : okh h = true) (hH : HR g ftX ws h) : HNR g ws (hdec h) := by
  obtain ⟨h1, h2, h3, -⟩ := hH
  refine ⟨by rw [hdec_len]; exact h1, by rw [hdec_len]; omega, fun k q hq => ?_⟩
  have hk : k < h.2.2.2.1 := by rw [← h1]; exact (List.getElem?_eq_some_iff.mp hq).1
  refine ⟨celH h k, hdec_at hk, ?_⟩
  have hw : ∀ j, j < mln (mrw h k) → okxw (hget h (mof (mrw h k) + j)) = true := fun j hj => okh_at hok hk hj
  have hC := h3 k q hq
  generalize hm : mrw h k = m at hw hC
  have hcel : celH h k = (mcl m, mln m, fun j => decW (tyc (mcl m) j) (hget h (mof m + j))) := by unfold celH; rw [hm]
  rw [hcel]
  rcases hC with ⟨c1, fs, e1, e2, e3⟩ | ⟨c1, cA, f, e1, e2, e3⟩ | ⟨c1, cA, f, e1, e2, e3⟩ | ⟨c1, cA, f, e1, e2, e3⟩ | ⟨c1, cA, f, e1, e2, e3⟩
  · refine Or.inl ⟨c1, fs, e1, e2, fun j hj => ?_⟩
    obtain ⟨v, v1, v2⟩ := e3 j hj
    refine ⟨v, v1, ?_⟩
    show VN g ws (decW (tyc (mcl m) j) _) v
    rw [show tyc (mcl m) j = ftX (mcl m) j from if_pos c1]
    exact dec_vn (hw j hj) v2
  · refine Or.inr (Or.inl ⟨c1, cA, f, e1, e2, fun j hj => ?_⟩)
    show decW (tyc (mcl m) j) _ = _
    rw [show tyc (mcl m) j = 0 by unfold tyc; rw [if_neg (by omega), if_neg (by omega), if_neg (by omega), if_neg (by omega)]]
    exact vn_int (dec_vn (hw j hj) (e3 j hj))
  · refine Or.inr (Or.inr (Or.inl ⟨c1, cA, f, e1, e2, fun j hj => ?_⟩))
    show decW (tyc (mcl m) j) _ = _
    rw [show tyc (mcl m) j = 2 by unfold tyc; rw [if_neg (by omega), if_pos c1]]
    exact vn_long (dec_vn (hw j hj) (e3 j hj))
  · refine Or.inr (Or.inr (Or.inr (Or.inl ⟨c1, cA, f, e1, e2, fun j hj => ?_⟩)))
    show decW (tyc (mcl m) j) _ = _
    rw [show tyc (mcl m) j = 6 by unfold tyc; rw [if_neg (by omega), if_neg (by omega), if_pos c1]]
    exact vn_dbl (dec_vn (hw j hj) (e3 j hj))
  · refine Or.inr (Or.inr (Or.inr (Or.inr ⟨c1, cA, f, e1, e2, fun j hj => ?_⟩)))
    show VN g ws (decW (tyc (mcl m) j) _) _
    rw [show tyc (mcl m) j = 3 by unfold tyc; rw [if_neg (by omega), if_neg (by omega), if_neg (by omega), if_pos c1]]
    exact dec_vn (hw j hj) (e3 j hj)
theorem rl_n {g : GG} {cl : List vw_C} {s : State} {nL kc0 ks0 L S : Nat} {h : HP} {ls : Array Slot} {st : List Value} {H : Heap} {locs : List Loc} {cells slots : Nat} {LV : LN} (hok : okh h = true) (hS : dt S = 0) (hL : ∀ (i : Nat) (v : Value), LV[i]? = some (some v) → pget L i ≠ 0 ∧ okxw (pget L i) = true ∧ decW 0 (pget L i) = v) (r : RL g cl ftX s nL kc0 ks0 L h S ls st H locs cells slots) : RLN g cl s nL kc0 ks0 LV (hdec h, h.2.2.2.2.2.2.1, h.2.2.2.2.2.2.2) [] ls st H locs cells slots := by
  obtain ⟨ws, hLR, hSR, hH, hP, hD, hSS, hc1, hc2⟩ := r
  have hst : st = [] := by
    cases st with
    | nil => rfl
    | cons u st2 =>
      have hu : VR g ws (dt S % WB) u := hSR.1
      rw [hS] at hu
      exact absurd rfl hu.ne
  refine ⟨ws, ?_, ⟨hst, hSR.pins⟩, hdec_ok hok hH, hP, hD, hSS, hc1, hc2⟩
  obtain ⟨lv, l1, l2⟩ := hLR
  refine ⟨lv, l1, fun i v hi => ?_⟩
  obtain ⟨a1, a2, a3⟩ := hL i v hi
  obtain ⟨v', b1, b2⟩ := l2 i a1
  exact ⟨v', b1, a3 ▸ dec_vn a2 (Or.inr b2)⟩

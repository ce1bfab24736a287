/-! Rows over plain states: references in arrays, lengths, new cells. -/
def dvN (ty : Nat) : Value := dv ty
/-- a new array's contents by its kind -/
def dfN (c : Nat) : Nat → Value := fun _ => if c = 33 then .long 0 else if c = 36 then .double 0 else if 37 ≤ c then .null else .int 0
section NNEW
variable {ss : SS} {TBL : List Cond} {g : GG} {cl : List vw_C} {ft : Nat → Nat → Nat} {mdl : Nat → Option MD} {bl : Nat} {xs : Nat → Int32} {d : MD} {p : Program} {l : Launch} {e : Env} {R : Room} {s : State} {m : MethodId} {args : Array Value} {below : List Frame} {meth : Method} {c : Code} {Q : State → Prop} {kc0 ks0 pc n w : Nat} {L : LN} {h : HN} {S : List Value}
theorem n_aald (act : Act ss TBL g cl bl xs d p l s m args meth c) (hd : decode d.2.1 pc = .ok (.aaload, 1)) {k N c9 : Nat} {f : Nat → Value} {i : Int32} (hk : h.1[k]? = some (c9, N, f)) (h37 : 37 ≤ c9) (h1 : 0 ≤ i.toInt) (h2 : i.toInt < N) (hn : pc + 1 = n) (K : WpN g cl p l e R s m args below meth c Q d.2.2.1 kc0 ks0 n L h (f i.toInt.toNat :: S)) : WpN g cl p l e R s m args below meth c Q d.2.2.1 kc0 ks0 pc L h (.int i :: .ref k :: S) := by
  obtain ⟨hx, hb, hr, hml, hown, hts, hK, hE, hlocks, hnm, htab, htr⟩ := act
  subst hn
  intro ls st H locs cells slots r
  obtain ⟨ws, hL, ⟨v0, st0, rfl, h0, v1, st1, rfl, h1v, hS⟩, hH, hP, hD, hSS, hc1, hc2⟩ := r
  have h0 : v0 = .int i := h0
  subst h0
  obtain ⟨q1, q2⟩ := hH.at hk
  obtain ⟨a, e1, he, rfl⟩ := h1v.cell q1
  obtain ⟨cA, f1, rfl, h7, h8⟩ := (q2 _ _ he).rfs h37
  obtain ⟨i1, i2⟩ := in_n h1 h2
  have hlt : i.toNatClampNeg < N := by rw [i2]; omega
  have h9 : VN g ws (f i.toInt.toNat) (va_rf (f1 i.toInt.toNat)) := h8 i.toInt.toNat (by show i.toInt.toNat < N; omega)
  refine W.aald (v := va_rf (f1 i.toNatClampNeg)) (ty := aty c9) hx hb (hP _ _ he) ((hK.2 _ _ h7).1 _ (fun j => va_rf (f1 j))) (aty_ref h37) (fun q => by cases q) (by show ¬ (i < 0 ∨ (arrV _ _ _).slots.size ≤ _); rw [arrV_size]; exact i1) (by show (arrV _ _ _).slots[_]? = _; rw [arrV_read _ _ hlt]) rfl rfl hd ?_
  show W p l e R s m args below meth c H locs cells slots Q (F0 m (pc + 1) ls (va_rf (f1 i.toNatClampNeg) :: st1))
  rw [i2]
  exact K _ _ _ _ _ _ ⟨ws, hL, SRN.push hS h9, hH, hP, hD, hSS, hc1, hc2⟩
theorem n_aastN (act : Act ss TBL g cl bl xs d p l s m args meth c) (hd : decode d.2.1 pc = .ok (.aastore, 1)) {k N c9 : Nat} {f : Nat → Value} {i : Int32} (hk : h.1[k]? = some (c9, N, f)) (h39 : 39 ≤ c9) (h1 : 0 ≤ i.toInt) (h2 : i.toInt < N) (hn : pc + 1 = n) (K : WpN g cl p l e R s m args below meth c Q d.2.2.1 kc0 ks0 n L (h.1.set k (c9, N, upV f i.toInt.toNat .null), h.2) S) : WpN g cl p l e R s m args below meth c Q d.2.2.1 kc0 ks0 pc L h (.null :: .int i :: .ref k :: S) := by
  obtain ⟨hx, hb, hr, hml, hown, hts, hK, hE, hlocks, hnm, htab, htr⟩ := act
  subst hn
  intro ls st H locs cells slots r
  obtain ⟨ws, hL, ⟨v0, st0, rfl, h0, v1, st1, rfl, h1v, v2, st2, rfl, h2v, hS⟩, hH, hP, hD, hSS, hc1, hc2⟩ := r
  have h0 : v0 = .null := h0
  subst h0
  have h1v : v1 = .int i := h1v
  subst h1v
  obtain ⟨q1, q2⟩ := hH.at hk
  obtain ⟨a, e1, he, rfl⟩ := h2v.cell q1
  obtain ⟨cA, f1, rfl, h7, h8⟩ := (q2 _ _ he).rfs (by show 37 ≤ c9; omega)
  obtain ⟨i1, i2⟩ := in_n h1 h2
  obtain ⟨C, hC⟩ := aty_obj h39
  have h7' : g.2.1[c9 - 32]? = some (cA, .object C) := by rw [← hC]; exact h7
  refine va_astqN hx hb hK hP hD hSS k _ he h7' i1 hd (fun H1 locs1 hP1 hD1 hS1 => ?_)
  have hle : wsle ws (ws.set k (a, .inl (cA, N, .inr (.inr (.inr (.inr (va_up f1 i.toNatClampNeg none))))))) := wsle.set he
  refine K _ _ _ _ _ _ ⟨_, hL.mono hle, SRN.mono hle hS, hH.set he (Or.inr <| Or.inr <| Or.inr <| Or.inr ⟨by show 37 ≤ c9; omega, cA, _, rfl, h7, fun j hj => ?_⟩), hP1, hD1, hS1, hc1, hc2⟩
  show VN g _ (upV f i.toInt.toNat .null j) (va_rf (va_up f1 i.toNatClampNeg none j))
  by_cases hq : j = i.toInt.toNat
  · subst hq
    rw [upV_same, show va_up f1 i.toNatClampNeg none i.toInt.toNat = none by rw [i2]; simp [va_up]]
    exact rfl
  · rw [upV_ne f _ hq, show va_up f1 i.toNatClampNeg none j = f1 j by have hq2 : ¬ j = i.toNatClampNeg := hq; simp [va_up, hq2]]
    exact (h8 j hj).mono hle
/-- which objects an array of references takes: 39 any, 40 Dispatch, 41 Fraction -/
theorem n_aastR (act : Act ss TBL g cl bl xs d p l s m args meth c) (hG : G_aast ss TBL cl ft mdl d pc w) {k N c9 k2 c2 N2 : Nat} {f f2 : Nat → Value} {i : Int32} (hk : h.1[k]? = some (c9, N, f)) (hk2 : h.1[k2]? = some (c2, N2, f2)) (hcc : (c9 = 39 ∧ c2 = 8) ∨ (c9 = 40 ∧ c2 = 3) ∨ (c9 = 41 ∧ c2 = 2)) (h1 : 0 ≤ i.toInt) (h2 : i.toInt < N) (hn : pc + 1 = n) (K : WpN g cl p l e R s m args below meth c Q d.2.2.1 kc0 ks0 n L (h.1.set k (c9, N, upV f i.toInt.toNat (.ref k2)), h.2) S) : WpN g cl p l e R s m args below meth c Q d.2.2.1 kc0 ks0 pc L h (.ref k2 :: .int i :: .ref k :: S) := by
  obtain ⟨hx, hb, hr, hml, hown, hts, hK, hE, hlocks, hnm, htab, htr⟩ := act
  obtain ⟨hd, hn9, rc8, rc3, rc2, x1, x2, x3, x4, x5, x6⟩ := hG
  subst hn
  intro ls st H locs cells slots r
  obtain ⟨ws, hL, ⟨v0, st0, rfl, h0, v1, st1, rfl, h1v, v2, st2, rfl, h2v, hS⟩, hH, hP, hD, hSS, hc1, hc2⟩ := r
  have h1v : v1 = .int i := h1v
  subst h1v
  obtain ⟨q1, q2⟩ := hH.at hk
  obtain ⟨q3, q4⟩ := hH.at hk2
  obtain ⟨a, e1, he, rfl⟩ := h2v.cell q1
  obtain ⟨b, e2, hve, hvr⟩ := h0.cell q3
  obtain ⟨cA, f1, rfl, h7, h8⟩ := (q2 _ _ he).rfs (by show 37 ≤ c9; omega)
  obtain ⟨vs, rfl, -, -⟩ := (q4 _ _ hve).obj (by show c2 < 32; omega)
  have h7 : g.2.1[c9 - 32]? = some (cA, aty c9) := h7
  have hve : ws[k2]? = some (b, .inr (c2, vs)) := hve
  have he : ws[k]? = some (a, .inl (cA, N, .inr (.inr (.inr (.inr f1))))) := he
  obtain ⟨i1, i2⟩ := in_n h1 h2
  subst hvr
  have fin : ∀ (H1 : Heap) (locs1 : List Loc), va_P g.1 cl (ws.set k (a, .inl (cA, N, .inr (.inr (.inr (.inr (va_up f1 i.toNatClampNeg (some b)))))))) H1 → va_D (AA g) (ws.set k (a, .inl (cA, N, .inr (.inr (.inr (.inr (va_up f1 i.toNatClampNeg (some b)))))))) → va_S (AA g) s.heap H1 locs1 → W p l e R s m args below meth c H1 locs1 cells slots Q (F0 m (pc + 1) ls st2) := by
    intro H1 locs1 hP1 hD1 hS1
    have hle : wsle ws (ws.set k (a, .inl (cA, N, .inr (.inr (.inr (.inr (va_up f1 i.toNatClampNeg (some b)))))))) := wsle.set he
    refine K _ _ _ _ _ _ ⟨_, hL.mono hle, SRN.mono hle hS, hH.set he (Or.inr <| Or.inr <| Or.inr <| Or.inr ⟨by show 37 ≤ c9; omega, cA, _, rfl, h7, fun j hj => ?_⟩), hP1, hD1, hS1, hc1, hc2⟩
    show VN g _ (upV f i.toInt.toNat (.ref k2) j) (va_rf (va_up f1 i.toNatClampNeg (some b) j))
    by_cases hq : j = i.toInt.toNat
    · subst hq
      rw [upV_same, show va_up f1 i.toNatClampNeg (some b) i.toInt.toNat = some b by rw [i2]; simp [va_up]]
      exact h0.mono hle
    · rw [upV_ne f _ hq, show va_up f1 i.toNatClampNeg (some b) j = f1 j by have hq2 : ¬ j = i.toNatClampNeg := hq; simp [va_up, hq2]]
      exact (h8 j hj).mono hle
  rcases hcc with ⟨rfl, rfl⟩ | ⟨rfl, rfl⟩ | ⟨rfl, rfl⟩
  · exact va_astqO hx hb hK hP hD hSS k _ k2 8 he h7 (va_Nw.of rfl (hts _ x2)) hve x1 i1 hd fin
  · exact va_astq (r := rc3) hx hb hK hP hD hSS k _ k2 3 he (by rw [x4]; exact h7) hve x3 i1 hd fin
  · exact va_astq (r := rc2) hx hb hK hP hD hSS k _ k2 2 he (by rw [x6]; exact h7) hve x5 i1 hd fin
theorem n_alen (act : Act ss TBL g cl bl xs d p l s m args meth c) (hd : decode d.2.1 pc = .ok (.arraylength, 1)) {k N c9 : Nat} {f : Nat → Value} (hk : h.1[k]? = some (c9, N, f)) (h32 : 32 ≤ c9) (hn : pc + 1 = n) (K : WpN g cl p l e R s m args below meth c Q d.2.2.1 kc0 ks0 n L h (.int (Int32.ofNat N) :: S)) : WpN g cl p l e R s m args below meth c Q d.2.2.1 kc0 ks0 pc L h (.ref k :: S) := by
  obtain ⟨hx, hb, hr, hml, hown, hts, hK, hE, hlocks, hnm, htab, htr⟩ := act
  subst hn
  intro ls st H locs cells slots r
  obtain ⟨ws, hL, ⟨v0, st0, rfl, h0, hS⟩, hH, hP, hD, hSS, hc1, hc2⟩ := r
  obtain ⟨q1, q2⟩ := hH.at hk
  obtain ⟨a, e1, he, rfl⟩ := h0.cell q1
  obtain ⟨cA, x, rfl, h7, h8⟩ := (q2 _ _ he).arr h32
  have h7 : x.1 = N := h7
  exact va_alen hx hb hK hP k _ he h8 (v := Int32.ofNat N) (by rw [h7]) hd (K _ _ _ _ _ _ ⟨ws, hL, SRN.push hS (show VN g ws (.int (Int32.ofNat N)) _ from rfl), hH, hP, hD, hSS, hc1, hc2⟩)
/-- the script -/
theorem n_slen (act : Act ss TBL g cl bl xs d p l s m args meth c) (hd : decode d.2.1 pc = .ok (.arraylength, 1)) (hn : pc + 1 = n) (K : WpN g cl p l e R s m args below meth c Q d.2.2.1 kc0 ks0 n L h (.int (Int32.ofNat bl) :: S)) : WpN g cl p l e R s m args below meth c Q d.2.2.1 kc0 ks0 pc L h (.ref 7000000000003 :: S) := by
  obtain ⟨hx, hb, hr, hml, hown, hts, hK, hE, hlocks, hnm, htab, htr⟩ := act
  subst hn
  intro ls st H locs cells slots r
  obtain ⟨ws, hL, ⟨v0, st0, rfl, h0, hS⟩, hH, hP, hD, hSS, hc1, hc2⟩ := r
  have h0 : v0 = .ref g.2.2.2.1 := by
    rcases h0 with ⟨a, e1, h1, -⟩ | ⟨q, -⟩ | ⟨q, -⟩ | ⟨-, q⟩
    · exact absurd (Nat.lt_trans (List.getElem?_eq_some_iff.mp h1).1 (by rw [hH.1]; exact Nat.lt_trans hH.2.1 (by decide : 7000000000001 < 7000000000003))) (Nat.lt_irrefl _)
    · exact absurd q (by decide)
    · exact absurd q (by decide)
    · rw [if_pos rfl] at q; exact q
  subst h0
  exact va_slen hx hb hE.2.2.2.2.2.2.1 hE.2.2.2.2.2.2.2.1 hE.2.2.2.2.2.2.2.2.1 hSS hd (K _ _ _ _ _ _ ⟨ws, hL, SRN.push hS (show VN g ws (.int (Int32.ofNat bl)) _ from rfl), hH, hP, hD, hSS, hc1, hc2⟩)
theorem n_new (act : Act ss TBL g cl bl xs d p l s m args meth c) (hG : G_new ss TBL cl ft mdl d pc w) (hsz : h.1.length < 7000000000000) (hc : h.2.1 + 1 ≤ R.cells + kc0) (hs : h.2.2 + fb w ≤ R.slots + ks0) (hn : pc + 3 = n) (K : WpN g cl p l e R s m args below meth c Q d.2.2.1 kc0 ks0 n L (h.1 ++ [(fa w, fb w, fun j => dv (ft (fa w) j))], h.2.1 + 1, h.2.2 + fb w) (.ref h.1.length :: S)) : WpN g cl p l e R s m args below meth c Q d.2.2.1 kc0 ks0 pc L h S := by
  obtain ⟨hx, hb, hr, hml, hown, hts, hK, hE, hlocks, hnm, htab, htr⟩ := act
  have hAg : ∀ q, s.heap.size ≤ q → AA g q := fun q hq => Nat.le_trans hE.2.2.2.2.2.2.2.2.2.2 hq
  obtain ⟨C, T, N, index, tyf, hd, hn9, x1, x2, x3, x4, x5, x6, x7, x8, x9⟩ := hG
  subst hn
  intro ls st H locs cells slots r
  obtain ⟨ws, hL, hS, hH, hP, hD, hSS, hc1, hc2⟩ := r
  have hlen : ((List.range N).map (fun j => dv (ft (fa w) j))).length = N := by rw [List.length_map, List.length_range]
  have hget9 : ∀ j, j < N → ((List.range N).map (fun j => dv (ft (fa w) j)))[j]? = some (dv (ft (fa w) j)) := fun j hj => by
    rw [List.getElem?_map, List.getElem?_range hj]; rfl
  refine va_new (ci := fa w) (fs := (List.range N).map (fun j => dv (ft (fa w) j))) hx hb hts x4 tyf x5 hown (hts _ x7) (hts _ x8) (hts _ x9) hK hP hD hSS hAg x1 (fun j hj => ?_) (by omega) (by omega) hd (fun q H1 hP1 hD1 hS1 => ?_)
  · rw [x6 j hj]
    show _ = List.getD _ j Value.null
    rw [List.getD_eq_getElem?_getD, hget9 j hj]
    rfl
  have hle := wsle.app ws [(q, (.inr (fa w, (List.range N).map (fun j => dv (ft (fa w) j))) : va_E))]
  have hq : (ws ++ [(q, (.inr (fa w, (List.range N).map (fun j => dv (ft (fa w) j))) : va_E))])[h.1.length]? = some (q, .inr (fa w, (List.range N).map (fun j => dv (ft (fa w) j)))) := by rw [← hH.1]; exact app_at _ _
  refine K _ _ _ _ _ _ ⟨_, hL.mono hle, SRN.push (SRN.mono hle hS) (Or.inl ⟨q, _, hq, rfl⟩), hH.app hsz (Or.inl ⟨x2, _, rfl, by rw [hlen]; exact x3.symm, fun j hj => ⟨_, hget9 j (by have hj : j < fb w := hj; omega), ?_⟩⟩), hP1, hD1, hS1, by show cells + 1 + kc0 = h.2.1 + 1; omega, by show slots + N + ks0 = h.2.2 + fb w; omega⟩
  show VN g _ (dv (ft (fa w) j)) (dv (ft (fa w) j))
  unfold dv
  split
  · exact rfl
  · split
    · exact rfl
    · split <;> exact rfl
theorem dfa_CN {ws : va_W} {cA c N : Nat} (hk : c = 32 ∨ c = 33 ∨ c = 34 ∨ c = 35 ∨ c = 36 ∨ 37 ≤ c) (h3 : g.2.1[c - 32]? = some (cA, aty c)) : CNR g ws (c, N, dfN c) (.inl (cA, dfa c N)) := by
  unfold dfa
  by_cases q3 : c = 33
  · rw [if_pos q3]
    exact Or.inr (Or.inr (Or.inl ⟨q3, cA, _, rfl, h3, fun j hj => by show dfN c j = _; unfold dfN; rw [if_pos q3]⟩))
  · rw [if_neg q3]
    by_cases q6 : c = 36
    · rw [if_pos q6]
      exact Or.inr (Or.inr (Or.inr (Or.inl ⟨q6, cA, _, rfl, h3, fun j hj => by show dfN c j = _; unfold dfN; rw [if_neg q3, if_pos q6]⟩)))
    · rw [if_neg q6]
      by_cases q7 : 37 ≤ c
      · rw [if_pos q7]
        exact Or.inr (Or.inr (Or.inr (Or.inr ⟨q7, cA, _, rfl, h3, fun j hj => by show VN g ws (dfN c j) _; unfold dfN; rw [if_neg q3, if_neg q6, if_pos q7]; exact rfl⟩)))
      · rw [if_neg q7]
        exact Or.inr (Or.inl ⟨by omega, cA, _, rfl, h3, fun j hj => by show dfN c j = _; unfold dfN; rw [if_neg q3, if_neg q6, if_neg q7]⟩)
theorem n_newa (act : Act ss TBL g cl bl xs d p l s m args meth c) (hTY : ∀ c : Nat, 32 ≤ c → c ≤ 41 → ∃ cA : ClassId, g.2.1[c - 32]? = some (cA, aty c)) (hG : G_newa ss TBL cl ft mdl d pc w) {i : Int32} {N len : Nat} (hi : i.toInt = (N : Int)) (hN : N < 65536) (hsz : h.1.length < 7000000000000) (hc : h.2.1 + 1 ≤ R.cells + kc0) (hs : h.2.2 + N ≤ R.slots + ks0) (hn : nxt w = n) (K : WpN g cl p l e R s m args below meth c Q d.2.2.1 kc0 ks0 n L (h.1 ++ [(fa w, N, dfN (fa w))], h.2.1 + 1, h.2.2 + N) (.ref h.1.length :: S)) : WpN g cl p l e R s m args below meth c Q d.2.2.1 kc0 ks0 pc L h (.int i :: S) := by
  obtain ⟨hx, hb, hr, hml, hown, hts, hK, hE, hlocks, hnm, htab, htr⟩ := act
  have hAg : ∀ q, s.heap.size ≤ q → AA g q := fun q hq => Nat.le_trans hE.2.2.2.2.2.2.2.2.2.2 hq
  obtain ⟨hle9, hP2⟩ := hG
  have hge : 32 ≤ fa w := by rcases hP2 with ⟨_, _, _, _, q, _⟩ | ⟨_, _, _, _, _, q, _⟩ <;> omega
  obtain ⟨cA0, hT⟩ := hTY (fa w) hge hle9
  subst hn
  intro ls st H locs cells slots r
  obtain ⟨ws, hL, ⟨v0, st0, rfl, h0, hS⟩, hH, hP, hD, hSS, hc1, hc2⟩ := r
  have h0 : v0 = .int i := h0
  subst h0
  have hn0 : ¬ i < 0 := fun q => by
    have q2 := Int32.lt_iff_toInt_lt.mp q
    have : (0 : Int32).toInt = 0 := by decide
    omega
  have hcl9 : i.toNatClampNeg = N := by show i.toInt.toNat = N; rw [hi, Int.toNat_natCast]
  have fin : ∀ (q : Nat) (cA : ClassId) (H1 : Heap), va_K g.1 cl (g.2.1 ++ [(cA, aty (fa w))]) s → va_P g.1 cl (ws ++ [(q, .inl (cA, dfa (fa w) N))]) H1 → va_D (AA g) (ws ++ [(q, .inl (cA, dfa (fa w) N))]) → va_S (AA g) s.heap H1 locs → W p l e R s m args below meth c H1 locs (cells + 1) (slots + N) Q (F0 m (nxt w) ls (.ref q :: st0)) := by
    intro q cA H1 hK1 hP1 hD1 hS1
    have ecA : cA0 = cA := va_RA_inj (hK.2 _ _ hT).2 (va_K_last hK1)
    subst ecA
    have hle := wsle.app ws [(q, (.inl (cA0, dfa (fa w) N) : va_E))]
    have hq : (ws ++ [(q, (.inl (cA0, dfa (fa w) N) : va_E))])[h.1.length]? = some (q, .inl (cA0, dfa (fa w) N)) := by rw [← hH.1]; exact app_at _ _
    exact K _ _ _ _ _ _ ⟨_, hL.mono hle, SRN.push (SRN.mono hle hS) (Or.inl ⟨q, _, hq, rfl⟩), hH.app hsz (dfa_CN (by omega) hT), hP1, hD1, hS1, by show cells + 1 + kc0 = h.2.1 + 1; omega, by show slots + N + ks0 = h.2.2 + N; omega⟩
  rcases hP2 with ⟨a, hd, hn, ha, y1, y2, hc9⟩ | ⟨index, C, hd, hn, ha, y1, hc9, ho⟩
  · refine va_newa (ty := aty (fa w)) hx hb (by rw [ha]; exact hts _ hc9) ha hK hP hD hSS hAg (a0 := dfa (fa w) N) (fun cA => dfa_cell y1 y2) hn0 hcl9 (by have := cb_le y1 y2; exact Nat.le_trans (Nat.mul_le_mul (Nat.le_of_lt hN) this) (by decide)) (by omega) (by omega) hd (fun q cA H1 hK1 hP1 hD1 hS1 => ?_)
    rw [← hn]
    exact fin q cA H1 hK1 hP1 hD1 hS1
  · have e9 : dfa (fa w) N = (N, .inr (.inr (.inr (.inr (fun _ => none))))) := by unfold dfa; rw [if_neg (by omega), if_neg (by omega), if_pos (by omega)]
    refine va_newq hx hb hown (hts _ hc9) (va_AO.of (hts _ ho)) hK hP hD hSS hAg hn0 hcl9 (by omega) (by omega) (by omega) hd (fun q cA H1 hK1 hP1 hD1 hS1 => ?_)
    rw [← hn]
    exact fin q cA H1 (by rw [ha]; exact hK1) (by rw [e9]; exact hP1) (by rw [e9]; exact hD1) hS1
theorem n_objinit (act : Act ss TBL g cl bl xs d p l s m args meth c) (hG : G_objinit ss TBL cl ft mdl d pc w) {k : Nat} (hf : 1 ≤ R.frames) (hl : (S.map fun v => v.category).sum + 12 ≤ R.locals) (hn : pc + 3 = n) (K : WpN g cl p l e R s m args below meth c Q d.2.2.1 kc0 ks0 n L h S) : WpN g cl p l e R s m args below meth c Q d.2.2.1 kc0 ks0 pc L h (.ref k :: S) := by
  obtain ⟨hx, hb, hr, hml, hown, hts, hK, hE, hlocks, hnm, htab, htr⟩ := act
  obtain ⟨index, hd, hn9, x1, x2, x3⟩ := hG
  subst hn
  intro ls st H locs cells slots r
  obtain ⟨ws, hL, ⟨v0, st0, rfl, h0, hS⟩, hH, hP, hD, hSS, hc1, hc2⟩ := r
  obtain ⟨a, rfl⟩ := h0.isref
  have hcat := hS.cats
  exact W.objInit hx hb hown (hts _ x1) (hts _ x2) (hts _ x3) rfl (hL.size.trans hml.symm) rfl hd hf (by show 2 * 0 + _ + 12 ≤ _; omega) (K _ _ _ _ _ _ ⟨ws, hL, hS, hH, hP, hD, hSS, hc1, hc2⟩)
theorem n_lds (act : Act ss TBL g cl bl xs d p l s m args meth c) {i : Nat} {tx : String} (hd : decode d.2.1 pc = .ok (.ldc i, 2)) (hc : (d.1.cls, i, tx) ∈ ss.1) (hn : pc + 2 = n) (K : ∀ k : Nat, ss.1[k]? = some (d.1.cls, i, tx) → WpN g cl p l e R s m args below meth c Q d.2.2.1 kc0 ks0 n L h (.ref (litK k) :: S)) : WpN g cl p l e R s m args below meth c Q d.2.2.1 kc0 ks0 pc L h S := by
  obtain ⟨hx, hb, hr, hml, hown, hts, hK, hE, hlocks, hnm, htab, htr⟩ := act
  subst hn
  intro ls st H locs cells slots r
  obtain ⟨ws, hL, hS, hH, hP, hD, hSS, hc1, hc2⟩ := r
  obtain ⟨k, hk⟩ := List.mem_iff_getElem?.mp hc
  exact rx_lds hx hb hown (hE.2.2.2.2.1 _ _ hk).1 hd (K k hk _ _ _ _ _ _ ⟨ws, hL, SRN.push hS (VN.lit g ws k), hH, hP, hD, hSS, hc1, hc2⟩)
theorem n_mmax (act : Act ss TBL g cl bl xs d p l s m args meth c) (hG : G_mmax ss TBL cl ft mdl d pc w) {x y : Int32} (hf : 1 ≤ R.frames) (hl : 21 ≤ R.locals) (hcat : (S.map fun v => v.category).sum ≤ 8) (hc : h.2.1 ≤ R.cells + kc0) (hs : h.2.2 ≤ R.slots + ks0) (hn : pc + 3 = n) (K : WpN g cl p l e R s m args below meth c Q d.2.2.1 kc0 ks0 n L h (.int (if x < y then y else x) :: S)) : WpN g cl p l e R s m args below meth c Q d.2.2.1 kc0 ks0 pc L h (.int y :: .int x :: S) := by
  obtain ⟨hx, hb, hr, hml, hown, hts, hK, hE, hlocks, hnm, htab, htr⟩ := act
  obtain ⟨index, hd, hn9, x1, x2, x3, x4⟩ := hG
  subst hn
  intro ls st H locs cells slots r
  obtain ⟨ws, hL, ⟨v0, st0, rfl, h0, v1, st1, rfl, h1, hS⟩, hH, hP, hD, hSS, hc1, hc2⟩ := r
  have h0 : v0 = .int y := h0
  subst h0
  have h1 : v1 = .int x := h1
  subst h1
  have hcat9 := hS.cats
  exact va_mmax hx hb (hml.trans hL.size.symm) hown (hts _ x1) (hts _ x2) (hts _ x3) (hts _ x4) (by omega) (by omega) (by omega) (by omega) hd (K _ _ _ _ _ _ ⟨ws, hL, SRN.push hS (show VN g ws (.int (if x < y then y else x)) _ from rfl), hH, hP, hD, hSS, hc1, hc2⟩)
theorem n_labs (act : Act ss TBL g cl bl xs d p l s m args meth c) (hG : G_labs ss TBL cl ft mdl d pc w) {x : Int64} (hf : 1 ≤ R.frames) (hl : 21 ≤ R.locals) (hcat : (S.map fun v => v.category).sum ≤ 8) (hc : h.2.1 ≤ R.cells + kc0) (hs : h.2.2 ≤ R.slots + ks0) (hn : pc + 3 = n) (K : WpN g cl p l e R s m args below meth c Q d.2.2.1 kc0 ks0 n L h (.long (if 0 < x then x else -x) :: S)) : WpN g cl p l e R s m args below meth c Q d.2.2.1 kc0 ks0 pc L h (.long x :: S) := by
  obtain ⟨hx, hb, hr, hml, hown, hts, hK, hE, hlocks, hnm, htab, htr⟩ := act
  obtain ⟨index, hd, hn9, x1, x2, x3, x4⟩ := hG
  subst hn
  intro ls st H locs cells slots r
  obtain ⟨ws, hL, ⟨v0, st0, rfl, h0, hS⟩, hH, hP, hD, hSS, hc1, hc2⟩ := r
  have h0 : v0 = .long x := h0
  subst h0
  have hcat9 := hS.cats
  exact va_mabs_long hx hb (hml.trans hL.size.symm) hown (hts _ x1) (hts _ x2) (hts _ x3) (hts _ x4) (by omega) (by omega) (by omega) (by omega) hd (K _ _ _ _ _ _ ⟨ws, hL, SRN.push hS (show VN g ws (.long (if 0 < x then x else -x)) _ from rfl), hH, hP, hD, hSS, hc1, hc2⟩)
end NNEW

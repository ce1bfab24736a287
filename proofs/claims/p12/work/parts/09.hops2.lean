/-! References into arrays, new cells, lengths. -/
section HOPS2
variable {g : GG} {cl : List vw_C} {ft : Nat → Nat → Nat} {p : Program} {l : Launch} {e : Env} {R : Room} {s : State} {m : MethodId} {args : Array Value} {below : List Frame} {meth : Method} {c : Code} {Q : State → Prop} {nL kc0 ks0 : Nat} {res : RES} {pc w L : Nat} {h0 : HP} {S : Nat} {k : KK} {n : Nat} {cc : ByteArray}
theorem aty_obj {c : Nat} (h : 39 ≤ c) : ∃ C : String, aty c = .object C := by
  unfold aty
  split <;> first | exact ⟨_, rfl⟩ | omega
theorem q_aastN (hx : p.tables.exec = Jvm.exec) (hb : c.code = cc) (hK : va_K g.1 cl g.2.1 s) (hd : decode cc pc = .ok (.aastore, 1)) (hn : nxt w = pc + 1) (htp : tp S % 8 = 4)
    (h : ast (Nat.ble 39) (tp S) w L h0 k S = some res) (K : ∀ pc' L' h' S', k pc' L' h' S' = some res → Wp g cl ft p l e R s m args below meth c Q nL kc0 ks0 res pc' L' h' S') : Wp g cl ft p l e R s m args below meth c Q nL kc0 ks0 res pc L h0 S := by
  obtain ⟨hq, h1⟩ := br_s h
  obtain ⟨ha, hs⟩ := an_t hq
  obtain ⟨hs1, hs2⟩ := an_t hs
  obtain ⟨h2, h3⟩ := br_s (show br (an ((Nat.ble 39) (mcl (mrow h0 (td S)))) (an (Nat.ble 2147483648 (ilo (sd S))) (Nat.ble (Nat.add (isb (ilo (sd S))) 1) (mln (mrow h0 (td S)))))) (hput h0 (Nat.add (mof (mrow h0 (td S))) (isb (ilo (sd S)))) (tp S) (kS (nxt w) L (r3 S) k)) none = some res from h1)
  obtain ⟨h4, h5⟩ := an_t h2
  obtain ⟨h5, h6⟩ := an_t h5
  rw [mrow_mrw h0 (td S)] at h3 h4 h6
  have h5 : 2147483648 ≤ ilo (sd S) := ble_t h5
  have h6 : isb (ilo (sd S)) + 1 ≤ mln (mrw h0 (td S / 8)) := ble_t h6
  have h4 : 39 ≤ mcl (mrw h0 (td S / 8)) := ble_t h4
  generalize hJ : isb (ilo (sd S)) = J at h3 h6
  obtain ⟨hlt, h', hk', hg, hr⟩ := hput_s h3
  obtain ⟨K1, K2⟩ := K _ _ _ _ (show k (nxt w) L h' (r3 S) = some res from hk')
  rw [hr] at K1
  refine ⟨K1, fun ls st H locs cells slots r => ?_⟩
  obtain ⟨ws, hL, hS, hH, hP, hD, hSS, hc1, hc2⟩ := r
  obtain ⟨v, u, x, st', rfl, hv, hu, hxx, hS'⟩ := hS.pop3 (fun q => by rw [q] at htp; omega) (tn2 hs1 (by decide)) (tn3 ha (by decide))
  obtain ⟨a, e, he, rfl⟩ := hxx.cell (isT_t ha)
  obtain ⟨i, rfl, hi⟩ := hu.sint (isT_t hs1) (beq_t hs2)
  obtain ⟨cA, f, rfl, h7, h8⟩ := (hH.2.2.1 _ _ he).rfs (by omega)
  obtain ⟨i1, i2⟩ := idx (n := mln (mrw h0 (td S / 8))) hi h5 (by rw [hJ]; omega) (mln_lt _)
  rw [hJ] at i2
  have e1 := hv.null htp
  subst e1
  obtain ⟨C, hC⟩ := aty_obj h4
  have h7' := h7
  rw [hC] at h7' 
  have fin : ∀ (H1 : Heap) (locs1 : List Loc), va_P g.1 cl (ws.set (td S / 8) (a, .inl (cA, mln (mrw h0 (td S / 8)), .inr (.inr (.inr (.inr (va_up f i.toNatClampNeg (none)))))))) H1 → va_D (AA g) (ws.set (td S / 8) (a, .inl (cA, mln (mrw h0 (td S / 8)), .inr (.inr (.inr (.inr (va_up f i.toNatClampNeg (none)))))))) → va_S (AA g) s.heap H1 locs1 → W p l e R s m args below meth c H1 locs1 cells slots Q (F0 m (pc + 1) ls st') := by
    intro H1 locs1 hP1 hD1 hS1
    rw [← hn]
    have hle : wsle ws (ws.set (td S / 8) (a, .inl (cA, mln (mrw h0 (td S / 8)), .inr (.inr (.inr (.inr (va_up f i.toNatClampNeg (none)))))))) := wsle.set he
    refine K2 _ _ _ _ _ _ ⟨_, hL.mono hle, hS'.mono hle, hH.put he (j := J) (by omega) hg hr ?_, hP1, hD1, hS1, by rw [hr]; exact hc1, by rw [hr]; exact hc2⟩
    refine Or.inr <| Or.inr <| Or.inr <| Or.inr ⟨by omega, cA, _, rfl, h7, fun j hj => ?_⟩
    rw [hg]
    by_cases hjk : j = J
    · subst hjk
      rw [if_pos (show mof (mrw h0 (td S / 8)) + j = Nat.add (mof (mrw h0 (td S / 8))) j from rfl)]
      refine Or.inr ?_
      rw [show va_up f i.toNatClampNeg (none) j = none by simp [va_up, i2]]
      exact hv.mono hle
    · rw [if_neg (show ¬ mof (mrw h0 (td S / 8)) + j = Nat.add (mof (mrw h0 (td S / 8))) J by show ¬ _ + j = _ + J; omega)]
      have := (h8 j hj).mono hle
      simpa [va_up, i2, hjk] using this
  exact va_astqN hx hb hK hP hD hSS (td S / 8) _ he h7' i1 hd fin
theorem q_aastR (hx : p.tables.exec = Jvm.exec) (hb : c.code = cc) (hK : va_K g.1 cl g.2.1 s) (hd : decode cc pc = .ok (.aastore, 1)) (hn : nxt w = pc + 1) (htp : tp S % 8 = 3) {rc8 rc3 rc2 : vw_C} (h8c : cl[8]? = some rc8) (h8n : va_Nw (.castable rc8.1 "java/lang/Object") s) (h3c : cl[3]? = some rc3) (h3n : rc3.1 = "GridPrices$Dispatch") (h2c : cl[2]? = some rc2) (h2n : rc2.1 = "GridPrices$Fraction")
    (h : ast (aok (mcl (mrow h0 (tp S)))) (tp S) w L h0 k S = some res) (K : ∀ pc' L' h' S', k pc' L' h' S' = some res → Wp g cl ft p l e R s m args below meth c Q nL kc0 ks0 res pc' L' h' S') : Wp g cl ft p l e R s m args below meth c Q nL kc0 ks0 res pc L h0 S := by
  obtain ⟨hq, h1⟩ := br_s h
  obtain ⟨ha, hs⟩ := an_t hq
  obtain ⟨hs1, hs2⟩ := an_t hs
  obtain ⟨h2, h3⟩ := br_s (show br (an ((aok (mcl (mrow h0 (tp S)))) (mcl (mrow h0 (td S)))) (an (Nat.ble 2147483648 (ilo (sd S))) (Nat.ble (Nat.add (isb (ilo (sd S))) 1) (mln (mrow h0 (td S)))))) (hput h0 (Nat.add (mof (mrow h0 (td S))) (isb (ilo (sd S)))) (tp S) (kS (nxt w) L (r3 S) k)) none = some res from h1)
  obtain ⟨h4, h5⟩ := an_t h2
  obtain ⟨h5, h6⟩ := an_t h5
  rw [mrow_mrw h0 (td S)] at h3 h4 h6
  have h5 : 2147483648 ≤ ilo (sd S) := ble_t h5
  have h6 : isb (ilo (sd S)) + 1 ≤ mln (mrw h0 (td S / 8)) := ble_t h6
  rw [mrow_mrw h0 (tp S)] at h4
  have h4 : (mcl (mrw h0 (td S / 8)) = 39 ∧ mcl (mrw h0 (tp S / 8)) = 8) ∨ (mcl (mrw h0 (td S / 8)) = 40 ∧ mcl (mrw h0 (tp S / 8)) = 3) ∨ (mcl (mrw h0 (td S / 8)) = 41 ∧ mcl (mrw h0 (tp S / 8)) = 2) := by
    unfold aok at h4
    cases q1 : Nat.beq (mcl (mrw h0 (td S / 8))) 39 with
    | true => rw [q1, br_true] at h4; exact Or.inl ⟨beq_t q1, beq_t h4⟩
    | false =>
      rw [q1, br_false] at h4
      cases q2 : Nat.beq (mcl (mrw h0 (td S / 8))) 40 with
      | true => rw [q2, br_true] at h4; exact Or.inr (Or.inl ⟨beq_t q2, beq_t h4⟩)
      | false =>
        rw [q2, br_false] at h4
        obtain ⟨x1, x2⟩ := an_t h4
        exact Or.inr (Or.inr ⟨beq_t x1, beq_t x2⟩)
  generalize hJ : isb (ilo (sd S)) = J at h3 h6
  obtain ⟨hlt, h', hk', hg, hr⟩ := hput_s h3
  obtain ⟨K1, K2⟩ := K _ _ _ _ (show k (nxt w) L h' (r3 S) = some res from hk')
  rw [hr] at K1
  refine ⟨K1, fun ls st H locs cells slots r => ?_⟩
  obtain ⟨ws, hL, hS, hH, hP, hD, hSS, hc1, hc2⟩ := r
  obtain ⟨v, u, x, st', rfl, hv, hu, hxx, hS'⟩ := hS.pop3 (fun q => by rw [q] at htp; omega) (tn2 hs1 (by decide)) (tn3 ha (by decide))
  obtain ⟨a, e, he, rfl⟩ := hxx.cell (isT_t ha)
  obtain ⟨i, rfl, hi⟩ := hu.sint (isT_t hs1) (beq_t hs2)
  obtain ⟨cA, f, rfl, h7, h8⟩ := (hH.2.2.1 _ _ he).rfs (by omega)
  obtain ⟨i1, i2⟩ := idx (n := mln (mrw h0 (td S / 8))) hi h5 (by rw [hJ]; omega) (mln_lt _)
  rw [hJ] at i2
  obtain ⟨va, ve, hve, rfl⟩ := hv.cell htp
  obtain ⟨vs, rfl, -, -⟩ := (hH.2.2.1 _ _ hve).obj (by omega)
  have fin : ∀ (H1 : Heap) (locs1 : List Loc), va_P g.1 cl (ws.set (td S / 8) (a, .inl (cA, mln (mrw h0 (td S / 8)), .inr (.inr (.inr (.inr (va_up f i.toNatClampNeg (some va)))))))) H1 → va_D (AA g) (ws.set (td S / 8) (a, .inl (cA, mln (mrw h0 (td S / 8)), .inr (.inr (.inr (.inr (va_up f i.toNatClampNeg (some va)))))))) → va_S (AA g) s.heap H1 locs1 → W p l e R s m args below meth c H1 locs1 cells slots Q (F0 m (pc + 1) ls st') := by
    intro H1 locs1 hP1 hD1 hS1
    rw [← hn]
    have hle : wsle ws (ws.set (td S / 8) (a, .inl (cA, mln (mrw h0 (td S / 8)), .inr (.inr (.inr (.inr (va_up f i.toNatClampNeg (some va)))))))) := wsle.set he
    refine K2 _ _ _ _ _ _ ⟨_, hL.mono hle, hS'.mono hle, hH.put he (j := J) (by omega) hg hr ?_, hP1, hD1, hS1, by rw [hr]; exact hc1, by rw [hr]; exact hc2⟩
    refine Or.inr <| Or.inr <| Or.inr <| Or.inr ⟨by omega, cA, _, rfl, h7, fun j hj => ?_⟩
    rw [hg]
    by_cases hjk : j = J
    · subst hjk
      rw [if_pos (show mof (mrw h0 (td S / 8)) + j = Nat.add (mof (mrw h0 (td S / 8))) j from rfl)]
      refine Or.inr ?_
      rw [show va_up f i.toNatClampNeg (some va) j = some va by simp [va_up, i2]]
      exact hv.mono hle
    · rw [if_neg (show ¬ mof (mrw h0 (td S / 8)) + j = Nat.add (mof (mrw h0 (td S / 8))) J by show ¬ _ + j = _ + J; omega)]
      have := (h8 j hj).mono hle
      simpa [va_up, i2, hjk] using this
  rcases h4 with ⟨q1, q2⟩ | ⟨q1, q2⟩ | ⟨q1, q2⟩
  · have h7' := h7
    rw [q1] at h7'
    rw [q2] at hve
    exact va_astqO hx hb hK hP hD hSS (td S / 8) _ (tp S / 8) 8 he h7' h8n hve h8c i1 hd fin
  · have h7' := h7
    rw [q1] at h7'
    rw [q2] at hve
    exact va_astq (r := rc3) hx hb hK hP hD hSS (td S / 8) _ (tp S / 8) 3 he (by rw [h3n]; exact h7') hve h3c i1 hd fin
  · have h7' := h7
    rw [q1] at h7'
    rw [q2] at hve
    exact va_astq (r := rc2) hx hb hK hP hD hSS (td S / 8) _ (tp S / 8) 2 he (by rw [h2n]; exact h7') hve h2c i1 hd fin
theorem Alc.kc {c n : Nat} {h h' : HP} (a : Alc c n h h') : h'.2.2.2.2.2.2.1 = h.2.2.2.2.2.2.1 + 1 ∧ h'.2.2.2.2.2.2.2 = h.2.2.2.2.2.2.2 + n := ⟨a.2.2.2.2.2.2.1, a.2.2.2.2.2.2.2.1⟩
theorem app_at {α : Type} (l : List α) (x : α) : (l ++ [x])[l.length]? = some x := by rw [List.getElem?_append_right (Nat.le_refl _), Nat.sub_self]; rfl
/-- a new object -/
theorem q_new {own C : String} {T : u_T} {N index : Nat} {Ts : List Cond} (hx : p.tables.exec = Jvm.exec) (hb : c.code = cc) (hts : ∀ w ∈ Ts, w.before args s = true) (hin : ∀ w ∈ u_ws C T N, w ∈ Ts) (ty : Nat → FieldType) (hty : ∀ k, k < N → parseFieldDescriptor (T k).2.2.1 = some (ty k)) (hown : s.vm.findClass own = some m.cls) (hcl : (Cond.classLink own index C).before args s = true) (hinst : (Cond.instantiable C N).before args s = true) (hini : (Cond.initialized C).before args s = true)
    (hK : va_K g.1 cl g.2.1 s) (hA : ∀ q, s.heap.size ≤ q → AA g q) (hc : cl[fa w]? = some (C, T, N)) (hci : fa w < 32) (hN : fb w = N) (hdf : ∀ j, j < N → defaultValue (ty j) = dv (ft (fa w) j)) (hRo : res.2.2.2.1.2.2.2.2.2.2.1 ≤ R.cells + kc0 ∧ res.2.2.2.1.2.2.2.2.2.2.2 ≤ R.slots + ks0) (hd : decode cc pc = .ok (.new index, 3)) (hn : nxt w = pc + 3)
    (h : alloc (fa w) (fb w) h0 (nw2 (nxt w) L S k) = some res) (K : ∀ pc' L' h' S', k pc' L' h' S' = some res → Wp g cl ft p l e R s m args below meth c Q nL kc0 ks0 res pc' L' h' S') : Wp g cl ft p l e R s m args below meth c Q nL kc0 ks0 res pc L h0 S := by
  obtain ⟨h', hk', al⟩ := alloc_s h
  have hk' : k (nxt w) L h' (pu (3 + 8 * h0.2.2.2.1) S) = some res := hk'
  obtain ⟨K1, K2⟩ := K _ _ _ _ hk'
  obtain ⟨a1, a2⟩ := al.kc
  refine ⟨by omega, fun ls st H locs cells slots r => ?_⟩
  obtain ⟨ws, hL, hS, hH, hP, hD, hSS, hc1, hc2⟩ := r
  have hlen : ((List.range N).map (fun j => dv (ft (fa w) j))).length = N := by rw [List.length_map, List.length_range]
  have hget9 : ∀ j, j < N → ((List.range N).map (fun j => dv (ft (fa w) j)))[j]? = some (dv (ft (fa w) j)) := fun j hj => by
    rw [List.getElem?_map, List.getElem?_range hj]; rfl
  refine va_new (ci := fa w) (fs := (List.range N).map (fun j => dv (ft (fa w) j))) hx hb hts hin ty hty hown hcl hinst hini hK hP hD hSS hA hc (fun j hj => ?_) (by omega) (by omega) hd (fun q H1 hP1 hD1 hS1 => ?_)
  · rw [hdf j hj]
    show _ = List.getD _ j Value.null
    rw [List.getD_eq_getElem?_getD, hget9 j hj]
    rfl
  rw [← hn]
  have hle := wsle.app ws [(q, (.inr (fa w, (List.range N).map (fun j => dv (ft (fa w) j))) : va_E))]
  have hq : (ws ++ [(q, (.inr (fa w, (List.range N).map (fun j => dv (ft (fa w) j))) : va_E))])[h0.2.2.2.1]? = some (q, .inr (fa w, (List.range N).map (fun j => dv (ft (fa w) j)))) := by rw [← hH.1]; exact app_at _ _
  refine K2 _ _ _ _ _ _ ⟨_, hL.mono hle, (hS.mono hle).push (VR_cell g hq hH.2.1), hH.push al ?_, hP1, hD1, hS1, by omega, by omega⟩
  obtain ⟨b1, b2, -⟩ := al.new hH.2.2.2
  refine Or.inl ⟨by rw [b1]; exact hci, _, by rw [b1], by rw [b2, hlen, hN], fun j hj => ?_⟩
  rw [b2] at hj
  rw [b1]
  exact ⟨_, hget9 j (by omega), Or.inl ⟨al.zero hH.2.2.2 hj, rfl⟩⟩
/-- a new array's contents -/
def dfa (c N : Nat) : vp_A := if c = 33 then (N, .inr (.inl (fun _ => 0))) else if c = 36 then (N, .inr (.inr (.inr (.inl (fun _ => 0))))) else if 37 ≤ c then (N, .inr (.inr (.inr (.inr (fun _ => none))))) else (N, .inl (fun _ => 0))
theorem dfa_CR {ws : va_W} {h : HP} {r cA c N : Nat} (hk : c = 32 ∨ c = 33 ∨ c = 34 ∨ c = 35 ∨ c = 36 ∨ 37 ≤ c) (h1 : mcl r = c) (h2 : mln r = N) (h3 : g.2.1[c - 32]? = some (cA, aty c)) (hz : ∀ j, j < N → hget h (mof r + j) = 0) : CR g ft ws h r (.inl (cA, dfa c N)) := by
  subst h1; subst h2
  unfold dfa
  by_cases q3 : mcl r = 33
  · rw [if_pos q3]
    exact Or.inr (Or.inr (Or.inl ⟨q3, cA, _, rfl, h3, fun j hj => Or.inl ⟨hz j hj, rfl⟩⟩))
  · rw [if_neg q3]
    by_cases q6 : mcl r = 36
    · rw [if_pos q6]
      exact Or.inr (Or.inr (Or.inr (Or.inl ⟨q6, cA, _, rfl, h3, fun j hj => Or.inl ⟨hz j hj, rfl⟩⟩)))
    · rw [if_neg q6]
      by_cases q7 : 37 ≤ mcl r
      · rw [if_pos q7]
        exact Or.inr (Or.inr (Or.inr (Or.inr ⟨q7, cA, _, rfl, h3, fun j hj => Or.inl ⟨hz j hj, rfl⟩⟩)))
      · rw [if_neg q7]
        exact Or.inr (Or.inl ⟨by omega, cA, _, rfl, h3, fun j hj => Or.inl ⟨hz j hj, rfl⟩⟩)
theorem va_RA_inj {a b : ClassId} {ty : FieldType} (h1 : va_RA s a ty) (h2 : va_RA s b ty) : a = b := by
  cases ty with
  | object C =>
    obtain ⟨_, _, _, _, _, f1⟩ := h1
    obtain ⟨_, _, _, _, _, f2⟩ := h2
    exact Option.some.inj (f1.symm.trans f2)
  | _ => exact Option.some.inj (Eq.trans (Eq.symm h1) h2)
theorem va_K_last {D : va_G} {cl : List vw_C} {tys : List (ClassId × FieldType)} {cA : ClassId} {ty : FieldType} {U : State} (h : va_K D cl (tys ++ [(cA, ty)]) U) : va_RA U cA ty := (h.2 tys.length (cA, ty) (app_at _ _)).2
theorem q_newa {cA0 : ClassId} (hK : va_K g.1 cl g.2.1 s) (hkind : fa w = 32 ∨ fa w = 33 ∨ fa w = 34 ∨ fa w = 35 ∨ fa w = 36 ∨ 37 ≤ fa w) (hT : g.2.1[fa w - 32]? = some (cA0, aty (fa w))) (hRo : res.2.2.2.1.2.2.2.2.2.2.1 ≤ R.cells + kc0 ∧ res.2.2.2.1.2.2.2.2.2.2.2 ≤ R.slots + ks0)
    (row : ∀ {ws : va_W} {i : Int32} {N : Nat} {H : Heap} {locs : List Loc} {cells slots : Nat} {ls : Array Slot} {st : List Value}, va_P g.1 cl ws H → va_D (AA g) ws → va_S (AA g) s.heap H locs → ¬ i < 0 → i.toNatClampNeg = N → N < 65536 → cells + 1 ≤ R.cells → slots + N ≤ R.slots →
      (∀ (q : Nat) (cA : ClassId) (H1 : Heap), va_K g.1 cl (g.2.1 ++ [(cA, aty (fa w))]) s → va_P g.1 cl (ws ++ [(q, .inl (cA, dfa (fa w) N))]) H1 → va_D (AA g) (ws ++ [(q, .inl (cA, dfa (fa w) N))]) → va_S (AA g) s.heap H1 locs → W p l e R s m args below meth c H1 locs (cells + 1) (slots + N) Q (F0 m (nxt w) ls (.ref q :: st))) → W p l e R s m args below meth c H locs cells slots Q (F0 m pc ls (.int i :: st)))
    (h : br (an (isS (tp S)) (Nat.ble 2147483648 (ilo (tp S)))) (fc (isb (ilo (tp S))) (fun n => alloc (fa w) n h0 (nw2 (nxt w) L (r1 S) k))) none = some res) (K : ∀ pc' L' h' S', k pc' L' h' S' = some res → Wp g cl ft p l e R s m args below meth c Q nL kc0 ks0 res pc' L' h' S') : Wp g cl ft p l e R s m args below meth c Q nL kc0 ks0 res pc L h0 S := by
  obtain ⟨hq, h1⟩ := br_s h
  obtain ⟨hs, h5⟩ := an_t hq
  obtain ⟨hs1, hs2⟩ := an_t hs
  have h5 : 2147483648 ≤ ilo (tp S) := ble_t h5
  rw [fc_eq] at h1
  generalize hJ : isb (ilo (tp S)) = J at h1
  obtain ⟨h', hk', al⟩ := alloc_s h1
  have hk' : k (nxt w) L h' (pu (3 + 8 * h0.2.2.2.1) (r1 S)) = some res := hk'
  obtain ⟨K1, K2⟩ := K _ _ _ _ hk'
  obtain ⟨a1, a2⟩ := al.kc
  refine ⟨by omega, fun ls st H locs cells slots r => ?_⟩
  obtain ⟨ws, hL, hS, hH, hP, hD, hSS, hc1, hc2⟩ := r
  obtain ⟨v, st', rfl, hv, hS'⟩ := hS.pop (tn1 hs1 (by decide))
  obtain ⟨i, rfl, hi⟩ := hv.sint (isT_t hs1) (beq_t hs2)
  have hi' := iEx_int i
  have hJ' := isb_def (ilo (tp S))
  have hJ1 : i.toInt = (J : Int) := by omega
  have hn0 : ¬ i < 0 := fun q => by
    have q2 := Int32.lt_iff_toInt_lt.mp q
    rw [hJ1] at q2
    have : (0 : Int32).toInt = 0 := by decide
    omega
  have hcl9 : i.toNatClampNeg = J := by show i.toInt.toNat = J; rw [hJ1, Int.toNat_natCast]
  refine row hP hD hSS hn0 hcl9 al.1 (by omega) (by omega) (fun q cA H1 hK1 hP1 hD1 hS1 => ?_)
  have ecA : cA0 = cA := va_RA_inj (hK.2 _ _ hT).2 (va_K_last hK1)
  subst ecA
  have hle := wsle.app ws [(q, (.inl (cA0, dfa (fa w) J) : va_E))]
  have hq : (ws ++ [(q, (.inl (cA0, dfa (fa w) J) : va_E))])[h0.2.2.2.1]? = some (q, .inl (cA0, dfa (fa w) J)) := by rw [← hH.1]; exact app_at _ _
  refine K2 _ _ _ _ _ _ ⟨_, hL.mono hle, (hS'.mono hle).push (VR_cell g hq hH.2.1), hH.push al ?_, hP1, hD1, hS1, by omega, by omega⟩
  obtain ⟨b1, b2, -⟩ := al.new hH.2.2.2
  exact dfa_CR hkind b1 b2 hT (fun j hj => al.zero hH.2.2.2 hj)
theorem q_alen {bl b : Nat} {xs : Nat → Int32} (hgb : g.2.2.2.1 = b) (hx : p.tables.exec = Jvm.exec) (hb : c.code = cc) (hK : va_K g.1 cl g.2.1 s) (hX : va_X b bl xs s s.heap) (hbl : b < s.heap.size) (hbA : ¬ AA g b) (hl6 : bl < 65536) (hE : ∃ (cell : Cell) (ty : FieldType), s.heap[g.2.2.1]? = some cell ∧ s.isArrayOf cell ty ∧ cell.slots.size = 0 ∧ ¬ AA g g.2.2.1) (hd : decode cc pc = .ok (.arraylength, 1)) (hn : nxt w = pc + 1)
    (h : br (Nat.beq (tp S) 23) (fc (pu (mkI (Nat.add bl 2147483648)) (r1 S)) (k (nxt w) L h0)) (br (Nat.beq (tp S) 15) (fc (pu 73786976312018075649 (r1 S)) (k (nxt w) L h0)) (br (isT 3 (tp S)) (fc (mrow h0 (tp S)) (an2 w L S h0 k)) none)) = some res) (K : ∀ pc' L' h' S', k pc' L' h' S' = some res → Wp g cl ft p l e R s m args below meth c Q nL kc0 ks0 res pc' L' h' S') : Wp g cl ft p l e R s m args below meth c Q nL kc0 ks0 res pc L h0 S := by
  have ofn : ∀ x : Nat, x < 65536 → mkI (Nat.add x 2147483648) = mkI (iEx (Int32.ofNat x)) := fun x hx9 => by
    have : iEx (Int32.ofNat x) = x + 2147483648 := by
      show ((BitVec.ofNat 32 x).toNat + 2147483648) % 4294967296 = _
      rw [BitVec.toNat_ofNat]
      omega
    rw [this]
  rcases br_o h with ⟨ha, h6⟩ | ⟨-, h6⟩
  · have ha := beq_t ha
    rw [fc_eq] at h6
    obtain ⟨K1, K2⟩ := K _ _ _ _ h6
    refine ⟨K1, fun ls st H locs cells slots r => ?_⟩
    obtain ⟨ws, hL, hS, hH, hP, hD, hSS, hc1, hc2⟩ := r
    obtain ⟨v, st', rfl, hv, hS'⟩ := hS.pop (by rw [ha]; decide)
    rw [ha] at hv
    have e1 := hv.scr
    subst e1
    rw [hgb]
    refine va_slen hx hb hX hbl hbA hSS hd ?_
    rw [← hn]
    exact K2 _ _ _ _ _ _ ⟨ws, hL, hS'.push (by rw [ofn bl hl6]; exact VR_mkI _ _ _), hH, hP, hD, hSS, hc1, hc2⟩
  · rcases br_o h6 with ⟨ha, h6⟩ | ⟨-, h6⟩
    · have ha := beq_t ha
      obtain ⟨K1, K2⟩ := K _ _ _ _ h6
      refine ⟨K1, fun ls st H locs cells slots r => ?_⟩
      obtain ⟨ws, hL, hS, hH, hP, hD, hSS, hc1, hc2⟩ := r
      obtain ⟨v, st', rfl, hv, hS'⟩ := hS.pop (by rw [ha]; decide)
      rw [ha] at hv
      have e1 := hv.x1
      subst e1
      obtain ⟨cell, ty, q1, q2, q3, q4⟩ := hE
      refine W.alen (n := 0) hx hb (by rw [hSS.2.1 _ (Array.getElem?_eq_some_iff.mp q1).1 q4]; exact q1) q2 (by rw [q3]; decide) rfl rfl hd ?_
      show W p l e R s m args below meth c H locs cells slots Q (F0 m (pc + 1) ls (.int 0 :: st'))
      rw [← hn]
      exact K2 _ _ _ _ _ _ ⟨ws, hL, hS'.push (VR_c _ _ 0 (by decide)), hH, hP, hD, hSS, hc1, hc2⟩
    · obtain ⟨ha, h1⟩ := br_s h6
      obtain ⟨h2, h3⟩ := br_s (show br (Nat.ble 32 (mcl (mrow h0 (tp S)))) (fc (pu (mkI (Nat.add (mln (mrow h0 (tp S))) 2147483648)) (r1 S)) (k (nxt w) L h0)) none = some res from h1)
      rw [mrow_mrw] at h2 h3
      have h2 := ble_t h2
      rw [fc_eq] at h3
      obtain ⟨K1, K2⟩ := K _ _ _ _ h3
      refine ⟨K1, fun ls st H locs cells slots r => ?_⟩
      obtain ⟨ws, hL, hS, hH, hP, hD, hSS, hc1, hc2⟩ := r
      obtain ⟨v, st', rfl, hv, hS'⟩ := hS.pop (tn1 ha (by decide))
      obtain ⟨a, e, he, rfl⟩ := hv.cell (isT_t ha)
      obtain ⟨cA, x, rfl, h7, h8⟩ := (hH.2.2.1 _ _ he).arr h2
      refine va_alen hx hb hK hP (tp S / 8) _ he h8 rfl hd ?_
      rw [h7, ← hn]
      exact K2 _ _ _ _ _ _ ⟨ws, hL, hS'.push (by rw [ofn _ (mln_lt _)]; exact VR_mkI _ _ _), hH, hP, hD, hSS, hc1, hc2⟩
/-- Object.<init> -/
theorem catk_sum {ws : va_W} : ∀ (n : Nat) {S acc : Nat} {st : List Value}, SR g ws S st → catk n S acc = true → acc + (st.map fun v => v.category).sum ≤ 8
  | 0, _, _, _, _, h => by cases h
  | n + 1, S, acc, st, hS, h => by
    have h : br (Nat.beq S 0) (Nat.ble acc 8) (fc (r1 S) (fun r => fc (br (cat2 (tp S)) (Nat.add acc 2) (Nat.add acc 1)) (catk n r))) = true := h
    cases st with
    | nil =>
      cases h0 : Nat.beq S 0 with
      | true => rw [h0, br_true] at h; simpa using ble_t h
      | false =>
        rw [h0, br_false, fc_eq, fc_eq] at h
        have hz : dt S = 0 := hS.1
        have h1 : SR g ws (r1 S) [] := ⟨by rw [r1_dt, hz]; rfl, hS.2⟩
        have h2 := catk_sum n h1 h
        have h3 : acc ≤ br (cat2 (tp S)) (Nat.add acc 2) (Nat.add acc 1) := by
          cases cat2 (tp S) with
          | true => show acc ≤ acc + 2; omega
          | false => show acc ≤ acc + 1; omega
        rw [List.map_nil, List.sum_nil] at h2 ⊢
        omega
    | cons v st' =>
      have hS2 : VR g ws (tp S) v ∧ SR g ws (r1 S) st' := ⟨hS.1, by show SRd g ws st' (dt (r1 S)); rw [r1_dt]; exact hS.2⟩
      have hS0 : Nat.beq S 0 = false := by
        cases h0 : Nat.beq S 0 with
        | false => rfl
        | true =>
          have := beq_t h0
          subst this
          exact absurd (show tp 0 = 0 by decide) hS2.1.ne
      rw [hS0, br_false, fc_eq, fc_eq] at h
      have h2 := catk_sum n hS2.2 h
      have h3 := hS2.1.cat
      cases h4 : cat2 (tp S) with
      | true =>
        rw [h4, br_true] at h2
        rw [if_pos (cat2_t h4)] at h3
        have h2 : acc + 2 + (st'.map fun v => v.category).sum ≤ 8 := h2
        rw [List.map_cons, List.sum_cons, h3]
        omega
      | false =>
        rw [h4, br_false] at h2
        rw [if_neg (cat2_f h4)] at h3
        have h2 : acc + 1 + (st'.map fun v => v.category).sum ≤ 8 := h2
        rw [List.map_cons, List.sum_cons, h3]
        omega
theorem q_objinit {f lam : Nat} (hf : f ≤ R.frames) (hlam : lam ≤ R.locals) (row : ∀ {a : Nat} {H : Heap} {locs : List Loc} {cells slots : Nat} {ls : Array Slot} {st : List Value}, ls.size = nL → 1 ≤ R.frames → (st.map fun v => v.category).sum + 12 ≤ R.locals → W p l e R s m args below meth c H locs cells slots Q (F0 m (nxt w) ls st) → W p l e R s m args below meth c H locs cells slots Q (F0 m pc ls (.ref a :: st)))
    (h : br (an (isT 3 (tp S)) (an (Nat.ble 1 f) (an (Nat.ble 20 lam) (catk 9 (r1 S) 0)))) (fc (r1 S) (k (nxt w) L h0)) none = some res) (K : ∀ pc' L' h' S', k pc' L' h' S' = some res → Wp g cl ft p l e R s m args below meth c Q nL kc0 ks0 res pc' L' h' S') : Wp g cl ft p l e R s m args below meth c Q nL kc0 ks0 res pc L h0 S := by
  obtain ⟨hq, h1⟩ := br_s h
  obtain ⟨ha, hq⟩ := an_t hq
  obtain ⟨h2, hq⟩ := an_t hq
  obtain ⟨h3, h4⟩ := an_t hq
  have h2 := ble_t h2
  have h3 := ble_t h3
  obtain ⟨K1, K2⟩ := K _ _ _ _ h1
  refine ⟨K1, fun ls st H locs cells slots r => ?_⟩
  obtain ⟨ws, hL, hS, hH, hP, hD, hSS, hc1, hc2⟩ := r
  obtain ⟨v, st', rfl, hv, hS'⟩ := hS.pop (tn1 ha (by decide))
  obtain ⟨a, e, he, rfl⟩ := hv.cell (isT_t ha)
  have h5 := catk_sum 9 hS' h4
  exact row hL.size (by omega) (by omega) (K2 _ _ _ _ _ _ ⟨ws, hL, hS', hH, hP, hD, hSS, hc1, hc2⟩)
end HOPS2

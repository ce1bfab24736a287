/-! Instructions that read and write the heap. -/
section HOPS
variable {g : GG} {cl : List vw_C} {ft : Nat → Nat → Nat} {p : Program} {l : Launch} {e : Env} {R : Room} {s : State} {m : MethodId} {args : Array Value} {below : List Frame} {meth : Method} {c : Code} {Q : State → Prop} {nL kc0 ks0 : Nat} {res : RES} {pc w L : Nat} {h0 : HP} {S : Nat} {k : KK} {n : Nat} {cc : ByteArray}
theorem CR.obj {ws : va_W} {h : HP} {r : Nat} {e : va_E} (hc : CR g ft ws h r e) (h1 : mcl r < 32) : ∃ fs : List Value, e = .inr (mcl r, fs) ∧ fs.length = mln r ∧ ∀ j : Nat, j < mln r → ∃ v : Value, fs[j]? = some v ∧ HV g ws (ft (mcl r) j) (hget h (mof r + j)) v := by
  rcases hc with ⟨-, h⟩ | ⟨q, -⟩ | ⟨q, -⟩ | ⟨q, -⟩ | ⟨q, -⟩
  · exact h
  all_goals omega
theorem CR.ints {ws : va_W} {h : HP} {r : Nat} {e : va_E} (hc : CR g ft ws h r e) (h1 : mcl r = 32 ∨ mcl r = 34 ∨ mcl r = 35) : ∃ (cA : ClassId) (f : Nat → Int32), e = .inl (cA, mln r, .inl f) ∧ g.2.1[mcl r - 32]? = some (cA, aty (mcl r)) ∧ ∀ j : Nat, j < mln r → HV g ws 0 (hget h (mof r + j)) (.int (f j)) := by
  rcases hc with ⟨q, -⟩ | ⟨-, h⟩ | ⟨q, -⟩ | ⟨q, -⟩ | ⟨q, -⟩
  · omega
  · exact h
  all_goals omega
theorem CR.longs {ws : va_W} {h : HP} {r : Nat} {e : va_E} (hc : CR g ft ws h r e) (h1 : mcl r = 33) : ∃ (cA : ClassId) (f : Nat → Int64), e = .inl (cA, mln r, .inr (.inl f)) ∧ g.2.1[mcl r - 32]? = some (cA, aty (mcl r)) ∧ ∀ j : Nat, j < mln r → HV g ws 2 (hget h (mof r + j)) (.long (f j)) := by
  rcases hc with ⟨q, -⟩ | ⟨q, -⟩ | ⟨-, h⟩ | ⟨q, -⟩ | ⟨q, -⟩
  · omega
  · omega
  · exact h
  all_goals omega
theorem CR.rfs {ws : va_W} {h : HP} {r : Nat} {e : va_E} (hc : CR g ft ws h r e) (h1 : 37 ≤ mcl r) : ∃ (cA : ClassId) (f : Nat → Option Nat), e = .inl (cA, mln r, .inr (.inr (.inr (.inr f)))) ∧ g.2.1[mcl r - 32]? = some (cA, aty (mcl r)) ∧ ∀ j : Nat, j < mln r → HV g ws 3 (hget h (mof r + j)) (va_rf (f j)) := by
  rcases hc with ⟨q, -⟩ | ⟨q, -⟩ | ⟨q, -⟩ | ⟨q, -⟩ | ⟨-, h⟩
  · omega
  · omega
  · omega
  · omega
  · exact h
theorem CR.arr {ws : va_W} {h : HP} {r : Nat} {e : va_E} (hc : CR g ft ws h r e) (h1 : 32 ≤ mcl r) : ∃ (cA : ClassId) (x : vp_A), e = .inl (cA, x) ∧ x.1 = mln r ∧ g.2.1[mcl r - 32]? = some (cA, aty (mcl r)) := by
  rcases hc with ⟨q, -⟩ | ⟨-, cA, f, h, h2, -⟩ | ⟨-, cA, f, h, h2, -⟩ | ⟨-, cA, f, h, h2, -⟩ | ⟨-, cA, f, h, h2, -⟩
  · omega
  all_goals exact ⟨cA, _, h, rfl, h2⟩
theorem q_getf {own ref C : String} {T : u_T} {N index : Nat} {Ts : List Cond} (hx : p.tables.exec = Jvm.exec) (hb : c.code = cc) (hts : ∀ w ∈ Ts, w.before args s = true) (hin : ∀ w ∈ u_ws C T N, w ∈ Ts) (hown : s.vm.findClass own = some m.cls) (hK : va_K g.1 cl g.2.1 s)
    (hc : cl[fa w % 64]? = some (C, T, N)) (hci : fa w % 64 < 32) (hk : fa w / 64 < N) (hft : ft (fa w % 64) (fa w / 64) = fb w) (hlink : (Cond.fieldLink own index ref (T (fa w / 64)).2.1 (T (fa w / 64)).2.2.1).before args s = true) (hsame : ∀ x, s.fieldFound? (T (fa w / 64)).1 (T (fa w / 64)).2.1 (T (fa w / 64)).2.2.1 = some x → s.fieldFound? ref (T (fa w / 64)).2.1 (T (fa w / 64)).2.2.1 = some x) (hd : decode cc pc = .ok (.getfield index, 3)) (hn : nxt w = pc + 3)
    (h : br (isT 3 (tp S)) (fc (mrow h0 (tp S)) (gf2 w L S h0 k)) none = some res) (K : ∀ pc' L' h' S', k pc' L' h' S' = some res → Wp g cl ft p l e R s m args below meth c Q nL kc0 ks0 res pc' L' h' S') : Wp g cl ft p l e R s m args below meth c Q nL kc0 ks0 res pc L h0 S := by
  obtain ⟨ha, h1⟩ := br_s h
  obtain ⟨h2, h3⟩ := br_s (show br (an (Nat.beq (mcl (mrow h0 (tp S))) (Nat.mod (fa w) 64)) (Nat.ble (Nat.add (Nat.div (fa w) 64) 1) (mln (mrow h0 (tp S))))) (fc (pu (dfw (fb w) (hget h0 (Nat.add (mof (mrow h0 (tp S))) (Nat.div (fa w) 64)))) (r1 S)) (k (nxt w) L h0)) none = some res from h1)
  obtain ⟨h4, h5⟩ := an_t h2
  rw [mrow_mrw] at h3 h4 h5
  have h4 : mcl (mrw h0 (tp S / 8)) = fa w % 64 := beq_t h4
  have h5 : fa w / 64 + 1 ≤ mln (mrw h0 (tp S / 8)) := ble_t h5
  obtain ⟨K1, K2⟩ := K _ _ _ _ h3
  refine ⟨K1, fun ls st H locs cells slots r => ?_⟩
  obtain ⟨ws, hL, hS, hH, hP, hD, hSS, hc1, hc2⟩ := r
  obtain ⟨v, st', rfl, hv, hS'⟩ := hS.pop (tn1 ha (by decide))
  obtain ⟨a, e, he, rfl⟩ := hv.cell (isT_t ha)
  obtain ⟨fs, rfl, h7, h8⟩ := (hH.2.2.1 _ _ he).obj (by omega)
  obtain ⟨v', h9, h10⟩ := h8 (fa w / 64) (by omega)
  rw [h4] at he h10
  rw [hft] at h10
  refine va_get hx hb hts hin hown hK hP (tp S / 8) he hc (fa w / 64) hk hlink hsame h9 hd ?_
  rw [← hn]
  exact K2 _ _ _ _ _ _ ⟨ws, hL, hS'.push (dfw_VR h10), hH, hP, hD, hSS, hc1, hc2⟩
theorem q_putf (hci : fa w % 64 < 32) (hfit : ∀ {ws : va_W} {v : Value}, fitw (fb w) (tp S) = true → VR g ws (tp S) v → HV g ws (ft (fa w % 64) (fa w / 64)) (tp S) v)
    (row : ∀ {ws : va_W} {a q0 : Nat} {fs : List Value} {v : Value} {H : Heap} {locs : List Loc} {cells slots : Nat} {ls : Array Slot} {st : List Value}, fitw (fb w) (tp S) = true → VR g ws (tp S) v → va_P g.1 cl ws H → va_D (AA g) ws → va_S (AA g) s.heap H locs → ws[q0]? = some (a, .inr (fa w % 64, fs)) → fa w / 64 < fs.length →
      (∀ (H1 : Heap) (locs1 : List Loc), va_P g.1 cl (ws.set q0 (a, .inr (fa w % 64, fs.set (fa w / 64) v))) H1 → va_D (AA g) (ws.set q0 (a, .inr (fa w % 64, fs.set (fa w / 64) v))) → va_S (AA g) s.heap H1 locs1 → W p l e R s m args below meth c H1 locs1 cells slots Q (F0 m (nxt w) ls st)) → W p l e R s m args below meth c H locs cells slots Q (F0 m pc ls (v :: .ref a :: st)))
    (h0t : tp S ≠ 0) (h : br (an (isT 3 (sd S)) (fitw (fb w) (tp S))) (fc (mrow h0 (sd S)) (pf2 w L S h0 k)) none = some res) (K : ∀ pc' L' h' S', k pc' L' h' S' = some res → Wp g cl ft p l e R s m args below meth c Q nL kc0 ks0 res pc' L' h' S') : Wp g cl ft p l e R s m args below meth c Q nL kc0 ks0 res pc L h0 S := by
  obtain ⟨hq, h1⟩ := br_s h
  obtain ⟨ha, hw⟩ := an_t hq
  obtain ⟨h2, h3⟩ := br_s (show br (an (Nat.beq (mcl (mrow h0 (sd S))) (Nat.mod (fa w) 64)) (Nat.ble (Nat.add (Nat.div (fa w) 64) 1) (mln (mrow h0 (sd S))))) (hput h0 (Nat.add (mof (mrow h0 (sd S))) (Nat.div (fa w) 64)) (tp S) (kS (nxt w) L (r2 S) k)) none = some res from h1)
  obtain ⟨h4, h5⟩ := an_t h2
  rw [mrow_mrw] at h3 h4 h5
  have h4 : mcl (mrw h0 (sd S / 8)) = fa w % 64 := beq_t h4
  have h5 : fa w / 64 + 1 ≤ mln (mrw h0 (sd S / 8)) := ble_t h5
  obtain ⟨hlt, h', hk', hg, hr⟩ := hput_s h3
  obtain ⟨K1, K2⟩ := K _ _ _ _ (show k (nxt w) L h' (r2 S) = some res from hk')
  rw [hr] at K1
  refine ⟨K1, fun ls st H locs cells slots r => ?_⟩
  obtain ⟨ws, hL, hS, hH, hP, hD, hSS, hc1, hc2⟩ := r
  obtain ⟨v, u, st', rfl, hv, hu, hS'⟩ := hS.pop2 h0t (tn2 ha (by decide))
  obtain ⟨a, e, he, rfl⟩ := hu.cell (isT_t ha)
  obtain ⟨fs, rfl, h7, h8⟩ := (hH.2.2.1 _ _ he).obj (by omega)
  have he' := he
  rw [h4] at he'
  refine row hw hv hP hD hSS he' (by omega) (fun H1 locs1 hP1 hD1 hS1 => ?_)
  have hle : wsle ws (ws.set (sd S / 8) (a, .inr (fa w % 64, fs.set (fa w / 64) v))) := wsle.set he
  refine K2 _ _ _ _ _ _ ⟨_, hL.mono hle, hS'.mono hle, hH.put he (j := fa w / 64) (by omega) hg hr ?_, hP1, hD1, hS1, by rw [hr]; exact hc1, by rw [hr]; exact hc2⟩
  refine Or.inl ⟨by omega, fs.set (fa w / 64) v, by rw [h4], by rw [List.length_set]; exact h7, fun j hj => ?_⟩
  rw [hg]
  by_cases hjk : fa w / 64 = j
  · subst hjk
    refine ⟨v, List.getElem?_set_self (by omega), ?_⟩
    rw [if_pos (show mof (mrw h0 (sd S / 8)) + fa w / 64 = Nat.add (mof (mrw h0 (sd S / 8))) (Nat.div (fa w) 64) from rfl), h4]
    exact (hfit hw hv).mono hle
  · obtain ⟨v', a1, a2⟩ := h8 j hj
    refine ⟨v', by rw [List.getElem?_set_ne hjk]; exact a1, ?_⟩
    rw [if_neg (show ¬ mof (mrw h0 (sd S / 8)) + j = Nat.add (mof (mrw h0 (sd S / 8))) (Nat.div (fa w) 64) by show ¬ _ + j = _ + fa w / 64; omega)]
    exact a2.mono hle
theorem q_ialw (hx : p.tables.exec = Jvm.exec) (hb : c.code = cc) (hK : va_K g.1 cl g.2.1 s) (hd : decode cc pc = .ok (.iaload, 1)) (hn : nxt w = pc + 1)
    (h : ald (Nat.beq 32) 0 w L h0 k S = some res) (K : ∀ pc' L' h' S', k pc' L' h' S' = some res → Wp g cl ft p l e R s m args below meth c Q nL kc0 ks0 res pc' L' h' S') : Wp g cl ft p l e R s m args below meth c Q nL kc0 ks0 res pc L h0 S := by
  obtain ⟨hq, h1⟩ := br_s h
  obtain ⟨ha, hs⟩ := an_t hq
  obtain ⟨hs1, hs2⟩ := an_t hs
  obtain ⟨h2, h3⟩ := br_s (show br (an ((Nat.beq 32) (mcl (mrow h0 (sd S)))) (an (Nat.ble 2147483648 (ilo (tp S))) (Nat.ble (Nat.add (isb (ilo (tp S))) 1) (mln (mrow h0 (sd S)))))) (fc (pu (dfw 0 (hget h0 (Nat.add (mof (mrow h0 (sd S))) (isb (ilo (tp S)))))) (r2 S)) (k (nxt w) L h0)) none = some res from h1)
  obtain ⟨h4, h5⟩ := an_t h2
  obtain ⟨h5, h6⟩ := an_t h5
  rw [mrow_mrw] at h3 h4 h6
  have h5 : 2147483648 ≤ ilo (tp S) := ble_t h5
  have h6 : isb (ilo (tp S)) + 1 ≤ mln (mrw h0 (sd S / 8)) := ble_t h6
  have h4 : 32 = mcl (mrw h0 (sd S / 8)) := beq_t h4
  rw [fc_eq] at h3
  generalize hJ : isb (ilo (tp S)) = J at h3 h6
  obtain ⟨K1, K2⟩ := K _ _ _ _ h3
  refine ⟨K1, fun ls st H locs cells slots r => ?_⟩
  obtain ⟨ws, hL, hS, hH, hP, hD, hSS, hc1, hc2⟩ := r
  obtain ⟨v, u, st', rfl, hv, hu, hS'⟩ := hS.pop2 (tn1 hs1 (by decide)) (tn2 ha (by decide))
  obtain ⟨a, e, he, rfl⟩ := hu.cell (isT_t ha)
  obtain ⟨i, rfl, hi⟩ := hv.sint (isT_t hs1) (beq_t hs2)
  obtain ⟨cA, f, rfl, h7, h8⟩ := (hH.2.2.1 _ _ he).ints (Or.inl h4.symm)
  obtain ⟨i1, i2⟩ := idx (n := mln (mrw h0 (sd S / 8))) hi h5 (by rw [hJ]; omega) (mln_lt _)
  rw [hJ] at i2
  have h9 := h8 J (by omega)
  rw [← h4] at h7
  refine va_iald hx hb hK hP (sd S / 8) _ he h7 i1 hd ?_
  rw [i2, ← hn]
  exact K2 _ _ _ _ _ _ ⟨ws, hL, hS'.push (dfw_VR h9), hH, hP, hD, hSS, hc1, hc2⟩
theorem q_lald (hx : p.tables.exec = Jvm.exec) (hb : c.code = cc) (hK : va_K g.1 cl g.2.1 s) (hd : decode cc pc = .ok (.laload, 1)) (hn : nxt w = pc + 1)
    (h : ald (Nat.beq 33) 2 w L h0 k S = some res) (K : ∀ pc' L' h' S', k pc' L' h' S' = some res → Wp g cl ft p l e R s m args below meth c Q nL kc0 ks0 res pc' L' h' S') : Wp g cl ft p l e R s m args below meth c Q nL kc0 ks0 res pc L h0 S := by
  obtain ⟨hq, h1⟩ := br_s h
  obtain ⟨ha, hs⟩ := an_t hq
  obtain ⟨hs1, hs2⟩ := an_t hs
  obtain ⟨h2, h3⟩ := br_s (show br (an ((Nat.beq 33) (mcl (mrow h0 (sd S)))) (an (Nat.ble 2147483648 (ilo (tp S))) (Nat.ble (Nat.add (isb (ilo (tp S))) 1) (mln (mrow h0 (sd S)))))) (fc (pu (dfw 2 (hget h0 (Nat.add (mof (mrow h0 (sd S))) (isb (ilo (tp S)))))) (r2 S)) (k (nxt w) L h0)) none = some res from h1)
  obtain ⟨h4, h5⟩ := an_t h2
  obtain ⟨h5, h6⟩ := an_t h5
  rw [mrow_mrw] at h3 h4 h6
  have h5 : 2147483648 ≤ ilo (tp S) := ble_t h5
  have h6 : isb (ilo (tp S)) + 1 ≤ mln (mrw h0 (sd S / 8)) := ble_t h6
  have h4 : 33 = mcl (mrw h0 (sd S / 8)) := beq_t h4
  rw [fc_eq] at h3
  generalize hJ : isb (ilo (tp S)) = J at h3 h6
  obtain ⟨K1, K2⟩ := K _ _ _ _ h3
  refine ⟨K1, fun ls st H locs cells slots r => ?_⟩
  obtain ⟨ws, hL, hS, hH, hP, hD, hSS, hc1, hc2⟩ := r
  obtain ⟨v, u, st', rfl, hv, hu, hS'⟩ := hS.pop2 (tn1 hs1 (by decide)) (tn2 ha (by decide))
  obtain ⟨a, e, he, rfl⟩ := hu.cell (isT_t ha)
  obtain ⟨i, rfl, hi⟩ := hv.sint (isT_t hs1) (beq_t hs2)
  obtain ⟨cA, f, rfl, h7, h8⟩ := (hH.2.2.1 _ _ he).longs h4.symm
  obtain ⟨i1, i2⟩ := idx (n := mln (mrw h0 (sd S / 8))) hi h5 (by rw [hJ]; omega) (mln_lt _)
  rw [hJ] at i2
  have h9 := h8 J (by omega)
  rw [← h4] at h7
  refine va_lald hx hb hK hP (sd S / 8) _ he h7 i1 hd ?_
  rw [i2, ← hn]
  exact K2 _ _ _ _ _ _ ⟨ws, hL, hS'.push (dfw_VR h9), hH, hP, hD, hSS, hc1, hc2⟩
theorem q_bald (hx : p.tables.exec = Jvm.exec) (hb : c.code = cc) (hK : va_K g.1 cl g.2.1 s) (hd : decode cc pc = .ok (.baload, 1)) (hn : nxt w = pc + 1)
    (h : ald (Nat.beq 35) 0 w L h0 k S = some res) (K : ∀ pc' L' h' S', k pc' L' h' S' = some res → Wp g cl ft p l e R s m args below meth c Q nL kc0 ks0 res pc' L' h' S') : Wp g cl ft p l e R s m args below meth c Q nL kc0 ks0 res pc L h0 S := by
  obtain ⟨hq, h1⟩ := br_s h
  obtain ⟨ha, hs⟩ := an_t hq
  obtain ⟨hs1, hs2⟩ := an_t hs
  obtain ⟨h2, h3⟩ := br_s (show br (an ((Nat.beq 35) (mcl (mrow h0 (sd S)))) (an (Nat.ble 2147483648 (ilo (tp S))) (Nat.ble (Nat.add (isb (ilo (tp S))) 1) (mln (mrow h0 (sd S)))))) (fc (pu (dfw 0 (hget h0 (Nat.add (mof (mrow h0 (sd S))) (isb (ilo (tp S)))))) (r2 S)) (k (nxt w) L h0)) none = some res from h1)
  obtain ⟨h4, h5⟩ := an_t h2
  obtain ⟨h5, h6⟩ := an_t h5
  rw [mrow_mrw] at h3 h4 h6
  have h5 : 2147483648 ≤ ilo (tp S) := ble_t h5
  have h6 : isb (ilo (tp S)) + 1 ≤ mln (mrw h0 (sd S / 8)) := ble_t h6
  have h4 : 35 = mcl (mrw h0 (sd S / 8)) := beq_t h4
  rw [fc_eq] at h3
  generalize hJ : isb (ilo (tp S)) = J at h3 h6
  obtain ⟨K1, K2⟩ := K _ _ _ _ h3
  refine ⟨K1, fun ls st H locs cells slots r => ?_⟩
  obtain ⟨ws, hL, hS, hH, hP, hD, hSS, hc1, hc2⟩ := r
  obtain ⟨v, u, st', rfl, hv, hu, hS'⟩ := hS.pop2 (tn1 hs1 (by decide)) (tn2 ha (by decide))
  obtain ⟨a, e, he, rfl⟩ := hu.cell (isT_t ha)
  obtain ⟨i, rfl, hi⟩ := hv.sint (isT_t hs1) (beq_t hs2)
  obtain ⟨cA, f, rfl, h7, h8⟩ := (hH.2.2.1 _ _ he).ints (Or.inr (Or.inr h4.symm))
  obtain ⟨i1, i2⟩ := idx (n := mln (mrw h0 (sd S / 8))) hi h5 (by rw [hJ]; omega) (mln_lt _)
  rw [hJ] at i2
  have h9 := h8 J (by omega)
  rw [← h4] at h7
  refine va_zald hx hb hK hP (sd S / 8) _ he h7 i1 hd ?_
  rw [i2, ← hn]
  exact K2 _ _ _ _ _ _ ⟨ws, hL, hS'.push (dfw_VR h9), hH, hP, hD, hSS, hc1, hc2⟩
theorem aty_ref {c : Nat} (h : 37 ≤ c) : (aty c).isReference = true := by
  unfold aty
  split <;> first | rfl | omega
theorem q_aald (hx : p.tables.exec = Jvm.exec) (hb : c.code = cc) (hK : va_K g.1 cl g.2.1 s) (hd : decode cc pc = .ok (.aaload, 1)) (hn : nxt w = pc + 1)
    (h : ald (Nat.ble 37) 3 w L h0 k S = some res) (K : ∀ pc' L' h' S', k pc' L' h' S' = some res → Wp g cl ft p l e R s m args below meth c Q nL kc0 ks0 res pc' L' h' S') : Wp g cl ft p l e R s m args below meth c Q nL kc0 ks0 res pc L h0 S := by
  obtain ⟨hq, h1⟩ := br_s h
  obtain ⟨ha, hs⟩ := an_t hq
  obtain ⟨hs1, hs2⟩ := an_t hs
  obtain ⟨h2, h3⟩ := br_s (show br (an ((Nat.ble 37) (mcl (mrow h0 (sd S)))) (an (Nat.ble 2147483648 (ilo (tp S))) (Nat.ble (Nat.add (isb (ilo (tp S))) 1) (mln (mrow h0 (sd S)))))) (fc (pu (dfw 3 (hget h0 (Nat.add (mof (mrow h0 (sd S))) (isb (ilo (tp S)))))) (r2 S)) (k (nxt w) L h0)) none = some res from h1)
  obtain ⟨h4, h5⟩ := an_t h2
  obtain ⟨h5, h6⟩ := an_t h5
  rw [mrow_mrw] at h3 h4 h6
  have h5 : 2147483648 ≤ ilo (tp S) := ble_t h5
  have h6 : isb (ilo (tp S)) + 1 ≤ mln (mrw h0 (sd S / 8)) := ble_t h6
  have h4 : 37 ≤ mcl (mrw h0 (sd S / 8)) := ble_t h4
  rw [fc_eq] at h3
  generalize hJ : isb (ilo (tp S)) = J at h3 h6
  obtain ⟨K1, K2⟩ := K _ _ _ _ h3
  refine ⟨K1, fun ls st H locs cells slots r => ?_⟩
  obtain ⟨ws, hL, hS, hH, hP, hD, hSS, hc1, hc2⟩ := r
  obtain ⟨v, u, st', rfl, hv, hu, hS'⟩ := hS.pop2 (tn1 hs1 (by decide)) (tn2 ha (by decide))
  obtain ⟨a, e, he, rfl⟩ := hu.cell (isT_t ha)
  obtain ⟨i, rfl, hi⟩ := hv.sint (isT_t hs1) (beq_t hs2)
  obtain ⟨cA, f, rfl, h7, h8⟩ := (hH.2.2.1 _ _ he).rfs h4
  obtain ⟨i1, i2⟩ := idx (n := mln (mrw h0 (sd S / 8))) hi h5 (by rw [hJ]; omega) (mln_lt _)
  rw [hJ] at i2
  have h9 := h8 J (by omega)
  have hlt : i.toNatClampNeg < mln (mrw h0 (sd S / 8)) := by rw [i2]; omega
  refine W.aald (v := va_rf (f i.toNatClampNeg)) (ty := aty (mcl (mrw h0 (sd S / 8)))) hx hb (hP _ _ he) ((hK.2 _ _ h7).1 _ (fun j => va_rf (f j))) (aty_ref h4) (fun q => by cases q) (by show ¬ (i < 0 ∨ (arrV _ _ _).slots.size ≤ _); rw [arrV_size]; exact i1) (by show (arrV _ _ _).slots[_]? = _; rw [arrV_read _ _ hlt]) rfl rfl hd ?_
  show W p l e R s m args below meth c H locs cells slots Q (F0 m (pc + 1) ls (va_rf (f i.toNatClampNeg) :: st'))
  rw [i2, ← hn]
  exact K2 _ _ _ _ _ _ ⟨ws, hL, hS'.push (dfw_VR h9), hH, hP, hD, hSS, hc1, hc2⟩
theorem q_iald {bx bl b : Nat} {xs : Nat → Int32} (hgb : g.2.2.2.1 = b) (hx : p.tables.exec = Jvm.exec) (hb : c.code = cc) (hK : va_K g.1 cl g.2.1 s) (hX : va_X b bl xs s s.heap) (hbl : b < s.heap.size) (hbA : ¬ AA g b) (hl6 : bl < 65536) (hbx : ∀ (ws : va_W) (j : Nat), j < bl → VR g ws (pget bx j) (.int (xs j))) (hd : decode cc pc = .ok (.iaload, 1)) (hn : nxt w = pc + 1)
    (h : br (Nat.beq (sd S) 23) (br (an (isS (tp S)) (an (Nat.ble 2147483648 (ilo (tp S))) (Nat.ble (Nat.add (isb (ilo (tp S))) 1) bl))) (fc (pu (pget bx (isb (ilo (tp S)))) (r2 S)) (k (nxt w) L h0)) none) (ald (Nat.beq 32) 0 w L h0 k S) = some res) (K : ∀ pc' L' h' S', k pc' L' h' S' = some res → Wp g cl ft p l e R s m args below meth c Q nL kc0 ks0 res pc' L' h' S') : Wp g cl ft p l e R s m args below meth c Q nL kc0 ks0 res pc L h0 S := by
  rcases br_o h with ⟨ha, h6⟩ | ⟨-, h6⟩
  · obtain ⟨hq, h3⟩ := br_s h6
    obtain ⟨hs, h5⟩ := an_t hq
    obtain ⟨hs1, hs2⟩ := an_t hs
    obtain ⟨h5, h7⟩ := an_t h5
    have h5 : 2147483648 ≤ ilo (tp S) := ble_t h5
    have h7 : isb (ilo (tp S)) + 1 ≤ bl := ble_t h7
    have ha := beq_t ha
    rw [fc_eq] at h3
    generalize hJ : isb (ilo (tp S)) = J at h3 h7
    obtain ⟨K1, K2⟩ := K _ _ _ _ h3
    refine ⟨K1, fun ls st H locs cells slots r => ?_⟩
    obtain ⟨ws, hL, hS, hH, hP, hD, hSS, hc1, hc2⟩ := r
    obtain ⟨v, u, st', rfl, hv, hu, hS'⟩ := hS.pop2 (tn1 hs1 (by decide)) (by rw [ha]; decide)
    rw [ha] at hu
    have e1 := hu.scr
    subst e1
    obtain ⟨i, rfl, hi⟩ := hv.sint (isT_t hs1) (beq_t hs2)
    obtain ⟨i1, i2⟩ := idx (n := bl) hi h5 (by rw [hJ]; omega) hl6
    rw [hJ] at i2
    rw [hgb]
    refine va_sld hx hb hX hbl hbA hSS i1 hd ?_
    rw [i2, ← hn]
    exact K2 _ _ _ _ _ _ ⟨ws, hL, hS'.push (hbx ws _ (by omega)), hH, hP, hD, hSS, hc1, hc2⟩
  · exact q_ialw hx hb hK hd hn h6 K
theorem q_iast (hx : p.tables.exec = Jvm.exec) (hb : c.code = cc) (hK : va_K g.1 cl g.2.1 s) (hd : decode cc pc = .ok (.iastore, 1)) (hn : nxt w = pc + 1) (htp : tp S % 8 = 1)
    (h : ast (Nat.beq 32) (tp S) w L h0 k S = some res) (K : ∀ pc' L' h' S', k pc' L' h' S' = some res → Wp g cl ft p l e R s m args below meth c Q nL kc0 ks0 res pc' L' h' S') : Wp g cl ft p l e R s m args below meth c Q nL kc0 ks0 res pc L h0 S := by
  obtain ⟨hq, h1⟩ := br_s h
  obtain ⟨ha, hs⟩ := an_t hq
  obtain ⟨hs1, hs2⟩ := an_t hs
  obtain ⟨h2, h3⟩ := br_s (show br (an ((Nat.beq 32) (mcl (mrow h0 (td S)))) (an (Nat.ble 2147483648 (ilo (sd S))) (Nat.ble (Nat.add (isb (ilo (sd S))) 1) (mln (mrow h0 (td S)))))) (hput h0 (Nat.add (mof (mrow h0 (td S))) (isb (ilo (sd S)))) (tp S) (kS (nxt w) L (r3 S) k)) none = some res from h1)
  obtain ⟨h4, h5⟩ := an_t h2
  obtain ⟨h5, h6⟩ := an_t h5
  rw [mrow_mrw] at h3 h4 h6
  have h5 : 2147483648 ≤ ilo (sd S) := ble_t h5
  have h6 : isb (ilo (sd S)) + 1 ≤ mln (mrw h0 (td S / 8)) := ble_t h6
  have h4 : 32 = mcl (mrw h0 (td S / 8)) := beq_t h4
  generalize hJ : isb (ilo (sd S)) = J at h3 h6
  obtain ⟨hlt, h', hk', hg, hr⟩ := hput_s h3
  obtain ⟨K1, K2⟩ := K _ _ _ _ (show k (nxt w) L h' (r3 S) = some res from hk')
  rw [hr] at K1
  refine ⟨K1, fun ls st H locs cells slots r => ?_⟩
  obtain ⟨ws, hL, hS, hH, hP, hD, hSS, hc1, hc2⟩ := r
  obtain ⟨v, u, x, st', rfl, hv, hu, hxx, hS'⟩ := hS.pop3 (fun q => by rw [q] at htp; omega) (tn2 hs1 (by decide)) (tn3 ha (by decide))
  obtain ⟨a, e, he, rfl⟩ := hxx.cell (isT_t ha)
  obtain ⟨i, rfl, hi⟩ := hu.sint (isT_t hs1) (beq_t hs2)
  obtain ⟨cA, f, rfl, h7, h8⟩ := (hH.2.2.1 _ _ he).ints (Or.inl h4.symm)
  obtain ⟨i1, i2⟩ := idx (n := mln (mrw h0 (td S / 8))) hi h5 (by rw [hJ]; omega) (mln_lt _)
  rw [hJ] at i2
  obtain ⟨y, rfl, -⟩ := hv.int htp
  refine va_iast hx hb hK hP hD hSS (td S / 8) _ he (by rw [← h4] at h7; exact h7) i1 hd (fun H1 locs1 hP1 hD1 hS1 => ?_)
  rw [← hn]
  have hle : wsle ws (ws.set (td S / 8) (a, .inl (cA, mln (mrw h0 (td S / 8)), .inl (upd f i.toNatClampNeg y)))) := wsle.set he
  refine K2 _ _ _ _ _ _ ⟨_, hL.mono hle, hS'.mono hle, hH.put he (j := J) (by omega) hg hr ?_, hP1, hD1, hS1, by rw [hr]; exact hc1, by rw [hr]; exact hc2⟩
  refine Or.inr <| Or.inl ⟨Or.inl h4.symm, cA, _, rfl, h7, fun j hj => ?_⟩
  rw [hg]
  by_cases hjk : j = J
  · subst hjk
    rw [if_pos (show mof (mrw h0 (td S / 8)) + j = Nat.add (mof (mrw h0 (td S / 8))) j from rfl)]
    refine Or.inr ?_
    rw [show upd f i.toNatClampNeg y j = y by simp [upd, i2]]
    exact hv.mono hle
  · rw [if_neg (show ¬ mof (mrw h0 (td S / 8)) + j = Nat.add (mof (mrw h0 (td S / 8))) J by show ¬ _ + j = _ + J; omega)]
    have := (h8 j hj).mono hle
    simpa [upd, i2, hjk] using this
theorem q_last (hx : p.tables.exec = Jvm.exec) (hb : c.code = cc) (hK : va_K g.1 cl g.2.1 s) (hd : decode cc pc = .ok (.lastore, 1)) (hn : nxt w = pc + 1) (htp : tp S % 8 = 2)
    (h : ast (Nat.beq 33) (tp S) w L h0 k S = some res) (K : ∀ pc' L' h' S', k pc' L' h' S' = some res → Wp g cl ft p l e R s m args below meth c Q nL kc0 ks0 res pc' L' h' S') : Wp g cl ft p l e R s m args below meth c Q nL kc0 ks0 res pc L h0 S := by
  obtain ⟨hq, h1⟩ := br_s h
  obtain ⟨ha, hs⟩ := an_t hq
  obtain ⟨hs1, hs2⟩ := an_t hs
  obtain ⟨h2, h3⟩ := br_s (show br (an ((Nat.beq 33) (mcl (mrow h0 (td S)))) (an (Nat.ble 2147483648 (ilo (sd S))) (Nat.ble (Nat.add (isb (ilo (sd S))) 1) (mln (mrow h0 (td S)))))) (hput h0 (Nat.add (mof (mrow h0 (td S))) (isb (ilo (sd S)))) (tp S) (kS (nxt w) L (r3 S) k)) none = some res from h1)
  obtain ⟨h4, h5⟩ := an_t h2
  obtain ⟨h5, h6⟩ := an_t h5
  rw [mrow_mrw] at h3 h4 h6
  have h5 : 2147483648 ≤ ilo (sd S) := ble_t h5
  have h6 : isb (ilo (sd S)) + 1 ≤ mln (mrw h0 (td S / 8)) := ble_t h6
  have h4 : 33 = mcl (mrw h0 (td S / 8)) := beq_t h4
  generalize hJ : isb (ilo (sd S)) = J at h3 h6
  obtain ⟨hlt, h', hk', hg, hr⟩ := hput_s h3
  obtain ⟨K1, K2⟩ := K _ _ _ _ (show k (nxt w) L h' (r3 S) = some res from hk')
  rw [hr] at K1
  refine ⟨K1, fun ls st H locs cells slots r => ?_⟩
  obtain ⟨ws, hL, hS, hH, hP, hD, hSS, hc1, hc2⟩ := r
  obtain ⟨v, u, x, st', rfl, hv, hu, hxx, hS'⟩ := hS.pop3 (fun q => by rw [q] at htp; omega) (tn2 hs1 (by decide)) (tn3 ha (by decide))
  obtain ⟨a, e, he, rfl⟩ := hxx.cell (isT_t ha)
  obtain ⟨i, rfl, hi⟩ := hu.sint (isT_t hs1) (beq_t hs2)
  obtain ⟨cA, f, rfl, h7, h8⟩ := (hH.2.2.1 _ _ he).longs h4.symm
  obtain ⟨i1, i2⟩ := idx (n := mln (mrw h0 (td S / 8))) hi h5 (by rw [hJ]; omega) (mln_lt _)
  rw [hJ] at i2
  obtain ⟨y, rfl, -⟩ := hv.long htp
  refine va_last hx hb hK hP hD hSS (td S / 8) _ he (by rw [← h4] at h7; exact h7) i1 hd (fun H1 locs1 hP1 hD1 hS1 => ?_)
  rw [← hn]
  have hle : wsle ws (ws.set (td S / 8) (a, .inl (cA, mln (mrw h0 (td S / 8)), .inr (.inl (vp_updL f i.toNatClampNeg y))))) := wsle.set he
  refine K2 _ _ _ _ _ _ ⟨_, hL.mono hle, hS'.mono hle, hH.put he (j := J) (by omega) hg hr ?_, hP1, hD1, hS1, by rw [hr]; exact hc1, by rw [hr]; exact hc2⟩
  refine Or.inr <| Or.inr <| Or.inl ⟨h4.symm, cA, _, rfl, h7, fun j hj => ?_⟩
  rw [hg]
  by_cases hjk : j = J
  · subst hjk
    rw [if_pos (show mof (mrw h0 (td S / 8)) + j = Nat.add (mof (mrw h0 (td S / 8))) j from rfl)]
    refine Or.inr ?_
    rw [show vp_updL f i.toNatClampNeg y j = y by simp [vp_updL, i2]]
    exact hv.mono hle
  · rw [if_neg (show ¬ mof (mrw h0 (td S / 8)) + j = Nat.add (mof (mrw h0 (td S / 8))) J by show ¬ _ + j = _ + J; omega)]
    have := (h8 j hj).mono hle
    simpa [vp_updL, i2, hjk] using this
theorem q_bastB (hx : p.tables.exec = Jvm.exec) (hb : c.code = cc) (hK : va_K g.1 cl g.2.1 s) (hd : decode cc pc = .ok (.bastore, 1)) (hn : nxt w = pc + 1) (htp : tp S % 8 = 1)
    (h : ast (Nat.beq 34) wTop w L h0 k S = some res) (K : ∀ pc' L' h' S', k pc' L' h' S' = some res → Wp g cl ft p l e R s m args below meth c Q nL kc0 ks0 res pc' L' h' S') : Wp g cl ft p l e R s m args below meth c Q nL kc0 ks0 res pc L h0 S := by
  obtain ⟨hq, h1⟩ := br_s h
  obtain ⟨ha, hs⟩ := an_t hq
  obtain ⟨hs1, hs2⟩ := an_t hs
  obtain ⟨h2, h3⟩ := br_s (show br (an ((Nat.beq 34) (mcl (mrow h0 (td S)))) (an (Nat.ble 2147483648 (ilo (sd S))) (Nat.ble (Nat.add (isb (ilo (sd S))) 1) (mln (mrow h0 (td S)))))) (hput h0 (Nat.add (mof (mrow h0 (td S))) (isb (ilo (sd S)))) wTop (kS (nxt w) L (r3 S) k)) none = some res from h1)
  obtain ⟨h4, h5⟩ := an_t h2
  obtain ⟨h5, h6⟩ := an_t h5
  rw [mrow_mrw] at h3 h4 h6
  have h5 : 2147483648 ≤ ilo (sd S) := ble_t h5
  have h6 : isb (ilo (sd S)) + 1 ≤ mln (mrw h0 (td S / 8)) := ble_t h6
  have h4 : 34 = mcl (mrw h0 (td S / 8)) := beq_t h4
  generalize hJ : isb (ilo (sd S)) = J at h3 h6
  obtain ⟨hlt, h', hk', hg, hr⟩ := hput_s h3
  obtain ⟨K1, K2⟩ := K _ _ _ _ (show k (nxt w) L h' (r3 S) = some res from hk')
  rw [hr] at K1
  refine ⟨K1, fun ls st H locs cells slots r => ?_⟩
  obtain ⟨ws, hL, hS, hH, hP, hD, hSS, hc1, hc2⟩ := r
  obtain ⟨v, u, x, st', rfl, hv, hu, hxx, hS'⟩ := hS.pop3 (fun q => by rw [q] at htp; omega) (tn2 hs1 (by decide)) (tn3 ha (by decide))
  obtain ⟨a, e, he, rfl⟩ := hxx.cell (isT_t ha)
  obtain ⟨i, rfl, hi⟩ := hu.sint (isT_t hs1) (beq_t hs2)
  obtain ⟨cA, f, rfl, h7, h8⟩ := (hH.2.2.1 _ _ he).ints (Or.inr (Or.inl h4.symm))
  obtain ⟨i1, i2⟩ := idx (n := mln (mrw h0 (td S / 8))) hi h5 (by rw [hJ]; omega) (mln_lt _)
  rw [hJ] at i2
  obtain ⟨y, rfl, -⟩ := hv.int htp
  refine va_bast hx hb hK hP hD hSS (td S / 8) _ he (by rw [← h4] at h7; exact h7) i1 hd (fun H1 locs1 hP1 hD1 hS1 => ?_)
  rw [← hn]
  have hle : wsle ws (ws.set (td S / 8) (a, .inl (cA, mln (mrw h0 (td S / 8)), .inl (upd f i.toNatClampNeg (vp_nar .byte y))))) := wsle.set he
  refine K2 _ _ _ _ _ _ ⟨_, hL.mono hle, hS'.mono hle, hH.put he (j := J) (by omega) hg hr ?_, hP1, hD1, hS1, by rw [hr]; exact hc1, by rw [hr]; exact hc2⟩
  refine Or.inr <| Or.inl ⟨Or.inr (Or.inl h4.symm), cA, _, rfl, h7, fun j hj => ?_⟩
  rw [hg]
  by_cases hjk : j = J
  · subst hjk
    rw [if_pos (show mof (mrw h0 (td S / 8)) + j = Nat.add (mof (mrw h0 (td S / 8))) j from rfl)]
    refine Or.inr ?_
    exact VR_top _ _ _
  · rw [if_neg (show ¬ mof (mrw h0 (td S / 8)) + j = Nat.add (mof (mrw h0 (td S / 8))) J by show ¬ _ + j = _ + J; omega)]
    have := (h8 j hj).mono hle
    simpa [upd, i2, hjk] using this
theorem q_bastZ (hx : p.tables.exec = Jvm.exec) (hb : c.code = cc) (hK : va_K g.1 cl g.2.1 s) (hd : decode cc pc = .ok (.bastore, 1)) (hn : nxt w = pc + 1) (htp : tp S = 73786976312018075649 ∨ tp S = 73786976346377814025)
    (h : ast (Nat.beq 35) (tp S) w L h0 k S = some res) (K : ∀ pc' L' h' S', k pc' L' h' S' = some res → Wp g cl ft p l e R s m args below meth c Q nL kc0 ks0 res pc' L' h' S') : Wp g cl ft p l e R s m args below meth c Q nL kc0 ks0 res pc L h0 S := by
  obtain ⟨hq, h1⟩ := br_s h
  obtain ⟨ha, hs⟩ := an_t hq
  obtain ⟨hs1, hs2⟩ := an_t hs
  obtain ⟨h2, h3⟩ := br_s (show br (an ((Nat.beq 35) (mcl (mrow h0 (td S)))) (an (Nat.ble 2147483648 (ilo (sd S))) (Nat.ble (Nat.add (isb (ilo (sd S))) 1) (mln (mrow h0 (td S)))))) (hput h0 (Nat.add (mof (mrow h0 (td S))) (isb (ilo (sd S)))) (tp S) (kS (nxt w) L (r3 S) k)) none = some res from h1)
  obtain ⟨h4, h5⟩ := an_t h2
  obtain ⟨h5, h6⟩ := an_t h5
  rw [mrow_mrw] at h3 h4 h6
  have h5 : 2147483648 ≤ ilo (sd S) := ble_t h5
  have h6 : isb (ilo (sd S)) + 1 ≤ mln (mrw h0 (td S / 8)) := ble_t h6
  have h4 : 35 = mcl (mrw h0 (td S / 8)) := beq_t h4
  generalize hJ : isb (ilo (sd S)) = J at h3 h6
  obtain ⟨hlt, h', hk', hg, hr⟩ := hput_s h3
  obtain ⟨K1, K2⟩ := K _ _ _ _ (show k (nxt w) L h' (r3 S) = some res from hk')
  rw [hr] at K1
  refine ⟨K1, fun ls st H locs cells slots r => ?_⟩
  obtain ⟨ws, hL, hS, hH, hP, hD, hSS, hc1, hc2⟩ := r
  obtain ⟨v, u, x, st', rfl, hv, hu, hxx, hS'⟩ := hS.pop3 (fun q => by rw [q] at htp; omega) (tn2 hs1 (by decide)) (tn3 ha (by decide))
  obtain ⟨a, e, he, rfl⟩ := hxx.cell (isT_t ha)
  obtain ⟨i, rfl, hi⟩ := hu.sint (isT_t hs1) (beq_t hs2)
  obtain ⟨cA, f, rfl, h7, h8⟩ := (hH.2.2.1 _ _ he).ints (Or.inr (Or.inr h4.symm))
  obtain ⟨i1, i2⟩ := idx (n := mln (mrw h0 (td S / 8))) hi h5 (by rw [hJ]; omega) (mln_lt _)
  rw [hJ] at i2
  obtain ⟨y, rfl, ey⟩ := hv.sint (by rcases htp with q | q <;> rw [q]) (by rcases htp with q | q <;> rw [q] <;> decide)
  have hy : vp_nar .boolean y = y := by
    rcases htp with q | q
    · rw [q] at ey
      have : y = 0 := iEx_inj.mp (by rw [ey]; decide)
      subst this
      decide
    · rw [q] at ey
      have : y = 1 := iEx_inj.mp (by rw [ey]; decide)
      subst this
      decide
  refine va_zast hx hb hK hP hD hSS (td S / 8) _ he (by rw [← h4] at h7; exact h7) i1 hd (fun H1 locs1 hP1 hD1 hS1 => ?_)
  rw [← hn]
  have hle : wsle ws (ws.set (td S / 8) (a, .inl (cA, mln (mrw h0 (td S / 8)), .inl (upd f i.toNatClampNeg (vp_nar .boolean y))))) := wsle.set he
  refine K2 _ _ _ _ _ _ ⟨_, hL.mono hle, hS'.mono hle, hH.put he (j := J) (by omega) hg hr ?_, hP1, hD1, hS1, by rw [hr]; exact hc1, by rw [hr]; exact hc2⟩
  refine Or.inr <| Or.inl ⟨Or.inr (Or.inr h4.symm), cA, _, rfl, h7, fun j hj => ?_⟩
  rw [hg]
  by_cases hjk : j = J
  · subst hjk
    rw [if_pos (show mof (mrw h0 (td S / 8)) + j = Nat.add (mof (mrw h0 (td S / 8))) j from rfl)]
    refine Or.inr ?_
    rw [show upd f i.toNatClampNeg (vp_nar .boolean y) j = y by simp [upd, i2, hy]]
    exact hv.mono hle
  · rw [if_neg (show ¬ mof (mrw h0 (td S / 8)) + j = Nat.add (mof (mrw h0 (td S / 8))) J by show ¬ _ + j = _ + J; omega)]
    have := (h8 j hj).mono hle
    simpa [upd, i2, hjk] using this
end HOPS

/-! Math.max of ints, Math.abs of a long. -/
section MATH
variable {g : GG} {cl : List vw_C} {ft : Nat → Nat → Nat} {p : Program} {l : Launch} {e : Env} {R : Room} {s : State} {m : MethodId} {args : Array Value} {below : List Frame} {meth : Method} {c : Code} {Q : State → Prop} {nL kc0 ks0 : Nat} {res : RES} {pc w L : Nat} {h0 : HP} {S : Nat} {k : KK} {f lam : Nat}
theorem q_mmax (hRo : res.2.2.2.1.2.2.2.2.2.2.1 ≤ R.cells + kc0 ∧ res.2.2.2.1.2.2.2.2.2.2.2 ≤ R.slots + ks0)
    (row : ∀ {x y : Int32} {H : Heap} {locs : List Loc} {cells slots : Nat} {ls : Array Slot} {st : List Value}, ls.size = nL → (st.map fun v => v.category).sum ≤ 8 → cells ≤ R.cells → slots ≤ R.slots → 1 ≤ f → 21 ≤ lam → W p l e R s m args below meth c H locs cells slots Q (F0 m (nxt w) ls (.int (if x < y then y else x) :: st)) → W p l e R s m args below meth c H locs cells slots Q (F0 m pc ls (.int y :: .int x :: st)))
    (h : br (an (Nat.ble 1 f) (an (Nat.ble 21 lam) (catk 9 (r2 S) 0))) (mmx w L h0 k S) none = some res) (K : ∀ pc' L' h' S', k pc' L' h' S' = some res → Wp g cl ft p l e R s m args below meth c Q nL kc0 ks0 res pc' L' h' S') : Wp g cl ft p l e R s m args below meth c Q nL kc0 ks0 res pc L h0 S := by
  obtain ⟨g1, h⟩ := br_s h
  obtain ⟨g1, g2⟩ := an_t g1
  obtain ⟨g2, g3⟩ := an_t g2
  have g1 := ble_t g1
  have g2 := ble_t g2
  obtain ⟨h1, h2⟩ := br_s h
  obtain ⟨ha, hb⟩ := an_t h1
  rcases br_o h2 with ⟨h3, h4⟩ | ⟨-, h4⟩
  · have h3 := ble_t h3
    obtain ⟨K1, K2⟩ := K _ _ _ _ h4
    refine ⟨K1, fun ls st H locs cells slots r => ?_⟩
    obtain ⟨ws, hL, hS, hH, hP, hD, hSS, hc1, hc2⟩ := r
    obtain ⟨v, u, st', rfl, hv, hu, hS'⟩ := hS.pop2 (tn1 ha (by decide)) (tn2 hb (by decide))
    have hcat := catk_sum 9 hS' g3
    rw [Nat.zero_add] at hcat
    obtain ⟨y, rfl, y1, y2⟩ := hv.int (isT_t ha)
    obtain ⟨x, rfl, x1, x2⟩ := hu.int (isT_t hb)
    refine row hL.size hcat (by omega) (by omega) g1 g2 ?_
    have hxy : x ≤ y := iEx_lei.mp (by omega)
    have e9 : (if x < y then y else x) = y := by
      by_cases q : x < y
      · rw [if_pos q]
      · rw [if_neg q]; exact Int32.le_antisymm hxy (Int32.not_lt.mp q)
    rw [e9]
    exact K2 _ _ _ _ _ _ ⟨ws, hL, hS'.push hv, hH, hP, hD, hSS, hc1, hc2⟩
  · obtain ⟨h3, h4⟩ := br_s h4
    have h3 := ble_t h3
    obtain ⟨K1, K2⟩ := K _ _ _ _ h4
    refine ⟨K1, fun ls st H locs cells slots r => ?_⟩
    obtain ⟨ws, hL, hS, hH, hP, hD, hSS, hc1, hc2⟩ := r
    obtain ⟨v, u, st', rfl, hv, hu, hS'⟩ := hS.pop2 (tn1 ha (by decide)) (tn2 hb (by decide))
    have hcat := catk_sum 9 hS' g3
    rw [Nat.zero_add] at hcat
    obtain ⟨y, rfl, y1, y2⟩ := hv.int (isT_t ha)
    obtain ⟨x, rfl, x1, x2⟩ := hu.int (isT_t hb)
    refine row hL.size hcat (by omega) (by omega) g1 g2 ?_
    have hxy : y ≤ x := iEx_lei.mp (by omega)
    have e9 : (if x < y then y else x) = x := if_neg (Int32.not_lt.mpr hxy)
    rw [e9]
    exact K2 _ _ _ _ _ _ ⟨ws, hL, hS'.push hu, hH, hP, hD, hSS, hc1, hc2⟩
/-- one word goes, one comes, with what is known of the frame -/
theorem q_unm {w1 n9 : Nat} (hRo : res.2.2.2.1.2.2.2.2.2.2.1 ≤ R.cells + kc0 ∧ res.2.2.2.1.2.2.2.2.2.2.2 ≤ R.slots + ks0) (h0k : tp S ≠ 0) (g3 : catk 9 (r1 S) 0 = true)
    (row : ∀ {v : Value} {ws : va_W} {H : Heap} {locs : List Loc} {cells slots : Nat} {ls : Array Slot} {st : List Value}, VR g ws (tp S) v → ls.size = nL → (st.map fun v => v.category).sum ≤ 8 → cells ≤ R.cells → slots ≤ R.slots → (∀ v' : Value, VR g ws w1 v' → W p l e R s m args below meth c H locs cells slots Q (F0 m n9 ls (v' :: st))) → W p l e R s m args below meth c H locs cells slots Q (F0 m pc ls (v :: st)))
    (h : fc (pu w1 (r1 S)) (k n9 L h0) = some res) (K : ∀ pc' L' h' S', k pc' L' h' S' = some res → Wp g cl ft p l e R s m args below meth c Q nL kc0 ks0 res pc' L' h' S') : Wp g cl ft p l e R s m args below meth c Q nL kc0 ks0 res pc L h0 S := by
  obtain ⟨K1, K2⟩ := K _ _ _ _ h
  refine ⟨K1, fun ls st H locs cells slots r => ?_⟩
  obtain ⟨ws, hL, hS, hH, hP, hD, hSS, hc1, hc2⟩ := r
  obtain ⟨v, st', rfl, hv, hS'⟩ := hS.pop h0k
  have hcat := catk_sum 9 hS' g3
  rw [Nat.zero_add] at hcat
  exact row hv hL.size hcat (by omega) (by omega) (fun v' hv' => K2 _ _ _ _ _ _ ⟨ws, hL, hS'.push hv', hH, hP, hD, hSS, hc1, hc2⟩)
theorem q_labs (hRo : res.2.2.2.1.2.2.2.2.2.2.1 ≤ R.cells + kc0 ∧ res.2.2.2.1.2.2.2.2.2.2.2 ≤ R.slots + ks0)
    (row : ∀ {x : Int64} {H : Heap} {locs : List Loc} {cells slots : Nat} {ls : Array Slot} {st : List Value}, ls.size = nL → (st.map fun v => v.category).sum ≤ 8 → cells ≤ R.cells → slots ≤ R.slots → 1 ≤ f → 21 ≤ lam → W p l e R s m args below meth c H locs cells slots Q (F0 m (nxt w) ls (.long (if 0 < x then x else -x) :: st)) → W p l e R s m args below meth c H locs cells slots Q (F0 m pc ls (.long x :: st)))
    (h : br (an (Nat.ble 1 f) (an (Nat.ble 21 lam) (catk 9 (r1 S) 0))) (mab w L h0 k S) none = some res) (K : ∀ pc' L' h' S', k pc' L' h' S' = some res → Wp g cl ft p l e R s m args below meth c Q nL kc0 ks0 res pc' L' h' S') : Wp g cl ft p l e R s m args below meth c Q nL kc0 ks0 res pc L h0 S := by
  obtain ⟨g1, h⟩ := br_s h
  obtain ⟨g1, g2⟩ := an_t g1
  obtain ⟨g2, g3⟩ := an_t g2
  have g1 := ble_t g1
  have g2 := ble_t g2
  obtain ⟨ha, h4⟩ := br_s h
  refine q_unm hRo (tn1 ha (by decide)) g3 (fun hv hsz hcat hc9 hs9 kk => ?_) h4 K
  obtain ⟨y, rfl, ey⟩ := hv.long (isT_t ha)
  refine row hsz hcat hc9 hs9 g1 g2 (kk _ ?_)
  have e2 : Nat.div (tp S) 8 = lEx y := by show tp S / 8 = _; rw [ey, mkL_def]; omega
  rw [e2, lOf_lEx]
  exact VR_mkL _ _ _
end MATH

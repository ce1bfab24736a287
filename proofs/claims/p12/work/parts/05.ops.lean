/-! The heap's picture, a state's picture, and the instructions that touch no heap. -/
def AA (g : GG) : Nat → Prop := fun q => g.2.2.2.2.1 ≤ q
def dv (ty : Nat) : Value := if ty = 2 then .long 0 else if ty = 3 then .null else if ty = 6 then .double 0 else .int 0
def HV (g : GG) (ws : va_W) (ty w : Nat) (v : Value) : Prop := (w = 0 ∧ v = dv ty) ∨ VR g ws w v
theorem HV.mono {g : GG} {ws ws' : va_W} {ty w : Nat} {v : Value} (h : HV g ws ty w v) (hl : wsle ws ws') : HV g ws' ty w v := h.elim Or.inl (fun h => Or.inr (h.mono hl))
theorem dfw_VR {g : GG} {ws : va_W} {ty w : Nat} {v : Value} (h : HV g ws ty w v) : VR g ws (dfw ty w) v := by
  rcases h with ⟨rfl, rfl⟩ | h
  · show VR g ws (br (Nat.beq ty 2) 73786976294838206466 (br (Nat.beq ty 3) 4 (br (Nat.beq ty 6) 6 73786976312018075649))) (dv ty)
    unfold dv
    cases h2 : Nat.beq ty 2 with
    | true => rw [br_true, if_pos (beq_t h2)]; exact (show mkL (lEx 0) = 73786976294838206466 by decide) ▸ VR_mkL g ws 0
    | false =>
      rw [br_false, if_neg (beq_f h2)]
      cases h3 : Nat.beq ty 3 with
      | true => rw [br_true, if_pos (beq_t h3)]; exact VR_null g ws
      | false =>
        rw [br_false, if_neg (beq_f h3)]
        cases h6 : Nat.beq ty 6 with
        | true => rw [br_true, if_pos (beq_t h6)]; exact VR_dbl g ws 0
        | false => rw [br_false, if_neg (beq_f h6)]; exact VR_c g ws 0 (by decide)
  · have hn := h.ne
    unfold dfw
    cases h0 : Nat.beq w 0 with
    | true => exact absurd (beq_t h0) hn
    | false => exact h
/-- the element type of an array class of the engine -/
def aty (c : Nat) : FieldType := match c with
  | 32 => .int
  | 33 => .long
  | 34 => .byte
  | 35 => .boolean
  | 36 => .double
  | 37 => .array .int
  | 38 => .array .long
  | 39 => .object "java/lang/Object"
  | 40 => .object "GridPrices$Dispatch"
  | _ => .object "GridPrices$Fraction"
def CR (g : GG) (ft : Nat → Nat → Nat) (ws : va_W) (h : HP) (m : Nat) (e : va_E) : Prop :=
  (mcl m < 32 ∧ ∃ fs : List Value, e = .inr (mcl m, fs) ∧ fs.length = mln m ∧ ∀ j : Nat, j < mln m → ∃ v : Value, fs[j]? = some v ∧ HV g ws (ft (mcl m) j) (hget h (mof m + j)) v)
  ∨ ((mcl m = 32 ∨ mcl m = 34 ∨ mcl m = 35) ∧ ∃ (cA : ClassId) (f : Nat → Int32), e = .inl (cA, mln m, .inl f) ∧ g.2.1[mcl m - 32]? = some (cA, aty (mcl m)) ∧ ∀ j : Nat, j < mln m → HV g ws 0 (hget h (mof m + j)) (.int (f j)))
  ∨ (mcl m = 33 ∧ ∃ (cA : ClassId) (f : Nat → Int64), e = .inl (cA, mln m, .inr (.inl f)) ∧ g.2.1[mcl m - 32]? = some (cA, aty (mcl m)) ∧ ∀ j : Nat, j < mln m → HV g ws 2 (hget h (mof m + j)) (.long (f j)))
  ∨ (mcl m = 36 ∧ ∃ (cA : ClassId) (f : Nat → UInt64), e = .inl (cA, mln m, .inr (.inr (.inr (.inl f)))) ∧ g.2.1[mcl m - 32]? = some (cA, aty (mcl m)) ∧ ∀ j : Nat, j < mln m → HV g ws 6 (hget h (mof m + j)) (.double (f j)))
  ∨ (37 ≤ mcl m ∧ ∃ (cA : ClassId) (f : Nat → Option Nat), e = .inl (cA, mln m, .inr (.inr (.inr (.inr f)))) ∧ g.2.1[mcl m - 32]? = some (cA, aty (mcl m)) ∧ ∀ j : Nat, j < mln m → HV g ws 3 (hget h (mof m + j)) (va_rf (f j)))
/-- the row of cell a -/
def mrw (h : HP) (a : Nat) : Nat := (dt h.2.2.1 >>> (64 * a)) % 18446744073709551616
theorem mrow_mrw (h : HP) (x : Nat) : mrow h x = mrw h (x / 8) := by
  show (h.2.2.1 >>> (72 + 64 * (x / 8))) % _ = _
  rw [shr_dt]
  rfl
def Lay (h : HP) : Prop := h.2.2.2.2.1 ≤ 65536 ∧ 65536 ≤ h.2.2.2.2.2.1 ∧ dt h.2.2.1 < 2 ^ (64 * h.2.2.2.1) ∧
  (∀ a : Nat, a < h.2.2.2.1 → mof (mrw h a) + mln (mrw h a) ≤ h.2.2.2.2.1 ∨ (65536 ≤ mof (mrw h a) ∧ mof (mrw h a) + mln (mrw h a) ≤ h.2.2.2.2.2.1)) ∧
  (∀ a b : Nat, a < h.2.2.2.1 → b < h.2.2.2.1 → a ≠ b → mof (mrw h a) + mln (mrw h a) ≤ mof (mrw h b) ∨ mof (mrw h b) + mln (mrw h b) ≤ mof (mrw h a)) ∧
  ∀ o : Nat, (h.2.2.2.2.1 ≤ o ∧ o < 65536) ∨ h.2.2.2.2.2.1 ≤ o → hget h o = 0
def HR (g : GG) (ft : Nat → Nat → Nat) (ws : va_W) (h : HP) : Prop := ws.length = h.2.2.2.1 ∧ h.2.2.2.1 < 4294967296 ∧ (∀ (a : Nat) (q : Nat × va_E), ws[a]? = some q → CR g ft ws h (mrw h a) q.2) ∧ Lay h
/-- a state of the machine in a method, and the engine's picture of it -/
def RL (g : GG) (cl : List vw_C) (ft : Nat → Nat → Nat) (s : State) (nL kc0 ks0 : Nat) (L : Nat) (h : HP) (S : Nat) (ls : Array Slot) (st : List Value) (H : Heap) (locs : List Loc) (cells slots : Nat) : Prop :=
  ∃ ws : va_W, LR g ws nL L ls ∧ SR g ws S st ∧ HR g ft ws h ∧ va_P g.1 cl ws H ∧ va_D (AA g) ws ∧ va_S (AA g) s.heap H locs ∧ cells + kc0 = h.2.2.2.2.2.2.1 ∧ slots + ks0 = h.2.2.2.2.2.2.2
def Wp (g : GG) (cl : List vw_C) (ft : Nat → Nat → Nat) (p : Program) (l : Launch) (e : Env) (R : Room) (s : State) (m : MethodId) (args : Array Value) (below : List Frame) (meth : Method) (c : Code) (Q : State → Prop) (nL kc0 ks0 : Nat) (res : RES) (pc L : Nat) (h : HP) (S : Nat) : Prop :=
  (h.2.2.2.2.2.2.1 ≤ res.2.2.2.1.2.2.2.2.2.2.1 ∧ h.2.2.2.2.2.2.2 ≤ res.2.2.2.1.2.2.2.2.2.2.2) ∧
  ∀ (ls : Array Slot) (st : List Value) (H : Heap) (locs : List Loc) (cells slots : Nat), RL g cl ft s nL kc0 ks0 L h S ls st H locs cells slots → W p l e R s m args below meth c H locs cells slots Q (F0 m pc ls st)
section OPS
variable {g : GG} {cl : List vw_C} {ft : Nat → Nat → Nat} {p : Program} {l : Launch} {e : Env} {R : Room} {s : State} {m : MethodId} {args : Array Value} {below : List Frame} {meth : Method} {c : Code} {Q : State → Prop} {nL kc0 ks0 : Nat} {res : RES} {pc w L : Nat} {h0 : HP} {S : Nat} {k : KK} {n : Nat} {cc : ByteArray}
theorem tn1 {S t : Nat} (h : isT t (tp S) = true) (ht : t ≠ 0) : tp S ≠ 0 := fun q => by have := isT_t h; omega
theorem tn2 {S t : Nat} (h : isT t (sd S) = true) (ht : t ≠ 0) : sd S ≠ 0 := fun q => by have := isT_t h; omega
theorem tn3 {S t : Nat} (h : isT t (td S) = true) (ht : t ≠ 0) : td S ≠ 0 := fun q => by have := isT_t h; omega
theorem isA_n {v : Nat} (h : isA v = true) : v ≠ 0 := fun q => by
  subst q
  exact absurd h (by decide +kernel)
/-- a word is pushed -/
theorem q_push {w1 : Nat} {v : Value} (hv : ∀ ws : va_W, VR g ws w1 v) (row : ∀ {H : Heap} {locs : List Loc} {cells slots : Nat} {ls : Array Slot} {st : List Value}, va_S (AA g) s.heap H locs → W p l e R s m args below meth c H locs cells slots Q (F0 m n ls (v :: st)) → W p l e R s m args below meth c H locs cells slots Q (F0 m pc ls st))
    (h : fc (pu w1 S) (k n L h0) = some res) (K : ∀ pc' L' h' S', k pc' L' h' S' = some res → Wp g cl ft p l e R s m args below meth c Q nL kc0 ks0 res pc' L' h' S') : Wp g cl ft p l e R s m args below meth c Q nL kc0 ks0 res pc L h0 S := by
  obtain ⟨K1, K2⟩ := K _ _ _ _ h
  refine ⟨K1, fun ls st H locs cells slots r => ?_⟩
  obtain ⟨ws, hL, hS, hH, hP, hD, hSS, hc1, hc2⟩ := r
  exact row hSS (K2 _ _ _ _ _ _ ⟨ws, hL, hS.push (hv ws), hH, hP, hD, hSS, hc1, hc2⟩)
theorem q_goto (row : ∀ {H : Heap} {locs : List Loc} {cells slots : Nat} {ls : Array Slot} {st : List Value}, W p l e R s m args below meth c H locs cells slots Q (F0 m n ls st) → W p l e R s m args below meth c H locs cells slots Q (F0 m pc ls st))
    (h : k n L h0 S = some res) (K : ∀ pc' L' h' S', k pc' L' h' S' = some res → Wp g cl ft p l e R s m args below meth c Q nL kc0 ks0 res pc' L' h' S') : Wp g cl ft p l e R s m args below meth c Q nL kc0 ks0 res pc L h0 S := by
  obtain ⟨K1, K2⟩ := K _ _ _ _ h
  exact ⟨K1, fun ls st H locs cells slots r => row (K2 _ _ _ _ _ _ r)⟩
theorem q_load {a : Nat} {ok : Nat → Bool} (h0k : ok 0 = false) (row : ∀ {v : Value} {ws : va_W} {wv : Nat} {H : Heap} {locs : List Loc} {cells slots : Nat} {ls : Array Slot} {st : List Value}, VR g ws wv v → ok wv = true → ls[a]? = some (.val v) → W p l e R s m args below meth c H locs cells slots Q (F0 m n ls (v :: st)) → W p l e R s m args below meth c H locs cells slots Q (F0 m pc ls st))
    (h : fc (pget L a) (ld2 ok n L h0 k S) = some res) (K : ∀ pc' L' h' S', k pc' L' h' S' = some res → Wp g cl ft p l e R s m args below meth c Q nL kc0 ks0 res pc' L' h' S') : Wp g cl ft p l e R s m args below meth c Q nL kc0 ks0 res pc L h0 S := by
  obtain ⟨h1, h2⟩ := br_s (show br (ok (pget L a)) (fc (pu (pget L a) S) (k n L h0)) none = some res from h)
  obtain ⟨K1, K2⟩ := K _ _ _ _ h2
  refine ⟨K1, fun ls st H locs cells slots r => ?_⟩
  obtain ⟨ws, hL, hS, hH, hP, hD, hSS, hc1, hc2⟩ := r
  obtain ⟨v, hl, hv⟩ := hL.at a (fun q => by rw [q, h0k] at h1; cases h1)
  exact row hv h1 hl (K2 _ _ _ _ _ _ ⟨ws, hL, hS.push hv, hH, hP, hD, hSS, hc1, hc2⟩)
theorem q_store1 {a : Nat} (h0k : tp S ≠ 0) (row : ∀ {v : Value} {ws : va_W} {H : Heap} {locs : List Loc} {cells slots : Nat} {ls : Array Slot} {st : List Value} {lv : List (Nat × Value)}, VR g ws (tp S) v → lv_has ls nL lv → (∀ ls' : Array Slot, lv_has ls' nL ((a, v) :: lv.filter (fun q => !(q.1 == a) && !(q.1 + 1 == a && q.2.category == 2))) → W p l e R s m args below meth c H locs cells slots Q (F0 m n ls' st)) → W p l e R s m args below meth c H locs cells slots Q (F0 m pc ls (v :: st)))
    (h : fc (pset (cut L a) a (tp S)) (st2 n S h0 k) = some res) (K : ∀ pc' L' h' S', k pc' L' h' S' = some res → Wp g cl ft p l e R s m args below meth c Q nL kc0 ks0 res pc' L' h' S') : Wp g cl ft p l e R s m args below meth c Q nL kc0 ks0 res pc L h0 S := by
  obtain ⟨K1, K2⟩ := K _ _ _ _ (show k n (pset (cut L a) a (tp S)) h0 (r1 S) = some res from h)
  refine ⟨K1, fun ls st H locs cells slots r => ?_⟩
  obtain ⟨ws, ⟨lv, hl1, hl2⟩, hS, hH, hP, hD, hSS, hc1, hc2⟩ := r
  obtain ⟨v, st', rfl, hv, hS'⟩ := hS.pop h0k
  exact row hv hl1 (fun ls' hls => K2 _ _ _ _ _ _ ⟨ws, LR.st1 hl2 hv hls, hS', hH, hP, hD, hSS, hc1, hc2⟩)
theorem q_store2 {a : Nat} (h0k : tp S ≠ 0) (row : ∀ {v : Value} {ws : va_W} {H : Heap} {locs : List Loc} {cells slots : Nat} {ls : Array Slot} {st : List Value} {lv : List (Nat × Value)}, VR g ws (tp S) v → lv_has ls nL lv → (∀ ls' : Array Slot, lv_has ls' nL ((a, v) :: lv.filter (fun q => !(q.1 == a) && (!(q.1 == a + 1) && !(q.1 + 1 == a && q.2.category == 2)))) → W p l e R s m args below meth c H locs cells slots Q (F0 m n ls' st)) → W p l e R s m args below meth c H locs cells slots Q (F0 m pc ls (v :: st)))
    (h : fc (pset (pset (cut L a) a (tp S)) (Nat.add a 1) 0) (st2 n S h0 k) = some res) (K : ∀ pc' L' h' S', k pc' L' h' S' = some res → Wp g cl ft p l e R s m args below meth c Q nL kc0 ks0 res pc' L' h' S') : Wp g cl ft p l e R s m args below meth c Q nL kc0 ks0 res pc L h0 S := by
  obtain ⟨K1, K2⟩ := K _ _ _ _ (show k n (pset (pset (cut L a) a (tp S)) (a + 1) 0) h0 (r1 S) = some res from h)
  refine ⟨K1, fun ls st H locs cells slots r => ?_⟩
  obtain ⟨ws, ⟨lv, hl1, hl2⟩, hS, hH, hP, hD, hSS, hc1, hc2⟩ := r
  obtain ⟨v, st', rfl, hv, hS'⟩ := hS.pop h0k
  exact row hv hl1 (fun ls' hls => K2 _ _ _ _ _ _ ⟨ws, LR.st2 hl2 hv hls, hS', hH, hP, hD, hSS, hc1, hc2⟩)
/-- one word goes, one comes -/
theorem q_un {w1 : Nat} (h0k : tp S ≠ 0) (row : ∀ {v : Value} {ws : va_W} {H : Heap} {locs : List Loc} {cells slots : Nat} {ls : Array Slot} {st : List Value}, VR g ws (tp S) v → (∀ v' : Value, VR g ws w1 v' → W p l e R s m args below meth c H locs cells slots Q (F0 m n ls (v' :: st))) → W p l e R s m args below meth c H locs cells slots Q (F0 m pc ls (v :: st)))
    (h : fc (pu w1 (r1 S)) (k n L h0) = some res) (K : ∀ pc' L' h' S', k pc' L' h' S' = some res → Wp g cl ft p l e R s m args below meth c Q nL kc0 ks0 res pc' L' h' S') : Wp g cl ft p l e R s m args below meth c Q nL kc0 ks0 res pc L h0 S := by
  obtain ⟨K1, K2⟩ := K _ _ _ _ h
  refine ⟨K1, fun ls st H locs cells slots r => ?_⟩
  obtain ⟨ws, hL, hS, hH, hP, hD, hSS, hc1, hc2⟩ := r
  obtain ⟨v, st', rfl, hv, hS'⟩ := hS.pop h0k
  exact row hv (fun v' hv' => K2 _ _ _ _ _ _ ⟨ws, hL, hS'.push hv', hH, hP, hD, hSS, hc1, hc2⟩)
/-- two words go, one comes -/
theorem q_bi {w1 : Nat} (h1k : tp S ≠ 0) (h2k : sd S ≠ 0) (row : ∀ {v u : Value} {ws : va_W} {H : Heap} {locs : List Loc} {cells slots : Nat} {ls : Array Slot} {st : List Value}, VR g ws (tp S) v → VR g ws (sd S) u → (∀ v' : Value, VR g ws w1 v' → W p l e R s m args below meth c H locs cells slots Q (F0 m n ls (v' :: st))) → W p l e R s m args below meth c H locs cells slots Q (F0 m pc ls (v :: u :: st)))
    (h : fc (pu w1 (r2 S)) (k n L h0) = some res) (K : ∀ pc' L' h' S', k pc' L' h' S' = some res → Wp g cl ft p l e R s m args below meth c Q nL kc0 ks0 res pc' L' h' S') : Wp g cl ft p l e R s m args below meth c Q nL kc0 ks0 res pc L h0 S := by
  obtain ⟨K1, K2⟩ := K _ _ _ _ h
  refine ⟨K1, fun ls st H locs cells slots r => ?_⟩
  obtain ⟨ws, hL, hS, hH, hP, hD, hSS, hc1, hc2⟩ := r
  obtain ⟨v, u, st', rfl, hv, hu, hS'⟩ := hS.pop2 h1k h2k
  exact row hv hu (fun v' hv' => K2 _ _ _ _ _ _ ⟨ws, hL, hS'.push hv', hH, hP, hD, hSS, hc1, hc2⟩)
/-- a binary operation of ints -/
theorem q_bin {f : Nat → Nat → Nat} {op : Int32 → Int32 → Int32} (hf : ∀ x y : Int32, f (iEx x) (iEx y) = iEx (op x y)) (row : ∀ {x y : Int32} {H : Heap} {locs : List Loc} {cells slots : Nat} {ls : Array Slot} {st : List Value}, W p l e R s m args below meth c H locs cells slots Q (F0 m (nxt w) ls (.int (op x y) :: st)) → W p l e R s m args below meth c H locs cells slots Q (F0 m pc ls (.int y :: .int x :: st)))
    (h : bin f w L h0 k S = some res) (K : ∀ pc' L' h' S', k pc' L' h' S' = some res → Wp g cl ft p l e R s m args below meth c Q nL kc0 ks0 res pc' L' h' S') : Wp g cl ft p l e R s m args below meth c Q nL kc0 ks0 res pc L h0 S := by
  obtain ⟨h1, h2⟩ := br_s h
  obtain ⟨ha, hb⟩ := an_t h1
  rcases br_o h2 with ⟨h3, h4⟩ | ⟨-, h4⟩
  · obtain ⟨hc, hd⟩ := an_t h3
    refine q_bi (tn1 ha (by decide)) (tn2 hb (by decide)) (fun hv hu kk => ?_) h4 K
    obtain ⟨y, rfl, ey⟩ := hv.sint (isT_t ha) (beq_t hc)
    obtain ⟨x, rfl, ex⟩ := hu.sint (isT_t hb) (beq_t hd)
    exact row (kk _ (by rw [← ex, ← ey, hf]; exact VR_mkI _ _ _))
  · refine q_bi (tn1 ha (by decide)) (tn2 hb (by decide)) (fun hv hu kk => ?_) h4 K
    obtain ⟨y, rfl, -⟩ := hv.int (isT_t ha)
    obtain ⟨x, rfl, -⟩ := hu.int (isT_t hb)
    exact row (kk _ (VR_top _ _ _))
theorem q_idv {f : Nat → Nat → Nat} {op : Int32 → Int32 → Int32} (hf : ∀ x y : Int32, f (iEx x) (iEx y) = iEx (op x y)) (row : ∀ {x y : Int32} {H : Heap} {locs : List Loc} {cells slots : Nat} {ls : Array Slot} {st : List Value}, ¬ y = 0 → W p l e R s m args below meth c H locs cells slots Q (F0 m (nxt w) ls (.int (op x y) :: st)) → W p l e R s m args below meth c H locs cells slots Q (F0 m pc ls (.int y :: .int x :: st)))
    (h : idv f w L h0 k S = some res) (K : ∀ pc' L' h' S', k pc' L' h' S' = some res → Wp g cl ft p l e R s m args below meth c Q nL kc0 ks0 res pc' L' h' S') : Wp g cl ft p l e R s m args below meth c Q nL kc0 ks0 res pc L h0 S := by
  obtain ⟨h1, h2⟩ := br_s h
  obtain ⟨ha, hb⟩ := an_t h1
  obtain ⟨h3, h4⟩ := br_n h2
  obtain ⟨ha1, ha2⟩ := an_t ha
  obtain ⟨hb1, hb2⟩ := an_t hb
  refine q_bi (tn1 ha1 (by decide)) (tn2 hb1 (by decide)) (fun hv hu kk => ?_) h4 K
  obtain ⟨y, rfl, ey⟩ := hv.sint (isT_t ha1) (beq_t ha2)
  obtain ⟨x, rfl, ex⟩ := hu.sint (isT_t hb1) (beq_t hb2)
  refine row (fun q => beq_f h3 ?_) (kk _ (by rw [← ex, ← ey, hf]; exact VR_mkI _ _ _))
  rw [← ey, q]
  decide
theorem q_una {f : Nat → Nat} {op : Int32 → Int32} (hf : ∀ x : Int32, f (iEx x) = iEx (op x)) (row : ∀ {x : Int32} {H : Heap} {locs : List Loc} {cells slots : Nat} {ls : Array Slot} {st : List Value}, W p l e R s m args below meth c H locs cells slots Q (F0 m (nxt w) ls (.int (op x) :: st)) → W p l e R s m args below meth c H locs cells slots Q (F0 m pc ls (.int x :: st)))
    (h : una f w L h0 k S = some res) (K : ∀ pc' L' h' S', k pc' L' h' S' = some res → Wp g cl ft p l e R s m args below meth c Q nL kc0 ks0 res pc' L' h' S') : Wp g cl ft p l e R s m args below meth c Q nL kc0 ks0 res pc L h0 S := by
  obtain ⟨ha, h2⟩ := br_s h
  rcases br_o h2 with ⟨h3, h4⟩ | ⟨-, h4⟩
  · refine q_un (tn1 ha (by decide)) (fun hv kk => ?_) h4 K
    obtain ⟨x, rfl, ex⟩ := hv.sint (isT_t ha) (beq_t h3)
    exact row (kk _ (by rw [← ex, hf]; exact VR_mkI _ _ _))
  · refine q_un (tn1 ha (by decide)) (fun hv kk => ?_) h4 K
    obtain ⟨x, rfl, -⟩ := hv.int (isT_t ha)
    exact row (kk _ (VR_top _ _ _))
theorem q_lbn {f : Nat → Nat → Nat} {op : Int64 → Int64 → Int64} (hf : ∀ x y : Int64, f (lEx x) (lEx y) = lEx (op x y)) (row : ∀ {x y : Int64} {H : Heap} {locs : List Loc} {cells slots : Nat} {ls : Array Slot} {st : List Value}, tp S = mkL (lEx y) → W p l e R s m args below meth c H locs cells slots Q (F0 m (nxt w) ls (.long (op x y) :: st)) → W p l e R s m args below meth c H locs cells slots Q (F0 m pc ls (.long y :: .long x :: st)))
    (h : lbn f w L h0 k S = some res) (K : ∀ pc' L' h' S', k pc' L' h' S' = some res → Wp g cl ft p l e R s m args below meth c Q nL kc0 ks0 res pc' L' h' S') : Wp g cl ft p l e R s m args below meth c Q nL kc0 ks0 res pc L h0 S := by
  obtain ⟨h1, h4⟩ := br_s h
  obtain ⟨ha, hb⟩ := an_t h1
  refine q_bi (tn1 ha (by decide)) (tn2 hb (by decide)) (fun hv hu kk => ?_) h4 K
  obtain ⟨y, rfl, ey⟩ := hv.long (isT_t ha)
  obtain ⟨x, rfl, ex⟩ := hu.long (isT_t hb)
  refine row ey (kk _ ?_)
  have e1 : Nat.div (sd S) 8 = lEx x := by show sd S / 8 = _; rw [ex, mkL_def]; omega
  have e2 : Nat.div (tp S) 8 = lEx y := by show tp S / 8 = _; rw [ey, mkL_def]; omega
  rw [e1, e2, hf]
  exact VR_mkL _ _ _
theorem q_ldv {f : Nat → Nat → Nat} {op : Int64 → Int64 → Int64} (hf : ∀ x y : Int64, f (lEx x) (lEx y) = lEx (op x y)) (row : ∀ {x y : Int64} {H : Heap} {locs : List Loc} {cells slots : Nat} {ls : Array Slot} {st : List Value}, ¬ y = 0 → W p l e R s m args below meth c H locs cells slots Q (F0 m (nxt w) ls (.long (op x y) :: st)) → W p l e R s m args below meth c H locs cells slots Q (F0 m pc ls (.long y :: .long x :: st)))
    (h : ldv f w L h0 k S = some res) (K : ∀ pc' L' h' S', k pc' L' h' S' = some res → Wp g cl ft p l e R s m args below meth c Q nL kc0 ks0 res pc' L' h' S') : Wp g cl ft p l e R s m args below meth c Q nL kc0 ks0 res pc L h0 S := by
  obtain ⟨h1, h2⟩ := br_n h
  refine q_lbn hf (fun ey kk => row (fun q => beq_f h1 ?_) kk) h2 K
  rw [ey, q]
  decide
theorem q_lneg (row : ∀ {x : Int64} {H : Heap} {locs : List Loc} {cells slots : Nat} {ls : Array Slot} {st : List Value}, W p l e R s m args below meth c H locs cells slots Q (F0 m (nxt w) ls (.long (-x) :: st)) → W p l e R s m args below meth c H locs cells slots Q (F0 m pc ls (.long x :: st)))
    (h : br (isT 2 (tp S)) (fc (pu (mkL (lEx (-lOf (Nat.div (tp S) 8)))) (r1 S)) (k (nxt w) L h0)) none = some res) (K : ∀ pc' L' h' S', k pc' L' h' S' = some res → Wp g cl ft p l e R s m args below meth c Q nL kc0 ks0 res pc' L' h' S') : Wp g cl ft p l e R s m args below meth c Q nL kc0 ks0 res pc L h0 S := by
  obtain ⟨ha, h4⟩ := br_s h
  refine q_un (tn1 ha (by decide)) (fun hv kk => ?_) h4 K
  obtain ⟨y, rfl, ey⟩ := hv.long (isT_t ha)
  refine row (kk _ ?_)
  have e2 : Nat.div (tp S) 8 = lEx y := by show tp S / 8 = _; rw [ey, mkL_def]; omega
  rw [e2, lOf_lEx]
  exact VR_mkL _ _ _
end OPS

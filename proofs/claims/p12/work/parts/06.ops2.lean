/-! Comparisons, jumps, stack shuffles. -/
section OPS2
variable {g : GG} {cl : List vw_C} {ft : Nat → Nat → Nat} {p : Program} {l : Launch} {e : Env} {R : Room} {s : State} {m : MethodId} {args : Array Value} {below : List Frame} {meth : Method} {c : Code} {Q : State → Prop} {nL kc0 ks0 : Nat} {res : RES} {pc w L : Nat} {h0 : HP} {S : Nat} {k : KK} {n : Nat} {cc : ByteArray}
theorem q_lcmp (row : ∀ {x y : Int64} {H : Heap} {locs : List Loc} {cells slots : Nat} {ls : Array Slot} {st : List Value}, W p l e R s m args below meth c H locs cells slots Q (F0 m (nxt w) ls (.int (lg_cmp x y) :: st)) → W p l e R s m args below meth c H locs cells slots Q (F0 m pc ls (.long y :: .long x :: st)))
    (h : br (an (isT 2 (tp S)) (isT 2 (sd S))) (fc (pu (br (Nat.beq (sd S) (tp S)) 73786976312018075649 (br (Nat.ble (sd S) (tp S)) 73786976277658337273 73786976346377814025)) (r2 S)) (k (nxt w) L h0)) none = some res) (K : ∀ pc' L' h' S', k pc' L' h' S' = some res → Wp g cl ft p l e R s m args below meth c Q nL kc0 ks0 res pc' L' h' S') : Wp g cl ft p l e R s m args below meth c Q nL kc0 ks0 res pc L h0 S := by
  obtain ⟨h1, h4⟩ := br_s h
  obtain ⟨ha, hb⟩ := an_t h1
  refine q_bi (tn1 ha (by decide)) (tn2 hb (by decide)) (fun hv hu kk => ?_) h4 K
  obtain ⟨y, rfl, ey⟩ := hv.long (isT_t ha)
  obtain ⟨x, rfl, ex⟩ := hu.long (isT_t hb)
  refine row (kk _ ?_)
  rw [ey, ex]
  have m1 := mkL_def (lEx x)
  have m2 := mkL_def (lEx y)
  cases h5 : Nat.beq (mkL (lEx x)) (mkL (lEx y)) with
  | true =>
    have h6 := beq_t h5
    have h7 : x = y := lEx_inj.mp (by omega)
    subst h7
    rw [br_true, show lg_cmp x x = 0 by simp [lg_cmp]]
    exact VR_c _ _ 0 (by decide)
  | false =>
    have h6 := beq_f h5
    have h7 : ¬ x = y := fun q => h6 (by rw [q])
    rw [br_false]
    cases h8 : Nat.ble (mkL (lEx x)) (mkL (lEx y)) with
    | true =>
      have h9 := ble_t h8
      have h10 : ¬ y < x := fun q => by have := lEx_lti.mpr q; omega
      rw [br_true, show lg_cmp x y = -1 by simp [lg_cmp, h7, h10]]
      exact VR_c _ _ (-1) (by decide)
    | false =>
      have h9 := ble_f h8
      have h10 : y < x := lEx_lti.mp (by omega)
      rw [br_false, show lg_cmp x y = 1 by simp [lg_cmp, h10]]
      exact VR_c _ _ 1 (by decide)
theorem q_iinc {a : Nat} {i : Int} (hfa : fa w = a) (hi : fb w = iEx (Int32.ofInt i)) (row : ∀ {x v : Int32} {j : Nat} {H : Heap} {locs : List Loc} {cells slots : Nat} {ls : Array Slot} {st : List Value} {lv : List (Nat × Value)}, lv_has ls nL lv → lv[j]? = some (a, .int x) → x + Int32.ofInt i = v → (∀ ls' : Array Slot, lv_has ls' nL ((a, .int v) :: lv.filter (fun q => !(q.1 == a) && !(q.1 + 1 == a && q.2.category == 2))) → W p l e R s m args below meth c H locs cells slots Q (F0 m (nxt w) ls' st)) → W p l e R s m args below meth c H locs cells slots Q (F0 m pc ls st))
    (h : fc (pget L (fa w)) (ii2 w L h0 k S) = some res) (K : ∀ pc' L' h' S', k pc' L' h' S' = some res → Wp g cl ft p l e R s m args below meth c Q nL kc0 ks0 res pc' L' h' S') : Wp g cl ft p l e R s m args below meth c Q nL kc0 ks0 res pc L h0 S := by
  subst hfa
  obtain ⟨h1, h2⟩ := br_s (show br (isT 1 (pget L (fa w))) (fc (pset L (fa w) (br (Nat.beq (ihi (pget L (fa w))) (ilo (pget L (fa w)))) (mkI (f_iadd (ilo (pget L (fa w))) (fb w))) wTop)) (lk (nxt w) S h0 k)) none = some res from h)
  obtain ⟨K1, K2⟩ := K _ _ _ _ (show k (nxt w) (pset L (fa w) (br (Nat.beq (ihi (pget L (fa w))) (ilo (pget L (fa w)))) (mkI (f_iadd (ilo (pget L (fa w))) (fb w))) wTop)) h0 S = some res from h2)
  refine ⟨K1, fun ls st H locs cells slots r => ?_⟩
  obtain ⟨ws, ⟨lv, hl1, hl2⟩, hS, hH, hP, hD, hSS, hc1, hc2⟩ := r
  have hne : pget L (fa w) ≠ 0 := fun q => by have := isT_t h1; omega
  obtain ⟨v, hm, hv⟩ := hl2 _ hne
  obtain ⟨x, rfl, -⟩ := hv.int (isT_t h1)
  obtain ⟨j, hj⟩ := List.getElem?_of_mem hm
  refine row (v := x + Int32.ofInt i) hl1 hj rfl (fun ls' hls => K2 _ _ _ _ _ _ ⟨ws, LR.inc (i0 := x) hl2 ?_ ?_ hls, hS, hH, hP, hD, hSS, hc1, hc2⟩)
  · intro u hu ha
    rcases lv_cat u with q | q
    · exact q
    · have h5 : ls[fa w - 1]? = some (.val u) := hl1.2.2 _ hu
      have h6 := hl1.2.1.1 _ _ h5 q
      rw [show fa w - 1 + 1 = fa w by omega] at h6
      have h7 : ls[fa w]? = some (.val (.int x)) := hl1.2.2 _ hm
      rw [h7] at h6
      cases h6
  · cases h5 : Nat.beq (ihi (pget L (fa w))) (ilo (pget L (fa w))) with
    | true =>
      obtain ⟨x2, e1, e2⟩ := hv.sint (isT_t h1) (beq_t h5)
      cases e1
      rw [br_true, ← e2, hi, iEx_add]
      exact VR_mkI _ _ _
    | false => exact VR_top _ _ _
theorem q_i2l (row : ∀ {x : Int32} {H : Heap} {locs : List Loc} {cells slots : Nat} {ls : Array Slot} {st : List Value}, W p l e R s m args below meth c H locs cells slots Q (F0 m (nxt w) ls (.long x.toInt64 :: st)) → W p l e R s m args below meth c H locs cells slots Q (F0 m pc ls (.int x :: st)))
    (h : br (isS (tp S)) (fc (pu (mkL (Nat.add (ilo (tp S)) 9223372034707292160)) (r1 S)) (k (nxt w) L h0)) none = some res) (K : ∀ pc' L' h' S', k pc' L' h' S' = some res → Wp g cl ft p l e R s m args below meth c Q nL kc0 ks0 res pc' L' h' S') : Wp g cl ft p l e R s m args below meth c Q nL kc0 ks0 res pc L h0 S := by
  obtain ⟨ha, h4⟩ := br_s h
  obtain ⟨h1, h2⟩ := an_t ha
  refine q_un (tn1 h1 (by decide)) (fun hv kk => ?_) h4 K
  obtain ⟨x, rfl, ex⟩ := hv.sint (isT_t h1) (beq_t h2)
  refine row (kk _ ?_)
  rw [← ex]
  show VR _ _ (mkL (iEx x + 9223372034707292160)) _
  rw [← lEx_i2l]
  exact VR_mkL _ _ _
theorem q_i2f (row : ∀ {x : Int32} {H : Heap} {locs : List Loc} {cells slots : Nat} {ls : Array Slot} {st : List Value}, W p l e R s m args below meth c H locs cells slots Q (F0 m (nxt w) ls (.float (FP.i2f x) :: st)) → W p l e R s m args below meth c H locs cells slots Q (F0 m pc ls (.int x :: st)))
    (h : br (isS (tp S)) (fc (pu (Nat.add 5 (Nat.mul 8 (FP.i2f (iOf (ilo (tp S)))).toNat)) (r1 S)) (k (nxt w) L h0)) none = some res) (K : ∀ pc' L' h' S', k pc' L' h' S' = some res → Wp g cl ft p l e R s m args below meth c Q nL kc0 ks0 res pc' L' h' S') : Wp g cl ft p l e R s m args below meth c Q nL kc0 ks0 res pc L h0 S := by
  obtain ⟨ha, h4⟩ := br_s h
  obtain ⟨h1, h2⟩ := an_t ha
  refine q_un (tn1 h1 (by decide)) (fun hv kk => ?_) h4 K
  obtain ⟨x, rfl, ex⟩ := hv.sint (isT_t h1) (beq_t h2)
  refine row (kk _ ?_)
  rw [← ex, iOf_iEx]
  exact VR_flt _ _ _
theorem q_l2f (row : ∀ {x : Int64} {H : Heap} {locs : List Loc} {cells slots : Nat} {ls : Array Slot} {st : List Value}, W p l e R s m args below meth c H locs cells slots Q (F0 m (nxt w) ls (.float (FP.l2f x) :: st)) → W p l e R s m args below meth c H locs cells slots Q (F0 m pc ls (.long x :: st)))
    (h : br (isT 2 (tp S)) (fc (pu (Nat.add 5 (Nat.mul 8 (FP.l2f (lOf (Nat.div (tp S) 8))).toNat)) (r1 S)) (k (nxt w) L h0)) none = some res) (K : ∀ pc' L' h' S', k pc' L' h' S' = some res → Wp g cl ft p l e R s m args below meth c Q nL kc0 ks0 res pc' L' h' S') : Wp g cl ft p l e R s m args below meth c Q nL kc0 ks0 res pc L h0 S := by
  obtain ⟨ha, h4⟩ := br_s h
  refine q_un (tn1 ha (by decide)) (fun hv kk => ?_) h4 K
  obtain ⟨y, rfl, ey⟩ := hv.long (isT_t ha)
  refine row (kk _ ?_)
  have e2 : Nat.div (tp S) 8 = lEx y := by show tp S / 8 = _; rw [ey, mkL_def]; omega
  rw [e2, lOf_lEx]
  exact VR_flt _ _ _
theorem q_fdiv (row : ∀ {x y : UInt32} {H : Heap} {locs : List Loc} {cells slots : Nat} {ls : Array Slot} {st : List Value}, vf_n32 (FP.fdiv x y) → W p l e R s m args below meth c H locs cells slots Q (F0 m (nxt w) ls (.float (FP.fdiv x y) :: st)) → W p l e R s m args below meth c H locs cells slots Q (F0 m pc ls (.float y :: .float x :: st)))
    (h : br (an (isT 5 (tp S)) (an (isT 5 (sd S)) (Nat.beq (FP.fdiv (UInt32.ofNat (Nat.div (sd S) 8)) (UInt32.ofNat (Nat.div (tp S) 8))).toNat 0))) (fc (pu 5 (r2 S)) (k (nxt w) L h0)) none = some res) (K : ∀ pc' L' h' S', k pc' L' h' S' = some res → Wp g cl ft p l e R s m args below meth c Q nL kc0 ks0 res pc' L' h' S') : Wp g cl ft p l e R s m args below meth c Q nL kc0 ks0 res pc L h0 S := by
  obtain ⟨h1, h4⟩ := br_s h
  obtain ⟨ha, h2⟩ := an_t h1
  obtain ⟨hb, h3⟩ := an_t h2
  refine q_bi (tn1 ha (by decide)) (tn2 hb (by decide)) (fun hv hu kk => ?_) h4 K
  have e1 := hv.flt (isT_t ha)
  have e2 := hu.flt (isT_t hb)
  subst e1; subst e2
  have e3 : FP.fdiv (UInt32.ofNat (sd S / 8)) (UInt32.ofNat (tp S / 8)) = 0 := UInt32.toNat_inj.mp (beq_t h3)
  refine row ?_ (kk _ ?_)
  · rw [e3]; show (0 : UInt32) &&& 0x7fffffff ≤ 0x7f800000; decide
  · rw [e3]; exact VR_flt _ _ 0
theorem q_fcmpl (row : ∀ {x y : UInt32} {H : Heap} {locs : List Loc} {cells slots : Nat} {ls : Array Slot} {st : List Value}, W p l e R s m args below meth c H locs cells slots Q (F0 m (nxt w) ls (.int (Op.cmpValue (FP.fcmp x y) .l) :: st)) → W p l e R s m args below meth c H locs cells slots Q (F0 m pc ls (.float y :: .float x :: st)))
    (h : br (an (Nat.beq (tp S) 5) (Nat.beq (sd S) 5)) (fc (pu 73786976312018075649 (r2 S)) (k (nxt w) L h0)) none = some res) (K : ∀ pc' L' h' S', k pc' L' h' S' = some res → Wp g cl ft p l e R s m args below meth c Q nL kc0 ks0 res pc' L' h' S') : Wp g cl ft p l e R s m args below meth c Q nL kc0 ks0 res pc L h0 S := by
  obtain ⟨h1, h4⟩ := br_s h
  obtain ⟨ha, hb⟩ := an_t h1
  have ha := beq_t ha
  have hb := beq_t hb
  refine q_bi (by rw [ha]; decide) (by rw [hb]; decide) (fun hv hu kk => ?_) h4 K
  have e1 := hv.flt (by rw [ha])
  have e2 := hu.flt (by rw [hb])
  rw [ha] at e1
  rw [hb] at e2
  subst e1; subst e2
  exact row (kk _ (VR_c _ _ _ (by decide +kernel)))
/-- a conditional jump on two ints -/
theorem q_icm {c1 c0 : Nat → Nat → Bool} {P : Int32 → Int32 → Prop} (ht : ∀ {x y : Nat} {i j : Int32}, ilo x ≤ iEx i → iEx i ≤ ihi x → ilo y ≤ iEx j → iEx j ≤ ihi y → c1 x y = true → P i j) (hf : ∀ {x y : Nat} {i j : Int32}, ilo x ≤ iEx i → iEx i ≤ ihi x → ilo y ≤ iEx j → iEx j ≤ ihi y → c0 x y = true → ¬ P i j)
    (row : ∀ {x y : Int32} {H : Heap} {locs : List Loc} {cells slots : Nat} {ls : Array Slot} {st : List Value}, (P x y → W p l e R s m args below meth c H locs cells slots Q (F0 m (fa w) ls st)) → (¬ P x y → W p l e R s m args below meth c H locs cells slots Q (F0 m (nxt w) ls st)) → W p l e R s m args below meth c H locs cells slots Q (F0 m pc ls (.int y :: .int x :: st)))
    (h : icm c1 c0 w L h0 k S = some res) (K : ∀ pc' L' h' S', k pc' L' h' S' = some res → Wp g cl ft p l e R s m args below meth c Q nL kc0 ks0 res pc' L' h' S') : Wp g cl ft p l e R s m args below meth c Q nL kc0 ks0 res pc L h0 S := by
  obtain ⟨h1, h4⟩ := br_s h
  obtain ⟨ha, hb⟩ := an_t h1
  rcases br_o h4 with ⟨h5, h6⟩ | ⟨-, h6⟩
  · obtain ⟨K1, K2⟩ := K _ _ _ _ h6
    refine ⟨K1, fun ls st H locs cells slots r => ?_⟩
    obtain ⟨ws, hL, hS, hH, hP, hD, hSS, hc1, hc2⟩ := r
    obtain ⟨v, u, st', rfl, hv, hu, hS'⟩ := hS.pop2 (tn1 ha (by decide)) (tn2 hb (by decide))
    obtain ⟨y, rfl, y1, y2⟩ := hv.int (isT_t ha)
    obtain ⟨x, rfl, x1, x2⟩ := hu.int (isT_t hb)
    exact row (fun _ => K2 _ _ _ _ _ _ ⟨ws, hL, hS', hH, hP, hD, hSS, hc1, hc2⟩) (fun q => absurd (ht x1 x2 y1 y2 h5) q)
  · obtain ⟨h5, h6⟩ := br_s h6
    obtain ⟨K1, K2⟩ := K _ _ _ _ h6
    refine ⟨K1, fun ls st H locs cells slots r => ?_⟩
    obtain ⟨ws, hL, hS, hH, hP, hD, hSS, hc1, hc2⟩ := r
    obtain ⟨v, u, st', rfl, hv, hu, hS'⟩ := hS.pop2 (tn1 ha (by decide)) (tn2 hb (by decide))
    obtain ⟨y, rfl, y1, y2⟩ := hv.int (isT_t ha)
    obtain ⟨x, rfl, x1, x2⟩ := hu.int (isT_t hb)
    exact row (fun q => absurd q (hf x1 x2 y1 y2 h5)) (fun _ => K2 _ _ _ _ _ _ ⟨ws, hL, hS', hH, hP, hD, hSS, hc1, hc2⟩)
theorem q_ifm {c1 c0 : Nat → Nat → Bool} {P : Int32 → Int32 → Prop} (ht : ∀ {x y : Nat} {i j : Int32}, ilo x ≤ iEx i → iEx i ≤ ihi x → ilo y ≤ iEx j → iEx j ≤ ihi y → c1 x y = true → P i j) (hf : ∀ {x y : Nat} {i j : Int32}, ilo x ≤ iEx i → iEx i ≤ ihi x → ilo y ≤ iEx j → iEx j ≤ ihi y → c0 x y = true → ¬ P i j)
    (row : ∀ {x : Int32} {H : Heap} {locs : List Loc} {cells slots : Nat} {ls : Array Slot} {st : List Value}, (P x 0 → W p l e R s m args below meth c H locs cells slots Q (F0 m (fa w) ls st)) → (¬ P x 0 → W p l e R s m args below meth c H locs cells slots Q (F0 m (nxt w) ls st)) → W p l e R s m args below meth c H locs cells slots Q (F0 m pc ls (.int x :: st)))
    (h : ifm c1 c0 w L h0 k S = some res) (K : ∀ pc' L' h' S', k pc' L' h' S' = some res → Wp g cl ft p l e R s m args below meth c Q nL kc0 ks0 res pc' L' h' S') : Wp g cl ft p l e R s m args below meth c Q nL kc0 ks0 res pc L h0 S := by
  obtain ⟨ha, h4⟩ := br_s h
  have y1 : ilo 73786976312018075649 ≤ iEx 0 := by decide
  have y2 : iEx 0 ≤ ihi 73786976312018075649 := by decide
  rcases br_o h4 with ⟨h5, h6⟩ | ⟨-, h6⟩
  · obtain ⟨K1, K2⟩ := K _ _ _ _ h6
    refine ⟨K1, fun ls st H locs cells slots r => ?_⟩
    obtain ⟨ws, hL, hS, hH, hP, hD, hSS, hc1, hc2⟩ := r
    obtain ⟨v, st', rfl, hv, hS'⟩ := hS.pop (tn1 ha (by decide))
    obtain ⟨x, rfl, x1, x2⟩ := hv.int (isT_t ha)
    exact row (fun _ => K2 _ _ _ _ _ _ ⟨ws, hL, hS', hH, hP, hD, hSS, hc1, hc2⟩) (fun q => absurd (ht x1 x2 y1 y2 h5) q)
  · obtain ⟨h5, h6⟩ := br_s h6
    obtain ⟨K1, K2⟩ := K _ _ _ _ h6
    refine ⟨K1, fun ls st H locs cells slots r => ?_⟩
    obtain ⟨ws, hL, hS, hH, hP, hD, hSS, hc1, hc2⟩ := r
    obtain ⟨v, st', rfl, hv, hS'⟩ := hS.pop (tn1 ha (by decide))
    obtain ⟨x, rfl, x1, x2⟩ := hv.int (isT_t ha)
    exact row (fun q => absurd q (hf x1 x2 y1 y2 h5)) (fun _ => K2 _ _ _ _ _ _ ⟨ws, hL, hS', hH, hP, hD, hSS, hc1, hc2⟩)
theorem q_acmp (row : ∀ {H : Heap} {locs : List Loc} {cells slots : Nat} {ls : Array Slot} {st : List Value}, W p l e R s m args below meth c H locs cells slots Q (F0 m (fa w) ls st) → W p l e R s m args below meth c H locs cells slots Q (F0 m pc ls (.ref g.2.2.1 :: .ref g.2.2.1 :: st)))
    (h : br (an (Nat.beq (tp S) 15) (Nat.beq (sd S) 15)) (fc (r2 S) (k (fa w) L h0)) none = some res) (K : ∀ pc' L' h' S', k pc' L' h' S' = some res → Wp g cl ft p l e R s m args below meth c Q nL kc0 ks0 res pc' L' h' S') : Wp g cl ft p l e R s m args below meth c Q nL kc0 ks0 res pc L h0 S := by
  obtain ⟨h1, h4⟩ := br_s h
  obtain ⟨ha, hb⟩ := an_t h1
  have ha := beq_t ha
  have hb := beq_t hb
  obtain ⟨K1, K2⟩ := K _ _ _ _ h4
  refine ⟨K1, fun ls st H locs cells slots r => ?_⟩
  obtain ⟨ws, hL, hS, hH, hP, hD, hSS, hc1, hc2⟩ := r
  obtain ⟨v, u, st', rfl, hv, hu, hS'⟩ := hS.pop2 (by rw [ha]; decide) (by rw [hb]; decide)
  rw [ha] at hv
  rw [hb] at hu
  have e1 := hv.x1
  have e2 := hu.x1
  subst e1; subst e2
  exact row (K2 _ _ _ _ _ _ ⟨ws, hL, hS', hH, hP, hD, hSS, hc1, hc2⟩)
theorem q_ifnn (row1 : ∀ {a : Nat} {H : Heap} {locs : List Loc} {cells slots : Nat} {ls : Array Slot} {st : List Value}, W p l e R s m args below meth c H locs cells slots Q (F0 m (fa w) ls st) → W p l e R s m args below meth c H locs cells slots Q (F0 m pc ls (.ref a :: st)))
    (row0 : ∀ {H : Heap} {locs : List Loc} {cells slots : Nat} {ls : Array Slot} {st : List Value}, W p l e R s m args below meth c H locs cells slots Q (F0 m (nxt w) ls st) → W p l e R s m args below meth c H locs cells slots Q (F0 m pc ls (.null :: st)))
    (h : br (isT 3 (tp S)) (fc (r1 S) (k (fa w) L h0)) (br (isT 4 (tp S)) (fc (r1 S) (k (nxt w) L h0)) none) = some res) (K : ∀ pc' L' h' S', k pc' L' h' S' = some res → Wp g cl ft p l e R s m args below meth c Q nL kc0 ks0 res pc' L' h' S') : Wp g cl ft p l e R s m args below meth c Q nL kc0 ks0 res pc L h0 S := by
  rcases br_o h with ⟨ha, h6⟩ | ⟨-, h6⟩
  · obtain ⟨K1, K2⟩ := K _ _ _ _ h6
    refine ⟨K1, fun ls st H locs cells slots r => ?_⟩
    obtain ⟨ws, hL, hS, hH, hP, hD, hSS, hc1, hc2⟩ := r
    obtain ⟨v, st', rfl, hv, hS'⟩ := hS.pop (tn1 ha (by decide))
    obtain ⟨a, e, -, rfl⟩ := hv.cell (isT_t ha)
    exact row1 (K2 _ _ _ _ _ _ ⟨ws, hL, hS', hH, hP, hD, hSS, hc1, hc2⟩)
  · obtain ⟨ha, h6⟩ := br_s h6
    obtain ⟨K1, K2⟩ := K _ _ _ _ h6
    refine ⟨K1, fun ls st H locs cells slots r => ?_⟩
    obtain ⟨ws, hL, hS, hH, hP, hD, hSS, hc1, hc2⟩ := r
    obtain ⟨v, st', rfl, hv, hS'⟩ := hS.pop (tn1 ha (by decide))
    have e1 := hv.null (isT_t ha)
    subst e1
    exact row0 (K2 _ _ _ _ _ _ ⟨ws, hL, hS', hH, hP, hD, hSS, hc1, hc2⟩)
theorem q_pop (row : ∀ {v : Value} {H : Heap} {locs : List Loc} {cells slots : Nat} {ls : Array Slot} {st : List Value}, v.category = 1 → W p l e R s m args below meth c H locs cells slots Q (F0 m (nxt w) ls st) → W p l e R s m args below meth c H locs cells slots Q (F0 m pc ls (v :: st)))
    (h : br (orr (Nat.beq (tp S) 0) (cat2 (tp S))) none (fc (r1 S) (k (nxt w) L h0)) = some res) (K : ∀ pc' L' h' S', k pc' L' h' S' = some res → Wp g cl ft p l e R s m args below meth c Q nL kc0 ks0 res pc' L' h' S') : Wp g cl ft p l e R s m args below meth c Q nL kc0 ks0 res pc L h0 S := by
  obtain ⟨h1, h4⟩ := br_n h
  obtain ⟨ha, hb⟩ := orr_f h1
  obtain ⟨K1, K2⟩ := K _ _ _ _ h4
  refine ⟨K1, fun ls st H locs cells slots r => ?_⟩
  obtain ⟨ws, hL, hS, hH, hP, hD, hSS, hc1, hc2⟩ := r
  obtain ⟨v, st', rfl, hv, hS'⟩ := hS.pop (beq_f ha)
  exact row (hv.cat1 hb) (K2 _ _ _ _ _ _ ⟨ws, hL, hS', hH, hP, hD, hSS, hc1, hc2⟩)
theorem q_dup (row : ∀ {v : Value} {H : Heap} {locs : List Loc} {cells slots : Nat} {ls : Array Slot} {st : List Value}, v.category = 1 → W p l e R s m args below meth c H locs cells slots Q (F0 m (nxt w) ls (v :: v :: st)) → W p l e R s m args below meth c H locs cells slots Q (F0 m pc ls (v :: st)))
    (h : br (orr (Nat.beq (tp S) 0) (cat2 (tp S))) none (fc (pu (tp S) S) (k (nxt w) L h0)) = some res) (K : ∀ pc' L' h' S', k pc' L' h' S' = some res → Wp g cl ft p l e R s m args below meth c Q nL kc0 ks0 res pc' L' h' S') : Wp g cl ft p l e R s m args below meth c Q nL kc0 ks0 res pc L h0 S := by
  obtain ⟨h1, h4⟩ := br_n h
  obtain ⟨ha, hb⟩ := orr_f h1
  obtain ⟨K1, K2⟩ := K _ _ _ _ h4
  refine ⟨K1, fun ls st H locs cells slots r => ?_⟩
  obtain ⟨ws, hL, hS, hH, hP, hD, hSS, hc1, hc2⟩ := r
  obtain ⟨v, st', rfl, hv, hS'⟩ := hS.pop (beq_f ha)
  exact row (hv.cat1 hb) (K2 _ _ _ _ _ _ ⟨ws, hL, hS.push hv, hH, hP, hD, hSS, hc1, hc2⟩)
theorem q_dupx1 (row : ∀ {v u : Value} {H : Heap} {locs : List Loc} {cells slots : Nat} {ls : Array Slot} {st : List Value}, v.category = 1 → u.category = 1 → W p l e R s m args below meth c H locs cells slots Q (F0 m (nxt w) ls (v :: u :: v :: st)) → W p l e R s m args below meth c H locs cells slots Q (F0 m pc ls (v :: u :: st)))
    (h : br (orr (orr (Nat.beq (tp S) 0) (cat2 (tp S))) (orr (Nat.beq (sd S) 0) (cat2 (sd S)))) none (fc (pu (tp S) (pu (sd S) (pu (tp S) (r2 S)))) (k (nxt w) L h0)) = some res) (K : ∀ pc' L' h' S', k pc' L' h' S' = some res → Wp g cl ft p l e R s m args below meth c Q nL kc0 ks0 res pc' L' h' S') : Wp g cl ft p l e R s m args below meth c Q nL kc0 ks0 res pc L h0 S := by
  obtain ⟨h1, h4⟩ := br_n h
  obtain ⟨h1, h2⟩ := orr_f h1
  obtain ⟨ha, hb⟩ := orr_f h1
  obtain ⟨hc, hd⟩ := orr_f h2
  obtain ⟨K1, K2⟩ := K _ _ _ _ h4
  refine ⟨K1, fun ls st H locs cells slots r => ?_⟩
  obtain ⟨ws, hL, hS, hH, hP, hD, hSS, hc1, hc2⟩ := r
  obtain ⟨v, u, st', rfl, hv, hu, hS'⟩ := hS.pop2 (beq_f ha) (beq_f hc)
  exact row (hv.cat1 hb) (hu.cat1 hd) (K2 _ _ _ _ _ _ ⟨ws, hL, ((hS'.push hv).push hu).push hv, hH, hP, hD, hSS, hc1, hc2⟩)
theorem q_dup2 (row : ∀ {v u : Value} {H : Heap} {locs : List Loc} {cells slots : Nat} {ls : Array Slot} {st : List Value}, v.category = 1 → u.category = 1 → W p l e R s m args below meth c H locs cells slots Q (F0 m (nxt w) ls (v :: u :: v :: u :: st)) → W p l e R s m args below meth c H locs cells slots Q (F0 m pc ls (v :: u :: st)))
    (h : br (orr (orr (Nat.beq (tp S) 0) (cat2 (tp S))) (orr (Nat.beq (sd S) 0) (cat2 (sd S)))) none (fc (pu (tp S) (pu (sd S) S)) (k (nxt w) L h0)) = some res) (K : ∀ pc' L' h' S', k pc' L' h' S' = some res → Wp g cl ft p l e R s m args below meth c Q nL kc0 ks0 res pc' L' h' S') : Wp g cl ft p l e R s m args below meth c Q nL kc0 ks0 res pc L h0 S := by
  obtain ⟨h1, h4⟩ := br_n h
  obtain ⟨h1, h2⟩ := orr_f h1
  obtain ⟨ha, hb⟩ := orr_f h1
  obtain ⟨hc, hd⟩ := orr_f h2
  obtain ⟨K1, K2⟩ := K _ _ _ _ h4
  refine ⟨K1, fun ls st H locs cells slots r => ?_⟩
  obtain ⟨ws, hL, hS, hH, hP, hD, hSS, hc1, hc2⟩ := r
  obtain ⟨v, u, st', rfl, hv, hu, hS'⟩ := hS.pop2 (beq_f ha) (beq_f hc)
  exact row (hv.cat1 hb) (hu.cat1 hd) (K2 _ _ _ _ _ _ ⟨ws, hL, (hS.push hu).push hv, hH, hP, hD, hSS, hc1, hc2⟩)
theorem q_iand (row : ∀ {x y : Int32} {H : Heap} {locs : List Loc} {cells slots : Nat} {ls : Array Slot} {st : List Value}, W p l e R s m args below meth c H locs cells slots Q (F0 m (nxt w) ls (.int (x &&& y) :: st)) → W p l e R s m args below meth c H locs cells slots Q (F0 m pc ls (.int y :: .int x :: st)))
    (h : br (isT 1 (sd S)) (bin f_iand w L h0 k S) (br (an (isT 0 (sd S)) (an (Nat.ble 8 (sd S)) (Nat.beq (tp S) 73786978476681593337))) (fc (pu (mkI (Nat.add (Nat.div (sd S) 8) 2147483647)) (r2 S)) (k (nxt w) L h0)) none) = some res) (K : ∀ pc' L' h' S', k pc' L' h' S' = some res → Wp g cl ft p l e R s m args below meth c Q nL kc0 ks0 res pc' L' h' S') : Wp g cl ft p l e R s m args below meth c Q nL kc0 ks0 res pc L h0 S := by
  rcases br_o h with ⟨-, h6⟩ | ⟨-, h6⟩
  · exact q_bin iEx_and row h6 K
  · obtain ⟨h1, h4⟩ := br_s h6
    obtain ⟨ha, h2⟩ := an_t h1
    obtain ⟨hb, hc⟩ := an_t h2
    have hb := ble_t hb
    have hc := beq_t hc
    refine q_bi (by rw [hc]; decide) (by omega) (fun hv hu kk => ?_) h4 K
    obtain ⟨y, rfl, ey⟩ := hv.sint (by rw [hc]) (by rw [hc]; decide)
    have e63 : y = 63 := iEx_inj.mp (by rw [ey, hc]; decide)
    subst e63
    obtain ⟨x, rfl, ex⟩ := hu.low (isT_t ha)
    refine row (kk _ (VR_c _ _ _ ?_))
    have : sd S / 8 + 2147483647 = iEx (x &&& 63) := by omega
    show mkI (iEx (x &&& 63)) = mkI (sd S / 8 + 2147483647)
    rw [this]
theorem q_switch {b : Nat} {lo hi dflt : Int} (hlo : (swl b : Int) = lo + 2147483648) (hn : lo + (swn b : Int) = hi + 1)
    (rowO : ∀ {x : Int32} {H : Heap} {locs : List Loc} {cells slots : Nat} {ls : Array Slot} {st : List Value}, x.toInt < lo ∨ hi < x.toInt → W p l e R s m args below meth c H locs cells slots Q (F0 m (fa w) ls st) → W p l e R s m args below meth c H locs cells slots Q (F0 m pc ls (.int x :: st)))
    (rowI : ∀ {x : Int32} {j : Nat} {H : Heap} {locs : List Loc} {cells slots : Nat} {ls : Array Slot} {st : List Value}, ¬ x.toInt < lo → ¬ hi < x.toInt → x.toInt - lo = (j : Int) → j < swn b → W p l e R s m args below meth c H locs cells slots Q (F0 m (Nat.mod (Nat.shiftRight b (Nat.add 48 (Nat.mul 16 j))) 65536) ls st) → W p l e R s m args below meth c H locs cells slots Q (F0 m pc ls (.int x :: st)))
    (h : sw2 w L S h0 k b = some res) (K : ∀ pc' L' h' S', k pc' L' h' S' = some res → Wp g cl ft p l e R s m args below meth c Q nL kc0 ks0 res pc' L' h' S') : Wp g cl ft p l e R s m args below meth c Q nL kc0 ks0 res pc L h0 S := by
  obtain ⟨ha, h4⟩ := br_s h
  rcases br_o h4 with ⟨h5, h6⟩ | ⟨h5, h6⟩
  · obtain ⟨K1, K2⟩ := K _ _ _ _ h6
    refine ⟨K1, fun ls st H locs cells slots r => ?_⟩
    obtain ⟨ws, hL, hS, hH, hP, hD, hSS, hc1, hc2⟩ := r
    obtain ⟨v, st', rfl, hv, hS'⟩ := hS.pop (tn1 ha (by decide))
    obtain ⟨x, rfl, x1, x2⟩ := hv.int (isT_t ha)
    refine rowO ?_ (K2 _ _ _ _ _ _ ⟨ws, hL, hS', hH, hP, hD, hSS, hc1, hc2⟩)
    have ex := iEx_int x
    rcases orr_t h5 with q | q
    · have q : ihi (tp S) + 1 ≤ swl b := ble_t q
      left; omega
    · have q : swl b + swn b ≤ ilo (tp S) := ble_t q
      right; omega
  · obtain ⟨h7, h6⟩ := br_s h6
    obtain ⟨q1, q2⟩ := orr_f h5
    obtain ⟨h8, h9⟩ := an_t h7
    have h8 := beq_t h8
    have h9 : swl b ≤ ilo (tp S) := ble_t h9
    have q1 : swl b < ihi (tp S) + 1 := ble_f q1
    have q2 : ilo (tp S) < swl b + swn b := ble_f q2
    obtain ⟨K1, K2⟩ := K _ _ _ _ h6
    refine ⟨K1, fun ls st H locs cells slots r => ?_⟩
    obtain ⟨ws, hL, hS, hH, hP, hD, hSS, hc1, hc2⟩ := r
    obtain ⟨v, st', rfl, hv, hS'⟩ := hS.pop (tn1 ha (by decide))
    obtain ⟨x, rfl, ex⟩ := hv.sint (isT_t ha) h8.symm
    have ei := iEx_int x
    have es : Nat.sub (ilo (tp S)) (swl b) = ilo (tp S) - swl b := rfl
    exact rowI (j := Nat.sub (ilo (tp S)) (swl b)) (by omega) (by omega) (by omega) (by omega) (K2 _ _ _ _ _ _ ⟨ws, hL, hS', hH, hP, hD, hSS, hc1, hc2⟩)
-- the comparisons
theorem lt1_t {x y : Nat} {i j : Int32} (_ : ilo x ≤ iEx i) (b : iEx i ≤ ihi x) (d : ilo y ≤ iEx j) (_ : iEx j ≤ ihi y) (h : lt1 x y = true) : i < j := by
  have h : ihi x + 1 ≤ ilo y := ble_t h
  exact iEx_lti.mp (by omega)
theorem lt0_t {x y : Nat} {i j : Int32} (a : ilo x ≤ iEx i) (_ : iEx i ≤ ihi x) (_ : ilo y ≤ iEx j) (d : iEx j ≤ ihi y) (h : lt0 x y = true) : ¬ i < j := by
  have h : ihi y ≤ ilo x := ble_t h
  exact fun q => by have := iEx_lti.mpr q; omega
theorem gt1_t {x y : Nat} {i j : Int32} (a : ilo x ≤ iEx i) (b : iEx i ≤ ihi x) (d : ilo y ≤ iEx j) (f : iEx j ≤ ihi y) (h : gt1 x y = true) : j < i := lt1_t d f a b h
theorem gt0_t {x y : Nat} {i j : Int32} (a : ilo x ≤ iEx i) (b : iEx i ≤ ihi x) (d : ilo y ≤ iEx j) (f : iEx j ≤ ihi y) (h : gt0 x y = true) : ¬ j < i := lt0_t d f a b h
theorem eq1_t {x y : Nat} {i j : Int32} (a : ilo x ≤ iEx i) (b : iEx i ≤ ihi x) (d : ilo y ≤ iEx j) (f : iEx j ≤ ihi y) (h : eq1 x y = true) : i = j := by
  obtain ⟨h1, h2⟩ := an_t h
  obtain ⟨h2, h3⟩ := an_t h2
  have h1 := beq_t h1
  have h2 := beq_t h2
  have h3 := beq_t h3
  exact iEx_inj.mp (by omega)
theorem eq0_t {x y : Nat} {i j : Int32} (a : ilo x ≤ iEx i) (b : iEx i ≤ ihi x) (d : ilo y ≤ iEx j) (f : iEx j ≤ ihi y) (h : eq0 x y = true) : ¬ i = j := by
  rcases orr_t h with h | h
  · have := lt1_t a b d f h; exact fun q => by subst q; exact Int32.lt_irrefl this
  · have := lt1_t d f a b h; exact fun q => by subst q; exact Int32.lt_irrefl this
end OPS2

/-! new T[n][m] in the engine. -/
section MULTI
variable {g : GG} {cl : List vw_C} {ft : Nat → Nat → Nat} {p : Program} {l : Launch} {e : Env} {R : Room} {s : State} {m : MethodId} {args : Array Value} {below : List Frame} {meth : Method} {c : Code} {Q : State → Prop} {nL kc0 ks0 : Nat} {res : RES} {pc w L : Nat} {h0 : HP} {S : Nat} {k : KK} {n : Nat} {cc : ByteArray}
/-- the outer array with its first j places laid -/
def ouA (cA : ClassId) (N : Nat) (r : Nat → Nat) (j : Nat) : va_E := .inl (cA, N, .inr (.inr (.inr (.inr (fun x => if x < j then some (r x) else none)))))
def rwA (cy : ClassId) (z : vp_A) (r : Nat → Nat) (j : Nat) : va_W := (List.range j).map (fun x => (r x, .inl (cy, z)))
theorem set_mid {α : Type} (X : List α) (a b : α) (l : List α) : (X ++ a :: l).set X.length b = X ++ b :: l := by
  induction X with
  | nil => rfl
  | cons x X ih => show x :: (X ++ a :: l).set X.length b = _; rw [ih]; rfl
theorem get_mid {α : Type} (X : List α) (a : α) (l : List α) : (X ++ a :: l)[X.length]? = some a := by
  rw [List.getElem?_append_right (Nat.le_refl _), Nat.sub_self]; rfl
theorem rws_s {X : va_W} {q o cR M N : Nat} {cA cy : ClassId} {r : Nat → Nat} (hkR : cR = 32 ∨ cR = 33 ∨ cR = 34 ∨ cR = 35 ∨ cR = 36 ∨ 37 ≤ cR) (hTR : g.2.1[cR - 32]? = some (cy, aty cR)) {kk : HP → Option RES} :
    ∀ (i j : Nat) (h : HP), rws cR o M i h j kk = some res → j + i = N → HR g ft (X ++ (q, ouA cA N r j) :: rwA cy (dfa cR M) r j) h → o = mof (mrw h X.length) → 37 ≤ mcl (mrw h X.length) →
    ∃ h' : HP, kk h' = some res ∧ HR g ft (X ++ (q, ouA cA N r N) :: rwA cy (dfa cR M) r N) h' ∧ h'.2.2.2.2.2.2.1 = h.2.2.2.2.2.2.1 + i ∧ h'.2.2.2.2.2.2.2 = h.2.2.2.2.2.2.2 + i * M
  | 0, j, h, hr, hj, hH, _, _ => by
    have : j = N := by omega
    subst this
    exact ⟨h, hr, hH, rfl, by omega⟩
  | i + 1, j, h, hr, hj, hH, ho, hc => by
    have hr : alloc cR M h (fun q h => hput h (Nat.add o j) (Nat.add 3 (Nat.mul 8 q)) (fun h => fc (Nat.add j 1) (fun j => rws cR o M i h j kk))) = some res := hr
    obtain ⟨h1, hr1, al⟩ := alloc_s hr
    obtain ⟨hlt, h2, hr2, hg, hr3⟩ := hput_s hr1
    have hr2 : rws cR o M i h2 (j + 1) kk = some res := hr2
    have hg : ∀ x : Nat, hget h2 x = if x = o + j then 3 + 8 * h.2.2.2.1 else hget h1 x := hg
    have hlen : (X ++ (q, ouA cA N r j) :: rwA cy (dfa cR M) r j).length = h.2.2.2.1 := hH.1
    have hXl : X.length < h.2.2.2.1 := by rw [← hlen, List.length_append, List.length_cons]; omega
    obtain ⟨b1, b2, -⟩ := al.new hH.2.2.2
    have hH1 := hH.push (q := r j) (e := .inl (cy, dfa cR M)) al (dfa_CR hkR b1 b2 hTR (fun x hx => al.zero hH.2.2.2 hx))
    have em : mrw h1 X.length = mrw h X.length := al.old hH.2.2.2 hXl
    have ews : (X ++ (q, ouA cA N r j) :: rwA cy (dfa cR M) r j) ++ [(r j, .inl (cy, dfa cR M))] = X ++ (q, ouA cA N r j) :: rwA cy (dfa cR M) r (j + 1) := by
      unfold rwA
      rw [List.range_succ, List.map_append, List.append_assoc]
      rfl
    rw [ews] at hH1
    have hat : (X ++ (q, ouA cA N r j) :: rwA cy (dfa cR M) r (j + 1))[X.length]? = some (q, ouA cA N r j) := get_mid _ _ _
    obtain ⟨cA', f', e1, e2, e3⟩ := (hH1.2.2.1 _ _ hat).rfs (by rw [em]; exact hc)
    unfold ouA at e1
    simp only [Sum.inl.injEq, Prod.mk.injEq, Sum.inr.injEq] at e1
    obtain ⟨rfl, eN, rfl⟩ := e1
    have eset : (X ++ (q, ouA cA N r j) :: rwA cy (dfa cR M) r (j + 1)).set X.length (q, ouA cA N r (j + 1)) = X ++ (q, ouA cA N r (j + 1)) :: rwA cy (dfa cR M) r (j + 1) := set_mid _ _ _ _
    have hle : wsle (X ++ (q, ouA cA N r j) :: rwA cy (dfa cR M) r (j + 1)) (X ++ (q, ouA cA N r (j + 1)) :: rwA cy (dfa cR M) r (j + 1)) := by rw [← eset]; exact wsle.set hat
    have hnew : (X ++ (q, ouA cA N r (j + 1)) :: rwA cy (dfa cR M) r (j + 1))[h.2.2.2.1]? = some (r j, .inl (cy, dfa cR M)) := by
      have e9 : (X ++ (q, ouA cA N r (j + 1)) :: rwA cy (dfa cR M) r (j + 1)) = (X ++ (q, ouA cA N r (j + 1)) :: rwA cy (dfa cR M) r j) ++ [(r j, .inl (cy, dfa cR M))] := by
        unfold rwA
        rw [List.range_succ, List.map_append, List.append_assoc]
        rfl
      have e8 : (X ++ (q, ouA cA N r (j + 1)) :: rwA cy (dfa cR M) r j).length = h.2.2.2.1 := by rw [← hlen, List.length_append, List.length_append]; rfl
      rw [e9, ← e8]
      exact app_at _ _
    have hH2 : HR g ft (X ++ (q, ouA cA N r (j + 1)) :: rwA cy (dfa cR M) r (j + 1)) h2 := by
      rw [← eset]
      refine hH1.put hat (j := j) (by rw [em]; rw [em] at eN; omega) (by rw [em, ← ho]; exact hg) hr3 ?_
      rw [eset]
      refine Or.inr (Or.inr (Or.inr (Or.inr ⟨by rw [em]; exact hc, cA, _, by rw [← eN]; rfl, e2, fun x hx => ?_⟩)))
      rw [hg]
      by_cases hxj : x = j
      · subst hxj
        rw [if_pos (by rw [em, ho]), if_pos (by omega)]
        exact Or.inr (VR_cell g hnew hH.2.1)
      · rw [if_neg (by rw [em, ← ho]; omega)]
        have := (e3 x hx).mono hle
        dsimp only at this
        by_cases hx2 : x < j
        · rw [if_pos (by omega)]; rw [if_pos hx2] at this; exact this
        · rw [if_neg (by omega)]; rw [if_neg hx2] at this; exact this
    have em2 : mrw h2 X.length = mrw h X.length := by
      rw [← em]; unfold mrw; rw [hr3]
    obtain ⟨h', k1, k2, k3, k4⟩ := rws_s hkR hTR i (j + 1) h2 hr2 (by omega) hH2 (by rw [em2]; exact ho) (by rw [em2]; exact hc)
    obtain ⟨a1, a2⟩ := al.kc
    refine ⟨h', k1, k2, by rw [k3, hr3]; omega, ?_⟩
    rw [k4, hr3, a2, Nat.add_mul]
    omega
theorem q_multi {cA0 cy : ClassId} (hK : va_K g.1 cl g.2.1 s) (hk1 : 37 ≤ fa w) (hk2 : fb w = 32 ∨ fb w = 33 ∨ fb w = 34 ∨ fb w = 35 ∨ fb w = 36 ∨ 37 ≤ fb w) (hT : g.2.1[fa w - 32]? = some (cA0, aty (fa w))) (hTR : g.2.1[fb w - 32]? = some (cy, aty (fb w))) (hRo : res.2.2.2.1.2.2.2.2.2.2.1 ≤ R.cells + kc0 ∧ res.2.2.2.1.2.2.2.2.2.2.2 ≤ R.slots + ks0)
    (row : ∀ {ws : va_W} {i1 i2 : Int32} {N M : Nat} {H : Heap} {locs : List Loc} {cells slots : Nat} {ls : Array Slot} {st : List Value}, va_P g.1 cl ws H → va_D (AA g) ws → va_S (AA g) s.heap H locs → ¬ i1 < 0 → ¬ i2 < 0 → i1.toNatClampNeg = N → i2.toNatClampNeg = M → N < 65536 → M < 67108864 → cells + (1 + N) ≤ R.cells → slots + (N + N * M) ≤ R.slots →
      (∀ (q : Nat) (r : Nat → Nat) (cA : ClassId) (H1 : Heap), va_K g.1 cl (g.2.1 ++ [(cA, aty (fa w))]) s → va_P g.1 cl (ws ++ (q, ouA cA N r N) :: rwA cy (dfa (fb w) M) r N) H1 → va_D (AA g) (ws ++ (q, ouA cA N r N) :: rwA cy (dfa (fb w) M) r N) → va_S (AA g) s.heap H1 locs → W p l e R s m args below meth c H1 locs (cells + 1 + N) (slots + N + N * M) Q (F0 m (nxt w) ls (.ref q :: st))) → W p l e R s m args below meth c H locs cells slots Q (F0 m pc ls (.int i2 :: .int i1 :: st)))
    (h : br (an (isS (tp S)) (an (isS (sd S)) (an (Nat.ble 2147483648 (ilo (tp S))) (an (Nat.ble (ilo (tp S)) 2147549183) (Nat.ble 2147483648 (ilo (sd S))))))) (fc (isb (ilo (sd S))) (fun n => fc (isb (ilo (tp S))) (fun m => alloc (fa w) n h0 (fun q h => fc (mof (mrow h (Nat.mul 8 q))) (fun o => rws (fb w) o m n h 0 (nw2 (nxt w) L (r2 S) k q)))))) none = some res)
    (K : ∀ pc' L' h' S', k pc' L' h' S' = some res → Wp g cl ft p l e R s m args below meth c Q nL kc0 ks0 res pc' L' h' S') : Wp g cl ft p l e R s m args below meth c Q nL kc0 ks0 res pc L h0 S := by
  obtain ⟨hq, h1⟩ := br_s h
  obtain ⟨hs, hq⟩ := an_t hq
  obtain ⟨ht, hq⟩ := an_t hq
  obtain ⟨h5, hq⟩ := an_t hq
  obtain ⟨h7, h6⟩ := an_t hq
  obtain ⟨hs1, hs2⟩ := an_t hs
  obtain ⟨ht1, ht2⟩ := an_t ht
  have h7 : ilo (tp S) ≤ 2147549183 := ble_t h7
  have h5 : 2147483648 ≤ ilo (tp S) := ble_t h5
  have h6 : 2147483648 ≤ ilo (sd S) := ble_t h6
  rw [fc_eq, fc_eq] at h1
  have hM' := isb_def (ilo (tp S))
  have hN' := isb_def (ilo (sd S))
  generalize isb (ilo (tp S)) = M at h1 hM'
  generalize isb (ilo (sd S)) = N at h1 hN'
  obtain ⟨ha, hr1, al⟩ := alloc_s h1
  rw [fc_eq] at hr1
  rw [mrow_mrw, show Nat.mul 8 h0.2.2.2.1 / 8 = h0.2.2.2.1 by show 8 * h0.2.2.2.1 / 8 = _; omega] at hr1
  obtain ⟨a1, a2⟩ := al.kc
  -- the counts do not hang on the world: read them off any run
  have cnt : ∀ (i j : Nat) (h : HP), rws (fb w) (mof (mrw ha h0.2.2.2.1)) M i h j (nw2 (nxt w) L (r2 S) k h0.2.2.2.1) = some res → ∃ h' : HP, nw2 (nxt w) L (r2 S) k h0.2.2.2.1 h' = some res ∧ h'.2.2.2.2.2.2.1 = h.2.2.2.2.2.2.1 + i ∧ h'.2.2.2.2.2.2.2 = h.2.2.2.2.2.2.2 + i * M := by
    intro i
    induction i with
    | zero => exact fun j h hr => ⟨h, hr, rfl, by omega⟩
    | succ i ih =>
      intro j h hr
      obtain ⟨hb1, hr2, al2⟩ := alloc_s (show alloc (fb w) M h (fun q h => hput h (Nat.add (mof (mrw ha h0.2.2.2.1)) j) (Nat.add 3 (Nat.mul 8 q)) (fun h => fc (Nat.add j 1) (fun j => rws (fb w) (mof (mrw ha h0.2.2.2.1)) M i h j (nw2 (nxt w) L (r2 S) k h0.2.2.2.1)))) = some res from hr)
      obtain ⟨-, hb2, hr3, -, hr4⟩ := hput_s hr2
      obtain ⟨h', q1, q2, q3⟩ := ih (j + 1) hb2 hr3
      obtain ⟨c1, c2⟩ := al2.kc
      exact ⟨h', q1, by rw [q2, hr4]; omega, by rw [q3, hr4, c2, Nat.add_mul]; omega⟩
  obtain ⟨hf, hk', c1, c2⟩ := cnt _ _ _ hr1
  have K1 := (K _ _ _ _ (show k (nxt w) L hf (pu (3 + 8 * h0.2.2.2.1) (r2 S)) = some res from hk')).1
  refine ⟨by omega, fun ls st H locs cells slots r => ?_⟩
  obtain ⟨ws, hL, hS, hH, hP, hD, hSS, hc1, hc2⟩ := r
  obtain ⟨v, u, st', rfl, hv, hu, hS'⟩ := hS.pop2 (tn1 hs1 (by decide)) (tn2 ht1 (by decide))
  obtain ⟨i2, rfl, e2⟩ := hv.sint (isT_t hs1) (beq_t hs2)
  obtain ⟨i1, rfl, e1⟩ := hu.sint (isT_t ht1) (beq_t ht2)
  have z1 := iEx_int i1
  have z2 := iEx_int i2
  have zN : i1.toInt = (N : Int) := by omega
  have zM : i2.toInt = (M : Int) := by omega
  have z0 : (0 : Int32).toInt = 0 := by decide
  have n1 : ¬ i1 < 0 := fun q => by have q2 := Int32.lt_iff_toInt_lt.mp q; omega
  have n2 : ¬ i2 < 0 := fun q => by have q2 := Int32.lt_iff_toInt_lt.mp q; omega
  have t1 : i1.toNatClampNeg = N := by show i1.toInt.toNat = N; rw [zN, Int.toNat_natCast]
  have t2 : i2.toNatClampNeg = M := by show i2.toInt.toNat = M; rw [zM, Int.toNat_natCast]
  refine row hP hD hSS n1 n2 t1 t2 al.1 (by omega) (by omega) (by omega) (fun q r cA H1 hK1 hP1 hD1 hS1 => ?_)
  have ecA : cA0 = cA := va_RA_inj (hK.2 _ _ hT).2 (va_K_last hK1)
  subst ecA
  obtain ⟨b1, b2, -⟩ := al.new hH.2.2.2
  have hH1 : HR g ft (ws ++ (q, ouA cA0 N r 0) :: rwA cy (dfa (fb w) M) r 0) ha := by
    refine hH.push (e := ouA cA0 N r 0) al ?_
    refine Or.inr (Or.inr (Or.inr (Or.inr ⟨by rw [b1]; exact hk1, cA0, _, by rw [b2]; rfl, by rw [b1]; exact hT, fun x hx => Or.inl ⟨al.zero hH.2.2.2 (by rw [b2] at hx; exact hx), ?_⟩⟩)))
    rw [if_neg (by omega)]
    rfl
  have hl0 : ws.length = h0.2.2.2.1 := hH.1
  obtain ⟨hf2, hk2', hHf, d1, d2⟩ := rws_s (X := ws) hk2 hTR N 0 ha hr1 (by omega) hH1 (by rw [hl0]) (by rw [hl0, b1]; exact hk1)
  obtain ⟨K1', K2⟩ := K _ _ _ _ (show k (nxt w) L hf2 (pu (3 + 8 * h0.2.2.2.1) (r2 S)) = some res from hk2')
  have hle := wsle.app ws ((q, ouA cA0 N r N) :: rwA cy (dfa (fb w) M) r N)
  have hq : (ws ++ (q, ouA cA0 N r N) :: rwA cy (dfa (fb w) M) r N)[h0.2.2.2.1]? = some (q, ouA cA0 N r N) := by rw [← hl0]; exact get_mid _ _ _
  exact K2 _ _ _ _ _ _ ⟨_, hL.mono hle, (hS'.mono hle).push (VR_cell g hq hH.2.1), hHf, hP1, hD1, hS1, by omega, by omega⟩
end MULTI

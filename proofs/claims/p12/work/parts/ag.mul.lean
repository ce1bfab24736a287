/-! An array of arrays over plain states. -/
section NMUL
variable {ss : SS} {TBL : List Cond} {g : GG} {cl : List vw_C} {ft : Nat → Nat → Nat} {mdl : Nat → Option MD} {bl : Nat} {xs : Nat → Int32} {d : MD} {p : Program} {l : Launch} {e : Env} {R : Room} {s : State} {m : MethodId} {args : Array Value} {below : List Frame} {meth : Method} {c : Code} {Q : State → Prop} {kc0 ks0 pc n w : Nat} {L : LN} {h : HN} {S : List Value}
/-- the cells of an array of arrays: its rows stand behind it -/
def mulC (c1 c2 N M k : Nat) : List CE := ((c1, N, fun j => if j < N then .ref (k + 1 + j) else .null) : CE) :: (List.range N).map (fun _ => ((c2, M, dfN c2) : CE))
theorem mulC_len (c1 c2 N M k : Nat) : (mulC c1 c2 N M k).length = N + 1 := by
  unfold mulC
  rw [List.length_cons, List.length_map, List.length_range]
theorem hnr_mul {ws : va_W} {hc : List CE} {q c1 c2 N M : Nat} {cA cy : ClassId} {r : Nat → Nat} (hH : HNR g ws hc) (hl : hc.length + 1 + N ≤ 7000000000000) (h37 : 37 ≤ c1) (hk : c2 = 32 ∨ c2 = 33 ∨ c2 = 34 ∨ c2 = 35 ∨ c2 = 36 ∨ 37 ≤ c2) (hT : g.2.1[c1 - 32]? = some (cA, aty c1)) (hTR : g.2.1[c2 - 32]? = some (cy, aty c2)) : HNR g (ws ++ (q, ouA cA N r N) :: rwA cy (dfa c2 M) r N) (hc ++ mulC c1 c2 N M hc.length) := by
  have hle := wsle.app ws ((q, ouA cA N r N) :: rwA cy (dfa c2 M) r N)
  have lr : (rwA cy (dfa c2 M) r N).length = N := by unfold rwA; rw [List.length_map, List.length_range]
  have rowW : ∀ j, j < N → (ws ++ (q, ouA cA N r N) :: rwA cy (dfa c2 M) r N)[hc.length + 1 + j]? = some (r j, .inl (cy, dfa c2 M)) := fun j hj => by
    rw [List.getElem?_append_right (by rw [hH.1]; omega), hH.1, show hc.length + 1 + j - hc.length = j + 1 by omega, List.getElem?_cons_succ]
    unfold rwA
    rw [List.getElem?_map, List.getElem?_range hj]
    rfl
  refine ⟨by rw [List.length_append, List.length_append, mulC_len, List.length_cons, lr, hH.1], Nat.lt_of_le_of_lt (Nat.le_of_eq (by rw [List.length_append, mulC_len, Nat.add_assoc, Nat.add_comm 1 N])) (Nat.lt_of_le_of_lt hl (by decide)), fun j x hx => ?_⟩
  rcases Nat.lt_trichotomy j ws.length with q1 | q1 | q1
  · rw [List.getElem?_append_left q1] at hx
    obtain ⟨c', a1, a2⟩ := hH.2.2 j x hx
    exact ⟨c', by rw [List.getElem?_append_left (by rw [← hH.1]; exact q1)]; exact a1, a2.mono hle⟩
  · subst q1
    rw [List.getElem?_append_right (Nat.le_refl _), Nat.sub_self] at hx
    cases hx
    have rf9 : ∀ j, j < N → VN g (ws ++ (q, ouA cA N r N) :: rwA cy (dfa c2 M) r N) (if j < N then .ref (hc.length + 1 + j) else .null) (va_rf (if j < N then some (r j) else none)) := fun j hj => by
      rw [if_pos hj, if_pos hj]
      exact Or.inl ⟨_, _, rowW j hj, rfl⟩
    refine ⟨((c1, N, fun j => if j < N then .ref (hc.length + 1 + j) else .null) : CE), ?_, ?_⟩
    · rw [hH.1, List.getElem?_append_right (Nat.le_refl _), Nat.sub_self]
      unfold mulC
      rfl
    · exact Or.inr (Or.inr (Or.inr (Or.inr ⟨h37, cA, fun x => if x < N then some (r x) else none, rfl, hT, rf9⟩)))
  · have hj2 : j - hc.length - 1 < N := by
      have := (List.getElem?_eq_some_iff.mp hx).1
      rw [List.length_append, List.length_cons, lr, hH.1] at this
      rw [hH.1] at q1
      omega
    have e9 : j = hc.length + 1 + (j - hc.length - 1) := by rw [hH.1] at q1; omega
    rw [e9, rowW _ hj2] at hx
    cases hx
    refine ⟨(c2, M, dfN c2), ?_, dfa_CN hk hTR⟩
    rw [e9, List.getElem?_append_right (by omega), show hc.length + 1 + (j - hc.length - 1) - hc.length = (j - hc.length - 1) + 1 by omega]
    unfold mulC
    rw [List.getElem?_cons_succ, List.getElem?_map, List.getElem?_range hj2]
    rfl
theorem n_multi (act : Act ss TBL g cl bl xs d p l s m args meth c) (hTY : ∀ c : Nat, 32 ≤ c → c ≤ 41 → ∃ cA : ClassId, g.2.1[c - 32]? = some (cA, aty c)) (hG : G_multi ss TBL cl ft mdl d pc w) {i1 i2 : Int32} {N M : Nat} (h1 : i1.toInt = (N : Int)) (h2 : i2.toInt = (M : Int)) (hN : N < 65536) (hM : M < 65536) (hsz : h.1.length + 1 + N ≤ 7000000000000) (hc : h.2.1 + 1 + N ≤ R.cells + kc0) (hs : h.2.2 + N + N * M ≤ R.slots + ks0) (hn : nxt w = n) (K : WpN g cl p l e R s m args below meth c Q d.2.2.1 kc0 ks0 n L (h.1 ++ mulC (fa w) (fb w) N M h.1.length, h.2.1 + 1 + N, h.2.2 + N + N * M) (.ref h.1.length :: S)) : WpN g cl p l e R s m args below meth c Q d.2.2.1 kc0 ks0 pc L h (.int i2 :: .int i1 :: S) := by
  obtain ⟨hx, hb, hr, hml, hown, hts, hK, hE, hlocks, hnm, htab, htr⟩ := act
  have hAg : ∀ q, s.heap.size ≤ q → AA g q := fun q hq => Nat.le_trans hE.2.2.2.2.2.2.2.2.2.2 hq
  obtain ⟨index, ty, hd, hn9, hk, x1, x2, x3⟩ := hG
  obtain ⟨cA0, hT⟩ := hTY (fa w) (by rcases hk with q | q <;> omega) (by rcases hk with q | q <;> omega)
  obtain ⟨cy, hTR⟩ := hTY (fb w) (by rcases hk with q | q <;> omega) (by rcases hk with q | q <;> omega)
  have e1 : aty (fa w) = .array ty := by rcases hk with ⟨rfl, q, -⟩ | ⟨rfl, q, -⟩ <;> rw [q] <;> rfl
  have hra := (hK.2 _ _ hTR).2
  subst hn
  intro ls st H locs cells slots r9
  obtain ⟨ws, hL, ⟨v0, st0, rfl, e2, v1, st1, rfl, e3, hS⟩, hH, hP, hD, hSS, hc1, hc2⟩ := r9
  have e2 : v0 = .int i2 := e2
  have e3 : v1 = .int i1 := e3
  subst e2
  subst e3
  have nn : ∀ (i : Int32) (k : Nat), i.toInt = (k : Int) → ¬ i < 0 := fun i k e q => by
    have q2 := Int32.lt_iff_toInt_lt.mp q
    have : (0 : Int32).toInt = 0 := by decide
    omega
  have cc : ∀ (i : Int32) (k : Nat), i.toInt = (k : Int) → i.toNatClampNeg = k := fun i k e => by show i.toInt.toNat = k; rw [e, Int.toNat_natCast]
  refine va_mna (X := ws) (L := []) (f := fun _ => .inr (0, [])) (z := dfa (fb w) M) (cy := cy) (ty := ty) hx hb hown (hts _ x1) (show va_AOA ty s from hts _ x2) (hts _ x3) ?_ hK (by rw [show va_pl [] (fun _ => (.inr (0, []) : va_E)) = [] from rfl, List.append_nil]; exact hP) (by rw [show va_pl [] (fun _ => (.inr (0, []) : va_E)) = [] from rfl, List.append_nil]; exact hD) hSS hAg (nn _ _ h1) (nn _ _ h2) (cc _ _ h1) (cc _ _ h2) (by omega) ?_ (by omega) ?_ ?_ (by omega) (by omega) ?_ hd (fun q r cA H1 _ _ hK1 hP1 hD1 hS1 => ?_)
  · rcases hk with ⟨rfl, -, q⟩ | ⟨rfl, -, q⟩ <;> rw [q] at hra <;> exact hra
  · rcases hk with ⟨rfl, -, -⟩ | ⟨rfl, -, -⟩
    · show _ * 4 ≤ _; omega
    · show _ * 8 ≤ _; omega
  · rcases hk with ⟨rfl, -, -⟩ | ⟨rfl, -, -⟩ <;> rfl
  · rcases hk with ⟨rfl, -, -⟩ | ⟨rfl, -, -⟩ <;> decide
  · intro c9
    rcases hk with ⟨rfl, -, q⟩ | ⟨rfl, -, q⟩ <;> rw [q] <;> exact arrV_new _ _ _
  · rw [← hn9]
    have e4 : ∀ (X : va_W) (N M : Nat), (X ++ [(q, .inl (cA, N, .inr (.inr (.inr (.inr (fun i => if i < N then some (r i) else none))))))]) ++ va_pl ([] ++ (List.range N).map r) (vr_up (fun _ => .inr (0, [])) ((List.range N).map r) (.inl (cy, dfa (fb w) M))) = X ++ (q, ouA cA N r N) :: rwA cy (dfa (fb w) M) r N := fun X N M => by
      rw [List.append_assoc]
      congr 1
      show (q, ouA cA N r N) :: va_pl ((List.range N).map r) _ = _
      congr 1
      unfold va_pl rwA
      rw [List.map_map]
      apply List.map_congr_left
      intro i hi
      show (r i, vr_up _ _ _ (r i)) = _
      rw [vr_up_in (List.mem_map_of_mem hi)]
    rw [e4] at hP1 hD1
    rw [← e1] at hK1
    have ecA : cA0 = cA := va_RA_inj (hK.2 _ _ hT).2 (va_K_last hK1)
    subst ecA
    have hle := wsle.app ws ((q, ouA cA0 N r N) :: rwA cy (dfa (fb w) M) r N)
    have hq : (ws ++ (q, ouA cA0 N r N) :: rwA cy (dfa (fb w) M) r N)[h.1.length]? = some (q, ouA cA0 N r N) := by
      rw [← hH.1, List.getElem?_append_right (Nat.le_refl _), Nat.sub_self]
      rfl
    exact K _ _ _ _ _ _ ⟨_, hL.mono hle, SRN.push (SRN.mono hle hS) (Or.inl ⟨q, _, hq, rfl⟩), hnr_mul hH (by omega) (by rcases hk with q | q <;> omega) (by rcases hk with q | q <;> omega) hT hTR, hP1, hD1, hS1, by show cells + 1 + N + kc0 = h.2.1 + 1 + N; omega, by show slots + N + N * M + ks0 = h.2.2 + N + N * M; omega⟩
end NMUL

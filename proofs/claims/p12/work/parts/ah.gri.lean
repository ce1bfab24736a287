/-! The constructor of Grid. -/
/-- the cell k is being made; D are the places that are written -/
def CST (R0 : List Nat) (hs0 : List CE) (k : Nat) (R : List Nat) (hs : List CE) (D : List Nat) : Prop := HTy KC R hs ∧ (∀ k' r' : Nat, R0[k']? = some r' → R[k']? = some r') ∧ (∀ k' : Nat, k' < hs0.length → k' ≠ k → hs[k']? = hs0[k']?) ∧ shp hs k = some (4, 18) ∧ (∀ k' r' : Nat, r' = 5 ∨ 400 ≤ r' → R[k']? = some r' → R0[k']? = some r') ∧ R0[k]? = some 0 ∧ R0.length = hs0.length ∧ ∀ j : Nat, j < 18 → (j ∈ D → VT KC R (ftK KC 5 j) (rd hs k j)) ∧ (j ∉ D → rd hs k j = dv (ftX 4 j))
theorem cst_step {R0 R R' : List Nat} {hs0 hs h' : List CE} {k : Nat} {D : List Nat} (h : CST R0 hs0 k R hs D) (hT : HTy KC R' h') (hR : ∀ k' r' : Nat, R[k']? = some r' → R'[k']? = some r') (hh : ∀ k' : Nat, k' < hs.length → h'[k']? = hs[k']?) (h5 : ∀ k' r' : Nat, r' = 5 ∨ 400 ≤ r' → R'[k']? = some r' → R[k']? = some r') : CST R0 hs0 k R' h' D := by
  obtain ⟨a, b, c, d, e, f, f2, g⟩ := h
  have hle : hs0.length ≤ hs.length := by
    rw [← f2, ← a.1]
    by_cases z : R0.length = 0
    · omega
    · obtain ⟨v, hv⟩ : ∃ v, R0[R0.length - 1]? = some v := ⟨_, List.getElem?_eq_getElem (by omega)⟩
      have := (List.getElem?_eq_some_iff.mp (b _ _ hv)).1
      omega
  have hk := shp_lt d
  refine ⟨hT, fun k' r' h1 => hR k' r' (b k' r' h1), fun k' h1 h2 => (hh k' (by omega)).trans (c k' h1 h2), by unfold shp; rw [hh k hk]; exact d, fun k' r' h9 h1 => e k' r' h9 (h5 k' r' h9 h1), f, f2, fun j hj => ?_⟩
  have er : rd h' k j = rd hs k j := by unfold rd; rw [hh k hk]
  rw [er]
  exact ⟨fun q => ((g j hj).1 q).mono (fun k' r' h1 _ => hR k' r' h1), (g j hj).2⟩
theorem cst_put {R0 R : List Nat} {hs0 hs : List CE} {k j : Nat} {v : Value} {D : List Nat} (h : CST R0 hs0 k R hs D) (hv : VT KC R (ftK KC 5 j) v) : CST R0 hs0 k R (wr hs k j v) (j :: D) := by
  obtain ⟨a, b, c, d, e, f, f2, g⟩ := h
  refine ⟨hty_wr0 a (b k 0 f), b, fun k' h1 h2 => by rw [wr_ne (fun z => h2 z.symm)]; exact c k' h1 h2, by rw [shp_wr]; exact d, e, f, f2, fun i hi => ⟨fun q => ?_, fun q => ?_⟩⟩
  · by_cases z : i = j
    · subst z
      rw [rd_same d]
      exact hv
    · rw [rd_ne _ _ (Or.inr z)]
      exact (g i hi).1 ((List.mem_cons.mp q).resolve_left z)
  · rw [rd_ne _ _ (Or.inr (fun z => q (by rw [z]; exact List.mem_cons_self)))]
    exact (g i hi).2 (fun z => q (List.mem_cons_of_mem _ z))
theorem app5 {R : List Nat} {r : Nat} (h : r ≠ 5 ∧ r < 400) : ∀ k' r' : Nat, r' = 5 ∨ 400 ≤ r' → (R ++ [r])[k']? = some r' → R[k']? = some r' := fun k' r9 hr9 hk => by
  rcases Nat.lt_trichotomy k' R.length with q | q | q
  · rwa [List.getElem?_append_left q] at hk
  · subst q
    rw [app_role] at hk
    have := Option.some.inj hk
    omega
  · rw [List.getElem?_eq_none (by rw [List.length_append]; exact q)] at hk
    cases hk
theorem app_keep {R : List Nat} {r : Nat} : ∀ k' r' : Nat, R[k']? = some r' → (R ++ [r])[k']? = some r' := fun k' r' h => by
  rw [List.getElem?_append_left (List.getElem?_eq_some_iff.mp h).1]; exact h
theorem app_kh {hs : List CE} {c : CE} : ∀ k' : Nat, k' < hs.length → (hs ++ [c])[k']? = hs[k']? := fun _ h => List.getElem?_append_left h
/-- a new array of ints into a place -/
theorem cst_arr {R0 R : List Nat} {hs0 hs : List CE} {k j r N t : Nat} {D : List Nat} (h : CST R0 hs0 k R hs D) (hn : noR KC r = true) (h5 : r ≠ 5 ∧ r < 400) (h0 : r ≠ 0) (h1 : kdK KC r = 32) (h2 : lnK KC r = N) (hd : ∀ i, VT KC (R ++ [r]) (ftK KC r i) (.int 0)) (hf : ftK KC 5 j = (t, r, 0, 0)) (ht : t = 3 ∨ t = 7) (hG : inG KC r r = true) : CST R0 hs0 k (R ++ [r]) (wr (hs ++ [((32, N, dfN 32) : CE)]) k j (.ref hs.length)) (j :: D) := by
  have hT := h.1
  have c1 := cst_step h (hT.app (c := (32, N, dfN 32)) hn h1.symm h2.symm (fun i _ => hd i)) app_keep app_kh (app5 h5)
  refine cst_put c1 ?_
  rw [hf]
  have hk : (R ++ [r])[hs.length]? = some r := by rw [← hT.1]; exact app_role
  rcases ht with rfl | rfl
  · exact Or.inr (Or.inr (Or.inr (Or.inl ⟨rfl, _, r, rfl, hk, h0, hG⟩)))
  · exact Or.inr (Or.inr (Or.inr (Or.inr (Or.inr (Or.inr ⟨rfl, _, r, rfl, hk, h0, hG⟩)))))
theorem hty_mul {R : List Nat} {hs : List CE} (hT : HTy KC R hs) : HTy KC ((R ++ [0] ++ [44] ++ [44] ++ [44] ++ [44]).set R.length 45) (hs ++ mulC 37 32 4 4 hs.length) := by
  have d : ∀ (R : List Nat) (i : Nat), VT KC (R ++ [44]) (ftK KC 44 i) (.int 0) := fun R i => show VT KC _ (1, 0, -2147483648, 2147483647) _ from vt_int rfl (by decide) (by decide)
  have a0 := hT.app0 ((37, 4, fun j => if j < 4 then .ref (hs.length + 1 + j) else .null) : CE)
  have a1 := a0.app (r := 44) (c := (32, 4, dfN 32)) (by decide) rfl rfl (fun i _ => d _ i)
  have a2 := a1.app (r := 44) (c := (32, 4, dfN 32)) (by decide) rfl rfl (fun i _ => d _ i)
  have a3 := a2.app (r := 44) (c := (32, 4, dfN 32)) (by decide) rfl rfl (fun i _ => d _ i)
  have a4 := a3.app (r := 44) (c := (32, 4, dfN 32)) (by decide) rfl rfl (fun i _ => d _ i)
  have eh : hs ++ [((37, 4, fun j => if j < 4 then .ref (hs.length + 1 + j) else .null) : CE)] ++ [((32, 4, dfN 32) : CE)] ++ [((32, 4, dfN 32) : CE)] ++ [((32, 4, dfN 32) : CE)] ++ [((32, 4, dfN 32) : CE)] = hs ++ mulC 37 32 4 4 hs.length := by
    simp only [List.append_assoc]
    rfl
  rw [eh] at a4
  have eR : R ++ [0] ++ [44] ++ [44] ++ [44] ++ [44] = R ++ [0, 44, 44, 44, 44] := by simp only [List.append_assoc]; rfl
  rw [eR] at a4 ⊢
  have g0 : (hs ++ mulC 37 32 4 4 hs.length)[hs.length]? = some (37, 4, fun j => if j < 4 then .ref (hs.length + 1 + j) else .null) := by
    rw [List.getElem?_append_right (Nat.le_refl _), Nat.sub_self]; rfl
  refine a4.setR (by rw [List.getElem?_append_right (Nat.le_refl _), Nat.sub_self]; rfl) (by decide) rfl (fun _ _ => rfl) (by rw [hT.1]; exact shp_of g0) (fun j hj => ?_)
  have hj : j < 4 := hj
  rw [hT.1]
  have : rd (hs ++ mulC 37 32 4 4 hs.length) hs.length j = .ref (hs.length + 1 + j) := by unfold rd; rw [g0]; exact if_pos hj
  rw [this]
  show VT KC _ (3, 44, 0, 0) _
  refine Or.inr (Or.inr (Or.inr (Or.inl ⟨rfl, hs.length + 1 + j, 44, rfl, ?_, by decide, by decide⟩)))
  rw [List.getElem?_set_ne (by omega), ← hT.1, List.getElem?_append_right (by omega), show R.length + 1 + j - R.length = j + 1 by omega]
  match j, hj with
  | 0, _ => rfl
  | 1, _ => rfl
  | 2, _ => rfl
  | 3, _ => rfl
  | j + 4, hj => exact absurd hj (by omega)
theorem cst_mul {R0 R : List Nat} {hs0 hs : List CE} {k : Nat} {D : List Nat} (h : CST R0 hs0 k R hs D) : CST R0 hs0 k ((R ++ [0] ++ [44] ++ [44] ++ [44] ++ [44]).set R.length 45) (wr (hs ++ mulC 37 32 4 4 hs.length) k 13 (.ref hs.length)) (13 :: D) := by
  have hT := h.1
  have eR : R ++ [0] ++ [44] ++ [44] ++ [44] ++ [44] = R ++ [0, 44, 44, 44, 44] := by simp only [List.append_assoc]; rfl
  have c1 := cst_step (R' := (R ++ [0] ++ [44] ++ [44] ++ [44] ++ [44]).set R.length 45) h (hty_mul hT) (fun k' r' h1 => by
    have hl := (List.getElem?_eq_some_iff.mp h1).1
    rw [List.getElem?_set_ne (by omega), eR, List.getElem?_append_left hl]
    exact h1) (fun k' h1 => List.getElem?_append_left h1) (fun k' r9 hr9 h1 => by
    by_cases z : k' = R.length
    · subst z
      rw [List.getElem?_set_self (by rw [eR, List.length_append]; exact Nat.lt_add_of_pos_right (by decide))] at h1
      cases h1
      exact absurd hr9 (by decide)
    · rw [List.getElem?_set_ne (fun y => z y.symm), eR] at h1
      by_cases y : k' < R.length
      · rwa [List.getElem?_append_left y] at h1
      · rw [List.getElem?_append_right (by omega)] at h1
        generalize k' - R.length = i at h1
        match i, h1 with
        | 0, h1 => cases h1; exact absurd hr9 (by decide)
        | 1, h1 => cases h1; exact absurd hr9 (by decide)
        | 2, h1 => cases h1; exact absurd hr9 (by decide)
        | 3, h1 => cases h1; exact absurd hr9 (by decide)
        | 4, h1 => cases h1; exact absurd hr9 (by decide)
        | i + 5, h1 => cases h1)
  refine cst_put c1 (show VT KC _ (3, 45, 0, 0) _ from Or.inr (Or.inr (Or.inr (Or.inl ⟨rfl, hs.length, 45, rfl, ?_, by decide, by decide⟩))))
  rw [← hT.1, eR]
  exact List.getElem?_set_self (by rw [List.length_append]; exact Nat.lt_add_of_pos_right (by decide))
theorem r_multi {g : GG} {bl : Nat} {xs : Nat → Int32} {d : MD} {p : Program} {l : Launch} {e : Env} {R : Room} {s : State} {m : MethodId} {args : Array Value} {below : List Frame} {meth : Method} {c : Code} {Q : State → Prop} {kc0 ks0 pc n w : Nat} {L : LN} {hs : List CE} {kc ks : Nat} {S : List Value} (act : Act SSX TBL g CLS bl xs d p l s m args meth c) (hTY : TYg g) (hG : G_multi SSX TBL CLS ftX mdx d pc w) {i1 i2 : Int32} {N M c1 c2 : Nat} (h1 : i1.toInt = (N : Int)) (h2 : i2.toInt = (M : Int)) (hN : N < 65536) (hM : M < 65536) (hc1 : fa w = c1) (hc2 : fb w = c2) (hsz : hs.length + 1 + N ≤ 7000000000000) (hc : kc + 1 + N ≤ R.cells + kc0) (hks : ks + N + N * M ≤ R.slots + ks0) (hn : nxt w = n) (K : WpN g CLS p l e R s m args below meth c Q d.2.2.1 kc0 ks0 n L (hs ++ mulC c1 c2 N M hs.length, kc + 1 + N, ks + N + N * M) (.ref hs.length :: S)) : WpN g CLS p l e R s m args below meth c Q d.2.2.1 kc0 ks0 pc L (hs, kc, ks) (.int i2 :: .int i1 :: S) := by
  subst hc1
  subst hc2
  exact n_multi act hTY hG h1 h2 hN hM hsz hc hks hn K

theorem cst_end {R0 R : List Nat} {hs0 hs : List CE} {k : Nat} (hT0 : HTy KC R0 hs0) (hInv : InvC R0 hs0) (h : CST R0 hs0 k R hs [17, 16, 15, 14, 13, 12, 11, 10, 9, 8, 7, 6, 5]) (hl : hs.length ≤ hs0.length + 20) : ∃ R' : List Nat, R'[k]? = some 5 ∧ (∀ k' r' : Nat, R0[k']? = some r' → k' ≠ k → R'[k']? = some r') ∧ HTy KC R' hs ∧ InvC R' hs ∧ (∀ k' r' : Nat, R0[k']? = some r' → froz r' = true → k' ≠ k → hs[k']? = hs0[k']?) ∧ hs.length ≤ hs0.length + 20 ∧ ∀ q ∈ KC.2.2, rd hs q.2.1 q.2.2 = rd hs0 q.2.1 q.2.2 := by
  obtain ⟨a, b, c, d, e, f, f2, g⟩ := h
  have hk0 := b k 0 f
  have hkl := (List.getElem?_eq_some_iff.mp hk0).1
  have hlt : ∀ k' r' : Nat, R0[k']? = some r' → k' < hs0.length := fun k' r' h => by rw [← f2]; exact (List.getElem?_eq_some_iff.mp h).1
  have hm : ∀ k' r' : Nat, R[k']? = some r' → r' ≠ 0 → (R.set k 5)[k']? = some r' := fun k' r' h1 h2 => by
    rw [List.getElem?_set_ne (fun z => by subst z; rw [hk0] at h1; cases h1; exact h2 rfl)]; exact h1
  have hn0 : ∀ k' r' : Nat, R0[k']? = some r' → r' ≠ 0 → k' ≠ k := fun k' r' h1 h2 z => by subst z; rw [f] at h1; cases h1; exact h2 rfl
  have hv : ∀ j, j < 18 → VT KC (R.set k 5) (ftK KC 5 j) (rd hs k j) := fun j hj => by
    by_cases z : j ∈ [17, 16, 15, 14, 13, 12, 11, 10, 9, 8, 7, 6, 5]
    · exact ((g j hj).1 z).mono hm
    · have e9 := (g j hj).2 z
      match j, hj, z, e9 with
      | 0, _, _, e9 => rw [e9]; show VT KC _ (1, 0, 0, 4) (.int 0); exact vt_int rfl (by decide) (by decide)
      | 1, _, _, e9 => rw [e9]; show VT KC _ (1, 0, 0, 4) (.int 0); exact vt_int rfl (by decide) (by decide)
      | 2, _, _, e9 => rw [e9]; show VT KC _ (6, 0, 0, 6) (.int 0); exact Or.inr (Or.inr (Or.inr (Or.inr (Or.inr (Or.inl ⟨Or.inl rfl, 0, rfl, by decide, by decide⟩)))))
      | 3, _, _, e9 => rw [e9]; show VT KC _ (1, 0, 0, 5) (.int 0); exact vt_int rfl (by decide) (by decide)
      | 4, _, _, e9 => rw [e9]; show VT KC _ (1, 0, 0, 6) (.int 0); exact vt_int rfl (by decide) (by decide)
      | j + 5, hj, z, _ => exact absurd (by
          have : j + 5 = 5 ∨ j + 5 = 6 ∨ j + 5 = 7 ∨ j + 5 = 8 ∨ j + 5 = 9 ∨ j + 5 = 10 ∨ j + 5 = 11 ∨ j + 5 = 12 ∨ j + 5 = 13 ∨ j + 5 = 14 ∨ j + 5 = 15 ∨ j + 5 = 16 ∨ j + 5 = 17 := by omega
          rcases this with y | y | y | y | y | y | y | y | y | y | y | y | y <;> (rw [y]; decide)) z
  refine ⟨R.set k 5, List.getElem?_set_self hkl, fun k' r' h1 h2 => by rw [List.getElem?_set_ne (fun z => h2 z.symm)]; exact b k' r' h1, a.setR hk0 (by decide) rfl (fun _ _ => rfl) d hv, ⟨fun q hq => ?_, invL_fr hInv.2 (fun k' r' h1 h2 => hm k' r' (b k' r' h1) h2) (fun k' r' h1 h2 => c k' (hlt k' r' h1) (hn0 k' r' h1 (by omega))) (fun k' h1 => by
    by_cases z : k' = k
    · subst z; rw [List.getElem?_set_self hkl] at h1; cases h1
    · rw [List.getElem?_set_ne (fun y => z y.symm)] at h1; exact e k' 401 (Or.inr (by decide)) h1)⟩, fun k' r' h1 _ h3 => c k' (hlt k' r' h1) h3, hl, fun q hq => ?_⟩
  · by_cases z : q = k
    · subst z
      have e2 : rd hs q 2 = .int 0 := (g 2 (by decide)).2 (by decide)
      obtain ⟨kl, e8, r8, -⟩ := vt_r (show VT KC (R.set q 5) (7, 46, 0, 0) (rd hs q 8) from hv 8 (by decide)) (Or.inr rfl) (by decide)
      exact ⟨0, kl, e2, e8, r8, by decide, fun j hj => absurd hj (by show ¬ ((j : Int) < 0); omega)⟩
    · rw [List.getElem?_set_ne (fun y => z y.symm)] at hq
      have hq0 := e q 5 (Or.inl rfl) hq
      obtain ⟨n, kl, e1, e2, e3, e4, e5⟩ := hInv.1 q hq0
      have eq1 : ∀ j, rd hs q j = rd hs0 q j := fun j => by unfold rd; rw [c q (hlt q 5 hq0) z]
      have zl := hn0 kl 46 e3 (by decide)
      have eq2 : ∀ j, rd hs kl j = rd hs0 kl j := fun j => by unfold rd; rw [c kl (hlt kl 46 e3) zl]
      exact ⟨n, kl, (eq1 2).trans e1, (eq1 8).trans e2, hm kl 46 (b kl 46 e3) (by decide), e4, fun j hj => by rw [eq2]; exact e5 j hj⟩
  · obtain ⟨w1, w2, -⟩ := a.2.2 q hq
    have hq1 : q.2.1 ≠ k := fun z => by rw [z, hk0] at w2; exact w1 (Option.some.inj w2).symm
    unfold rd
    rw [c q.2.1 (reg_lt hT0 hq) hq1]

theorem si_4 : SemI KC InvC ci_4 := by
  refine ⟨D_94, rfl, rfl, by decide, by decide, fun g0 bl xs l hs R0 σ as k hTY hT hInv hlen h0 hk0 hE hA => ?_⟩
  have hA : as = [] := hA
  subst hA
  have hk := shp_of hk0
  have hk : shp hs k = some (4, 18) := hk
  have hlen : hs.length + 20 ≤ 6999999999999 := hlen
  have hC : CST R0 hs k R0 hs [] := ⟨hT, fun _ _ h => h, fun _ _ _ => rfl, hk, fun _ _ _ h => h, h0, hT.1, fun j hj => ⟨fun q => absurd q (by simp), fun _ => by unfold rd; rw [hk0]; rfl⟩⟩
  intro wp p e R s m args below meth c Q kc0 ks0 kc ks act hf hl hc hsl hEnd
  have hf : 1 ≤ R.frames := hf
  have hl : 12 ≤ R.locals := hl
  have hc : kc + 20 ≤ R.cells + kc0 := hc
  have hsl : ks + 11 * 20 ≤ R.slots + ks0 := hsl
  have hTY : TYg (gp g0 wp) := hTY
  show WpN (gp g0 wp) CLS p l e R s m args below meth c Q D_94.2.2.1 kc0 ks0 0 [some (.ref k)] (hs, kc, ks) []
  refine g_loadA act (gx gp_94 (w := 0x103) rfl (by decide) rfl) (a := 0) (n := 1) rfl rfl rfl ?_
  refine n_objinit act (gx gp_94 (w := 0x429) rfl (by decide) rfl) (by omega) (by show (0 : Nat) + 12 ≤ R.locals; omega) rfl ?_
  refine g_loadA act (gx gp_94 (w := 0x503) rfl (by decide) rfl) (a := 0) (n := 5) rfl rfl rfl ?_
  refine g_constI act (gx gp_94 (w := 0x3fffffffbfffffff9000000000601) rfl (by decide) rfl) (n := 6) (x := (-1 : Int32)) (by decide) rfl ?_
  refine r_putf act (gx gp_94 (w := 0x144000913) rfl (by decide) rfl) (n := 9) (ci := 4) (j := 5) (N := 18) rfl rfl rfl hC.2.2.2.1 (by decide) (Or.inl ⟨rfl, _, rfl⟩) ?_
  have hC := cst_put (j := 5) (v := .int (-1)) hC (show VT KC R0 (1, 0, -1, 5) _ from vt_int rfl (by decide) (by decide))
  have ln1 : (wr hs k 5 (.int (-1 : Int32))).length = hs.length + 0 := wr_len _ _ _ _
  generalize (wr hs k 5 (.int (-1 : Int32))) = h1 at hC ln1 ⊢
  refine g_loadA act (gx gp_94 (w := 0xa03) rfl (by decide) rfl) (a := 0) (n := 10) rfl rfl rfl ?_
  refine g_constI act (gx gp_94 (w := 0x40000003400000031000000000c01) rfl (by decide) rfl) (n := 12) (x := (6 : Int32)) (by decide) rfl ?_
  refine r_newa act hTY (gx gp_94 (w := 0x20000e1c) rfl (by decide) rfl) (n := 14) (N := 6) (kd := 32) (by decide) (by decide) (by decide) (by omega) (by omega) (by omega) rfl ?_
  refine r_putf act (gx gp_94 (w := 0x3000184001113) rfl (by decide) rfl) (n := 17) (ci := 4) (j := 6) (N := 18) rfl rfl rfl (by rw [shp_app (shp_lt hC.2.2.2.1)]; exact hC.2.2.2.1) (by decide) (Or.inr (Or.inr (Or.inr ⟨rfl, Or.inr ⟨_, rfl⟩⟩))) ?_
  have hC := cst_arr (j := 6) (r := 40) (N := 6) (t := 3) hC (by decide) (by decide) (by decide) rfl rfl (fun i => show VT KC _ (1, 0, 0, 3) _ from vt_int rfl (by decide) (by decide)) rfl (Or.inl rfl) (by decide)
  have ln2 : (wr (h1 ++ [((32, 6, dfN 32) : CE)]) k 6 (.ref h1.length)).length = hs.length + 1 := by rw [wr_len, List.length_append, ln1]; rfl
  generalize (wr (h1 ++ [((32, 6, dfN 32) : CE)]) k 6 (.ref h1.length)) = h2 at hC ln2 ⊢
  refine g_loadA act (gx gp_94 (w := 0x1203) rfl (by decide) rfl) (a := 0) (n := 18) rfl rfl rfl ?_
  refine g_constI act (gx gp_94 (w := 0x40000003400000031000000001401) rfl (by decide) rfl) (n := 20) (x := (6 : Int32)) (by decide) rfl ?_
  refine r_newa act hTY (gx gp_94 (w := 0x2000161c) rfl (by decide) rfl) (n := 22) (N := 6) (kd := 32) (by decide) (by decide) (by decide) (by omega) (by omega) (by omega) rfl ?_
  refine r_putf act (gx gp_94 (w := 0x30001c4001913) rfl (by decide) rfl) (n := 25) (ci := 4) (j := 7) (N := 18) rfl rfl rfl (by rw [shp_app (shp_lt hC.2.2.2.1)]; exact hC.2.2.2.1) (by decide) (Or.inr (Or.inr (Or.inr ⟨rfl, Or.inr ⟨_, rfl⟩⟩))) ?_
  have hC := cst_arr (j := 7) (r := 40) (N := 6) (t := 3) hC (by decide) (by decide) (by decide) rfl rfl (fun i => show VT KC _ (1, 0, 0, 3) _ from vt_int rfl (by decide) (by decide)) rfl (Or.inl rfl) (by decide)
  have ln3 : (wr (h2 ++ [((32, 6, dfN 32) : CE)]) k 7 (.ref h2.length)).length = hs.length + 2 := by rw [wr_len, List.length_append, ln2]; rfl
  generalize (wr (h2 ++ [((32, 6, dfN 32) : CE)]) k 7 (.ref h2.length)) = h3 at hC ln3 ⊢
  refine g_loadA act (gx gp_94 (w := 0x1a03) rfl (by decide) rfl) (a := 0) (n := 26) rfl rfl rfl ?_
  refine g_constI act (gx gp_94 (w := 0x40000003400000031000000001c01) rfl (by decide) rfl) (n := 28) (x := (6 : Int32)) (by decide) rfl ?_
  refine r_newa act hTY (gx gp_94 (w := 0x20001e1c) rfl (by decide) rfl) (n := 30) (N := 6) (kd := 32) (by decide) (by decide) (by decide) (by omega) (by omega) (by omega) rfl ?_
  refine r_putf act (gx gp_94 (w := 0x3000204002113) rfl (by decide) rfl) (n := 33) (ci := 4) (j := 8) (N := 18) rfl rfl rfl (by rw [shp_app (shp_lt hC.2.2.2.1)]; exact hC.2.2.2.1) (by decide) (Or.inr (Or.inr (Or.inr ⟨rfl, Or.inr ⟨_, rfl⟩⟩))) ?_
  have hC := cst_arr (j := 8) (r := 46) (N := 6) (t := 7) hC (by decide) (by decide) (by decide) rfl rfl (fun i => show VT KC _ (8, 0, 0, 200) _ from Or.inr (Or.inr (Or.inr (Or.inr (Or.inr (Or.inl ⟨Or.inr rfl, 0, rfl, by decide, by decide⟩)))))) rfl (Or.inr rfl) (by decide)
  have ln4 : (wr (h3 ++ [((32, 6, dfN 32) : CE)]) k 8 (.ref h3.length)).length = hs.length + 3 := by rw [wr_len, List.length_append, ln3]; rfl
  generalize (wr (h3 ++ [((32, 6, dfN 32) : CE)]) k 8 (.ref h3.length)) = h4 at hC ln4 ⊢
  refine g_loadA act (gx gp_94 (w := 0x2203) rfl (by decide) rfl) (a := 0) (n := 34) rfl rfl rfl ?_
  refine g_constI act (gx gp_94 (w := 0x40000003400000031000000002401) rfl (by decide) rfl) (n := 36) (x := (6 : Int32)) (by decide) rfl ?_
  refine r_newa act hTY (gx gp_94 (w := 0x2000261c) rfl (by decide) rfl) (n := 38) (N := 6) (kd := 32) (by decide) (by decide) (by decide) (by omega) (by omega) (by omega) rfl ?_
  refine r_putf act (gx gp_94 (w := 0x3000244002913) rfl (by decide) rfl) (n := 41) (ci := 4) (j := 9) (N := 18) rfl rfl rfl (by rw [shp_app (shp_lt hC.2.2.2.1)]; exact hC.2.2.2.1) (by decide) (Or.inr (Or.inr (Or.inr ⟨rfl, Or.inr ⟨_, rfl⟩⟩))) ?_
  have hC := cst_arr (j := 9) (r := 41) (N := 6) (t := 3) hC (by decide) (by decide) (by decide) rfl rfl (fun i => show VT KC _ (1, 0, -2147483648, 2147483647) _ from vt_int rfl (by decide) (by decide)) rfl (Or.inl rfl) (by decide)
  have ln5 : (wr (h4 ++ [((32, 6, dfN 32) : CE)]) k 9 (.ref h4.length)).length = hs.length + 4 := by rw [wr_len, List.length_append, ln4]; rfl
  generalize (wr (h4 ++ [((32, 6, dfN 32) : CE)]) k 9 (.ref h4.length)) = h5 at hC ln5 ⊢
  refine g_loadA act (gx gp_94 (w := 0x2a03) rfl (by decide) rfl) (a := 0) (n := 42) rfl rfl rfl ?_
  refine g_constI act (gx gp_94 (w := 0x40000002c00000029000000002b01) rfl (by decide) rfl) (n := 43) (x := (5 : Int32)) (by decide) rfl ?_
  refine r_newa act hTY (gx gp_94 (w := 0x20002d1c) rfl (by decide) rfl) (n := 45) (N := 5) (kd := 32) (by decide) (by decide) (by decide) (by omega) (by omega) (by omega) rfl ?_
  refine r_putf act (gx gp_94 (w := 0x3000284003013) rfl (by decide) rfl) (n := 48) (ci := 4) (j := 10) (N := 18) rfl rfl rfl (by rw [shp_app (shp_lt hC.2.2.2.1)]; exact hC.2.2.2.1) (by decide) (Or.inr (Or.inr (Or.inr ⟨rfl, Or.inr ⟨_, rfl⟩⟩))) ?_
  have hC := cst_arr (j := 10) (r := 42) (N := 5) (t := 3) hC (by decide) (by decide) (by decide) rfl rfl (fun i => show VT KC _ (1, 0, 0, 3) _ from vt_int rfl (by decide) (by decide)) rfl (Or.inl rfl) (by decide)
  have ln6 : (wr (h5 ++ [((32, 5, dfN 32) : CE)]) k 10 (.ref h5.length)).length = hs.length + 5 := by rw [wr_len, List.length_append, ln5]; rfl
  generalize (wr (h5 ++ [((32, 5, dfN 32) : CE)]) k 10 (.ref h5.length)) = h6 at hC ln6 ⊢
  refine g_loadA act (gx gp_94 (w := 0x3103) rfl (by decide) rfl) (a := 0) (n := 49) rfl rfl rfl ?_
  refine g_constI act (gx gp_94 (w := 0x40000002c00000029000000003201) rfl (by decide) rfl) (n := 50) (x := (5 : Int32)) (by decide) rfl ?_
  refine r_newa act hTY (gx gp_94 (w := 0x2000341c) rfl (by decide) rfl) (n := 52) (N := 5) (kd := 32) (by decide) (by decide) (by decide) (by omega) (by omega) (by omega) rfl ?_
  refine r_putf act (gx gp_94 (w := 0x30002c4003713) rfl (by decide) rfl) (n := 55) (ci := 4) (j := 11) (N := 18) rfl rfl rfl (by rw [shp_app (shp_lt hC.2.2.2.1)]; exact hC.2.2.2.1) (by decide) (Or.inr (Or.inr (Or.inr ⟨rfl, Or.inr ⟨_, rfl⟩⟩))) ?_
  have hC := cst_arr (j := 11) (r := 43) (N := 5) (t := 3) hC (by decide) (by decide) (by decide) rfl rfl (fun i => show VT KC _ (1, 0, -2147483648, 2147483647) _ from vt_int rfl (by decide) (by decide)) rfl (Or.inl rfl) (by decide)
  have ln7 : (wr (h6 ++ [((32, 5, dfN 32) : CE)]) k 11 (.ref h6.length)).length = hs.length + 6 := by rw [wr_len, List.length_append, ln6]; rfl
  generalize (wr (h6 ++ [((32, 5, dfN 32) : CE)]) k 11 (.ref h6.length)) = h7 at hC ln7 ⊢
  refine g_loadA act (gx gp_94 (w := 0x3803) rfl (by decide) rfl) (a := 0) (n := 56) rfl rfl rfl ?_
  refine g_constI act (gx gp_94 (w := 0x40000002c00000029000000003901) rfl (by decide) rfl) (n := 57) (x := (5 : Int32)) (by decide) rfl ?_
  refine r_newa act hTY (gx gp_94 (w := 0x20003b1c) rfl (by decide) rfl) (n := 59) (N := 5) (kd := 32) (by decide) (by decide) (by decide) (by omega) (by omega) (by omega) rfl ?_
  refine r_putf act (gx gp_94 (w := 0x3000304003e13) rfl (by decide) rfl) (n := 62) (ci := 4) (j := 12) (N := 18) rfl rfl rfl (by rw [shp_app (shp_lt hC.2.2.2.1)]; exact hC.2.2.2.1) (by decide) (Or.inr (Or.inr (Or.inr ⟨rfl, Or.inr ⟨_, rfl⟩⟩))) ?_
  have hC := cst_arr (j := 12) (r := 43) (N := 5) (t := 3) hC (by decide) (by decide) (by decide) rfl rfl (fun i => show VT KC _ (1, 0, -2147483648, 2147483647) _ from vt_int rfl (by decide) (by decide)) rfl (Or.inl rfl) (by decide)
  have ln8 : (wr (h7 ++ [((32, 5, dfN 32) : CE)]) k 12 (.ref h7.length)).length = hs.length + 7 := by rw [wr_len, List.length_append, ln7]; rfl
  generalize (wr (h7 ++ [((32, 5, dfN 32) : CE)]) k 12 (.ref h7.length)) = h8 at hC ln8 ⊢
  refine g_loadA act (gx gp_94 (w := 0x3f03) rfl (by decide) rfl) (a := 0) (n := 63) rfl rfl rfl ?_
  refine g_constI act (gx gp_94 (w := 0x40000002400000021000000004001) rfl (by decide) rfl) (n := 64) (x := (4 : Int32)) (by decide) rfl ?_
  refine g_constI act (gx gp_94 (w := 0x40000002400000021000000004101) rfl (by decide) rfl) (n := 65) (x := (4 : Int32)) (by decide) rfl ?_
  refine r_multi act hTY (gx (P := G_multi) gp_94 (w := 0x20000025004527) rfl (by decide) rfl) (n := 69) (N := 4) (M := 4) (c1 := 37) (c2 := 32) (by decide) (by decide) (by decide) (by decide) (by decide) (by decide) (by omega) (by omega) (by omega) rfl ?_
  refine r_putf act (gx gp_94 (w := 0x3000344004813) rfl (by decide) rfl) (n := 72) (ci := 4) (j := 13) (N := 18) rfl rfl rfl (by unfold shp; rw [List.getElem?_append_left (shp_lt hC.2.2.2.1)]; exact hC.2.2.2.1) (by decide) (Or.inr (Or.inr (Or.inr ⟨rfl, Or.inr ⟨_, rfl⟩⟩))) ?_
  have hC := cst_mul hC
  have ln9 : (wr (h8 ++ mulC 37 32 4 4 h8.length) k 13 (.ref h8.length)).length = hs.length + 12 := by rw [wr_len, List.length_append, mulC_len, ln8]
  generalize (wr (h8 ++ mulC 37 32 4 4 h8.length) k 13 (.ref h8.length)) = h9 at hC ln9 ⊢
  refine g_loadA act (gx gp_94 (w := 0x4903) rfl (by decide) rfl) (a := 0) (n := 73) rfl rfl rfl ?_
  refine g_constI act (gx gp_94 (w := 0x40000003400000031000000004b01) rfl (by decide) rfl) (n := 75) (x := (6 : Int32)) (by decide) rfl ?_
  refine r_newa act hTY (gx gp_94 (w := 0x20004d1c) rfl (by decide) rfl) (n := 77) (N := 6) (kd := 32) (by decide) (by decide) (by decide) (by omega) (by omega) (by omega) rfl ?_
  refine r_putf act (gx gp_94 (w := 0x3000384005013) rfl (by decide) rfl) (n := 80) (ci := 4) (j := 14) (N := 18) rfl rfl rfl (by rw [shp_app (shp_lt hC.2.2.2.1)]; exact hC.2.2.2.1) (by decide) (Or.inr (Or.inr (Or.inr ⟨rfl, Or.inr ⟨_, rfl⟩⟩))) ?_
  have hC := cst_arr (j := 14) (r := 41) (N := 6) (t := 3) hC (by decide) (by decide) (by decide) rfl rfl (fun i => show VT KC _ (1, 0, -2147483648, 2147483647) _ from vt_int rfl (by decide) (by decide)) rfl (Or.inl rfl) (by decide)
  have ln10 : (wr (h9 ++ [((32, 6, dfN 32) : CE)]) k 14 (.ref h9.length)).length = hs.length + 13 := by rw [wr_len, List.length_append, ln9]; rfl
  generalize (wr (h9 ++ [((32, 6, dfN 32) : CE)]) k 14 (.ref h9.length)) = h10 at hC ln10 ⊢
  refine g_loadA act (gx gp_94 (w := 0x5103) rfl (by decide) rfl) (a := 0) (n := 81) rfl rfl rfl ?_
  refine g_constI act (gx gp_94 (w := 0x40000003400000031000000005301) rfl (by decide) rfl) (n := 83) (x := (6 : Int32)) (by decide) rfl ?_
  refine r_newa act hTY (gx gp_94 (w := 0x2000551c) rfl (by decide) rfl) (n := 85) (N := 6) (kd := 32) (by decide) (by decide) (by decide) (by omega) (by omega) (by omega) rfl ?_
  refine r_putf act (gx gp_94 (w := 0x30003c4005813) rfl (by decide) rfl) (n := 88) (ci := 4) (j := 15) (N := 18) rfl rfl rfl (by rw [shp_app (shp_lt hC.2.2.2.1)]; exact hC.2.2.2.1) (by decide) (Or.inr (Or.inr (Or.inr ⟨rfl, Or.inr ⟨_, rfl⟩⟩))) ?_
  have hC := cst_arr (j := 15) (r := 40) (N := 6) (t := 3) hC (by decide) (by decide) (by decide) rfl rfl (fun i => show VT KC _ (1, 0, 0, 3) _ from vt_int rfl (by decide) (by decide)) rfl (Or.inl rfl) (by decide)
  have ln11 : (wr (h10 ++ [((32, 6, dfN 32) : CE)]) k 15 (.ref h10.length)).length = hs.length + 14 := by rw [wr_len, List.length_append, ln10]; rfl
  generalize (wr (h10 ++ [((32, 6, dfN 32) : CE)]) k 15 (.ref h10.length)) = h11 at hC ln11 ⊢
  refine g_loadA act (gx gp_94 (w := 0x5903) rfl (by decide) rfl) (a := 0) (n := 89) rfl rfl rfl ?_
  refine g_constI act (gx gp_94 (w := 0x40000003400000031000000005b01) rfl (by decide) rfl) (n := 91) (x := (6 : Int32)) (by decide) rfl ?_
  refine r_newa act hTY (gx gp_94 (w := 0x20005d1c) rfl (by decide) rfl) (n := 93) (N := 6) (kd := 32) (by decide) (by decide) (by decide) (by omega) (by omega) (by omega) rfl ?_
  refine r_putf act (gx gp_94 (w := 0x3000404006013) rfl (by decide) rfl) (n := 96) (ci := 4) (j := 16) (N := 18) rfl rfl rfl (by rw [shp_app (shp_lt hC.2.2.2.1)]; exact hC.2.2.2.1) (by decide) (Or.inr (Or.inr (Or.inr ⟨rfl, Or.inr ⟨_, rfl⟩⟩))) ?_
  have hC := cst_arr (j := 16) (r := 40) (N := 6) (t := 3) hC (by decide) (by decide) (by decide) rfl rfl (fun i => show VT KC _ (1, 0, 0, 3) _ from vt_int rfl (by decide) (by decide)) rfl (Or.inl rfl) (by decide)
  have ln12 : (wr (h11 ++ [((32, 6, dfN 32) : CE)]) k 16 (.ref h11.length)).length = hs.length + 15 := by rw [wr_len, List.length_append, ln11]; rfl
  generalize (wr (h11 ++ [((32, 6, dfN 32) : CE)]) k 16 (.ref h11.length)) = h12 at hC ln12 ⊢
  refine g_loadA act (gx gp_94 (w := 0x6103) rfl (by decide) rfl) (a := 0) (n := 97) rfl rfl rfl ?_
  refine g_constI act (gx gp_94 (w := 0x40000003400000031000000006301) rfl (by decide) rfl) (n := 99) (x := (6 : Int32)) (by decide) rfl ?_
  refine r_newa act hTY (gx gp_94 (w := 0x2000651c) rfl (by decide) rfl) (n := 101) (N := 6) (kd := 32) (by decide) (by decide) (by decide) (by omega) (by omega) (by omega) rfl ?_
  refine r_putf act (gx gp_94 (w := 0x3000444006813) rfl (by decide) rfl) (n := 104) (ci := 4) (j := 17) (N := 18) rfl rfl rfl (by rw [shp_app (shp_lt hC.2.2.2.1)]; exact hC.2.2.2.1) (by decide) (Or.inr (Or.inr (Or.inr ⟨rfl, Or.inr ⟨_, rfl⟩⟩))) ?_
  have hC := cst_arr (j := 17) (r := 41) (N := 6) (t := 3) hC (by decide) (by decide) (by decide) rfl rfl (fun i => show VT KC _ (1, 0, -2147483648, 2147483647) _ from vt_int rfl (by decide) (by decide)) rfl (Or.inl rfl) (by decide)
  have ln13 : (wr (h12 ++ [((32, 6, dfN 32) : CE)]) k 17 (.ref h12.length)).length = hs.length + 16 := by rw [wr_len, List.length_append, ln12]; rfl
  generalize (wr (h12 ++ [((32, 6, dfN 32) : CE)]) k 17 (.ref h12.length)) = h13 at hC ln13 ⊢
  exact g_retV hEnd (gx gp_94 (w := 0x18) rfl (by decide) rfl) ⟨rfl, rfl, cst_end hT hInv hC (by rw [ln13]; omega)⟩ (by show kc + 1 + 1 + 1 + 1 + 1 + 1 + 1 + 1 + 4 + 1 + 1 + 1 + 1 ≤ kc + 20; omega) (by show ks + 6 + 6 + 6 + 6 + 5 + 5 + 5 + 4 + 4 * 4 + 6 + 6 + 6 + 6 ≤ ks + 11 * 20; omega)


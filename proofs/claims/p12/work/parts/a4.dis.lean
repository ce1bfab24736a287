/-! The constructor of Dispatch. -/
theorem wr_app {hs : List CE} {k j : Nat} {v : Value} {c : CE} (h : k < hs.length) : wr hs k j v ++ [c] = wr (hs ++ [c]) k j v := by
  unfold wr
  rw [List.getElem?_append_left h]
  split
  · rw [List.set_append_left _ _ h]
  · rfl
theorem r_newa {g : GG} {bl : Nat} {xs : Nat → Int32} {d : MD} {p : Program} {l : Launch} {e : Env} {R : Room} {s : State} {m : MethodId} {args : Array Value} {below : List Frame} {meth : Method} {c : Code} {Q : State → Prop} {kc0 ks0 pc n w : Nat} {L : LN} {hs : List CE} {kc ks : Nat} {S : List Value} (act : Act SSX TBL g CLS bl xs d p l s m args meth c) (hTY : TYg g) (hG : G_newa SSX TBL CLS ftX mdx d pc w) {i : Int32} {N kd : Nat} (hi : i.toInt = (N : Int)) (hN : N < 65536) (hkd : fa w = kd) (hsz : hs.length < 7000000000000) (hc : kc + 1 ≤ R.cells + kc0) (hks : ks + N ≤ R.slots + ks0) (hn : nxt w = n) (K : WpN g CLS p l e R s m args below meth c Q d.2.2.1 kc0 ks0 n L (hs ++ [(kd, N, dfN kd)], kc + 1, ks + N) (.ref hs.length :: S)) : WpN g CLS p l e R s m args below meth c Q d.2.2.1 kc0 ks0 pc L (hs, kc, ks) (.int i :: S) := by
  refine n_newa (len := 0) act hTY hG hi hN hsz hc hks hn ?_
  rw [hkd]
  exact K

theorem si_5 {Inv : List Nat → List CE → Prop} (hI : StI KC Inv) : SemI KC Inv ci_5 := by
  refine ⟨D_70, rfl, rfl, by decide, by decide, fun g0 bl xs l hs R0 σ as k hTY hT hInv hlen h0 hk0 hE hA => ?_⟩
  obtain ⟨v0, S0, rfl, m0, v1, S1, rfl, m1, v2, S2, rfl, m2, v3, S3, rfl, m3, hz⟩ := hA
  have hz : S3 = [] := hz
  subst hz
  obtain ⟨i9, rfl, -, e0⟩ := m0.int rfl
  have b0 := hE 0 (by decide)
  have e0 : i9.toInt = σ 0 + 0 := e0
  have y0 : 0 ≤ σ 0 ∧ σ 0 ≤ 3 := ⟨b0.1, b0.2.1⟩
  obtain ⟨z9, rfl, -, e1⟩ := m1.int rfl
  have b1 := hE 1 (by decide)
  have e1 : z9.toInt = σ 1 + 0 := e1
  have y1 : 0 ≤ σ 1 ∧ σ 1 ≤ 1 := ⟨b1.1, b1.2.1⟩
  have hz01 : (.int z9 : Value) = .int 0 ∨ (.int z9 : Value) = .int 1 := by
    rcases i01 (x := z9) (by omega) (by omega) with rfl | rfl
    · exact Or.inl rfl
    · exact Or.inr rfl
  obtain ⟨c9, rfl, rc, -⟩ := (m2.rf3 rfl).one rfl
  have rc : R0[c9]? = some 9 := rc
  obtain ⟨o9, rfl, ro9, -⟩ := (m3.rf3 rfl).one rfl
  have ro9 : R0[o9]? = some 52 := ro9
  have hk0' := shp_of hk0
  have hk0' : shp hs k = some (3, 6) := hk0'
  have hlen : hs.length + 2 ≤ 6999999999999 := hlen
  have kl := shp_lt hk0'
  have la1 : (hs ++ [((35, 4, dfN 35) : CE)]).length = hs.length + 1 := List.length_append
  have hk1 : shp (hs ++ [((35, 4, dfN 35) : CE)]) k = some (3, 6) := (shp_app kl).trans hk0'
  have hk2 : shp (hs ++ [((35, 4, dfN 35) : CE)] ++ [((41, 4, dfN 41) : CE)]) k = some (3, 6) := (shp_app (by rw [la1]; omega)).trans hk1
  have T1 : HTy KC (R0 ++ [51]) (hs ++ [((35, 4, dfN 35) : CE)]) := hT.app (by decide) rfl rfl (fun j hj => show VT _ _ (1, 0, 0, 1) (dfN 35 j) from vt_int (x := 0) rfl (by decide) (by decide))
  have T2 : HTy KC (R0 ++ [51] ++ [53]) (hs ++ [((35, 4, dfN 35) : CE)] ++ [((41, 4, dfN 41) : CE)]) := T1.app (by decide) rfl rfl (fun j hj => show VT _ _ (4, 9, 0, 0) (dfN 41 j) from Or.inr (Or.inr (Or.inr (Or.inr (Or.inl ⟨rfl, Or.inl rfl⟩)))))
  have ra : ∀ k' r' : Nat, R0[k']? = some r' → (R0 ++ [51] ++ [53])[k']? = some r' := fun k' r' h => by
    have hl := (List.getElem?_eq_some_iff.mp h).1
    rw [List.getElem?_append_left (by rw [List.length_append]; exact Nat.lt_of_lt_of_le hl (Nat.le_add_right _ _)), List.getElem?_append_left hl]
    exact h
  have rs : ∀ k' r' : Nat, (R0 ++ [51] ++ [53])[k']? = some r' → k' ≠ k → ((R0 ++ [51] ++ [53]).set k 4)[k']? = some r' := fun k' r' h hne => by
    rw [List.getElem?_set_ne (fun z => hne z.symm)]; exact h
  have r51 : (R0 ++ [51] ++ [53])[hs.length]? = some 51 := by
    rw [← hT.1, List.getElem?_append_left (by rw [List.length_append]; exact Nat.lt_succ_self _), List.getElem?_append_right (Nat.le_refl _), Nat.sub_self]
    rfl
  have r53 : (R0 ++ [51] ++ [53])[hs.length + 1]? = some 53 := by
    rw [← hT.1, List.getElem?_append_right (by rw [List.length_append]; exact Nat.le_refl _), List.length_append]
    show ([53] : List Nat)[R0.length + 1 - (R0.length + 1)]? = some 53
    rw [Nat.sub_self]
    rfl
  have hR5 : ∀ k' r' : Nat, r' = 5 ∨ 400 ≤ r' → (R0 ++ [51] ++ [53])[k']? = some r' → R0[k']? = some r' := fun k' r9 hr9 h => by
    rcases Nat.lt_trichotomy k' R0.length with q | q | q
    · rw [List.getElem?_append_left (by rw [List.length_append]; exact Nat.lt_of_lt_of_le q (Nat.le_add_right _ _)), List.getElem?_append_left q] at h
      exact h
    · rw [q, hT.1, r51] at h; cases h; exact absurd hr9 (by decide)
    · rcases Nat.eq_or_lt_of_le (Nat.succ_le_of_lt q) with q2 | q2
      · rw [← q2, hT.1, r53] at h; cases h; exact absurd hr9 (by decide)
      · rw [List.getElem?_eq_none (by rw [List.length_append, List.length_append]; exact q2)] at h; cases h
  have hfin := ini_end (mc := 2) (r := 4) (h2 := (wr (wr (wr (wr (wr (wr (hs ++ [((35, 4, dfN 35) : CE)] ++ [((41, 4, dfN 41) : CE)]) k 4 (.ref hs.length)) k 5 (.ref (hs.length + 1))) k 0 (.int i9)) k 1 (.int z9)) k 2 (.ref c9)) k 3 (.ref o9))) hI hInv hT h0 ra (fun k' r' h => by
    have hl : k' < hs.length := by rw [← hT.1]; exact (List.getElem?_eq_some_iff.mp h).1
    rw [List.getElem?_append_left (by rw [la1]; omega), List.getElem?_append_left hl]) T2 (by decide) (by decide) hR5 (wr_len2 (l := [(4, (.ref hs.length)), (5, (.ref (hs.length + 1))), (0, (.int i9)), (1, (.int z9)), (2, (.ref c9)), (3, (.ref o9))])) (by rw [List.length_append, la1]; exact Nat.le_refl _) (fun k9 h9 => wr_ne2 (l := [(4, (.ref hs.length)), (5, (.ref (hs.length + 1))), (0, (.int i9)), (1, (.int z9)), (2, (.ref c9)), (3, (.ref o9))]) h9) ((wr_shp2 (l := [(4, (.ref hs.length)), (5, (.ref (hs.length + 1))), (0, (.int i9)), (1, (.int z9)), (2, (.ref c9)), (3, (.ref o9))])).trans hk2) (fun j hj => by
    match j, hj with
    | 0, _ => show VT _ _ _ (rd _ k 0); rw [rd_ne _ _ (Or.inr (by decide))]; rw [rd_ne _ _ (Or.inr (by decide))]; rw [rd_ne _ _ (Or.inr (by decide))]; rw [rd_same ((shp_wr _ _ _ _ _).trans ((shp_wr _ _ _ _ _).trans hk2))]; exact vt_int rfl (by show (0 : Int) ≤ _; omega) (by show _ ≤ (3 : Int); omega)
    | 1, _ => show VT _ _ _ (rd _ k 1); rw [rd_ne _ _ (Or.inr (by decide))]; rw [rd_ne _ _ (Or.inr (by decide))]; rw [rd_same ((shp_wr _ _ _ _ _).trans ((shp_wr _ _ _ _ _).trans ((shp_wr _ _ _ _ _).trans hk2)))]; exact vt_int rfl (by show (0 : Int) ≤ _; omega) (by show _ ≤ (1 : Int); omega)
    | 2, _ => show VT _ _ _ (rd _ k 2); rw [rd_ne _ _ (Or.inr (by decide))]; rw [rd_same ((shp_wr _ _ _ _ _).trans ((shp_wr _ _ _ _ _).trans ((shp_wr _ _ _ _ _).trans ((shp_wr _ _ _ _ _).trans hk2))))]; exact Or.inr (Or.inr (Or.inr (Or.inl ⟨rfl, _, 9, rfl, rs c9 9 (ra c9 9 rc) (role_ne rc h0 (by decide)), by decide, by decide⟩)))
    | 3, _ => show VT _ _ _ (rd _ k 3); rw [rd_same ((shp_wr _ _ _ _ _).trans ((shp_wr _ _ _ _ _).trans ((shp_wr _ _ _ _ _).trans ((shp_wr _ _ _ _ _).trans ((shp_wr _ _ _ _ _).trans hk2)))))]; exact Or.inr (Or.inr (Or.inr (Or.inl ⟨rfl, _, 52, rfl, rs o9 52 (ra o9 52 ro9) (role_ne ro9 h0 (by decide)), by decide, by decide⟩)))
    | 4, _ => show VT _ _ _ (rd _ k 4); rw [rd_ne _ _ (Or.inr (by decide))]; rw [rd_ne _ _ (Or.inr (by decide))]; rw [rd_ne _ _ (Or.inr (by decide))]; rw [rd_ne _ _ (Or.inr (by decide))]; rw [rd_ne _ _ (Or.inr (by decide))]; rw [rd_same hk2]; exact Or.inr (Or.inr (Or.inr (Or.inl ⟨rfl, _, 51, rfl, rs _ 51 r51 (by omega), by decide, by decide⟩)))
    | 5, _ => show VT _ _ _ (rd _ k 5); rw [rd_ne _ _ (Or.inr (by decide))]; rw [rd_ne _ _ (Or.inr (by decide))]; rw [rd_ne _ _ (Or.inr (by decide))]; rw [rd_ne _ _ (Or.inr (by decide))]; rw [rd_same ((shp_wr _ _ _ _ _).trans hk2)]; exact Or.inr (Or.inr (Or.inr (Or.inl ⟨rfl, _, 53, rfl, rs _ 53 r53 (by omega), by decide, by decide⟩)))
    | j + 6, hj => exact absurd hj (by show ¬ (j + 6 < 6); omega))
  intro wp p e R s m args below meth c Q kc0 ks0 kc ks act hf hl hc hsl hEnd
  have hf : 1 ≤ R.frames := hf
  have hl : 12 ≤ R.locals := hl
  have hc : kc + 2 ≤ R.cells + kc0 := hc
  have hsl : ks + 11 * 2 ≤ R.slots + ks0 := hsl
  have hTY : TYg (gp g0 wp) := hTY
  show WpN (gp g0 wp) CLS p l e R s m args below meth c Q D_70.2.2.1 kc0 ks0 0 [some (.ref k), some (.int i9), some (.int z9), some (.ref c9), some (.ref o9)] (hs, kc, ks) []
  refine g_loadA act (gx gp_70 (w := 0x103) rfl (by decide) rfl) (a := 0) (n := 1) rfl rfl rfl ?_
  refine n_objinit act (gx gp_70 (w := 0x429) rfl (by decide) rfl) (by omega) (by show (0 : Nat) + 12 ≤ R.locals; omega) rfl ?_
  refine g_loadA act (gx gp_70 (w := 0x503) rfl (by decide) rfl) (a := 0) (n := 5) rfl rfl rfl ?_
  refine g_constI act (gx gp_70 (w := 0x40000002400000021000000000601) rfl (by decide) rfl) (n := 6) (x := (4 : Int32)) (by decide) rfl ?_
  refine r_newa act hTY (gx gp_70 (w := 0x2300081c) rfl (by decide) rfl) (n := 8) (N := 4) (kd := 35) (by decide) (by decide) (by decide) (by omega) (by omega) (by omega) rfl ?_
  refine r_putf act (gx gp_70 (w := 0x3000103000b13) rfl (by decide) rfl) (n := 11) (ci := 3) (j := 4) (N := 6) rfl rfl rfl hk1 (by decide) (Or.inr (Or.inr (Or.inr ⟨rfl, Or.inr ⟨_, rfl⟩⟩))) ?_
  refine g_loadA act (gx gp_70 (w := 0xc03) rfl (by decide) rfl) (a := 0) (n := 12) rfl rfl rfl ?_
  refine g_constI act (gx gp_70 (w := 0x40000002400000021000000000d01) rfl (by decide) rfl) (n := 13) (x := (4 : Int32)) (by decide) rfl ?_
  refine r_newa act hTY (gx gp_70 (w := 0x2900101c) rfl (by decide) rfl) (n := 16) (N := 4) (kd := 41) (by decide) (by decide) (by decide) (by rw [wr_len, la1]; omega) (by omega) (by omega) rfl ?_
  rw [wr_app (by rw [la1]; omega), wr_len, la1]
  refine r_putf act (gx gp_70 (w := 0x3000143001313) rfl (by decide) rfl) (n := 19) (ci := 3) (j := 5) (N := 6) rfl rfl rfl ((shp_wr _ _ _ _ _).trans hk2) (by decide) (Or.inr (Or.inr (Or.inr ⟨rfl, Or.inr ⟨_, rfl⟩⟩))) ?_
  refine g_loadA act (gx gp_70 (w := 0x1403) rfl (by decide) rfl) (a := 0) (n := 20) rfl rfl rfl ?_
  refine g_loadI act (gx gp_70 (w := 0x1001502) rfl (by decide) rfl) (a := 1) (n := 21) rfl rfl rfl ?_
  refine r_putf act (gx gp_70 (w := 0x3001813) rfl (by decide) rfl) (n := 24) (ci := 3) (j := 0) (N := 6) rfl rfl rfl ((shp_wr _ _ _ _ _).trans ((shp_wr _ _ _ _ _).trans hk2)) (by decide) (Or.inl ⟨rfl, _, rfl⟩) ?_
  refine g_loadA act (gx gp_70 (w := 0x1903) rfl (by decide) rfl) (a := 0) (n := 25) rfl rfl rfl ?_
  refine g_loadI act (gx gp_70 (w := 0x2001a02) rfl (by decide) rfl) (a := 2) (n := 26) rfl rfl rfl ?_
  refine r_putf act (gx gp_70 (w := 0x1000043001d13) rfl (by decide) rfl) (n := 29) (ci := 3) (j := 1) (N := 6) rfl rfl rfl ((shp_wr _ _ _ _ _).trans ((shp_wr _ _ _ _ _).trans ((shp_wr _ _ _ _ _).trans hk2))) (by decide) (Or.inr (Or.inl ⟨rfl, hz01⟩)) ?_
  refine g_loadA act (gx gp_70 (w := 0x1e03) rfl (by decide) rfl) (a := 0) (n := 30) rfl rfl rfl ?_
  refine g_loadA act (gx gp_70 (w := 0x3001f03) rfl (by decide) rfl) (a := 3) (n := 31) rfl rfl rfl ?_
  refine r_putf act (gx gp_70 (w := 0x3000083002213) rfl (by decide) rfl) (n := 34) (ci := 3) (j := 2) (N := 6) rfl rfl rfl ((shp_wr _ _ _ _ _).trans ((shp_wr _ _ _ _ _).trans ((shp_wr _ _ _ _ _).trans ((shp_wr _ _ _ _ _).trans hk2)))) (by decide) (Or.inr (Or.inr (Or.inr ⟨rfl, Or.inr ⟨_, rfl⟩⟩))) ?_
  refine g_loadA act (gx gp_70 (w := 0x2303) rfl (by decide) rfl) (a := 0) (n := 35) rfl rfl rfl ?_
  refine g_loadA act (gx gp_70 (w := 0x4002503) rfl (by decide) rfl) (a := 4) (n := 37) rfl rfl rfl ?_
  refine r_putf act (gx gp_70 (w := 0x30000c3002813) rfl (by decide) rfl) (n := 40) (ci := 3) (j := 3) (N := 6) rfl rfl rfl ((shp_wr _ _ _ _ _).trans ((shp_wr _ _ _ _ _).trans ((shp_wr _ _ _ _ _).trans ((shp_wr _ _ _ _ _).trans ((shp_wr _ _ _ _ _).trans hk2))))) (by decide) (Or.inr (Or.inr (Or.inr ⟨rfl, Or.inr ⟨_, rfl⟩⟩))) ?_
  exact g_retV hEnd (gx gp_70 (w := 0x18) rfl (by decide) rfl) ⟨rfl, rfl, hfin⟩ (by show kc + 1 + 1 ≤ kc + 2; omega) (by show ks + 4 + 4 ≤ ks + 11 * 2; omega)

theorem sj_5 {Inv : List Nat → List CE → Prop} (hI : StI KD Inv) : SemI KD Inv ci_5 := by
  refine ⟨D_70, rfl, rfl, by decide, by decide, fun g0 bl xs l hs R0 σ as k hTY hT hInv hlen h0 hk0 hE hA => ?_⟩
  obtain ⟨v0, S0, rfl, m0, v1, S1, rfl, m1, v2, S2, rfl, m2, v3, S3, rfl, m3, hz⟩ := hA
  have hz : S3 = [] := hz
  subst hz
  obtain ⟨i9, rfl, -, e0⟩ := m0.int rfl
  have b0 := hE 0 (by decide)
  have e0 : i9.toInt = σ 0 + 0 := e0
  have y0 : 0 ≤ σ 0 ∧ σ 0 ≤ 3 := ⟨b0.1, b0.2.1⟩
  obtain ⟨z9, rfl, -, e1⟩ := m1.int rfl
  have b1 := hE 1 (by decide)
  have e1 : z9.toInt = σ 1 + 0 := e1
  have y1 : 0 ≤ σ 1 ∧ σ 1 ≤ 1 := ⟨b1.1, b1.2.1⟩
  have hz01 : (.int z9 : Value) = .int 0 ∨ (.int z9 : Value) = .int 1 := by
    rcases i01 (x := z9) (by omega) (by omega) with rfl | rfl
    · exact Or.inl rfl
    · exact Or.inr rfl
  obtain ⟨c9, rfl, rc, -⟩ := (m2.rf3 rfl).one rfl
  have rc : R0[c9]? = some 9 := rc
  obtain ⟨o9, rfl, ro9, -⟩ := (m3.rf3 rfl).one rfl
  have ro9 : R0[o9]? = some 52 := ro9
  have hk0' := shp_of hk0
  have hk0' : shp hs k = some (3, 6) := hk0'
  have hlen : hs.length + 2 ≤ 6999999999999 := hlen
  have kl := shp_lt hk0'
  have la1 : (hs ++ [((35, 4, dfN 35) : CE)]).length = hs.length + 1 := List.length_append
  have hk1 : shp (hs ++ [((35, 4, dfN 35) : CE)]) k = some (3, 6) := (shp_app kl).trans hk0'
  have hk2 : shp (hs ++ [((35, 4, dfN 35) : CE)] ++ [((41, 4, dfN 41) : CE)]) k = some (3, 6) := (shp_app (by rw [la1]; omega)).trans hk1
  have T1 : HTy KD (R0 ++ [51]) (hs ++ [((35, 4, dfN 35) : CE)]) := hT.app (by decide) rfl rfl (fun j hj => show VT _ _ (1, 0, 0, 1) (dfN 35 j) from vt_int (x := 0) rfl (by decide) (by decide))
  have T2 : HTy KD (R0 ++ [51] ++ [53]) (hs ++ [((35, 4, dfN 35) : CE)] ++ [((41, 4, dfN 41) : CE)]) := T1.app (by decide) rfl rfl (fun j hj => show VT _ _ (4, 9, 0, 0) (dfN 41 j) from Or.inr (Or.inr (Or.inr (Or.inr (Or.inl ⟨rfl, Or.inl rfl⟩)))))
  have ra : ∀ k' r' : Nat, R0[k']? = some r' → (R0 ++ [51] ++ [53])[k']? = some r' := fun k' r' h => by
    have hl := (List.getElem?_eq_some_iff.mp h).1
    rw [List.getElem?_append_left (by rw [List.length_append]; exact Nat.lt_of_lt_of_le hl (Nat.le_add_right _ _)), List.getElem?_append_left hl]
    exact h
  have rs : ∀ k' r' : Nat, (R0 ++ [51] ++ [53])[k']? = some r' → k' ≠ k → ((R0 ++ [51] ++ [53]).set k 4)[k']? = some r' := fun k' r' h hne => by
    rw [List.getElem?_set_ne (fun z => hne z.symm)]; exact h
  have r51 : (R0 ++ [51] ++ [53])[hs.length]? = some 51 := by
    rw [← hT.1, List.getElem?_append_left (by rw [List.length_append]; exact Nat.lt_succ_self _), List.getElem?_append_right (Nat.le_refl _), Nat.sub_self]
    rfl
  have r53 : (R0 ++ [51] ++ [53])[hs.length + 1]? = some 53 := by
    rw [← hT.1, List.getElem?_append_right (by rw [List.length_append]; exact Nat.le_refl _), List.length_append]
    show ([53] : List Nat)[R0.length + 1 - (R0.length + 1)]? = some 53
    rw [Nat.sub_self]
    rfl
  have hR5 : ∀ k' r' : Nat, r' = 5 ∨ 400 ≤ r' → (R0 ++ [51] ++ [53])[k']? = some r' → R0[k']? = some r' := fun k' r9 hr9 h => by
    rcases Nat.lt_trichotomy k' R0.length with q | q | q
    · rw [List.getElem?_append_left (by rw [List.length_append]; exact Nat.lt_of_lt_of_le q (Nat.le_add_right _ _)), List.getElem?_append_left q] at h
      exact h
    · rw [q, hT.1, r51] at h; cases h; exact absurd hr9 (by decide)
    · rcases Nat.eq_or_lt_of_le (Nat.succ_le_of_lt q) with q2 | q2
      · rw [← q2, hT.1, r53] at h; cases h; exact absurd hr9 (by decide)
      · rw [List.getElem?_eq_none (by rw [List.length_append, List.length_append]; exact q2)] at h; cases h
  have hfin := ini_end (mc := 2) (r := 4) (h2 := (wr (wr (wr (wr (wr (wr (hs ++ [((35, 4, dfN 35) : CE)] ++ [((41, 4, dfN 41) : CE)]) k 4 (.ref hs.length)) k 5 (.ref (hs.length + 1))) k 0 (.int i9)) k 1 (.int z9)) k 2 (.ref c9)) k 3 (.ref o9))) hI hInv hT h0 ra (fun k' r' h => by
    have hl : k' < hs.length := by rw [← hT.1]; exact (List.getElem?_eq_some_iff.mp h).1
    rw [List.getElem?_append_left (by rw [la1]; omega), List.getElem?_append_left hl]) T2 (by decide) (by decide) hR5 (wr_len2 (l := [(4, (.ref hs.length)), (5, (.ref (hs.length + 1))), (0, (.int i9)), (1, (.int z9)), (2, (.ref c9)), (3, (.ref o9))])) (by rw [List.length_append, la1]; exact Nat.le_refl _) (fun k9 h9 => wr_ne2 (l := [(4, (.ref hs.length)), (5, (.ref (hs.length + 1))), (0, (.int i9)), (1, (.int z9)), (2, (.ref c9)), (3, (.ref o9))]) h9) ((wr_shp2 (l := [(4, (.ref hs.length)), (5, (.ref (hs.length + 1))), (0, (.int i9)), (1, (.int z9)), (2, (.ref c9)), (3, (.ref o9))])).trans hk2) (fun j hj => by
    match j, hj with
    | 0, _ => show VT _ _ _ (rd _ k 0); rw [rd_ne _ _ (Or.inr (by decide))]; rw [rd_ne _ _ (Or.inr (by decide))]; rw [rd_ne _ _ (Or.inr (by decide))]; rw [rd_same ((shp_wr _ _ _ _ _).trans ((shp_wr _ _ _ _ _).trans hk2))]; exact vt_int rfl (by show (0 : Int) ≤ _; omega) (by show _ ≤ (3 : Int); omega)
    | 1, _ => show VT _ _ _ (rd _ k 1); rw [rd_ne _ _ (Or.inr (by decide))]; rw [rd_ne _ _ (Or.inr (by decide))]; rw [rd_same ((shp_wr _ _ _ _ _).trans ((shp_wr _ _ _ _ _).trans ((shp_wr _ _ _ _ _).trans hk2)))]; exact vt_int rfl (by show (0 : Int) ≤ _; omega) (by show _ ≤ (1 : Int); omega)
    | 2, _ => show VT _ _ _ (rd _ k 2); rw [rd_ne _ _ (Or.inr (by decide))]; rw [rd_same ((shp_wr _ _ _ _ _).trans ((shp_wr _ _ _ _ _).trans ((shp_wr _ _ _ _ _).trans ((shp_wr _ _ _ _ _).trans hk2))))]; exact Or.inr (Or.inr (Or.inr (Or.inl ⟨rfl, _, 9, rfl, rs c9 9 (ra c9 9 rc) (role_ne rc h0 (by decide)), by decide, by decide⟩)))
    | 3, _ => show VT _ _ _ (rd _ k 3); rw [rd_same ((shp_wr _ _ _ _ _).trans ((shp_wr _ _ _ _ _).trans ((shp_wr _ _ _ _ _).trans ((shp_wr _ _ _ _ _).trans ((shp_wr _ _ _ _ _).trans hk2)))))]; exact Or.inr (Or.inr (Or.inr (Or.inl ⟨rfl, _, 52, rfl, rs o9 52 (ra o9 52 ro9) (role_ne ro9 h0 (by decide)), by decide, by decide⟩)))
    | 4, _ => show VT _ _ _ (rd _ k 4); rw [rd_ne _ _ (Or.inr (by decide))]; rw [rd_ne _ _ (Or.inr (by decide))]; rw [rd_ne _ _ (Or.inr (by decide))]; rw [rd_ne _ _ (Or.inr (by decide))]; rw [rd_ne _ _ (Or.inr (by decide))]; rw [rd_same hk2]; exact Or.inr (Or.inr (Or.inr (Or.inl ⟨rfl, _, 51, rfl, rs _ 51 r51 (by omega), by decide, by decide⟩)))
    | 5, _ => show VT _ _ _ (rd _ k 5); rw [rd_ne _ _ (Or.inr (by decide))]; rw [rd_ne _ _ (Or.inr (by decide))]; rw [rd_ne _ _ (Or.inr (by decide))]; rw [rd_ne _ _ (Or.inr (by decide))]; rw [rd_same ((shp_wr _ _ _ _ _).trans hk2)]; exact Or.inr (Or.inr (Or.inr (Or.inl ⟨rfl, _, 53, rfl, rs _ 53 r53 (by omega), by decide, by decide⟩)))
    | j + 6, hj => exact absurd hj (by show ¬ (j + 6 < 6); omega))
  intro wp p e R s m args below meth c Q kc0 ks0 kc ks act hf hl hc hsl hEnd
  have hf : 1 ≤ R.frames := hf
  have hl : 12 ≤ R.locals := hl
  have hc : kc + 2 ≤ R.cells + kc0 := hc
  have hsl : ks + 11 * 2 ≤ R.slots + ks0 := hsl
  have hTY : TYg (gp g0 wp) := hTY
  show WpN (gp g0 wp) CLS p l e R s m args below meth c Q D_70.2.2.1 kc0 ks0 0 [some (.ref k), some (.int i9), some (.int z9), some (.ref c9), some (.ref o9)] (hs, kc, ks) []
  refine g_loadA act (gx gp_70 (w := 0x103) rfl (by decide) rfl) (a := 0) (n := 1) rfl rfl rfl ?_
  refine n_objinit act (gx gp_70 (w := 0x429) rfl (by decide) rfl) (by omega) (by show (0 : Nat) + 12 ≤ R.locals; omega) rfl ?_
  refine g_loadA act (gx gp_70 (w := 0x503) rfl (by decide) rfl) (a := 0) (n := 5) rfl rfl rfl ?_
  refine g_constI act (gx gp_70 (w := 0x40000002400000021000000000601) rfl (by decide) rfl) (n := 6) (x := (4 : Int32)) (by decide) rfl ?_
  refine r_newa act hTY (gx gp_70 (w := 0x2300081c) rfl (by decide) rfl) (n := 8) (N := 4) (kd := 35) (by decide) (by decide) (by decide) (by omega) (by omega) (by omega) rfl ?_
  refine r_putf act (gx gp_70 (w := 0x3000103000b13) rfl (by decide) rfl) (n := 11) (ci := 3) (j := 4) (N := 6) rfl rfl rfl hk1 (by decide) (Or.inr (Or.inr (Or.inr ⟨rfl, Or.inr ⟨_, rfl⟩⟩))) ?_
  refine g_loadA act (gx gp_70 (w := 0xc03) rfl (by decide) rfl) (a := 0) (n := 12) rfl rfl rfl ?_
  refine g_constI act (gx gp_70 (w := 0x40000002400000021000000000d01) rfl (by decide) rfl) (n := 13) (x := (4 : Int32)) (by decide) rfl ?_
  refine r_newa act hTY (gx gp_70 (w := 0x2900101c) rfl (by decide) rfl) (n := 16) (N := 4) (kd := 41) (by decide) (by decide) (by decide) (by rw [wr_len, la1]; omega) (by omega) (by omega) rfl ?_
  rw [wr_app (by rw [la1]; omega), wr_len, la1]
  refine r_putf act (gx gp_70 (w := 0x3000143001313) rfl (by decide) rfl) (n := 19) (ci := 3) (j := 5) (N := 6) rfl rfl rfl ((shp_wr _ _ _ _ _).trans hk2) (by decide) (Or.inr (Or.inr (Or.inr ⟨rfl, Or.inr ⟨_, rfl⟩⟩))) ?_
  refine g_loadA act (gx gp_70 (w := 0x1403) rfl (by decide) rfl) (a := 0) (n := 20) rfl rfl rfl ?_
  refine g_loadI act (gx gp_70 (w := 0x1001502) rfl (by decide) rfl) (a := 1) (n := 21) rfl rfl rfl ?_
  refine r_putf act (gx gp_70 (w := 0x3001813) rfl (by decide) rfl) (n := 24) (ci := 3) (j := 0) (N := 6) rfl rfl rfl ((shp_wr _ _ _ _ _).trans ((shp_wr _ _ _ _ _).trans hk2)) (by decide) (Or.inl ⟨rfl, _, rfl⟩) ?_
  refine g_loadA act (gx gp_70 (w := 0x1903) rfl (by decide) rfl) (a := 0) (n := 25) rfl rfl rfl ?_
  refine g_loadI act (gx gp_70 (w := 0x2001a02) rfl (by decide) rfl) (a := 2) (n := 26) rfl rfl rfl ?_
  refine r_putf act (gx gp_70 (w := 0x1000043001d13) rfl (by decide) rfl) (n := 29) (ci := 3) (j := 1) (N := 6) rfl rfl rfl ((shp_wr _ _ _ _ _).trans ((shp_wr _ _ _ _ _).trans ((shp_wr _ _ _ _ _).trans hk2))) (by decide) (Or.inr (Or.inl ⟨rfl, hz01⟩)) ?_
  refine g_loadA act (gx gp_70 (w := 0x1e03) rfl (by decide) rfl) (a := 0) (n := 30) rfl rfl rfl ?_
  refine g_loadA act (gx gp_70 (w := 0x3001f03) rfl (by decide) rfl) (a := 3) (n := 31) rfl rfl rfl ?_
  refine r_putf act (gx gp_70 (w := 0x3000083002213) rfl (by decide) rfl) (n := 34) (ci := 3) (j := 2) (N := 6) rfl rfl rfl ((shp_wr _ _ _ _ _).trans ((shp_wr _ _ _ _ _).trans ((shp_wr _ _ _ _ _).trans ((shp_wr _ _ _ _ _).trans hk2)))) (by decide) (Or.inr (Or.inr (Or.inr ⟨rfl, Or.inr ⟨_, rfl⟩⟩))) ?_
  refine g_loadA act (gx gp_70 (w := 0x2303) rfl (by decide) rfl) (a := 0) (n := 35) rfl rfl rfl ?_
  refine g_loadA act (gx gp_70 (w := 0x4002503) rfl (by decide) rfl) (a := 4) (n := 37) rfl rfl rfl ?_
  refine r_putf act (gx gp_70 (w := 0x30000c3002813) rfl (by decide) rfl) (n := 40) (ci := 3) (j := 3) (N := 6) rfl rfl rfl ((shp_wr _ _ _ _ _).trans ((shp_wr _ _ _ _ _).trans ((shp_wr _ _ _ _ _).trans ((shp_wr _ _ _ _ _).trans ((shp_wr _ _ _ _ _).trans hk2))))) (by decide) (Or.inr (Or.inr (Or.inr ⟨rfl, Or.inr ⟨_, rfl⟩⟩))) ?_
  exact g_retV hEnd (gx gp_70 (w := 0x18) rfl (by decide) rfl) ⟨rfl, rfl, hfin⟩ (by show kc + 1 + 1 ≤ kc + 2; omega) (by show ks + 4 + 4 ≤ ks + 11 * 2; omega)


/-! ArrayList.add keeps the list of changes. -/
theorem lsy_hx {R R' : List Nat} {hs h2 : List CE} (hInv : InvC R hs) (hT : HTy KC R' h2) (hR : ∀ k r : Nat, R[k]? = some r → R'[k]? = some r) (hh : ∀ k r : Nat, R[k]? = some r → r ≠ 401 → r ≠ 402 → h2[k]? = hs[k]?) (h5 : ∀ k : Nat, R'[k]? = some 5 → R[k]? = some 5) (hL : InvL R' h2) : HX KC InvC R hs R' h2 := by
  refine ⟨hT, hR, fun k r h1 h2 => hh k r h1 (fun z => by subst z; exact absurd h2 (by decide)) (fun z => by subst z; exact absurd h2 (by decide)), fun k hk => ?_, hL⟩
  have hk := h5 k hk
  obtain ⟨n, kl, e1, e2, e3, e4, e5⟩ := hInv.1 k hk
  have q1 : ∀ j, rd h2 k j = rd hs k j := fun j => by unfold rd; rw [hh k 5 hk (by decide) (by decide)]
  have q2 : ∀ j, rd h2 kl j = rd hs kl j := fun j => by unfold rd; rw [hh kl 46 e3 (by decide) (by decide)]
  exact ⟨n, kl, (q1 2).trans e1, (q1 8).trans e2, hR _ _ e3, e4, fun j hj => by rw [q2]; exact e5 j hj⟩
section LAD2
variable {g0 : GG} {bl : Nat} {xs : Nat → Int32} {l : Launch} {hs : List CE} {k ka ke : Nat} {n9 m9 : Int32}

theorem b_ad1A (hk : shp hs k = some (10, 3)) (e0 : rd hs k 0 = .ref ka) (e1 : rd hs k 1 = .int n9) (e2 : rd hs k 2 = .int m9) (he : shp hs ke = some (8, 5)) (ha : shp hs ka = some (39, 10)) (n0 : 0 ≤ n9.toInt) (hn : n9.toInt ≤ 9) : BodyN SSX TBL g0 CLS bl xs l D_293 4 87 1 10 [.ref k, .ref ke] hs (fun kd r h2 => kd = 0 ∧ r = some (.int 1) ∧ h2 = (wr (wr (wr hs k 2 (.int (m9 + (1 : Int32)))) ka n9.toInt.toNat (.ref ke)) k 1 (.int (n9 + (1 : Int32))))) := by
  intro wp p e R s m args below meth c Q kc0 ks0 kc ks act hf hl hc hsl hEnd
  have hf : 4 ≤ R.frames := hf
  have hl : 87 ≤ R.locals := hl
  show WpN (gp g0 wp) CLS p l e R s m args below meth c Q D_293.2.2.1 kc0 ks0 0 [some (.ref k), some (.ref ke)] (hs, kc, ks) []
  refine g_loadA act (gx gp_293 (w := 0x103) rfl (by decide) rfl) (a := 0) (n := 1) rfl rfl rfl ?_
  refine g_dup act (gx gp_293 (w := 0x222) rfl (by decide) rfl) (n := 2) rfl rfl ?_
  refine r_getf act (gx gp_293 (w := 0x8a000504) rfl (by decide) rfl) (n := 5) (ci := 10) (j := 2) (N := 3) rfl rfl rfl hk (by decide) (v := .int m9) e2 ?_
  refine g_constI act (gx gp_293 (w := 0x40000000c00000009000000000601) rfl (by decide) rfl) (n := 6) (x := (1 : Int32)) (by decide) rfl ?_
  refine g_iadd act (gx gp_293 (w := 0x70a) rfl (by decide) rfl) (n := 7) rfl ?_
  refine r_putf act (gx gp_293 (w := 0x8a000a13) rfl (by decide) rfl) (n := 10) (ci := 10) (j := 2) (N := 3) rfl rfl rfl hk (by decide) (Or.inl ⟨rfl, _, rfl⟩) ?_
  refine g_loadA act (gx gp_293 (w := 0xb03) rfl (by decide) rfl) (a := 0) (n := 11) rfl rfl rfl ?_
  refine g_loadA act (gx gp_293 (w := 0x1000c03) rfl (by decide) rfl) (a := 1) (n := 12) rfl rfl rfl ?_
  refine g_loadA act (gx gp_293 (w := 0xd03) rfl (by decide) rfl) (a := 0) (n := 13) rfl rfl rfl ?_
  refine r_getf act (gx gp_293 (w := 0x300000a001004) rfl (by decide) rfl) (n := 16) (ci := 10) (j := 0) (N := 3) rfl rfl rfl (by rw [shp_wr]; exact hk) (by decide) (v := .ref ka) (by rw [rd_ne _ _ (Or.inr (by decide))]; exact e0) ?_
  refine g_loadA act (gx gp_293 (w := 0x1103) rfl (by decide) rfl) (a := 0) (n := 17) rfl rfl rfl ?_
  refine r_getf act (gx gp_293 (w := 0x4a001404) rfl (by decide) rfl) (n := 20) (ci := 10) (j := 1) (N := 3) rfl rfl rfl (by rw [shp_wr]; exact hk) (by decide) (v := .int n9) (by rw [rd_ne _ _ (Or.inr (by decide))]; exact e1) ?_
  refine n_call tb_pres act hEnd (gx (P := G_call) gp_293 (w := 0xb0000000000008104400012600170f) rfl (by decide) rfl) (d' := D_294) rfl (f' := 3) (lam' := 64) (mc := 1) (ms := 10) (as := [.ref k, .ref ke, .ref ka, .int n9]) (rest := []) (b_ad3A (by rw [shp_wr]; exact hk) (by rw [shp_wr]; exact ha) (by rw [shp_wr]; exact he) n0 hn) (show (4 : Nat) = fb 0xb0000000000008104400012600170f % 16 by decide) (by show (4 : Nat) ≤ 4; decide) (fun _ => ⟨_, _, rfl, _, shp_at (show shp _ k = some (10, 3) by rw [shp_wr]; exact hk), Or.inr (show fb 0xb0000000000008104400012600170f >>> 68 = 11 by decide)⟩) (by omega) (by show 8 + (4 + 11) + 64 ≤ R.locals; omega) (by show (0 : Nat) ≤ 8; decide) (by show kc + 1 ≤ _; omega) (by show ks + 10 ≤ _; omega) (fun r9 hs9 hpo hr9 => ?_) (fun x9 hs9 hx9 hpo => ?_)
  · obtain rfl : r9 = none := hr9.elim (fun q => q.2) (fun q => absurd rfl q.1)
    obtain ⟨-, -, rfl⟩ := hpo
    show WpN (gp g0 wp) CLS p l e R s m args below meth c Q D_293.2.2.1 kc0 ks0 23 [some (.ref k), some (.ref ke)] ((wr (wr (wr hs k 2 (.int (m9 + (1 : Int32)))) ka n9.toInt.toNat (.ref ke)) k 1 (.int (n9 + (1 : Int32)))), kc + 1, ks + 10) []
    refine g_constI act (gx gp_293 (w := 0x40000000c00000009000000001801) rfl (by decide) rfl) (n := 24) (x := (1 : Int32)) (by decide) rfl ?_
    exact g_retZ hEnd (gx gp_293 (w := 0x23) rfl (by decide) rfl) (Or.inr rfl) ⟨rfl, rfl, rfl⟩ (by show kc + 1 ≤ kc + 1; omega) (by show ks + 10 ≤ ks + 10; omega)
  · exact absurd hpo.1 (by omega)

theorem b_ad1B (hk : shp hs k = some (10, 3)) (e0 : rd hs k 0 = .ref 7000000000002) (e1 : rd hs k 1 = .int n9) (e2 : rd hs k 2 = .int m9) (he : shp hs ke = some (8, 5)) (hTY0 : TYg g0) (hlen : hs.length + 1 ≤ 6999999999999) (hn : n9.toInt = 0) : BodyN SSX TBL g0 CLS bl xs l D_293 4 87 1 10 [.ref k, .ref ke] hs (fun kd r h2 => kd = 0 ∧ r = some (.int 1) ∧ h2 = (wr (wr (wr ((wr hs k 2 (.int (m9 + (1 : Int32)))) ++ [((39, 10, dfN 39) : CE)]) k 0 (.ref (wr hs k 2 (.int (m9 + (1 : Int32)))).length)) (wr hs k 2 (.int (m9 + (1 : Int32)))).length 0 (.ref ke)) k 1 (.int (n9 + (1 : Int32))))) := by
  intro wp p e R s m args below meth c Q kc0 ks0 kc ks act hf hl hc hsl hEnd
  have hf : 4 ≤ R.frames := hf
  have hl : 87 ≤ R.locals := hl
  have hTY : TYg (gp g0 wp) := hTY0
  show WpN (gp g0 wp) CLS p l e R s m args below meth c Q D_293.2.2.1 kc0 ks0 0 [some (.ref k), some (.ref ke)] (hs, kc, ks) []
  refine g_loadA act (gx gp_293 (w := 0x103) rfl (by decide) rfl) (a := 0) (n := 1) rfl rfl rfl ?_
  refine g_dup act (gx gp_293 (w := 0x222) rfl (by decide) rfl) (n := 2) rfl rfl ?_
  refine r_getf act (gx gp_293 (w := 0x8a000504) rfl (by decide) rfl) (n := 5) (ci := 10) (j := 2) (N := 3) rfl rfl rfl hk (by decide) (v := .int m9) e2 ?_
  refine g_constI act (gx gp_293 (w := 0x40000000c00000009000000000601) rfl (by decide) rfl) (n := 6) (x := (1 : Int32)) (by decide) rfl ?_
  refine g_iadd act (gx gp_293 (w := 0x70a) rfl (by decide) rfl) (n := 7) rfl ?_
  refine r_putf act (gx gp_293 (w := 0x8a000a13) rfl (by decide) rfl) (n := 10) (ci := 10) (j := 2) (N := 3) rfl rfl rfl hk (by decide) (Or.inl ⟨rfl, _, rfl⟩) ?_
  refine g_loadA act (gx gp_293 (w := 0xb03) rfl (by decide) rfl) (a := 0) (n := 11) rfl rfl rfl ?_
  refine g_loadA act (gx gp_293 (w := 0x1000c03) rfl (by decide) rfl) (a := 1) (n := 12) rfl rfl rfl ?_
  refine g_loadA act (gx gp_293 (w := 0xd03) rfl (by decide) rfl) (a := 0) (n := 13) rfl rfl rfl ?_
  refine r_getf act (gx gp_293 (w := 0x300000a001004) rfl (by decide) rfl) (n := 16) (ci := 10) (j := 0) (N := 3) rfl rfl rfl (by rw [shp_wr]; exact hk) (by decide) (v := .ref 7000000000002) (by rw [rd_ne _ _ (Or.inr (by decide))]; exact e0) ?_
  refine g_loadA act (gx gp_293 (w := 0x1103) rfl (by decide) rfl) (a := 0) (n := 17) rfl rfl rfl ?_
  refine r_getf act (gx gp_293 (w := 0x4a001404) rfl (by decide) rfl) (n := 20) (ci := 10) (j := 1) (N := 3) rfl rfl rfl (by rw [shp_wr]; exact hk) (by decide) (v := .int n9) (by rw [rd_ne _ _ (Or.inr (by decide))]; exact e1) ?_
  refine n_call tb_pres act hEnd (gx (P := G_call) gp_293 (w := 0xb0000000000008104400012600170f) rfl (by decide) rfl) (d' := D_294) rfl (f' := 3) (lam' := 64) (mc := 1) (ms := 10) (as := [.ref k, .ref ke, .ref 7000000000002, .int n9]) (rest := []) (b_ad3B (n9 := n9) hTY (by rw [wr_len]; exact hlen) (by rw [shp_wr]; exact hk) (by rw [rd_ne _ _ (Or.inr (by decide))]; exact e0) (by rw [rd_ne _ _ (Or.inr (by decide))]; exact e1) hn (by rw [shp_wr]; exact he)) (show (4 : Nat) = fb 0xb0000000000008104400012600170f % 16 by decide) (by show (4 : Nat) ≤ 4; decide) (fun _ => ⟨_, _, rfl, _, shp_at (show shp _ k = some (10, 3) by rw [shp_wr]; exact hk), Or.inr (show fb 0xb0000000000008104400012600170f >>> 68 = 11 by decide)⟩) (by omega) (by show 8 + (4 + 11) + 64 ≤ R.locals; omega) (by show (0 : Nat) ≤ 8; decide) (by show kc + 1 ≤ _; omega) (by show ks + 10 ≤ _; omega) (fun r9 hs9 hpo hr9 => ?_) (fun x9 hs9 hx9 hpo => ?_)
  · obtain rfl : r9 = none := hr9.elim (fun q => q.2) (fun q => absurd rfl q.1)
    obtain ⟨-, -, rfl⟩ := hpo
    show WpN (gp g0 wp) CLS p l e R s m args below meth c Q D_293.2.2.1 kc0 ks0 23 [some (.ref k), some (.ref ke)] ((wr (wr (wr ((wr hs k 2 (.int (m9 + (1 : Int32)))) ++ [((39, 10, dfN 39) : CE)]) k 0 (.ref (wr hs k 2 (.int (m9 + (1 : Int32)))).length)) (wr hs k 2 (.int (m9 + (1 : Int32)))).length 0 (.ref ke)) k 1 (.int (n9 + (1 : Int32)))), kc + 1, ks + 10) []
    refine g_constI act (gx gp_293 (w := 0x40000000c00000009000000001801) rfl (by decide) rfl) (n := 24) (x := (1 : Int32)) (by decide) rfl ?_
    exact g_retZ hEnd (gx gp_293 (w := 0x23) rfl (by decide) rfl) (Or.inr rfl) ⟨rfl, rfl, rfl⟩ (by show kc + 1 ≤ kc + 1; omega) (by show ks + 10 ≤ ks + 10; omega)
  · exact absurd hpo.1 (by omega)

theorem b_addL {R0 : List Nat} {rc : Nat} (hTY : TYg g0) (hlen : hs.length + 1 ≤ 6999999999999) (hT : HTy KC R0 hs) (hInv : InvC R0 hs) (hk4 : R0[k]? = some 401) (e1 : rd hs k 1 = .int n9) (hn : n9.toInt ≤ 9) (hke : R0[ke]? = some rc) (r1 : 20 ≤ rc) (r2 : rc ≤ 24) : BodyN SSX TBL g0 CLS bl xs l D_293 4 87 1 11 [.ref k, .ref ke] hs (fun kd r h2 => kd = 0 ∧ r = some (.int 1) ∧ ∃ R' : List Nat, HX KC InvC R0 hs R' h2 ∧ h2.length ≤ hs.length + 1 ∧ ∀ q ∈ KC.2.2, rd h2 q.2.1 q.2.2 = rd hs q.2.1 q.2.2) := by
  have hk : shp hs k = some (10, 3) := ty_shp hT hk4 (by decide) rfl rfl
  have he : shp hs ke = some (8, 5) := by
    have : rc = 20 ∨ rc = 21 ∨ rc = 22 ∨ rc = 23 ∨ rc = 24 := by omega
    rcases this with rfl | rfl | rfl | rfl | rfl <;> exact ty_shp hT hke (by decide) rfl rfl
  obtain ⟨n, m, w1, e2, n0, n10, w5⟩ := hInv.2.2 k hk4
  rw [e1] at w1
  cases w1
  have en : (n9 + (1 : Int32)).toInt = n9.toInt + 1 := i_add (by show _ ≤ _ + (1 : Int); omega) (by show _ + (1 : Int) < _; omega)
  have up : ∀ {ms' : Nat} {PO : Nat → Option Value → List CE → Prop}, ms' = 10 → BodyN SSX TBL g0 CLS bl xs l D_293 4 87 1 ms' [.ref k, .ref ke] hs PO → BodyN SSX TBL g0 CLS bl xs l D_293 4 87 1 11 [.ref k, .ref ke] hs PO := by
    intro ms' PO h9 hB wp p e R s m args below meth c Q kc0 ks0 kc ks act hf hl hc hsl hEnd
    subst h9
    exact hB wp p e R s m args below meth c Q kc0 ks0 kc ks act hf hl hc (by omega) ⟨fun pc L h S r a b c d => hEnd.1 pc L h S r a b c (by omega), fun pc x L h a b c d e f g => hEnd.2.1 pc x L h a b c d (by omega) f g, fun pc x L h S a b c d e => hEnd.2.2 pc x L h S a b c d (by omega)⟩
  rcases w5 with ⟨e0, z0⟩ | ⟨ka, e0, ra, hel⟩
  · refine (up rfl (b_ad1B hk e0 e1 e2 he hTY hlen z0)).imp ?_
    rintro kd r h2 ⟨rfl, rfl, rfl⟩
    have T1 : HTy KC R0 (wr hs k 2 (.int (m + (1 : Int32)))) := hT.wr hk4 (by decide) (Or.inl rfl)
    have T2 := T1.app (r := 402) (c := ((39, 10, dfN 39) : CE)) (by decide) rfl rfl (fun _ _ => Or.inl rfl)
    have l1 : (wr hs k 2 (.int (m + (1 : Int32)))).length = hs.length := wr_len _ _ _ _
    have hk5 : (R0 ++ [402])[k]? = some 401 := app_keep _ _ hk4
    have hkn : (R0 ++ [402])[(wr hs k 2 (.int (m + (1 : Int32)))).length]? = some 402 := by rw [l1, ← hT.1]; exact app_role
    have T3 := T2.wr (j := 0) (v := .ref (wr hs k 2 (.int (m + (1 : Int32)))).length) hk5 (by decide) (Or.inl rfl)
    have T4 := T3.wr (j := 0) (v := .ref ke) hkn (by decide) (Or.inl rfl)
    have T5 := T4.wr (j := 1) (v := .int (n9 + (1 : Int32))) hk5 (by decide) (Or.inl rfl)
    have klt := shp_lt hk
    have hkne : k ≠ (wr hs k 2 (.int (m + (1 : Int32)))).length := by rw [l1]; omega
    have hshn : shp ((wr hs k 2 (.int (m + (1 : Int32)))) ++ [((39, 10, dfN 39) : CE)]) k = some (10, 3) := by rw [shp_app (by rw [l1]; exact klt), shp_wr]; exact hk
    have hfr : ∀ k' r' : Nat, R0[k']? = some r' → r' ≠ 401 → (wr (wr (wr ((wr hs k 2 (.int (m + (1 : Int32)))) ++ [((39, 10, dfN 39) : CE)]) k 0 (.ref (wr hs k 2 (.int (m + (1 : Int32)))).length)) (wr hs k 2 (.int (m + (1 : Int32)))).length 0 (.ref ke)) k 1 (.int (n9 + (1 : Int32))))[k']? = hs[k']? := fun k' r' h1 h2 => by
      have hl := (List.getElem?_eq_some_iff.mp h1).1
      have hne : k ≠ k' := fun z => by subst z; rw [hk4] at h1; cases h1; exact h2 rfl
      have hne2 : (wr hs k 2 (.int (m + (1 : Int32)))).length ≠ k' := by rw [l1, ← hT.1]; omega
      rw [wr_ne hne, wr_ne hne2, wr_ne hne, List.getElem?_append_left (by rw [l1, ← hT.1]; exact hl), wr_ne hne]
    refine ⟨rfl, rfl, R0 ++ [402], lsy_hx hInv T5 app_keep (fun k' r' h1 h2 _ => hfr k' r' h1 h2) (fun k' h => ?_) ⟨?_, ?_⟩, by rw [wr_len, wr_len, wr_len, List.length_append, l1]; exact Nat.le_refl _, fun q hq => ?_⟩
    · rcases Nat.lt_trichotomy k' R0.length with q | q | q
      · rwa [List.getElem?_append_left q] at h
      · rw [q, app_role] at h; cases h
      · rw [List.getElem?_eq_none (by rw [List.length_append]; exact q)] at h; cases h
    · have o4 : ∀ k' : Nat, (R0 ++ [402])[k']? = some 401 → R0[k']? = some 401 := fun k' h => by
        rcases Nat.lt_trichotomy k' R0.length with q | q | q
        · rwa [List.getElem?_append_left q] at h
        · rw [q, app_role] at h; cases h
        · rw [List.getElem?_eq_none (by rw [List.length_append]; exact q)] at h; cases h
      exact fun k1 k2 h1 h2 => hInv.2.1 k1 k2 (o4 k1 h1) (o4 k2 h2)
    · intro k' hk'
      have hk0 : R0[k']? = some 401 := by
        rcases Nat.lt_trichotomy k' R0.length with q | q | q
        · rwa [List.getElem?_append_left q] at hk'
        · rw [q, app_role] at hk'; cases hk'
        · rw [List.getElem?_eq_none (by rw [List.length_append]; exact q)] at hk'; cases hk'
      obtain rfl := hInv.2.1 k k' hk4 hk0
      refine ⟨n9 + (1 : Int32), m + (1 : Int32), rd_same (by rw [shp_wr, shp_wr]; exact hshn), ?_, by omega, by omega, Or.inr ⟨(wr hs k 2 (.int (m + (1 : Int32)))).length, ?_, hkn, fun j hj => ⟨ke, rc, ?_, app_keep _ _ hke, r1, r2⟩⟩⟩
      · rw [rd_ne _ _ (Or.inr (by decide)), rd_ne _ _ (Or.inl hkne), rd_ne _ _ (Or.inr (by decide)), rd_app (by rw [l1]; exact klt)]
        exact rd_same hk
      · rw [rd_ne _ _ (Or.inr (by decide)), rd_ne _ _ (Or.inl hkne)]
        exact rd_same hshn
      · have : j = 0 := by omega
        subst this
        rw [rd_ne _ _ (Or.inl (fun z => hkne z.symm))]
        exact rd_same (by rw [shp_wr]; exact shp_of (app_at _ _))
    · obtain ⟨w1, w2, -⟩ := hT.2.2 q hq
      have hh : ∀ q ∈ KC.2.2, q.1 ≠ 401 := by decide
      unfold rd
      rw [hfr q.2.1 q.1 w2 (hh q hq)]
  · have ha : shp hs ka = some (39, 10) := ty_shp hT ra (by decide) rfl rfl
    refine (up rfl (b_ad1A hk e0 e1 e2 he ha n0 hn)).imp ?_
    rintro kd r h2 ⟨rfl, rfl, rfl⟩
    have X0 : LSX R0 hs hs := ⟨hT, fun _ _ _ _ _ => rfl, rfl⟩
    have X := lsx_wr (j := 1) (v := .int (n9 + (1 : Int32))) (lsx_wr (j := n9.toInt.toNat) (v := .ref ke) (lsx_wr (j := 2) (v := .int (m + (1 : Int32))) X0 hk4 (Or.inl rfl)) ra (Or.inr rfl)) hk4 (Or.inl rfl)
    have kka : k ≠ ka := role_ne hk4 ra (by decide)
    refine ⟨rfl, rfl, R0, lsx_hx X hInv ⟨hInv.2.1, fun k' hk' => ?_⟩, by rw [X.2.2]; exact Nat.le_succ _, lsx_rg X⟩
    obtain rfl := hInv.2.1 k k' hk4 hk'
    refine ⟨n9 + (1 : Int32), m + (1 : Int32), rd_same (by rw [shp_wr, shp_wr]; exact hk), ?_, by omega, by omega, Or.inr ⟨ka, ?_, ra, fun j hj => ?_⟩⟩
    · rw [rd_ne _ _ (Or.inr (by decide)), rd_ne _ _ (Or.inl kka)]
      exact rd_same hk
    · rw [rd_ne _ _ (Or.inr (by decide)), rd_ne _ _ (Or.inl kka), rd_ne _ _ (Or.inr (by decide))]
      exact e0
    · rw [rd_ne _ _ (Or.inl (fun z => kka z.symm))]
      by_cases y : j = n9.toInt.toNat
      · subst y
        exact ⟨ke, rc, rd_same (by rw [shp_wr]; exact ha), hke, r1, r2⟩
      · obtain ⟨kc, rr, q1, q2, q3, q4⟩ := hel j (by omega)
        refine ⟨kc, rr, ?_, q2, q3, q4⟩
        rw [rd_ne _ _ (Or.inr y), rd_ne _ _ (Or.inl (fun z => kka z.symm))]
        exact q1
end LAD2


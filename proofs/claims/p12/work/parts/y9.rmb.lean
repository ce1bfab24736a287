/-! remember of the class, exactly. -/
theorem frs_cell {W : Nat → Nat → Prop} {hs h2 : List CE} {k : Nat} (f : FrS W hs h2) (hk : k < hs.length) (hw : ∀ j, ¬ W k j) : h2[k]? = hs[k]? := by
  have hc : ∃ q, shp hs k = some q := by
    unfold shp
    rw [List.getElem?_eq_getElem hk]
    exact ⟨_, rfl⟩
  obtain ⟨q, hq⟩ := hc
  exact cell_eq hq (f.2.1 k) (fun j => f.2.2 k j (hw j))
/-- what a change of the list keeps -/
def KP1 (hs h2 : List CE) : Prop := ∀ k, k < hs.length → k ≠ 35 → (∀ a : Nat, rd hs 35 0 = .ref a → k ≠ a) → h2[k]? = hs[k]?
/-- what remember keeps -/
def KPR (hs h2 : List CE) : Prop := ∀ k, k < hs.length → k ≠ 35 → k ≠ 36 → (∀ a : Nat, rd hs 35 0 = .ref a → k ≠ a) → h2[k]? = hs[k]?
/-- the changes with one more, ten at most -/
def RMB (nc : Nat) (ch : Nat → Nat → Int) (c : Nat → Int) : Nat → Nat → Int := fun j => if nc = 10 then (if j = 9 then c else ch (j + 1)) else if j = nc then c else ch j
theorem LSA.cong {hs : List CE} {ka nc : Nat} {ch ch2 : Nat → Nat → Int} (h : LSA hs ka nc ch) (e : ∀ j, j < nc → ch2 j = ch j) : LSA hs ka nc ch2 := by
  obtain ⟨a, b, c, d, e1, f, g⟩ := h
  refine ⟨a, b, c, d, e1, f, fun j hj => ?_⟩
  obtain ⟨kc, q1, q2⟩ := g j hj
  exact ⟨kc, q1, by rw [e j hj]; exact q2⟩
theorem LSA.fr {W : Nat → Nat → Prop} {hs h2 : List CE} {ka nc : Nat} {ch : Nat → Nat → Int} (h : LSA hs ka nc ch) (f : FrS W hs h2) (hw : ∀ k j, W k j → k = 36) (h36 : ∃ n, shp hs 36 = some (40, n)) : LSA h2 ka nc ch := by
  obtain ⟨a, ⟨m, b⟩, ⟨x, c, c2⟩, d, e, f9, g⟩ := h
  obtain ⟨n36, h36⟩ := h36
  have w : ∀ k, k ≠ 36 → ∀ j, rd h2 k j = rd hs k j := fun k hk j => f.2.2 k j (fun z => hk (hw _ _ z))
  refine ⟨(f.2.1 35).trans a, ⟨m, (w 35 (by decide) 2).trans b⟩, ⟨x, (w 35 (by decide) 1).trans c, c2⟩, (w 35 (by decide) 0).trans d, e, (f.2.1 ka).trans f9, fun j hj => ?_⟩
  obtain ⟨kc, q1, q2⟩ := g j hj
  exact ⟨kc, (w ka (by omega) j).trans q1, q2.same (f.2.1 kc) (w kc (fun z => by rw [z] at q2; have := h36.symm.trans q2.1; cases this))⟩
section RMBS
variable {g0 : GG} {bl : Nat} {xs : Nat → Int32} {l : Launch} {hs : List CE} {nc : Nat} {ch : Nat → Nat → Int} {c : Nat → Int} {ke : Nat}
theorem cx_adds (hTY0 : TYg g0) (hlen : hs.length + 1 ≤ 6999999999999) (h148 : 148 ≤ hs.length) (hL : LSC hs nc ch) (hn : nc ≤ 9) (he : CHC hs ke c) : BodyN SSX TBL g0 CLS bl xs l D_293 4 87 1 10 [.ref 35, .ref ke] hs (fun kd r h2 => kd = 0 ∧ r = some (.int 1) ∧ (∃ ka, LSA h2 ka (nc + 1) (fun j => if j = nc then c else ch j)) ∧ hs.length ≤ h2.length ∧ h2.length ≤ hs.length + 1 ∧ KP1 hs h2) := by
  obtain ⟨-, ⟨h35, hm, e1, e0, z⟩ | ⟨ka, h⟩⟩ := hL
  · refine (cx_addB hTY0 hlen h148 h35 hm e1 e0 he).imp ?_
    rintro kd r h2 ⟨y1, y2, y3, y4, y5⟩
    subst z
    exact ⟨y1, y2, ⟨_, y3.cong (fun j hj => if_pos (by omega))⟩, by omega, by omega, fun k hk h9 _ => y5 k hk h9⟩
  · have hr := h.2.2.2.1
    refine (cx_addA h hn he).imp ?_
    rintro kd r h2 ⟨y1, y2, y3, y4⟩
    refine ⟨y1, y2, ⟨_, y3⟩, by rw [y4.1]; exact Nat.le_refl _, by rw [y4.1]; exact Nat.le_succ _, fun k hk h9 ha => frs_cell y4 hk (fun j z => ?_)⟩
    rcases z with z | z
    · exact h9 z
    · exact ha ka hr z

theorem cx_remember (hTY9 : TYg g0) (h148 : 148 ≤ hs.length) (hlen : hs.length + 1 ≤ 6999999999999) (hP : GP9 hs) (hL : LSC hs nc ch) (he : CHC hs ke c) : BodyN SSX TBL g0 CLS bl xs l D_51 5 113 1 11 [.ref 0, .ref ke] hs (fun kd r h2 => kd = 0 ∧ r = none ∧ (∃ ka : Nat, LSA h2 ka (if nc = 10 then 10 else nc + 1) (RMB nc ch c)) ∧ h2.length ≤ hs.length + 1 ∧ KPR hs h2) := by
  intro wp p e R sW m args below meth cW Q kc0 ks0 kc ks act hf hl hc hsl hEnd
  have hf : 5 ≤ R.frames := hf
  have hl : 113 ≤ R.locals := hl
  have hLh : ∀ a : Nat, rd hs 35 0 = .ref a → 148 ≤ a := fun a z => by
    obtain ⟨-, ⟨-, -, -, q, -⟩ | ⟨ka, q⟩⟩ := hL
    · have z := q.symm.trans z
      cases z
      omega
    · have z := q.2.2.2.1.symm.trans z
      cases z
      exact q.2.2.2.2.1
  obtain ⟨n9, h35, e1, hn9⟩ : ∃ x : Int32, shp hs 35 = some (10, 3) ∧ rd hs 35 1 = .int x ∧ x.toInt = (nc : Int) := by
    obtain ⟨-, ⟨q1, -, q2, -, q3⟩ | ⟨ka, q⟩⟩ := hL
    · exact ⟨0, q1, q2, by rw [q3]; rfl⟩
    · obtain ⟨x, q2, q3⟩ := q.2.2.1
      exact ⟨x, q.1, q2, q3⟩
  have h10 := hL.1
  have hfull : nc = 10 → ∃ ka : Nat, LSA hs ka 10 ch := fun z => by
    obtain ⟨-, ⟨-, -, -, -, q⟩ | ⟨ka, q⟩⟩ := hL
    · omega
    · exact ⟨ka, by rw [← z]; exact q⟩
  have t21 : ∀ (h1 : List CE) (n1 : Nat) (ch1 : Nat → Nat → Int), GP9 h1 → LSC h1 n1 ch1 → n1 ≤ 9 → CHC h1 ke c → 148 ≤ h1.length → h1.length + 1 ≤ 6999999999999 → (∀ a : Nat, rd h1 35 0 = .ref a → 148 ≤ a) → (∀ h3 : List CE, (∃ ka : Nat, LSA h3 ka (n1 + 1) (fun j => if j = n1 then c else ch1 j)) → h3.length ≤ h1.length + 1 → KPR h1 h3 → (fun (kd : Nat) (r : Option Value) (h2 : List CE) => kd = 0 ∧ r = none ∧ (∃ ka : Nat, LSA h2 ka (if nc = 10 then 10 else nc + 1) (RMB nc ch c)) ∧ h2.length ≤ hs.length + 1 ∧ KPR hs h2) 0 none h3) → WpN (gp g0 wp) CLS p l e R sW m args below meth cW Q D_51.2.2.1 kc0 ks0 21 [some (.ref 0), some (.ref ke)] (h1, kc, ks) [] := by
    intro h1 n1 ch1 hP1 hL1 hn1 he1 h148a hlena hLa K
    have h35a : shp h1 35 = some (10, 3) := by
      obtain ⟨-, ⟨q1, -⟩ | ⟨ka, q⟩⟩ := hL1
      · exact q1
      · exact q.1
    refine g_loadA act (gx gp_51 (w := 0x1603) rfl (by decide) rfl) (a := 0) (n := 22) rfl rfl rfl ?_
    refine r_getf act (gx gp_51 (w := 0x3000100001904) rfl (by decide) rfl) (n := 25) (ci := 0) (j := 4) (N := 7) rfl rfl rfl hP1.1 (by decide) (v := .ref 35) hP1.2.2.2.2.2.1 ?_
    refine g_loadA act (gx gp_51 (w := 0x1001a03) rfl (by decide) rfl) (a := 1) (n := 26) rfl rfl rfl ?_
    refine n_call tb_pres act hEnd (gx (P := G_call) gp_51 (w := 0xb000000000000c0822000125001d0f) rfl (by decide) rfl) (d' := D_293) rfl (f' := 4) (lam' := 87) (mc := 1) (ms := 10) (as := [.ref 35, .ref ke]) (rest := []) (cx_adds hTY9 (by omega) h148a hL1 hn1 he1) (show (2 : Nat) = fb 0xb000000000000c0822000125001d0f % 16 by decide) (by show (2 : Nat) ≤ 2; decide) (fun _ => ⟨_, _, rfl, _, shp_at h35a, Or.inr (show fb 0xb000000000000c0822000125001d0f >>> 68 = 11 by decide)⟩) (by omega) (by show 8 + (2 + 11) + 87 ≤ R.locals; omega) (by show (0 : Nat) ≤ 8; decide) (by show kc + 1 ≤ _; omega) (by show ks + 10 ≤ _; omega) (fun r9 h2 hpo hr9 => ?_) (fun x9 hs9 hx9 hpo => ?_)
    · obtain ⟨-, rfl, ⟨ka2, hA2⟩, hl1, hl2, hk2⟩ := hpo
      have hk2 : KP1 h1 h2 := hk2
      have hl1 : h1.length ≤ h2.length := hl1
      have hl2 : h2.length ≤ h1.length + 1 := hl2
      have hP2 : GP9 h2 := hP1.cell (hk2 0 (by omega) (by decide) (fun a z q => by have := hLa a z; omega)) (hk2 36 (by omega) (by decide) (fun a z q => by have := hLa a z; omega))
      show WpN (gp g0 wp) CLS p l e R sW m args below meth cW Q D_51.2.2.1 kc0 ks0 29 [some (.ref 0), some (.ref ke)] (h2, kc + 1, ks + 10) [.int 1]
      refine g_pop act (gx gp_51 (w := 0x1e3f) rfl (by decide) rfl) (n := 30) rfl rfl ?_
      refine g_loadA act (gx gp_51 (w := 0x1f03) rfl (by decide) rfl) (a := 0) (n := 31) rfl rfl rfl ?_
      refine n_call tb_pres act hEnd (gx (P := G_call) gp_51 (w := 0x10000000000008081100001e00220f) rfl (by decide) rfl) (d' := D_30) rfl (f' := 0) (lam' := 0) (mc := 0) (ms := 0) (as := [.ref 0]) (rest := []) (cx_forget hP2.1 hP2.2.2.2.2.2.2.2 hP2.2.2.2.2.2.2.1) (show (1 : Nat) = fb 0x10000000000008081100001e00220f % 16 by decide) (by show (1 : Nat) ≤ 2; decide) (fun _ => ⟨_, _, rfl, _, shp_at hP2.1, Or.inr (show fb 0x10000000000008081100001e00220f >>> 68 = 1 by decide)⟩) (by omega) (by show 8 + (2 + 11) + 0 ≤ R.locals; omega) (by show (0 : Nat) ≤ 8; decide) (by show kc + 1 + 0 ≤ _; omega) (by show ks + 10 + 0 ≤ _; omega) (fun r9 h3 hpo hr9 => ?_) (fun x9 hs9 hx9 hpo => ?_)
      · obtain rfl : r9 = none := hr9.elim (fun q => q.2) (fun q => absurd rfl q.1)
        obtain ⟨-, -, f3, n3⟩ := hpo
        have hA3 := hA2.fr f3 (fun k j z => z) ⟨4, hP2.2.2.2.2.2.2.2⟩
        show WpN (gp g0 wp) CLS p l e R sW m args below meth cW Q D_51.2.2.1 kc0 ks0 34 [some (.ref 0), some (.ref ke)] (h3, kc + 1, ks + 10) []
        exact g_retV hEnd (gx gp_51 (w := 0x18) rfl (by decide) rfl) (K h3 ⟨ka2, hA3⟩ (by rw [f3.1]; exact hl2) (fun k q1 q2 q3 q4 => (frs_cell f3 (show k < h2.length by omega) (fun j z => q3 z)).trans (hk2 k q1 q2 q4))) (by show kc + 1 ≤ kc + 1; omega) (by show ks + 10 ≤ ks + 11; omega)
      · exact absurd hpo.1 (by omega)
    · exact absurd hpo.1 (by omega)
  show WpN (gp g0 wp) CLS p l e R sW m args below meth cW Q D_51.2.2.1 kc0 ks0 0 [some (.ref 0), some (.ref ke)] (hs, kc, ks) []
  refine g_loadA act (gx gp_51 (w := 0x103) rfl (by decide) rfl) (a := 0) (n := 1) rfl rfl rfl ?_
  refine r_getf act (gx gp_51 (w := 0x3000100000404) rfl (by decide) rfl) (n := 4) (ci := 0) (j := 4) (N := 7) rfl rfl rfl hP.1 (by decide) (v := .ref 35) hP.2.2.2.2.2.1 ?_
  refine n_call tb_pres act hEnd (gx (P := G_call) gp_51 (w := 0xb000000000000c041100012d00070f) rfl (by decide) rfl) (d' := D_301) rfl (f' := 0) (lam' := 0) (mc := 0) (ms := 0) (as := [.ref 35]) (rest := []) (b_siz (n9 := n9) h35 e1) (show (1 : Nat) = fb 0xb000000000000c041100012d00070f % 16 by decide) (by show (1 : Nat) ≤ 1; decide) (fun _ => ⟨_, _, rfl, _, shp_at h35, Or.inr (show fb 0xb000000000000c041100012d00070f >>> 68 = 11 by decide)⟩) (by omega) (by show 8 + (1 + 11) + 0 ≤ R.locals; omega) (by show (0 : Nat) ≤ 8; decide) (by show kc + 0 ≤ _; omega) (by show ks + 0 ≤ _; omega) (fun r9 h9 hpo hr9 => ?_) (fun x9 hs9 hx9 hpo => ?_)
  · obtain ⟨-, rfl, rfl⟩ := hpo
    show WpN (gp g0 wp) CLS p l e R sW m args below meth cW Q D_51.2.2.1 kc0 ks0 7 [some (.ref 0), some (.ref ke)] (hs, kc, ks) [.int n9]
    refine g_constI act (gx gp_51 (w := 0x40000005400000051000000000901) rfl (by decide) rfl) (n := 9) (x := (10 : Int32)) (by decide) rfl ?_
    refine g_icmpLt act (gx gp_51 (w := 0x15000c20) rfl (by decide) rfl) (tgt := 21) (n := 12) rfl rfl (fun h3 => ?_) (fun h3 => ?_)
    · simp only [i_lt, show (10 : Int32).toInt = 10 from by decide] at h3
      exact t21 hs nc ch hP hL (by omega) he h148 hlen hLh (fun h3 y1 y2 y3 => ⟨rfl, rfl, by
        obtain ⟨ka, y⟩ := y1
        rw [if_neg (show ¬ nc = 10 by omega)]
        exact ⟨ka, y.cong (fun j hj => if_neg (show ¬ nc = 10 by omega))⟩, y2, y3⟩)
    · simp only [i_lt, show (10 : Int32).toInt = 10 from by decide] at h3
      refine g_loadA act (gx gp_51 (w := 0xd03) rfl (by decide) rfl) (a := 0) (n := 13) rfl rfl rfl ?_
      refine r_getf act (gx gp_51 (w := 0x3000100001004) rfl (by decide) rfl) (n := 16) (ci := 0) (j := 4) (N := 7) rfl rfl rfl hP.1 (by decide) (v := .ref 35) hP.2.2.2.2.2.1 ?_
      refine g_constI act (gx gp_51 (w := 0x40000000400000001000000001101) rfl (by decide) rfl) (n := 17) (x := (0 : Int32)) (by decide) rfl ?_
      obtain ⟨ka0, hA10⟩ := hfull (by omega)
      refine n_call tb_pres act hEnd (gx (P := G_call) gp_51 (w := 0xb000000000000c102200012c00140f) rfl (by decide) rfl) (d' := D_300) rfl (f' := 3) (lam' := 90) (mc := 0) (ms := 0) (as := [.ref 35, .int (0 : Int32)]) (rest := []) (cx_rm0 hA10) (show (2 : Nat) = fb 0xb000000000000c102200012c00140f % 16 by decide) (by show (2 : Nat) ≤ 4; decide) (fun _ => ⟨_, _, rfl, _, shp_at h35, Or.inr (show fb 0xb000000000000c102200012c00140f >>> 68 = 11 by decide)⟩) (by omega) (by show 8 + (4 + 11) + 90 ≤ R.locals; omega) (by show (0 : Nat) ≤ 8; decide) (by show kc + 0 ≤ _; omega) (by show ks + 0 ≤ _; omega) (fun r9 h1 hpo hr9 => ?_) (fun x9 hs9 hx9 hpo => ?_)
      · obtain ⟨-, ⟨x9, rfl⟩, hA9, f1⟩ := hpo
        show WpN (gp g0 wp) CLS p l e R sW m args below meth cW Q D_51.2.2.1 kc0 ks0 20 [some (.ref 0), some (.ref ke)] (h1, kc, ks) [.ref x9]
        refine g_pop act (gx gp_51 (w := 0x153f) rfl (by decide) rfl) (n := 21) rfl rfl ?_
        exact t21 h1 9 _ (hP.fr f1 (fun j _ z => by unfold WLs at z; have := hA9.2.2.2.2.1; omega)) ⟨by decide, Or.inr ⟨ka0, hA9⟩⟩ (by decide) (he.same (f1.2.1 ke) (fun j => f1.2.2 ke j (fun z => by
          rcases z with z | z
          · exact lsc_n35 h35 he.1 z
          · exact lsc_ne hA10.2.2.2.2.2.1 he.1 z.symm))) (by rw [f1.1]; exact h148) (by rw [f1.1]; exact hlen) (fun a z => by
          have z := hA9.2.2.2.1.symm.trans z
          cases z
          exact hA9.2.2.2.2.1) (fun h3 y1 y2 y3 => ⟨rfl, rfl, by
          obtain ⟨ka, y⟩ := y1
          rw [if_pos (show nc = 10 by omega)]
          exact ⟨ka, y.cong (fun j hj => if_pos (show nc = 10 by omega))⟩, by rw [← f1.1]; exact y2, fun k q1 q2 q3 q4 => (y3 k (by rw [f1.1]; exact q1) q2 q3 (fun a z => by
          have z := hA9.2.2.2.1.symm.trans z
          cases z
          exact q4 _ hA10.2.2.2.1)).trans (frs_cell f1 q1 (fun j z => by
          rcases z with z | z
          · exact q2 z
          · exact q4 _ hA10.2.2.2.1 z))⟩)
      · exact absurd hpo.1 (by omega)
  · exact absurd hpo.1 (by omega)

end RMBS

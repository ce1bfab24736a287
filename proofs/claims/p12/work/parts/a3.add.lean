/-! What is added to a grid. -/
theorem vt_i {K : KX} {R : List Nat} {t : FT} {v : Value} (h : VT K R t v) (e : t.1 = 1) : ∃ x : Int32, v = .int x ∧ t.2.2.1 ≤ x.toInt ∧ x.toInt ≤ t.2.2.2 := by
  rcases h with h | ⟨-, h⟩ | ⟨h, -⟩ | ⟨h, -⟩ | ⟨h, -⟩ | ⟨h, -⟩ | ⟨h, -⟩
  rotate_left
  · exact h
  all_goals (rw [e] at h; exact absurd h (by decide))
theorem vt_i6 {K : KX} {R : List Nat} {t : FT} {v : Value} (h : VT K R t v) (e : t.1 = 6 ∨ t.1 = 8) : ∃ x : Int32, v = .int x ∧ t.2.2.1 ≤ x.toInt ∧ x.toInt ≤ t.2.2.2 := by
  rcases h with h | ⟨h, -⟩ | ⟨h, -⟩ | ⟨h, -⟩ | ⟨h, -⟩ | ⟨-, h⟩ | ⟨h, -⟩
  rotate_left 5
  · exact h
  all_goals (rw [h] at e; exact absurd e (by decide))
theorem vt_r {K : KX} {R : List Nat} {t : FT} {v : Value} (h : VT K R t v) (e : t.1 = 3 ∨ t.1 = 7) (hg : Nat.blt t.2.1 1000 = true) : ∃ k : Nat, v = .ref k ∧ R[k]? = some t.2.1 ∧ t.2.1 ≠ 0 := by
  rcases h with h | ⟨h, -⟩ | ⟨h, -⟩ | ⟨-, h⟩ | ⟨h, -⟩ | ⟨h, -⟩ | ⟨-, h⟩
  rotate_left 3
  · exact h.one hg
  rotate_left 2
  · exact h.one hg
  all_goals (first | (rw [h] at e; exact absurd e (by decide)) | (rcases h with h | h <;> (rw [h] at e; exact absurd e (by decide))))
/-- lines and limits of a grid -/
def InvG (R : List Nat) (hs : List CE) : Prop := ∀ k : Nat, R[k]? = some 5 → ∃ (n : Int32) (kl : Nat), rd hs k 2 = .int n ∧ rd hs k 8 = .ref kl ∧ R[kl]? = some 46 ∧ n.toInt ≤ 6 ∧ ∀ j : Nat, (j : Int) < n.toInt → ∃ x : Int32, rd hs kl j = .int x ∧ 1 ≤ x.toInt
/-- the list of changes -/
def InvL (R : List Nat) (hs : List CE) : Prop := (∀ k1 k2 : Nat, R[k1]? = some 401 → R[k2]? = some 401 → k1 = k2) ∧ ∀ k : Nat, R[k]? = some 401 → ∃ n m : Int32, rd hs k 1 = .int n ∧ rd hs k 2 = .int m ∧ 0 ≤ n.toInt ∧ n.toInt ≤ 10 ∧ ((rd hs k 0 = .ref 7000000000002 ∧ n.toInt = 0) ∨ ∃ ka : Nat, rd hs k 0 = .ref ka ∧ R[ka]? = some 402 ∧ ∀ j : Nat, (j : Int) < n.toInt → ∃ kc rc : Nat, rd hs ka j = .ref kc ∧ R[kc]? = some rc ∧ 20 ≤ rc ∧ rc ≤ 24)
def InvC (R : List Nat) (hs : List CE) : Prop := InvG R hs ∧ InvL R hs
theorem invL_fr {R R' : List Nat} {hs hs' : List CE} (h : InvL R hs) (hR : ∀ k r : Nat, R[k]? = some r → r ≠ 0 → R'[k]? = some r) (hh : ∀ k r : Nat, R[k]? = some r → 400 ≤ r → hs'[k]? = hs[k]?) (h4 : ∀ k : Nat, R'[k]? = some 401 → R[k]? = some 401) : InvL R' hs' := ⟨fun k1 k2 h1 h2 => h.1 k1 k2 (h4 k1 h1) (h4 k2 h2), fun k hk => by
  have hk0 := h4 k hk
  have er : ∀ (k r j : Nat), R[k]? = some r → 400 ≤ r → rd hs' k j = rd hs k j := fun k r j h1 h2 => by unfold rd; rw [hh k r h1 h2]
  obtain ⟨n, m, e1, e2, e3, e4, e5⟩ := h.2 k hk0
  refine ⟨n, m, (er k 401 1 hk0 (by decide)).trans e1, (er k 401 2 hk0 (by decide)).trans e2, e3, e4, ?_⟩
  rcases e5 with ⟨e5, e6⟩ | ⟨ka, e5, e6, e7⟩
  · exact Or.inl ⟨(er k 401 0 hk0 (by decide)).trans e5, e6⟩
  · refine Or.inr ⟨ka, (er k 401 0 hk0 (by decide)).trans e5, hR ka 402 e6 (by decide), fun j hj => ?_⟩
    obtain ⟨kc, rc, w1, w2, w3, w4⟩ := e7 j hj
    exact ⟨kc, rc, (er ka 402 j e6 (by decide)).trans w1, hR kc rc w2 (by omega), w3, w4⟩⟩
theorem invC_st {K : KX} (h2 : (ftK K 5 2).1 = 6) (h8 : (ftK K 5 8).1 = 7) (hL : 8 < lnK K 5) (hm : ∀ j, j < 6 → (ftK K 46 j).1 = 8) (hM : lnK K 46 = 6) : StI K InvC := by
  intro R hs R' hs' h hR h4 h5 hp
  refine ⟨fun k hk => ?_, invL_fr h.2 hR h4 (fun k h => h5 k 401 (Or.inr (by decide)) h)⟩
  have hk0 := h5 k 5 (Or.inl rfl) hk
  obtain ⟨n, kl, e1, e2, e3, e4, e5⟩ := h.1 k hk0
  refine ⟨n, kl, ?_, ?_, hR kl 46 e3 (by decide), e4, fun j hj => ?_⟩
  · rcases hp k 5 2 hk0 (by decide) (by omega) (by rw [h2]; decide) with q | ⟨q, -⟩
    · rw [q]; exact e1
    · rw [h2] at q; exact absurd q (by decide)
  · rcases hp k 5 8 hk0 (by decide) hL (by rw [h8]; decide) with q | ⟨q, -⟩
    · rw [q]; exact e2
    · rw [h8] at q; exact absurd q (by decide)
  · rcases hp kl 46 j e3 (by decide) (by omega) (by rw [hm j (by omega)]; decide) with q | ⟨-, q⟩
    · rw [q]; exact e5 j hj
    · exact q
theorem invC_line {R : List Nat} {hs : List CE} {k kl : Nat} {n n2 : Int32} (h : InvC R hs) (hk : R[k]? = some 5) (hs2 : shp hs k = some (4, 18)) (e1 : rd hs k 2 = .int n) (e2 : rd hs k 8 = .ref kl) (hm : n2.toInt ≤ 6) (hn : n2.toInt = n.toInt + 1) (h0 : 0 ≤ n.toInt) {x : Int32} (hx : rd hs kl n.toInt.toNat = .int x) (hx1 : 1 ≤ x.toInt) : InvC R (wr hs k 2 (.int n2)) := by
  refine ⟨fun q hq => ?_, invL_fr h.2 (fun _ _ h _ => h) (fun k' r h1 h2 => wr_ne (fun z => by subst z; rw [hk] at h1; cases h1; exact absurd h2 (by decide))) (fun _ h => h)⟩
  have hl : ∀ (c j : Nat), c ≠ k → rd (wr hs k 2 (.int n2)) c j = rd hs c j := fun c j z => rd_ne _ _ (Or.inl z)
  obtain ⟨m, km, g1, g2, g3, g4, g5⟩ := h.1 q hq
  have kmk : km ≠ k := fun z => by rw [z, hk] at g3; exact absurd g3 (by decide)
  by_cases z : q = k
  · subst z
    rw [e1] at g1
    cases g1
    rw [e2] at g2
    cases g2
    refine ⟨n2, kl, rd_same hs2, (rd_ne _ _ (Or.inr (by decide))).trans e2, g3, hm, fun j hj => ?_⟩
    rw [hl _ _ kmk]
    by_cases y : (j : Int) < n.toInt
    · exact g5 j y
    · have : j = n.toInt.toNat := by omega
      subst this
      exact ⟨x, hx, hx1⟩
  · refine ⟨m, km, (hl _ _ z).trans g1, (hl _ _ z).trans g2, g3, g4, fun j hj => ?_⟩
    rw [hl _ _ kmk]
    exact g5 j hj
theorem role_ne {R : List Nat} {a b r r' : Nat} (h1 : R[a]? = some r) (h2 : R[b]? = some r') (h : r ≠ r') : a ≠ b := fun z => by
  subst z
  rw [h1] at h2
  exact h (Option.some.inj h2)
theorem reg_ne {K : KX} {R : List Nat} {hs : List CE} (hT : HTy K R hs) {q : Nat × Nat × Nat} (hq : q ∈ K.2.2) {k r : Nat} (hk : R[k]? = some r) (hn : noR K r = true) : q.2.1 ≠ k := fun z => by
  obtain ⟨w1, w2, -⟩ := hT.2.2 q hq
  unfold noR at hn
  rw [List.all_eq_true] at hn
  have := hn q hq
  rw [z, hk] at w2
  rw [Option.some.inj w2, Nat.beq_refl] at this
  cases this
theorem po_void {K : KX} {Inv : List Nat → List CE → Prop} {c : CT9} {R R' : List Nat} {hs h2 : List CE} {σ : Nat → Int} {kd : Nat} (hm : ((kd, [], [], c.2.1.2.2, c.2.1.1) : PS9) ∈ c.2.2.1) (hn : noRaw c.2.1.2.2 = true) (hX : HX K Inv R hs R' h2) (hl : h2.length ≤ hs.length + c.2.2.2.2.2.1) (hE : EM c.2.1.1 σ) (hRg : RgM K hs R c.2.1.1.length σ c.2.1.2.2) (hrg : ∀ q ∈ K.2.2, rd h2 q.2.1 q.2.2 = rd hs q.2.1 q.2.2) : PO9 K Inv c R hs σ kd none h2 := by
  refine ⟨R', σ, _, hm, rfl, hX, hl, fun _ _ => rfl, rfl, ?_, rfl, fun i q a hi ha => ?_⟩
  · show EM (c.2.1.1 ++ []) σ
    rw [List.append_nil]
    exact hE
  · rw [hrg q (List.mem_of_getElem? hi)]
    refine (hRg i q a hi ha).mono2 (noRaw_t hn ha) ?_ (fun _ _ => rfl) (fun k r h _ => hX.2.1 k r h)
    rw [List.append_nil]
    exact Nat.le_refl _

theorem invC_KC : StI KC InvC := invC_st rfl rfl (by decide) (fun j hj => by
  match j, hj with
  | 0, _ => rfl
  | 1, _ => rfl
  | 2, _ => rfl
  | 3, _ => rfl
  | 4, _ => rfl
  | 5, _ => rfl
  | j + 6, hj => exact absurd hj (by omega)) rfl
theorem hxq {R0 R : List Nat} {hs0 hs : List CE} {k kl : Nat} {n n2 : Int32} (X : HX KC InvC R0 hs0 R hs) (hk : R[k]? = some 5) (hs2 : shp hs k = some (4, 18)) (e1 : rd hs k 2 = .int n) (e2 : rd hs k 8 = .ref kl) (hm : n2.toInt ≤ 6) (hn : n2.toInt = n.toInt + 1) (h0 : 0 ≤ n.toInt) {x : Int32} (hx : rd hs kl n.toInt.toNat = .int x) (hx1 : 1 ≤ x.toInt) : HX KC InvC R0 hs0 R (wr hs k 2 (.int n2)) := by
  obtain ⟨q1, q2, q3, q4⟩ := X
  refine ⟨q1.wr hk (by decide) (show VT KC R (6, 0, 0, 6) _ from Or.inr (Or.inr (Or.inr (Or.inr (Or.inr (Or.inl ⟨Or.inl rfl, _, rfl, by show (0 : Int) ≤ _; omega, hm⟩)))))), q2, fun k' r' h1 h2 => ?_, invC_line q4 hk hs2 e1 e2 hm hn h0 hx hx1⟩
  rw [wr_ne (fun z => ?_)]
  · exact q3 k' r' h1 h2
  · subst z
    rw [q2 k r' h1] at hk
    cases hk
    exact absurd h2 (by decide)

theorem sh_96 : SemC KC InvC ch_96 := by
  refine ⟨D_96, rfl, rfl, fun g0 bl xs l hs R0 σ as hTY hT hInv hlen hE hA hRg => ?_⟩
  have hI := invC_KC
  obtain ⟨v9, S9, rfl, m9, v0, S0, rfl, m0, v1, S1, rfl, m1, v2, S2, rfl, m2, v3, S3, rfl, m3, hz⟩ := hA
  have hz : S3 = [] := hz
  subst hz
  obtain ⟨a0, rfl, -, e0⟩ := m0.int rfl
  have b0 := hE 0 (by decide)
  have e0 : a0.toInt = σ 0 + 0 := e0
  have z0 : 0 ≤ σ 0 ∧ σ 0 ≤ 3 := ⟨b0.1, b0.2.1⟩
  obtain ⟨a1, rfl, -, e1⟩ := m1.int rfl
  have b1 := hE 1 (by decide)
  have e1 : a1.toInt = σ 1 + 0 := e1
  have z1 : 0 ≤ σ 1 ∧ σ 1 ≤ 3 := ⟨b1.1, b1.2.1⟩
  obtain ⟨a2, rfl, -, e2⟩ := m2.int rfl
  have b2 := hE 2 (by decide)
  have e2 : a2.toInt = σ 2 + 0 := e2
  have z2 : 1 ≤ σ 2 ∧ σ 2 ≤ 200 := ⟨b2.1, b2.2.1⟩
  obtain ⟨a3, rfl, -, e3⟩ := m3.int rfl
  have b3 := hE 3 (by decide)
  have e3 : a3.toInt = σ 3 + 0 := e3
  have z3 : -2147483648 ≤ σ 3 ∧ σ 3 ≤ 2147483647 := ⟨b3.1, b3.2.1⟩
  obtain ⟨k, rfl, hk, -⟩ := (m9.rf3 rfl).one rfl
  have hk : R0[k]? = some 5 := hk
  obtain ⟨sh0, ty⟩ := hT.2.1 k 5 hk (by decide)
  have sh0 : shp hs k = some (4, 18) := sh0
  obtain ⟨n9, en0, n1, n2⟩ := vt_i6 (show VT KC R0 (6, 0, 0, 6) (rd hs k 2) from ty 2 (by decide)) (Or.inl rfl)
  have n1 : 0 ≤ n9.toInt := n1
  have n2 : n9.toInt ≤ 6 := n2
  obtain ⟨k6, e6_0, r6, -⟩ := vt_r (show VT KC R0 (3, 40, 0, 0) (rd hs k 6) from ty 6 (by decide)) (Or.inl rfl) (by decide)
  have r6 : R0[k6]? = some 40 := r6
  have s6_0 : shp hs k6 = some (32, 6) := (hT.2.1 k6 40 r6 (by decide)).1
  obtain ⟨k7, e7_0, r7, -⟩ := vt_r (show VT KC R0 (3, 40, 0, 0) (rd hs k 7) from ty 7 (by decide)) (Or.inl rfl) (by decide)
  have r7 : R0[k7]? = some 40 := r7
  have s7_0 : shp hs k7 = some (32, 6) := (hT.2.1 k7 40 r7 (by decide)).1
  obtain ⟨k8, e8_0, r8, -⟩ := vt_r (show VT KC R0 (7, 46, 0, 0) (rd hs k 8) from ty 8 (by decide)) (Or.inr rfl) (by decide)
  have r8 : R0[k8]? = some 46 := r8
  have s8_0 : shp hs k8 = some (32, 6) := (hT.2.1 k8 46 r8 (by decide)).1
  obtain ⟨k9, e9_0, r9, -⟩ := vt_r (show VT KC R0 (3, 41, 0, 0) (rd hs k 9) from ty 9 (by decide)) (Or.inl rfl) (by decide)
  have r9 : R0[k9]? = some 41 := r9
  have s9_0 : shp hs k9 = some (32, 6) := (hT.2.1 k9 41 r9 (by decide)).1
  have X0 : HX KC InvC R0 hs R0 hs := ⟨hT, fun _ _ h => h, fun _ _ _ _ => rfl, hInv⟩
  have rg0 : ∀ q ∈ KC.2.2, rd hs q.2.1 q.2.2 = rd hs q.2.1 q.2.2 := fun _ _ => rfl
  have ln0 : hs.length = hs.length := rfl
  intro wp p e R s m args below meth c Q kc0 ks0 kc ks act hf hl hc hsl hEnd
  show WpN (gp g0 wp) CLS p l e R s m args below meth c Q D_96.2.2.1 kc0 ks0 0 [some (.ref k), some (.int a0), some (.int a1), some (.int a2), some (.int a3)] (hs, kc, ks) []
  refine g_loadA act (gx gp_96 (w := 0x103) rfl (by decide) rfl) (a := 0) (n := 1) rfl rfl rfl ?_
  refine r_getf act (gx gp_96 (w := 0x84000404) rfl (by decide) rfl) (n := 4) (ci := 4) (j := 2) (N := 18) rfl rfl rfl sh0 (by decide) (v := .int n9) en0 ?_
  refine g_constI act (gx gp_96 (w := 0x40000003400000031000000000601) rfl (by decide) rfl) (n := 6) (x := (6 : Int32)) (by decide) rfl ?_
  refine g_icmpGe act (gx gp_96 (w := 0x3c000908) rfl (by decide) rfl) (tgt := 60) (n := 9) rfl rfl (fun h3 => ?_) (fun h3 => ?_)
  · simp only [i_le, show (6 : Int32).toInt = 6 from by decide] at h3
    exact g_retV hEnd (gx gp_96 (w := 0x18) rfl (by decide) rfl) (po_void (by decide) (by decide) X0 (by show hs.length ≤ hs.length + _; omega) hE hRg rg0) (by show kc ≤ kc + _; omega) (by show ks ≤ ks + _; omega)
  · simp only [i_le, show (6 : Int32).toInt = 6 from by decide] at h3
    refine g_loadA act (gx gp_96 (w := 0xa03) rfl (by decide) rfl) (a := 0) (n := 10) rfl rfl rfl ?_
    refine r_getf act (gx gp_96 (w := 0x3000184000d04) rfl (by decide) rfl) (n := 13) (ci := 4) (j := 6) (N := 18) rfl rfl rfl sh0 (by decide) (v := .ref k6) e6_0 ?_
    refine g_loadA act (gx gp_96 (w := 0xe03) rfl (by decide) rfl) (a := 0) (n := 14) rfl rfl rfl ?_
    refine r_getf act (gx gp_96 (w := 0x84001104) rfl (by decide) rfl) (n := 17) (ci := 4) (j := 2) (N := 18) rfl rfl rfl sh0 (by decide) (v := .int n9) en0 ?_
    refine g_loadI act (gx gp_96 (w := 0x1001202) rfl (by decide) rfl) (a := 1) (n := 18) rfl rfl rfl ?_
    have hnn : n9.toInt = (n9.toInt.toNat : Int) := by omega
    have hlt : n9.toInt.toNat < 6 := by omega
    refine r_iast act (gx gp_96 (w := 0x1324) rfl (by decide) rfl) (n := 19) (j := n9.toInt.toNat) rfl (N := 6) s6_0 hnn hlt ?_
    have X1 := HX.wr hI X0 (j := n9.toInt.toNat) (v := .int a0) r6 (by decide) (by decide) (show VW KC R0 (1, 0, 0, 3) _ from vw_of (vt_int rfl (by show (0 : Int) ≤ _; omega) (by show _ ≤ (3 : Int); omega)) (by decide))
    have sh1 := (shp_wr hs k6 n9.toInt.toNat k (.int a0)).trans sh0
    have en1 := (rd_ne hs (k := k6) (j := n9.toInt.toNat) (.int a0) (Or.inl (role_ne hk r6 (by decide)))).trans en0
    have rg1 : ∀ q ∈ KC.2.2, rd (wr hs k6 n9.toInt.toNat (.int a0)) q.2.1 q.2.2 = rd hs q.2.1 q.2.2 := fun q hq => (rd_ne hs (k := k6) (j := n9.toInt.toNat) (.int a0) (Or.inl (reg_ne hT hq r6 (by decide)))).trans (rg0 q hq)
    have e7_1 := (rd_ne hs (k := k6) (j := n9.toInt.toNat) (.int a0) (Or.inl (role_ne hk r6 (by decide)))).trans e7_0
    have s7_1 := (shp_wr hs k6 n9.toInt.toNat k7 (.int a0)).trans s7_0
    have e8_1 := (rd_ne hs (k := k6) (j := n9.toInt.toNat) (.int a0) (Or.inl (role_ne hk r6 (by decide)))).trans e8_0
    have s8_1 := (shp_wr hs k6 n9.toInt.toNat k8 (.int a0)).trans s8_0
    have e9_1 := (rd_ne hs (k := k6) (j := n9.toInt.toNat) (.int a0) (Or.inl (role_ne hk r6 (by decide)))).trans e9_0
    have s9_1 := (shp_wr hs k6 n9.toInt.toNat k9 (.int a0)).trans s9_0
    have ln1 : (wr hs k6 n9.toInt.toNat (.int a0)).length = hs.length := (wr_len _ _ _ _).trans ln0
    generalize (wr hs k6 n9.toInt.toNat (.int a0)) = h1 at *
    refine g_loadA act (gx gp_96 (w := 0x1403) rfl (by decide) rfl) (a := 0) (n := 20) rfl rfl rfl ?_
    refine r_getf act (gx gp_96 (w := 0x30001c4001704) rfl (by decide) rfl) (n := 23) (ci := 4) (j := 7) (N := 18) rfl rfl rfl sh1 (by decide) (v := .ref k7) e7_1 ?_
    refine g_loadA act (gx gp_96 (w := 0x1803) rfl (by decide) rfl) (a := 0) (n := 24) rfl rfl rfl ?_
    refine r_getf act (gx gp_96 (w := 0x84001b04) rfl (by decide) rfl) (n := 27) (ci := 4) (j := 2) (N := 18) rfl rfl rfl sh1 (by decide) (v := .int n9) en1 ?_
    refine g_loadI act (gx gp_96 (w := 0x2001c02) rfl (by decide) rfl) (a := 2) (n := 28) rfl rfl rfl ?_
    have hnn : n9.toInt = (n9.toInt.toNat : Int) := by omega
    have hlt : n9.toInt.toNat < 6 := by omega
    refine r_iast act (gx gp_96 (w := 0x1d24) rfl (by decide) rfl) (n := 29) (j := n9.toInt.toNat) rfl (N := 6) s7_1 hnn hlt ?_
    have X2 := HX.wr hI X1 (j := n9.toInt.toNat) (v := .int a1) r7 (by decide) (by decide) (show VW KC R0 (1, 0, 0, 3) _ from vw_of (vt_int rfl (by show (0 : Int) ≤ _; omega) (by show _ ≤ (3 : Int); omega)) (by decide))
    have sh2 := (shp_wr h1 k7 n9.toInt.toNat k (.int a1)).trans sh1
    have en2 := (rd_ne h1 (k := k7) (j := n9.toInt.toNat) (.int a1) (Or.inl (role_ne hk r7 (by decide)))).trans en1
    have rg2 : ∀ q ∈ KC.2.2, rd (wr h1 k7 n9.toInt.toNat (.int a1)) q.2.1 q.2.2 = rd hs q.2.1 q.2.2 := fun q hq => (rd_ne h1 (k := k7) (j := n9.toInt.toNat) (.int a1) (Or.inl (reg_ne hT hq r7 (by decide)))).trans (rg1 q hq)
    have e8_2 := (rd_ne h1 (k := k7) (j := n9.toInt.toNat) (.int a1) (Or.inl (role_ne hk r7 (by decide)))).trans e8_1
    have s8_2 := (shp_wr h1 k7 n9.toInt.toNat k8 (.int a1)).trans s8_1
    have e9_2 := (rd_ne h1 (k := k7) (j := n9.toInt.toNat) (.int a1) (Or.inl (role_ne hk r7 (by decide)))).trans e9_1
    have s9_2 := (shp_wr h1 k7 n9.toInt.toNat k9 (.int a1)).trans s9_1
    have ln2 : (wr h1 k7 n9.toInt.toNat (.int a1)).length = hs.length := (wr_len _ _ _ _).trans ln1
    generalize (wr h1 k7 n9.toInt.toNat (.int a1)) = h2 at *
    refine g_loadA act (gx gp_96 (w := 0x1e03) rfl (by decide) rfl) (a := 0) (n := 30) rfl rfl rfl ?_
    refine r_getf act (gx gp_96 (w := 0x3000204002104) rfl (by decide) rfl) (n := 33) (ci := 4) (j := 8) (N := 18) rfl rfl rfl sh2 (by decide) (v := .ref k8) e8_2 ?_
    refine g_loadA act (gx gp_96 (w := 0x2203) rfl (by decide) rfl) (a := 0) (n := 34) rfl rfl rfl ?_
    refine r_getf act (gx gp_96 (w := 0x84002504) rfl (by decide) rfl) (n := 37) (ci := 4) (j := 2) (N := 18) rfl rfl rfl sh2 (by decide) (v := .int n9) en2 ?_
    refine g_loadI act (gx gp_96 (w := 0x3002602) rfl (by decide) rfl) (a := 3) (n := 38) rfl rfl rfl ?_
    have hnn : n9.toInt = (n9.toInt.toNat : Int) := by omega
    have hlt : n9.toInt.toNat < 6 := by omega
    refine r_iast act (gx gp_96 (w := 0x2724) rfl (by decide) rfl) (n := 39) (j := n9.toInt.toNat) rfl (N := 6) s8_2 hnn hlt ?_
    have X3 := HX.wr hI X2 (j := n9.toInt.toNat) (v := .int a2) r8 (by decide) (by decide) (show VW KC R0 (8, 0, 0, 200) _ from ⟨Or.inr (Or.inr (Or.inr (Or.inr (Or.inr (Or.inl ⟨Or.inr rfl, _, rfl, by show (0 : Int) ≤ _; omega, by show _ ≤ (200 : Int); omega⟩))))), Or.inr ⟨rfl, _, rfl, by omega⟩⟩)
    have sh3 := (shp_wr h2 k8 n9.toInt.toNat k (.int a2)).trans sh2
    have en3 := (rd_ne h2 (k := k8) (j := n9.toInt.toNat) (.int a2) (Or.inl (role_ne hk r8 (by decide)))).trans en2
    have rg3 : ∀ q ∈ KC.2.2, rd (wr h2 k8 n9.toInt.toNat (.int a2)) q.2.1 q.2.2 = rd hs q.2.1 q.2.2 := fun q hq => (rd_ne h2 (k := k8) (j := n9.toInt.toNat) (.int a2) (Or.inl (reg_ne hT hq r8 (by decide)))).trans (rg2 q hq)
    have e9_3 := (rd_ne h2 (k := k8) (j := n9.toInt.toNat) (.int a2) (Or.inl (role_ne hk r8 (by decide)))).trans e9_2
    have s9_3 := (shp_wr h2 k8 n9.toInt.toNat k9 (.int a2)).trans s9_2
    have ln3 : (wr h2 k8 n9.toInt.toNat (.int a2)).length = hs.length := (wr_len _ _ _ _).trans ln2
    have hlim3 : rd (wr h2 k8 n9.toInt.toNat (.int a2)) k8 n9.toInt.toNat = .int a2 := rd_same s8_2
    have e8_3 := (rd_ne h2 (k := k8) (j := n9.toInt.toNat) (.int a2) (Or.inl (role_ne hk r8 (by decide)))).trans e8_2
    generalize (wr h2 k8 n9.toInt.toNat (.int a2)) = h3 at *
    refine g_loadA act (gx gp_96 (w := 0x2803) rfl (by decide) rfl) (a := 0) (n := 40) rfl rfl rfl ?_
    refine r_getf act (gx gp_96 (w := 0x3000244002b04) rfl (by decide) rfl) (n := 43) (ci := 4) (j := 9) (N := 18) rfl rfl rfl sh3 (by decide) (v := .ref k9) e9_3 ?_
    refine g_loadA act (gx gp_96 (w := 0x2c03) rfl (by decide) rfl) (a := 0) (n := 44) rfl rfl rfl ?_
    refine r_getf act (gx gp_96 (w := 0x84002f04) rfl (by decide) rfl) (n := 47) (ci := 4) (j := 2) (N := 18) rfl rfl rfl sh3 (by decide) (v := .int n9) en3 ?_
    refine g_loadI act (gx gp_96 (w := 0x4003102) rfl (by decide) rfl) (a := 4) (n := 49) rfl rfl rfl ?_
    have hnn : n9.toInt = (n9.toInt.toNat : Int) := by omega
    have hlt : n9.toInt.toNat < 6 := by omega
    refine r_iast act (gx gp_96 (w := 0x3224) rfl (by decide) rfl) (n := 50) (j := n9.toInt.toNat) rfl (N := 6) s9_3 hnn hlt ?_
    have X4 := HX.wr hI X3 (j := n9.toInt.toNat) (v := .int a3) r9 (by decide) (by decide) (show VW KC R0 (1, 0, -2147483648, 2147483647) _ from vw_of (vt_int rfl (by show (-2147483648 : Int) ≤ _; omega) (by show _ ≤ (2147483647 : Int); omega)) (by decide))
    have sh4 := (shp_wr h3 k9 n9.toInt.toNat k (.int a3)).trans sh3
    have en4 := (rd_ne h3 (k := k9) (j := n9.toInt.toNat) (.int a3) (Or.inl (role_ne hk r9 (by decide)))).trans en3
    have rg4 : ∀ q ∈ KC.2.2, rd (wr h3 k9 n9.toInt.toNat (.int a3)) q.2.1 q.2.2 = rd hs q.2.1 q.2.2 := fun q hq => (rd_ne h3 (k := k9) (j := n9.toInt.toNat) (.int a3) (Or.inl (reg_ne hT hq r9 (by decide)))).trans (rg3 q hq)
    have ln4 : (wr h3 k9 n9.toInt.toNat (.int a3)).length = hs.length := (wr_len _ _ _ _).trans ln3
    have hlim4 := (rd_ne h3 (k := k9) (j := n9.toInt.toNat) (.int a3) (Or.inl (role_ne r8 r9 (by decide)))).trans hlim3
    have e8_4 := (rd_ne h3 (k := k9) (j := n9.toInt.toNat) (.int a3) (Or.inl (role_ne hk r9 (by decide)))).trans e8_3
    generalize (wr h3 k9 n9.toInt.toNat (.int a3)) = h4 at *
    refine g_loadA act (gx gp_96 (w := 0x3303) rfl (by decide) rfl) (a := 0) (n := 51) rfl rfl rfl ?_
    refine g_dup act (gx gp_96 (w := 0x3422) rfl (by decide) rfl) (n := 52) rfl rfl ?_
    refine r_getf act (gx gp_96 (w := 0x84003704) rfl (by decide) rfl) (n := 55) (ci := 4) (j := 2) (N := 18) rfl rfl rfl sh4 (by decide) (v := .int n9) en4 ?_
    refine g_constI act (gx gp_96 (w := 0x40000000c00000009000000003801) rfl (by decide) rfl) (n := 56) (x := (1 : Int32)) (by decide) rfl ?_
    refine g_iadd act (gx gp_96 (w := 0x390a) rfl (by decide) rfl) (n := 57) rfl ?_
    have en9 : (n9 + (1 : Int32)).toInt = n9.toInt + 1 := i_add (by show _ ≤ _ + (1 : Int); omega) (by show _ + (1 : Int) < _; omega)
    refine r_putf act (gx gp_96 (w := 0x84003c13) rfl (by decide) rfl) (n := 60) (ci := 4) (j := 2) (N := 18) rfl rfl rfl sh4 (by decide) (Or.inl ⟨rfl, _, rfl⟩) ?_
    exact g_retV hEnd (gx gp_96 (w := 0x18) rfl (by decide) rfl) (po_void (by decide) (by decide) (hxq (n2 := n9 + (1 : Int32)) X4 hk sh4 en4 e8_4 (by omega) en9 n1 hlim4 (by omega)) (by show (wr h4 k 2 (.int (n9 + (1 : Int32)))).length ≤ hs.length + _; rw [wr_len]; omega) hE hRg (fun q hq => (rd_ne _ _ (Or.inl (reg_ne hT hq hk (by decide)))).trans (rg4 q hq))) (by show kc ≤ kc + _; omega) (by show ks ≤ ks + _; omega)

theorem sh_95 : SemC KC InvC ch_95 := by
  refine ⟨D_95, rfl, rfl, fun g0 bl xs l hs R0 σ as hTY hT hInv hlen hE hA hRg => ?_⟩
  have hI := invC_KC
  obtain ⟨v9, S9, rfl, m9, v0, S0, rfl, m0, v1, S1, rfl, m1, v2, S2, rfl, m2, hz⟩ := hA
  have hz : S2 = [] := hz
  subst hz
  obtain ⟨a0, rfl, -, e0⟩ := m0.int rfl
  have b0 := hE 0 (by decide)
  have e0 : a0.toInt = σ 0 + 0 := e0
  have z0 : 0 ≤ σ 0 ∧ σ 0 ≤ 3 := ⟨b0.1, b0.2.1⟩
  obtain ⟨a1, rfl, -, e1⟩ := m1.int rfl
  have b1 := hE 1 (by decide)
  have e1 : a1.toInt = σ 1 + 0 := e1
  have z1 : -2147483648 ≤ σ 1 ∧ σ 1 ≤ 2147483647 := ⟨b1.1, b1.2.1⟩
  obtain ⟨a2, rfl, -, e2⟩ := m2.int rfl
  have b2 := hE 2 (by decide)
  have e2 : a2.toInt = σ 2 + 0 := e2
  have z2 : -2147483648 ≤ σ 2 ∧ σ 2 ≤ 2147483647 := ⟨b2.1, b2.2.1⟩
  obtain ⟨k, rfl, hk, -⟩ := (m9.rf3 rfl).one rfl
  have hk : R0[k]? = some 5 := hk
  obtain ⟨sh0, ty⟩ := hT.2.1 k 5 hk (by decide)
  have sh0 : shp hs k = some (4, 18) := sh0
  obtain ⟨n9, en0, n1, n2⟩ := vt_i (show VT KC R0 (1, 0, 0, 5) (rd hs k 3) from ty 3 (by decide)) rfl
  have n1 : 0 ≤ n9.toInt := n1
  have n2 : n9.toInt ≤ 5 := n2
  obtain ⟨k10, e10_0, r10, -⟩ := vt_r (show VT KC R0 (3, 42, 0, 0) (rd hs k 10) from ty 10 (by decide)) (Or.inl rfl) (by decide)
  have r10 : R0[k10]? = some 42 := r10
  have s10_0 : shp hs k10 = some (32, 5) := (hT.2.1 k10 42 r10 (by decide)).1
  obtain ⟨k11, e11_0, r11, -⟩ := vt_r (show VT KC R0 (3, 43, 0, 0) (rd hs k 11) from ty 11 (by decide)) (Or.inl rfl) (by decide)
  have r11 : R0[k11]? = some 43 := r11
  have s11_0 : shp hs k11 = some (32, 5) := (hT.2.1 k11 43 r11 (by decide)).1
  obtain ⟨k12, e12_0, r12, -⟩ := vt_r (show VT KC R0 (3, 43, 0, 0) (rd hs k 12) from ty 12 (by decide)) (Or.inl rfl) (by decide)
  have r12 : R0[k12]? = some 43 := r12
  have s12_0 : shp hs k12 = some (32, 5) := (hT.2.1 k12 43 r12 (by decide)).1
  have X0 : HX KC InvC R0 hs R0 hs := ⟨hT, fun _ _ h => h, fun _ _ _ _ => rfl, hInv⟩
  have rg0 : ∀ q ∈ KC.2.2, rd hs q.2.1 q.2.2 = rd hs q.2.1 q.2.2 := fun _ _ => rfl
  have ln0 : hs.length = hs.length := rfl
  intro wp p e R s m args below meth c Q kc0 ks0 kc ks act hf hl hc hsl hEnd
  show WpN (gp g0 wp) CLS p l e R s m args below meth c Q D_95.2.2.1 kc0 ks0 0 [some (.ref k), some (.int a0), some (.int a1), some (.int a2)] (hs, kc, ks) []
  refine g_loadA act (gx gp_95 (w := 0x103) rfl (by decide) rfl) (a := 0) (n := 1) rfl rfl rfl ?_
  refine r_getf act (gx gp_95 (w := 0xc4000404) rfl (by decide) rfl) (n := 4) (ci := 4) (j := 3) (N := 18) rfl rfl rfl sh0 (by decide) (v := .int n9) en0 ?_
  refine g_constI act (gx gp_95 (w := 0x40000002c00000029000000000501) rfl (by decide) rfl) (n := 5) (x := (5 : Int32)) (by decide) rfl ?_
  refine g_icmpGe act (gx gp_95 (w := 0x30000808) rfl (by decide) rfl) (tgt := 48) (n := 8) rfl rfl (fun h3 => ?_) (fun h3 => ?_)
  · simp only [i_le, show (5 : Int32).toInt = 5 from by decide] at h3
    exact g_retV hEnd (gx gp_95 (w := 0x18) rfl (by decide) rfl) (po_void (by decide) (by decide) X0 (by show hs.length ≤ hs.length + _; omega) hE hRg rg0) (by show kc ≤ kc + _; omega) (by show ks ≤ ks + _; omega)
  · simp only [i_le, show (5 : Int32).toInt = 5 from by decide] at h3
    refine g_loadA act (gx gp_95 (w := 0x903) rfl (by decide) rfl) (a := 0) (n := 9) rfl rfl rfl ?_
    refine r_getf act (gx gp_95 (w := 0x3000284000c04) rfl (by decide) rfl) (n := 12) (ci := 4) (j := 10) (N := 18) rfl rfl rfl sh0 (by decide) (v := .ref k10) e10_0 ?_
    refine g_loadA act (gx gp_95 (w := 0xd03) rfl (by decide) rfl) (a := 0) (n := 13) rfl rfl rfl ?_
    refine r_getf act (gx gp_95 (w := 0xc4001004) rfl (by decide) rfl) (n := 16) (ci := 4) (j := 3) (N := 18) rfl rfl rfl sh0 (by decide) (v := .int n9) en0 ?_
    refine g_loadI act (gx gp_95 (w := 0x1001102) rfl (by decide) rfl) (a := 1) (n := 17) rfl rfl rfl ?_
    have hnn : n9.toInt = (n9.toInt.toNat : Int) := by omega
    have hlt : n9.toInt.toNat < 5 := by omega
    refine r_iast act (gx gp_95 (w := 0x1224) rfl (by decide) rfl) (n := 18) (j := n9.toInt.toNat) rfl (N := 5) s10_0 hnn hlt ?_
    have X1 := HX.wr hI X0 (j := n9.toInt.toNat) (v := .int a0) r10 (by decide) (by decide) (show VW KC R0 (1, 0, 0, 3) _ from vw_of (vt_int rfl (by show (0 : Int) ≤ _; omega) (by show _ ≤ (3 : Int); omega)) (by decide))
    have sh1 := (shp_wr hs k10 n9.toInt.toNat k (.int a0)).trans sh0
    have en1 := (rd_ne hs (k := k10) (j := n9.toInt.toNat) (.int a0) (Or.inl (role_ne hk r10 (by decide)))).trans en0
    have rg1 : ∀ q ∈ KC.2.2, rd (wr hs k10 n9.toInt.toNat (.int a0)) q.2.1 q.2.2 = rd hs q.2.1 q.2.2 := fun q hq => (rd_ne hs (k := k10) (j := n9.toInt.toNat) (.int a0) (Or.inl (reg_ne hT hq r10 (by decide)))).trans (rg0 q hq)
    have e11_1 := (rd_ne hs (k := k10) (j := n9.toInt.toNat) (.int a0) (Or.inl (role_ne hk r10 (by decide)))).trans e11_0
    have s11_1 := (shp_wr hs k10 n9.toInt.toNat k11 (.int a0)).trans s11_0
    have e12_1 := (rd_ne hs (k := k10) (j := n9.toInt.toNat) (.int a0) (Or.inl (role_ne hk r10 (by decide)))).trans e12_0
    have s12_1 := (shp_wr hs k10 n9.toInt.toNat k12 (.int a0)).trans s12_0
    have ln1 : (wr hs k10 n9.toInt.toNat (.int a0)).length = hs.length := (wr_len _ _ _ _).trans ln0
    generalize (wr hs k10 n9.toInt.toNat (.int a0)) = h1 at *
    refine g_loadA act (gx gp_95 (w := 0x1303) rfl (by decide) rfl) (a := 0) (n := 19) rfl rfl rfl ?_
    refine r_getf act (gx gp_95 (w := 0x30002c4001604) rfl (by decide) rfl) (n := 22) (ci := 4) (j := 11) (N := 18) rfl rfl rfl sh1 (by decide) (v := .ref k11) e11_1 ?_
    refine g_loadA act (gx gp_95 (w := 0x1703) rfl (by decide) rfl) (a := 0) (n := 23) rfl rfl rfl ?_
    refine r_getf act (gx gp_95 (w := 0xc4001a04) rfl (by decide) rfl) (n := 26) (ci := 4) (j := 3) (N := 18) rfl rfl rfl sh1 (by decide) (v := .int n9) en1 ?_
    refine g_loadI act (gx gp_95 (w := 0x2001b02) rfl (by decide) rfl) (a := 2) (n := 27) rfl rfl rfl ?_
    have hnn : n9.toInt = (n9.toInt.toNat : Int) := by omega
    have hlt : n9.toInt.toNat < 5 := by omega
    refine r_iast act (gx gp_95 (w := 0x1c24) rfl (by decide) rfl) (n := 28) (j := n9.toInt.toNat) rfl (N := 5) s11_1 hnn hlt ?_
    have X2 := HX.wr hI X1 (j := n9.toInt.toNat) (v := .int a1) r11 (by decide) (by decide) (show VW KC R0 (1, 0, -2147483648, 2147483647) _ from vw_of (vt_int rfl (by show (-2147483648 : Int) ≤ _; omega) (by show _ ≤ (2147483647 : Int); omega)) (by decide))
    have sh2 := (shp_wr h1 k11 n9.toInt.toNat k (.int a1)).trans sh1
    have en2 := (rd_ne h1 (k := k11) (j := n9.toInt.toNat) (.int a1) (Or.inl (role_ne hk r11 (by decide)))).trans en1
    have rg2 : ∀ q ∈ KC.2.2, rd (wr h1 k11 n9.toInt.toNat (.int a1)) q.2.1 q.2.2 = rd hs q.2.1 q.2.2 := fun q hq => (rd_ne h1 (k := k11) (j := n9.toInt.toNat) (.int a1) (Or.inl (reg_ne hT hq r11 (by decide)))).trans (rg1 q hq)
    have e12_2 := (rd_ne h1 (k := k11) (j := n9.toInt.toNat) (.int a1) (Or.inl (role_ne hk r11 (by decide)))).trans e12_1
    have s12_2 := (shp_wr h1 k11 n9.toInt.toNat k12 (.int a1)).trans s12_1
    have ln2 : (wr h1 k11 n9.toInt.toNat (.int a1)).length = hs.length := (wr_len _ _ _ _).trans ln1
    generalize (wr h1 k11 n9.toInt.toNat (.int a1)) = h2 at *
    refine g_loadA act (gx gp_95 (w := 0x1d03) rfl (by decide) rfl) (a := 0) (n := 29) rfl rfl rfl ?_
    refine r_getf act (gx gp_95 (w := 0x3000304002004) rfl (by decide) rfl) (n := 32) (ci := 4) (j := 12) (N := 18) rfl rfl rfl sh2 (by decide) (v := .ref k12) e12_2 ?_
    refine g_loadA act (gx gp_95 (w := 0x2103) rfl (by decide) rfl) (a := 0) (n := 33) rfl rfl rfl ?_
    refine r_getf act (gx gp_95 (w := 0xc4002404) rfl (by decide) rfl) (n := 36) (ci := 4) (j := 3) (N := 18) rfl rfl rfl sh2 (by decide) (v := .int n9) en2 ?_
    refine g_loadI act (gx gp_95 (w := 0x3002502) rfl (by decide) rfl) (a := 3) (n := 37) rfl rfl rfl ?_
    have hnn : n9.toInt = (n9.toInt.toNat : Int) := by omega
    have hlt : n9.toInt.toNat < 5 := by omega
    refine r_iast act (gx gp_95 (w := 0x2624) rfl (by decide) rfl) (n := 38) (j := n9.toInt.toNat) rfl (N := 5) s12_2 hnn hlt ?_
    have X3 := HX.wr hI X2 (j := n9.toInt.toNat) (v := .int a2) r12 (by decide) (by decide) (show VW KC R0 (1, 0, -2147483648, 2147483647) _ from vw_of (vt_int rfl (by show (-2147483648 : Int) ≤ _; omega) (by show _ ≤ (2147483647 : Int); omega)) (by decide))
    have sh3 := (shp_wr h2 k12 n9.toInt.toNat k (.int a2)).trans sh2
    have en3 := (rd_ne h2 (k := k12) (j := n9.toInt.toNat) (.int a2) (Or.inl (role_ne hk r12 (by decide)))).trans en2
    have rg3 : ∀ q ∈ KC.2.2, rd (wr h2 k12 n9.toInt.toNat (.int a2)) q.2.1 q.2.2 = rd hs q.2.1 q.2.2 := fun q hq => (rd_ne h2 (k := k12) (j := n9.toInt.toNat) (.int a2) (Or.inl (reg_ne hT hq r12 (by decide)))).trans (rg2 q hq)
    have ln3 : (wr h2 k12 n9.toInt.toNat (.int a2)).length = hs.length := (wr_len _ _ _ _).trans ln2
    generalize (wr h2 k12 n9.toInt.toNat (.int a2)) = h3 at *
    refine g_loadA act (gx gp_95 (w := 0x2703) rfl (by decide) rfl) (a := 0) (n := 39) rfl rfl rfl ?_
    refine g_dup act (gx gp_95 (w := 0x2822) rfl (by decide) rfl) (n := 40) rfl rfl ?_
    refine r_getf act (gx gp_95 (w := 0xc4002b04) rfl (by decide) rfl) (n := 43) (ci := 4) (j := 3) (N := 18) rfl rfl rfl sh3 (by decide) (v := .int n9) en3 ?_
    refine g_constI act (gx gp_95 (w := 0x40000000c00000009000000002c01) rfl (by decide) rfl) (n := 44) (x := (1 : Int32)) (by decide) rfl ?_
    refine g_iadd act (gx gp_95 (w := 0x2d0a) rfl (by decide) rfl) (n := 45) rfl ?_
    have en9 : (n9 + (1 : Int32)).toInt = n9.toInt + 1 := i_add (by show _ ≤ _ + (1 : Int); omega) (by show _ + (1 : Int) < _; omega)
    refine r_putf act (gx gp_95 (w := 0xc4003013) rfl (by decide) rfl) (n := 48) (ci := 4) (j := 3) (N := 18) rfl rfl rfl sh3 (by decide) (Or.inl ⟨rfl, _, rfl⟩) ?_
    exact g_retV hEnd (gx gp_95 (w := 0x18) rfl (by decide) rfl) (po_void (by decide) (by decide) (HX.wr hI X3 (j := 3) (v := .int (n9 + (1 : Int32))) hk (by decide) (by decide) (show VW KC R0 (1, 0, 0, 5) _ from vw_of (vt_int rfl (by show (0 : Int) ≤ _; omega) (by show _ ≤ (5 : Int); omega)) (by decide))) (by show (wr h3 k 3 (.int (n9 + (1 : Int32)))).length ≤ hs.length + _; rw [wr_len]; omega) hE hRg (fun q hq => (rd_ne _ _ (Or.inl (reg_ne hT hq hk (by decide)))).trans (rg3 q hq))) (by show kc ≤ kc + _; omega) (by show ks ≤ ks + _; omega)

theorem sh_97 : SemC KC InvC ch_97 := by
  refine ⟨D_97, rfl, rfl, fun g0 bl xs l hs R0 σ as hTY hT hInv hlen hE hA hRg => ?_⟩
  have hI := invC_KC
  obtain ⟨v9, S9, rfl, m9, v0, S0, rfl, m0, v1, S1, rfl, m1, v2, S2, rfl, m2, v3, S3, rfl, m3, hz⟩ := hA
  have hz : S3 = [] := hz
  subst hz
  obtain ⟨a0, rfl, -, e0⟩ := m0.int rfl
  have b0 := hE 0 (by decide)
  have e0 : a0.toInt = σ 0 + 0 := e0
  have z0 : -2147483648 ≤ σ 0 ∧ σ 0 ≤ 2147483647 := ⟨b0.1, b0.2.1⟩
  obtain ⟨a1, rfl, -, e1⟩ := m1.int rfl
  have b1 := hE 1 (by decide)
  have e1 : a1.toInt = σ 1 + 0 := e1
  have z1 : 0 ≤ σ 1 ∧ σ 1 ≤ 3 := ⟨b1.1, b1.2.1⟩
  obtain ⟨a2, rfl, -, e2⟩ := m2.int rfl
  have b2 := hE 2 (by decide)
  have e2 : a2.toInt = σ 2 + 0 := e2
  have z2 : 0 ≤ σ 2 ∧ σ 2 ≤ 3 := ⟨b2.1, b2.2.1⟩
  obtain ⟨a3, rfl, -, e3⟩ := m3.int rfl
  have b3 := hE 3 (by decide)
  have e3 : a3.toInt = σ 3 + 0 := e3
  have z3 : -2147483648 ≤ σ 3 ∧ σ 3 ≤ 2147483647 := ⟨b3.1, b3.2.1⟩
  obtain ⟨k, rfl, hk, -⟩ := (m9.rf3 rfl).one rfl
  have hk : R0[k]? = some 5 := hk
  obtain ⟨sh0, ty⟩ := hT.2.1 k 5 hk (by decide)
  have sh0 : shp hs k = some (4, 18) := sh0
  obtain ⟨n9, en0, n1, n2⟩ := vt_i (show VT KC R0 (1, 0, 0, 6) (rd hs k 4) from ty 4 (by decide)) rfl
  have n1 : 0 ≤ n9.toInt := n1
  have n2 : n9.toInt ≤ 6 := n2
  obtain ⟨k14, e14_0, r14, -⟩ := vt_r (show VT KC R0 (3, 41, 0, 0) (rd hs k 14) from ty 14 (by decide)) (Or.inl rfl) (by decide)
  have r14 : R0[k14]? = some 41 := r14
  have s14_0 : shp hs k14 = some (32, 6) := (hT.2.1 k14 41 r14 (by decide)).1
  obtain ⟨k15, e15_0, r15, -⟩ := vt_r (show VT KC R0 (3, 40, 0, 0) (rd hs k 15) from ty 15 (by decide)) (Or.inl rfl) (by decide)
  have r15 : R0[k15]? = some 40 := r15
  have s15_0 : shp hs k15 = some (32, 6) := (hT.2.1 k15 40 r15 (by decide)).1
  obtain ⟨k16, e16_0, r16, -⟩ := vt_r (show VT KC R0 (3, 40, 0, 0) (rd hs k 16) from ty 16 (by decide)) (Or.inl rfl) (by decide)
  have r16 : R0[k16]? = some 40 := r16
  have s16_0 : shp hs k16 = some (32, 6) := (hT.2.1 k16 40 r16 (by decide)).1
  obtain ⟨k17, e17_0, r17, -⟩ := vt_r (show VT KC R0 (3, 41, 0, 0) (rd hs k 17) from ty 17 (by decide)) (Or.inl rfl) (by decide)
  have r17 : R0[k17]? = some 41 := r17
  have s17_0 : shp hs k17 = some (32, 6) := (hT.2.1 k17 41 r17 (by decide)).1
  have X0 : HX KC InvC R0 hs R0 hs := ⟨hT, fun _ _ h => h, fun _ _ _ _ => rfl, hInv⟩
  have rg0 : ∀ q ∈ KC.2.2, rd hs q.2.1 q.2.2 = rd hs q.2.1 q.2.2 := fun _ _ => rfl
  have ln0 : hs.length = hs.length := rfl
  intro wp p e R s m args below meth c Q kc0 ks0 kc ks act hf hl hc hsl hEnd
  show WpN (gp g0 wp) CLS p l e R s m args below meth c Q D_97.2.2.1 kc0 ks0 0 [some (.ref k), some (.int a0), some (.int a1), some (.int a2), some (.int a3)] (hs, kc, ks) []
  refine g_loadA act (gx gp_97 (w := 0x103) rfl (by decide) rfl) (a := 0) (n := 1) rfl rfl rfl ?_
  refine r_getf act (gx gp_97 (w := 0x104000404) rfl (by decide) rfl) (n := 4) (ci := 4) (j := 4) (N := 18) rfl rfl rfl sh0 (by decide) (v := .int n9) en0 ?_
  refine g_constI act (gx gp_97 (w := 0x40000003400000031000000000601) rfl (by decide) rfl) (n := 6) (x := (6 : Int32)) (by decide) rfl ?_
  refine g_icmpGe act (gx gp_97 (w := 0x3c000908) rfl (by decide) rfl) (tgt := 60) (n := 9) rfl rfl (fun h3 => ?_) (fun h3 => ?_)
  · simp only [i_le, show (6 : Int32).toInt = 6 from by decide] at h3
    exact g_retV hEnd (gx gp_97 (w := 0x18) rfl (by decide) rfl) (po_void (by decide) (by decide) X0 (by show hs.length ≤ hs.length + _; omega) hE hRg rg0) (by show kc ≤ kc + _; omega) (by show ks ≤ ks + _; omega)
  · simp only [i_le, show (6 : Int32).toInt = 6 from by decide] at h3
    refine g_loadA act (gx gp_97 (w := 0xa03) rfl (by decide) rfl) (a := 0) (n := 10) rfl rfl rfl ?_
    refine r_getf act (gx gp_97 (w := 0x3000384000d04) rfl (by decide) rfl) (n := 13) (ci := 4) (j := 14) (N := 18) rfl rfl rfl sh0 (by decide) (v := .ref k14) e14_0 ?_
    refine g_loadA act (gx gp_97 (w := 0xe03) rfl (by decide) rfl) (a := 0) (n := 14) rfl rfl rfl ?_
    refine r_getf act (gx gp_97 (w := 0x104001104) rfl (by decide) rfl) (n := 17) (ci := 4) (j := 4) (N := 18) rfl rfl rfl sh0 (by decide) (v := .int n9) en0 ?_
    refine g_loadI act (gx gp_97 (w := 0x1001202) rfl (by decide) rfl) (a := 1) (n := 18) rfl rfl rfl ?_
    have hnn : n9.toInt = (n9.toInt.toNat : Int) := by omega
    have hlt : n9.toInt.toNat < 6 := by omega
    refine r_iast act (gx gp_97 (w := 0x1324) rfl (by decide) rfl) (n := 19) (j := n9.toInt.toNat) rfl (N := 6) s14_0 hnn hlt ?_
    have X1 := HX.wr hI X0 (j := n9.toInt.toNat) (v := .int a0) r14 (by decide) (by decide) (show VW KC R0 (1, 0, -2147483648, 2147483647) _ from vw_of (vt_int rfl (by show (-2147483648 : Int) ≤ _; omega) (by show _ ≤ (2147483647 : Int); omega)) (by decide))
    have sh1 := (shp_wr hs k14 n9.toInt.toNat k (.int a0)).trans sh0
    have en1 := (rd_ne hs (k := k14) (j := n9.toInt.toNat) (.int a0) (Or.inl (role_ne hk r14 (by decide)))).trans en0
    have rg1 : ∀ q ∈ KC.2.2, rd (wr hs k14 n9.toInt.toNat (.int a0)) q.2.1 q.2.2 = rd hs q.2.1 q.2.2 := fun q hq => (rd_ne hs (k := k14) (j := n9.toInt.toNat) (.int a0) (Or.inl (reg_ne hT hq r14 (by decide)))).trans (rg0 q hq)
    have e15_1 := (rd_ne hs (k := k14) (j := n9.toInt.toNat) (.int a0) (Or.inl (role_ne hk r14 (by decide)))).trans e15_0
    have s15_1 := (shp_wr hs k14 n9.toInt.toNat k15 (.int a0)).trans s15_0
    have e16_1 := (rd_ne hs (k := k14) (j := n9.toInt.toNat) (.int a0) (Or.inl (role_ne hk r14 (by decide)))).trans e16_0
    have s16_1 := (shp_wr hs k14 n9.toInt.toNat k16 (.int a0)).trans s16_0
    have e17_1 := (rd_ne hs (k := k14) (j := n9.toInt.toNat) (.int a0) (Or.inl (role_ne hk r14 (by decide)))).trans e17_0
    have s17_1 := (shp_wr hs k14 n9.toInt.toNat k17 (.int a0)).trans s17_0
    have ln1 : (wr hs k14 n9.toInt.toNat (.int a0)).length = hs.length := (wr_len _ _ _ _).trans ln0
    generalize (wr hs k14 n9.toInt.toNat (.int a0)) = h1 at *
    refine g_loadA act (gx gp_97 (w := 0x1403) rfl (by decide) rfl) (a := 0) (n := 20) rfl rfl rfl ?_
    refine r_getf act (gx gp_97 (w := 0x30003c4001704) rfl (by decide) rfl) (n := 23) (ci := 4) (j := 15) (N := 18) rfl rfl rfl sh1 (by decide) (v := .ref k15) e15_1 ?_
    refine g_loadA act (gx gp_97 (w := 0x1803) rfl (by decide) rfl) (a := 0) (n := 24) rfl rfl rfl ?_
    refine r_getf act (gx gp_97 (w := 0x104001b04) rfl (by decide) rfl) (n := 27) (ci := 4) (j := 4) (N := 18) rfl rfl rfl sh1 (by decide) (v := .int n9) en1 ?_
    refine g_loadI act (gx gp_97 (w := 0x2001c02) rfl (by decide) rfl) (a := 2) (n := 28) rfl rfl rfl ?_
    have hnn : n9.toInt = (n9.toInt.toNat : Int) := by omega
    have hlt : n9.toInt.toNat < 6 := by omega
    refine r_iast act (gx gp_97 (w := 0x1d24) rfl (by decide) rfl) (n := 29) (j := n9.toInt.toNat) rfl (N := 6) s15_1 hnn hlt ?_
    have X2 := HX.wr hI X1 (j := n9.toInt.toNat) (v := .int a1) r15 (by decide) (by decide) (show VW KC R0 (1, 0, 0, 3) _ from vw_of (vt_int rfl (by show (0 : Int) ≤ _; omega) (by show _ ≤ (3 : Int); omega)) (by decide))
    have sh2 := (shp_wr h1 k15 n9.toInt.toNat k (.int a1)).trans sh1
    have en2 := (rd_ne h1 (k := k15) (j := n9.toInt.toNat) (.int a1) (Or.inl (role_ne hk r15 (by decide)))).trans en1
    have rg2 : ∀ q ∈ KC.2.2, rd (wr h1 k15 n9.toInt.toNat (.int a1)) q.2.1 q.2.2 = rd hs q.2.1 q.2.2 := fun q hq => (rd_ne h1 (k := k15) (j := n9.toInt.toNat) (.int a1) (Or.inl (reg_ne hT hq r15 (by decide)))).trans (rg1 q hq)
    have e16_2 := (rd_ne h1 (k := k15) (j := n9.toInt.toNat) (.int a1) (Or.inl (role_ne hk r15 (by decide)))).trans e16_1
    have s16_2 := (shp_wr h1 k15 n9.toInt.toNat k16 (.int a1)).trans s16_1
    have e17_2 := (rd_ne h1 (k := k15) (j := n9.toInt.toNat) (.int a1) (Or.inl (role_ne hk r15 (by decide)))).trans e17_1
    have s17_2 := (shp_wr h1 k15 n9.toInt.toNat k17 (.int a1)).trans s17_1
    have ln2 : (wr h1 k15 n9.toInt.toNat (.int a1)).length = hs.length := (wr_len _ _ _ _).trans ln1
    generalize (wr h1 k15 n9.toInt.toNat (.int a1)) = h2 at *
    refine g_loadA act (gx gp_97 (w := 0x1e03) rfl (by decide) rfl) (a := 0) (n := 30) rfl rfl rfl ?_
    refine r_getf act (gx gp_97 (w := 0x3000404002104) rfl (by decide) rfl) (n := 33) (ci := 4) (j := 16) (N := 18) rfl rfl rfl sh2 (by decide) (v := .ref k16) e16_2 ?_
    refine g_loadA act (gx gp_97 (w := 0x2203) rfl (by decide) rfl) (a := 0) (n := 34) rfl rfl rfl ?_
    refine r_getf act (gx gp_97 (w := 0x104002504) rfl (by decide) rfl) (n := 37) (ci := 4) (j := 4) (N := 18) rfl rfl rfl sh2 (by decide) (v := .int n9) en2 ?_
    refine g_loadI act (gx gp_97 (w := 0x3002602) rfl (by decide) rfl) (a := 3) (n := 38) rfl rfl rfl ?_
    have hnn : n9.toInt = (n9.toInt.toNat : Int) := by omega
    have hlt : n9.toInt.toNat < 6 := by omega
    refine r_iast act (gx gp_97 (w := 0x2724) rfl (by decide) rfl) (n := 39) (j := n9.toInt.toNat) rfl (N := 6) s16_2 hnn hlt ?_
    have X3 := HX.wr hI X2 (j := n9.toInt.toNat) (v := .int a2) r16 (by decide) (by decide) (show VW KC R0 (1, 0, 0, 3) _ from vw_of (vt_int rfl (by show (0 : Int) ≤ _; omega) (by show _ ≤ (3 : Int); omega)) (by decide))
    have sh3 := (shp_wr h2 k16 n9.toInt.toNat k (.int a2)).trans sh2
    have en3 := (rd_ne h2 (k := k16) (j := n9.toInt.toNat) (.int a2) (Or.inl (role_ne hk r16 (by decide)))).trans en2
    have rg3 : ∀ q ∈ KC.2.2, rd (wr h2 k16 n9.toInt.toNat (.int a2)) q.2.1 q.2.2 = rd hs q.2.1 q.2.2 := fun q hq => (rd_ne h2 (k := k16) (j := n9.toInt.toNat) (.int a2) (Or.inl (reg_ne hT hq r16 (by decide)))).trans (rg2 q hq)
    have e17_3 := (rd_ne h2 (k := k16) (j := n9.toInt.toNat) (.int a2) (Or.inl (role_ne hk r16 (by decide)))).trans e17_2
    have s17_3 := (shp_wr h2 k16 n9.toInt.toNat k17 (.int a2)).trans s17_2
    have ln3 : (wr h2 k16 n9.toInt.toNat (.int a2)).length = hs.length := (wr_len _ _ _ _).trans ln2
    generalize (wr h2 k16 n9.toInt.toNat (.int a2)) = h3 at *
    refine g_loadA act (gx gp_97 (w := 0x2803) rfl (by decide) rfl) (a := 0) (n := 40) rfl rfl rfl ?_
    refine r_getf act (gx gp_97 (w := 0x3000444002b04) rfl (by decide) rfl) (n := 43) (ci := 4) (j := 17) (N := 18) rfl rfl rfl sh3 (by decide) (v := .ref k17) e17_3 ?_
    refine g_loadA act (gx gp_97 (w := 0x2c03) rfl (by decide) rfl) (a := 0) (n := 44) rfl rfl rfl ?_
    refine r_getf act (gx gp_97 (w := 0x104002f04) rfl (by decide) rfl) (n := 47) (ci := 4) (j := 4) (N := 18) rfl rfl rfl sh3 (by decide) (v := .int n9) en3 ?_
    refine g_loadI act (gx gp_97 (w := 0x4003102) rfl (by decide) rfl) (a := 4) (n := 49) rfl rfl rfl ?_
    have hnn : n9.toInt = (n9.toInt.toNat : Int) := by omega
    have hlt : n9.toInt.toNat < 6 := by omega
    refine r_iast act (gx gp_97 (w := 0x3224) rfl (by decide) rfl) (n := 50) (j := n9.toInt.toNat) rfl (N := 6) s17_3 hnn hlt ?_
    have X4 := HX.wr hI X3 (j := n9.toInt.toNat) (v := .int a3) r17 (by decide) (by decide) (show VW KC R0 (1, 0, -2147483648, 2147483647) _ from vw_of (vt_int rfl (by show (-2147483648 : Int) ≤ _; omega) (by show _ ≤ (2147483647 : Int); omega)) (by decide))
    have sh4 := (shp_wr h3 k17 n9.toInt.toNat k (.int a3)).trans sh3
    have en4 := (rd_ne h3 (k := k17) (j := n9.toInt.toNat) (.int a3) (Or.inl (role_ne hk r17 (by decide)))).trans en3
    have rg4 : ∀ q ∈ KC.2.2, rd (wr h3 k17 n9.toInt.toNat (.int a3)) q.2.1 q.2.2 = rd hs q.2.1 q.2.2 := fun q hq => (rd_ne h3 (k := k17) (j := n9.toInt.toNat) (.int a3) (Or.inl (reg_ne hT hq r17 (by decide)))).trans (rg3 q hq)
    have ln4 : (wr h3 k17 n9.toInt.toNat (.int a3)).length = hs.length := (wr_len _ _ _ _).trans ln3
    generalize (wr h3 k17 n9.toInt.toNat (.int a3)) = h4 at *
    refine g_loadA act (gx gp_97 (w := 0x3303) rfl (by decide) rfl) (a := 0) (n := 51) rfl rfl rfl ?_
    refine g_dup act (gx gp_97 (w := 0x3422) rfl (by decide) rfl) (n := 52) rfl rfl ?_
    refine r_getf act (gx gp_97 (w := 0x104003704) rfl (by decide) rfl) (n := 55) (ci := 4) (j := 4) (N := 18) rfl rfl rfl sh4 (by decide) (v := .int n9) en4 ?_
    refine g_constI act (gx gp_97 (w := 0x40000000c00000009000000003801) rfl (by decide) rfl) (n := 56) (x := (1 : Int32)) (by decide) rfl ?_
    refine g_iadd act (gx gp_97 (w := 0x390a) rfl (by decide) rfl) (n := 57) rfl ?_
    have en9 : (n9 + (1 : Int32)).toInt = n9.toInt + 1 := i_add (by show _ ≤ _ + (1 : Int); omega) (by show _ + (1 : Int) < _; omega)
    refine r_putf act (gx gp_97 (w := 0x104003c13) rfl (by decide) rfl) (n := 60) (ci := 4) (j := 4) (N := 18) rfl rfl rfl sh4 (by decide) (Or.inl ⟨rfl, _, rfl⟩) ?_
    exact g_retV hEnd (gx gp_97 (w := 0x18) rfl (by decide) rfl) (po_void (by decide) (by decide) (HX.wr hI X4 (j := 4) (v := .int (n9 + (1 : Int32))) hk (by decide) (by decide) (show VW KC R0 (1, 0, 0, 6) _ from vw_of (vt_int rfl (by show (0 : Int) ≤ _; omega) (by show _ ≤ (6 : Int); omega)) (by decide))) (by show (wr h4 k 4 (.int (n9 + (1 : Int32)))).length ≤ hs.length + _; rw [wr_len]; omega) hE hRg (fun q hq => (rd_ne _ _ (Or.inl (reg_ne hT hq hk (by decide)))).trans (rg4 q hq))) (by show kc ≤ kc + _; omega) (by show ks ≤ ks + _; omega)


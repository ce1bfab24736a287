/-! The checker's operations: branches, the stack, cells. -/
def x_icmp (cc w : Nat) (A : ST) (q : Nat) (go : GO) : Bool := pop2 A (fun s1 δ1 s2 δ2 B => br1 B.1 cc s1 δ1 s2 δ2 (fun E => go (fa w) (setE B E) q) && br1 B.1 (ngc cc) s1 δ1 s2 δ2 (fun E => go (nxt w) (setE B E) q))
def x_if (cc w : Nat) (A : ST) (q : Nat) (go : GO) : Bool := match A with
  | (E, Ls, (1, s, _, δ) :: St, Rg) => br1 (E ++ [(0, 0, false)]) cc s δ E.length 0 (fun E' => go (fa w) (E', Ls, St, Rg) q) && br1 (E ++ [(0, 0, false)]) (ngc cc) s δ E.length 0 (fun E' => go (nxt w) (E', Ls, St, Rg) q)
  | (E, Ls, (6, a, b, _) :: St, Rg) => br1 E cc a 0 b 0 (fun E' => go (fa w) (E', Ls, St, Rg) q) && br1 E (ngc cc) a 0 b 0 (fun E' => go (nxt w) (E', Ls, St, Rg) q)
  | _ => false
section IFS
variable {K : KX} {n0 m0 nL : Nat} {σ0 σ : Nat → Int} {hs : List CE} {R : List Nat} {A : ST} {L : LN} {S : List Value}
theorem x_icmp_v {cc w q : Nat} {go : GO} (h : x_icmp cc w A q go = true) (hV : VX K n0 m0 nL σ0 hs R σ A L S) : ∃ (x y : Int32) (S' : List Value), S = .int y :: .int x :: S' ∧ (hold cc x.toInt y.toInt → ∃ B : ST, go (fa w) B q = true ∧ VX K n0 m0 nL σ0 hs R σ B L S') ∧ (hold (ngc cc) x.toInt y.toInt → ∃ B : ST, go (nxt w) B q = true ∧ VX K n0 m0 nL σ0 hs R σ B L S') := by
  obtain ⟨s1, δ1, s2, δ2, B, x, y, S', h, rfl, hV1, l1, l2, ex, ey⟩ := pop2_t h hV
  rw [Bool.and_eq_true] at h
  refine ⟨x, y, S', rfl, fun q => ?_, fun q => ?_⟩
  · rw [ex, ey] at q
    obtain ⟨z1, z2⟩ := br1_t hV1.em l1 l2 q h.1
    exact ⟨_, z1, VX.env hV1 z2 (rfn_len _ _ _ _ _ _)⟩
  · rw [ex, ey] at q
    obtain ⟨z1, z2⟩ := br1_t hV1.em l1 l2 q h.2
    exact ⟨_, z1, VX.env hV1 z2 (rfn_len _ _ _ _ _ _)⟩
theorem hold_ng {cc : Nat} {x : Int32} {a b : Int} (h1 : x < 0 ↔ a < b) (h2 : x = 0 ↔ a = b) (h : hold cc x.toInt 0) : hold cc (a + 0) (b + 0) := by
  rw [i_lt] at h1
  rw [i_eq] at h2
  have h1 : x.toInt < 0 ↔ a < b := h1
  have h2 : x.toInt = 0 ↔ a = b := h2
  rcases h with ⟨rfl, h⟩ | ⟨rfl, h⟩ | ⟨rfl, h⟩ | ⟨rfl, h⟩ | ⟨rfl, h⟩ | ⟨rfl, h⟩
  · exact Or.inl ⟨rfl, by omega⟩
  · exact Or.inr (Or.inl ⟨rfl, by omega⟩)
  · exact Or.inr (Or.inr (Or.inl ⟨rfl, by omega⟩))
  · exact Or.inr (Or.inr (Or.inr (Or.inl ⟨rfl, by omega⟩)))
  · exact Or.inr (Or.inr (Or.inr (Or.inr (Or.inl ⟨rfl, by omega⟩))))
  · exact Or.inr (Or.inr (Or.inr (Or.inr (Or.inr ⟨rfl, by omega⟩))))
theorem x_if_v {cc w q : Nat} {go : GO} (h : x_if cc w A q go = true) (hV : VX K n0 m0 nL σ0 hs R σ A L S) : ∃ (x : Int32) (S' : List Value), S = .int x :: S' ∧ (hold cc x.toInt 0 → ∃ (B : ST) (σ' : Nat → Int), go (fa w) B q = true ∧ VX K n0 m0 nL σ0 hs R σ' B L S') ∧ (hold (ngc cc) x.toInt 0 → ∃ (B : ST) (σ' : Nat → Int), go (nxt w) B q = true ∧ VX K n0 m0 nL σ0 hs R σ' B L S') := by
  unfold x_if at h
  split at h
  · rename_i E Ls s9 b9 δ9 St Rg
    obtain ⟨v, S1, rfl, m1, hV1⟩ := hV.pop
    obtain ⟨x, rfl, lx, ex⟩ := m1.int rfl
    have lx : s9 < E.length := lx
    have ex : x.toInt = σ s9 + δ9 := ex
    rw [Bool.and_eq_true] at h
    have hV2 := hV1.ext (e := (0, 0, false)) (x := 0) (Int.le_refl _) (Int.le_refl _) (fun z => by cases z)
    have e1 : upS σ E.length 0 s9 = σ s9 := upS_lt σ 0 lx
    have e2 : upS σ E.length 0 E.length = 0 := upS_same σ E.length 0
    have hl : E.length < (E ++ [((0 : Int), (0 : Int), false)]).length := by rw [List.length_append]; exact Nat.lt_succ_self _
    refine ⟨x, S1, rfl, fun z => ?_, fun z => ?_⟩
    · obtain ⟨z1, z2⟩ := br1_t hV2.em (Nat.lt_trans lx hl) hl (by rw [e1, e2, ← ex, Int.add_zero]; exact z) h.1
      exact ⟨_, _, z1, hV2.env z2 (rfn_len _ _ _ _ _ _)⟩
    · obtain ⟨z1, z2⟩ := br1_t hV2.em (Nat.lt_trans lx hl) hl (by rw [e1, e2, ← ex, Int.add_zero]; exact z) h.2
      exact ⟨_, _, z1, hV2.env z2 (rfn_len _ _ _ _ _ _)⟩
  · obtain ⟨v, S1, rfl, m1, hV1⟩ := hV.pop
    obtain ⟨x, rfl, la, lb, h1, h2⟩ := m1.cmp rfl
    rw [Bool.and_eq_true] at h
    refine ⟨x, S1, rfl, fun z => ?_, fun z => ?_⟩
    · obtain ⟨z1, z2⟩ := br1_t hV1.em la lb (hold_ng h1 h2 z) h.1
      exact ⟨_, _, z1, hV1.env z2 (rfn_len _ _ _ _ _ _)⟩
    · obtain ⟨z1, z2⟩ := br1_t hV1.em la lb (hold_ng h1 h2 z) h.2
      exact ⟨_, _, z1, hV1.env z2 (rfn_len _ _ _ _ _ _)⟩
  · cases h
end IFS
section OPS2
variable {K : KX} {Inv : List Nat → List CE → Prop} {R0 : List Nat} {hs0 : List CE} {m0 kcP ksP lnP : Nat} {σ0 : Nat → Int}
variable {g : GG} {bl : Nat} {xs : Nat → Int32} {d : MD} {p : Program} {l : Launch} {e : Env} {Rm : Room} {s : State} {mm : MethodId} {args : Array Value} {below : List Frame} {meth : Method} {c : Code} {Q : State → Prop} {kc0 ks0 pc w q : Nat} {A : ST} {go : GO}

theorem x_icmpEq_t (act : Act SSX TBL g CLS bl xs d p l s mm args meth c) (hG : G_icmpEq SSX TBL CLS ftX mdx d pc w) (hgo : ∀ pc A q, go pc A q = true → Good K Inv R0 hs0 m0 d.2.2.1 kcP ksP lnP σ0 (WN g p l e Rm s mm args below meth c Q d kc0 ks0) pc A q)  (h : x_icmp 0 w A q go = true) : Good K Inv R0 hs0 m0 d.2.2.1 kcP ksP lnP σ0 (WN g p l e Rm s mm args below meth c Q d kc0 ks0) pc A q := by
  intro R σ L hs kc ks S hX hV k1 k2 k3
  obtain ⟨x, y, S', rfl, a1, a2⟩ := x_icmp_v h hV
  refine g_icmpEq act hG rfl rfl (fun z => ?_) (fun z => ?_)
  · obtain ⟨B, z1, z2⟩ := a1 (Or.inl ⟨rfl, i_eq.mp z⟩)
    exact hgo _ _ _ z1 R σ L hs kc ks _ hX z2 k1 k2 k3
  · obtain ⟨B, z1, z2⟩ := a2 (Or.inr (Or.inl ⟨rfl, fun r => z (i_eq.mpr r)⟩))
    exact hgo _ _ _ z1 R σ L hs kc ks _ hX z2 k1 k2 k3

theorem x_ifEq_t (act : Act SSX TBL g CLS bl xs d p l s mm args meth c) (hG : G_ifEq SSX TBL CLS ftX mdx d pc w) (hgo : ∀ pc A q, go pc A q = true → Good K Inv R0 hs0 m0 d.2.2.1 kcP ksP lnP σ0 (WN g p l e Rm s mm args below meth c Q d kc0 ks0) pc A q)  (h : x_if 0 w A q go = true) : Good K Inv R0 hs0 m0 d.2.2.1 kcP ksP lnP σ0 (WN g p l e Rm s mm args below meth c Q d kc0 ks0) pc A q := by
  intro R σ L hs kc ks S hX hV k1 k2 k3
  obtain ⟨x, S', rfl, a1, a2⟩ := x_if_v h hV
  refine g_ifEq act hG rfl rfl (fun z => ?_) (fun z => ?_)
  · obtain ⟨B, σ', z1, z2⟩ := a1 (Or.inl ⟨rfl, i_eq.mp z⟩)
    exact hgo _ _ _ z1 R σ' L hs kc ks _ hX z2 k1 k2 k3
  · obtain ⟨B, σ', z1, z2⟩ := a2 (Or.inr (Or.inl ⟨rfl, fun r => z (i_eq.mpr r)⟩))
    exact hgo _ _ _ z1 R σ' L hs kc ks _ hX z2 k1 k2 k3

theorem x_icmpNe_t (act : Act SSX TBL g CLS bl xs d p l s mm args meth c) (hG : G_icmpNe SSX TBL CLS ftX mdx d pc w) (hgo : ∀ pc A q, go pc A q = true → Good K Inv R0 hs0 m0 d.2.2.1 kcP ksP lnP σ0 (WN g p l e Rm s mm args below meth c Q d kc0 ks0) pc A q)  (h : x_icmp 1 w A q go = true) : Good K Inv R0 hs0 m0 d.2.2.1 kcP ksP lnP σ0 (WN g p l e Rm s mm args below meth c Q d kc0 ks0) pc A q := by
  intro R σ L hs kc ks S hX hV k1 k2 k3
  obtain ⟨x, y, S', rfl, a1, a2⟩ := x_icmp_v h hV
  refine g_icmpNe act hG rfl rfl (fun z => ?_) (fun z => ?_)
  · obtain ⟨B, z1, z2⟩ := a1 (Or.inr (Or.inl ⟨rfl, fun r => z (i_eq.mpr r)⟩))
    exact hgo _ _ _ z1 R σ L hs kc ks _ hX z2 k1 k2 k3
  · obtain ⟨B, z1, z2⟩ := a2 (Or.inl ⟨rfl, Decidable.byContradiction (fun r => z (fun u => r (i_eq.mp u)))⟩)
    exact hgo _ _ _ z1 R σ L hs kc ks _ hX z2 k1 k2 k3

theorem x_ifNe_t (act : Act SSX TBL g CLS bl xs d p l s mm args meth c) (hG : G_ifNe SSX TBL CLS ftX mdx d pc w) (hgo : ∀ pc A q, go pc A q = true → Good K Inv R0 hs0 m0 d.2.2.1 kcP ksP lnP σ0 (WN g p l e Rm s mm args below meth c Q d kc0 ks0) pc A q)  (h : x_if 1 w A q go = true) : Good K Inv R0 hs0 m0 d.2.2.1 kcP ksP lnP σ0 (WN g p l e Rm s mm args below meth c Q d kc0 ks0) pc A q := by
  intro R σ L hs kc ks S hX hV k1 k2 k3
  obtain ⟨x, S', rfl, a1, a2⟩ := x_if_v h hV
  refine g_ifNe act hG rfl rfl (fun z => ?_) (fun z => ?_)
  · obtain ⟨B, σ', z1, z2⟩ := a1 (Or.inr (Or.inl ⟨rfl, fun r => z (i_eq.mpr r)⟩))
    exact hgo _ _ _ z1 R σ' L hs kc ks _ hX z2 k1 k2 k3
  · obtain ⟨B, σ', z1, z2⟩ := a2 (Or.inl ⟨rfl, Decidable.byContradiction (fun r => z (fun u => r (i_eq.mp u)))⟩)
    exact hgo _ _ _ z1 R σ' L hs kc ks _ hX z2 k1 k2 k3

theorem x_icmpLt_t (act : Act SSX TBL g CLS bl xs d p l s mm args meth c) (hG : G_icmpLt SSX TBL CLS ftX mdx d pc w) (hgo : ∀ pc A q, go pc A q = true → Good K Inv R0 hs0 m0 d.2.2.1 kcP ksP lnP σ0 (WN g p l e Rm s mm args below meth c Q d kc0 ks0) pc A q)  (h : x_icmp 2 w A q go = true) : Good K Inv R0 hs0 m0 d.2.2.1 kcP ksP lnP σ0 (WN g p l e Rm s mm args below meth c Q d kc0 ks0) pc A q := by
  intro R σ L hs kc ks S hX hV k1 k2 k3
  obtain ⟨x, y, S', rfl, a1, a2⟩ := x_icmp_v h hV
  refine g_icmpLt act hG rfl rfl (fun z => ?_) (fun z => ?_)
  · obtain ⟨B, z1, z2⟩ := a1 (Or.inr (Or.inr (Or.inl ⟨rfl, i_lt.mp z⟩)))
    exact hgo _ _ _ z1 R σ L hs kc ks _ hX z2 k1 k2 k3
  · obtain ⟨B, z1, z2⟩ := a2 (Or.inr (Or.inr (Or.inr (Or.inl ⟨rfl, Int.not_lt.mp (fun r => z (i_lt.mpr r))⟩))))
    exact hgo _ _ _ z1 R σ L hs kc ks _ hX z2 k1 k2 k3

theorem x_ifLt_t (act : Act SSX TBL g CLS bl xs d p l s mm args meth c) (hG : G_ifLt SSX TBL CLS ftX mdx d pc w) (hgo : ∀ pc A q, go pc A q = true → Good K Inv R0 hs0 m0 d.2.2.1 kcP ksP lnP σ0 (WN g p l e Rm s mm args below meth c Q d kc0 ks0) pc A q)  (h : x_if 2 w A q go = true) : Good K Inv R0 hs0 m0 d.2.2.1 kcP ksP lnP σ0 (WN g p l e Rm s mm args below meth c Q d kc0 ks0) pc A q := by
  intro R σ L hs kc ks S hX hV k1 k2 k3
  obtain ⟨x, S', rfl, a1, a2⟩ := x_if_v h hV
  refine g_ifLt act hG rfl rfl (fun z => ?_) (fun z => ?_)
  · obtain ⟨B, σ', z1, z2⟩ := a1 (Or.inr (Or.inr (Or.inl ⟨rfl, i_lt.mp z⟩)))
    exact hgo _ _ _ z1 R σ' L hs kc ks _ hX z2 k1 k2 k3
  · obtain ⟨B, σ', z1, z2⟩ := a2 (Or.inr (Or.inr (Or.inr (Or.inl ⟨rfl, Int.not_lt.mp (fun r => z (i_lt.mpr r))⟩))))
    exact hgo _ _ _ z1 R σ' L hs kc ks _ hX z2 k1 k2 k3

theorem x_icmpGe_t (act : Act SSX TBL g CLS bl xs d p l s mm args meth c) (hG : G_icmpGe SSX TBL CLS ftX mdx d pc w) (hgo : ∀ pc A q, go pc A q = true → Good K Inv R0 hs0 m0 d.2.2.1 kcP ksP lnP σ0 (WN g p l e Rm s mm args below meth c Q d kc0 ks0) pc A q)  (h : x_icmp 3 w A q go = true) : Good K Inv R0 hs0 m0 d.2.2.1 kcP ksP lnP σ0 (WN g p l e Rm s mm args below meth c Q d kc0 ks0) pc A q := by
  intro R σ L hs kc ks S hX hV k1 k2 k3
  obtain ⟨x, y, S', rfl, a1, a2⟩ := x_icmp_v h hV
  refine g_icmpGe act hG rfl rfl (fun z => ?_) (fun z => ?_)
  · obtain ⟨B, z1, z2⟩ := a1 (Or.inr (Or.inr (Or.inr (Or.inl ⟨rfl, i_le.mp z⟩))))
    exact hgo _ _ _ z1 R σ L hs kc ks _ hX z2 k1 k2 k3
  · obtain ⟨B, z1, z2⟩ := a2 (Or.inr (Or.inr (Or.inl ⟨rfl, Int.not_le.mp (fun r => z (i_le.mpr r))⟩)))
    exact hgo _ _ _ z1 R σ L hs kc ks _ hX z2 k1 k2 k3

theorem x_ifGe_t (act : Act SSX TBL g CLS bl xs d p l s mm args meth c) (hG : G_ifGe SSX TBL CLS ftX mdx d pc w) (hgo : ∀ pc A q, go pc A q = true → Good K Inv R0 hs0 m0 d.2.2.1 kcP ksP lnP σ0 (WN g p l e Rm s mm args below meth c Q d kc0 ks0) pc A q)  (h : x_if 3 w A q go = true) : Good K Inv R0 hs0 m0 d.2.2.1 kcP ksP lnP σ0 (WN g p l e Rm s mm args below meth c Q d kc0 ks0) pc A q := by
  intro R σ L hs kc ks S hX hV k1 k2 k3
  obtain ⟨x, S', rfl, a1, a2⟩ := x_if_v h hV
  refine g_ifGe act hG rfl rfl (fun z => ?_) (fun z => ?_)
  · obtain ⟨B, σ', z1, z2⟩ := a1 (Or.inr (Or.inr (Or.inr (Or.inl ⟨rfl, i_le.mp z⟩))))
    exact hgo _ _ _ z1 R σ' L hs kc ks _ hX z2 k1 k2 k3
  · obtain ⟨B, σ', z1, z2⟩ := a2 (Or.inr (Or.inr (Or.inl ⟨rfl, Int.not_le.mp (fun r => z (i_le.mpr r))⟩)))
    exact hgo _ _ _ z1 R σ' L hs kc ks _ hX z2 k1 k2 k3

theorem x_icmpGt_t (act : Act SSX TBL g CLS bl xs d p l s mm args meth c) (hG : G_icmpGt SSX TBL CLS ftX mdx d pc w) (hgo : ∀ pc A q, go pc A q = true → Good K Inv R0 hs0 m0 d.2.2.1 kcP ksP lnP σ0 (WN g p l e Rm s mm args below meth c Q d kc0 ks0) pc A q)  (h : x_icmp 4 w A q go = true) : Good K Inv R0 hs0 m0 d.2.2.1 kcP ksP lnP σ0 (WN g p l e Rm s mm args below meth c Q d kc0 ks0) pc A q := by
  intro R σ L hs kc ks S hX hV k1 k2 k3
  obtain ⟨x, y, S', rfl, a1, a2⟩ := x_icmp_v h hV
  refine g_icmpGt act hG rfl rfl (fun z => ?_) (fun z => ?_)
  · obtain ⟨B, z1, z2⟩ := a1 (Or.inr (Or.inr (Or.inr (Or.inr (Or.inl ⟨rfl, i_lt.mp z⟩)))))
    exact hgo _ _ _ z1 R σ L hs kc ks _ hX z2 k1 k2 k3
  · obtain ⟨B, z1, z2⟩ := a2 (Or.inr (Or.inr (Or.inr (Or.inr (Or.inr ⟨rfl, Int.not_lt.mp (fun r => z (i_lt.mpr r))⟩)))))
    exact hgo _ _ _ z1 R σ L hs kc ks _ hX z2 k1 k2 k3

theorem x_ifGt_t (act : Act SSX TBL g CLS bl xs d p l s mm args meth c) (hG : G_ifGt SSX TBL CLS ftX mdx d pc w) (hgo : ∀ pc A q, go pc A q = true → Good K Inv R0 hs0 m0 d.2.2.1 kcP ksP lnP σ0 (WN g p l e Rm s mm args below meth c Q d kc0 ks0) pc A q)  (h : x_if 4 w A q go = true) : Good K Inv R0 hs0 m0 d.2.2.1 kcP ksP lnP σ0 (WN g p l e Rm s mm args below meth c Q d kc0 ks0) pc A q := by
  intro R σ L hs kc ks S hX hV k1 k2 k3
  obtain ⟨x, S', rfl, a1, a2⟩ := x_if_v h hV
  refine g_ifGt act hG rfl rfl (fun z => ?_) (fun z => ?_)
  · obtain ⟨B, σ', z1, z2⟩ := a1 (Or.inr (Or.inr (Or.inr (Or.inr (Or.inl ⟨rfl, i_lt.mp z⟩)))))
    exact hgo _ _ _ z1 R σ' L hs kc ks _ hX z2 k1 k2 k3
  · obtain ⟨B, σ', z1, z2⟩ := a2 (Or.inr (Or.inr (Or.inr (Or.inr (Or.inr ⟨rfl, Int.not_lt.mp (fun r => z (i_lt.mpr r))⟩)))))
    exact hgo _ _ _ z1 R σ' L hs kc ks _ hX z2 k1 k2 k3

theorem x_icmpLe_t (act : Act SSX TBL g CLS bl xs d p l s mm args meth c) (hG : G_icmpLe SSX TBL CLS ftX mdx d pc w) (hgo : ∀ pc A q, go pc A q = true → Good K Inv R0 hs0 m0 d.2.2.1 kcP ksP lnP σ0 (WN g p l e Rm s mm args below meth c Q d kc0 ks0) pc A q)  (h : x_icmp 5 w A q go = true) : Good K Inv R0 hs0 m0 d.2.2.1 kcP ksP lnP σ0 (WN g p l e Rm s mm args below meth c Q d kc0 ks0) pc A q := by
  intro R σ L hs kc ks S hX hV k1 k2 k3
  obtain ⟨x, y, S', rfl, a1, a2⟩ := x_icmp_v h hV
  refine g_icmpLe act hG rfl rfl (fun z => ?_) (fun z => ?_)
  · obtain ⟨B, z1, z2⟩ := a1 (Or.inr (Or.inr (Or.inr (Or.inr (Or.inr ⟨rfl, i_le.mp z⟩)))))
    exact hgo _ _ _ z1 R σ L hs kc ks _ hX z2 k1 k2 k3
  · obtain ⟨B, z1, z2⟩ := a2 (Or.inr (Or.inr (Or.inr (Or.inr (Or.inl ⟨rfl, Int.not_le.mp (fun r => z (i_le.mpr r))⟩)))))
    exact hgo _ _ _ z1 R σ L hs kc ks _ hX z2 k1 k2 k3

theorem x_ifLe_t (act : Act SSX TBL g CLS bl xs d p l s mm args meth c) (hG : G_ifLe SSX TBL CLS ftX mdx d pc w) (hgo : ∀ pc A q, go pc A q = true → Good K Inv R0 hs0 m0 d.2.2.1 kcP ksP lnP σ0 (WN g p l e Rm s mm args below meth c Q d kc0 ks0) pc A q)  (h : x_if 5 w A q go = true) : Good K Inv R0 hs0 m0 d.2.2.1 kcP ksP lnP σ0 (WN g p l e Rm s mm args below meth c Q d kc0 ks0) pc A q := by
  intro R σ L hs kc ks S hX hV k1 k2 k3
  obtain ⟨x, S', rfl, a1, a2⟩ := x_if_v h hV
  refine g_ifLe act hG rfl rfl (fun z => ?_) (fun z => ?_)
  · obtain ⟨B, σ', z1, z2⟩ := a1 (Or.inr (Or.inr (Or.inr (Or.inr (Or.inr ⟨rfl, i_le.mp z⟩)))))
    exact hgo _ _ _ z1 R σ' L hs kc ks _ hX z2 k1 k2 k3
  · obtain ⟨B, σ', z1, z2⟩ := a2 (Or.inr (Or.inr (Or.inr (Or.inr (Or.inl ⟨rfl, Int.not_le.mp (fun r => z (i_le.mpr r))⟩)))))
    exact hgo _ _ _ z1 R σ' L hs kc ks _ hX z2 k1 k2 k3

def x_ifnonnull (w : Nat) (A : ST) (q : Nat) (go : GO) : Bool := match A with
  | (E, Ls, a :: St, Rg) => bif Nat.beq a.1 5 then go (nxt w) (E, Ls, St, Rg) q else bif Nat.beq a.1 4 then go (nxt w) (E, Ls, St, Rg) q && go (fa w) (E, Ls, St, Rg) q else Nat.beq a.1 3 && go (fa w) (E, Ls, St, Rg) q
  | _ => false
theorem x_ifnonnull_t (act : Act SSX TBL g CLS bl xs d p l s mm args meth c) (hG : G_ifnonnull SSX TBL CLS ftX mdx d pc w) (hgo : ∀ pc A q, go pc A q = true → Good K Inv R0 hs0 m0 d.2.2.1 kcP ksP lnP σ0 (WN g p l e Rm s mm args below meth c Q d kc0 ks0) pc A q)  (h : x_ifnonnull w A q go = true) : Good K Inv R0 hs0 m0 d.2.2.1 kcP ksP lnP σ0 (WN g p l e Rm s mm args below meth c Q d kc0 ks0) pc A q := by
  unfold x_ifnonnull at h
  split at h
  · rename_i E Ls a St Rg
    intro R σ L hs kc ks S hX hV k1 k2 k3
    obtain ⟨v, S', rfl, hv, hV1⟩ := hV.pop
    cases h5 : Nat.beq a.1 5 with
    | true =>
      rw [h5, cond_true] at h
      have := hv.nul (Nat.eq_of_beq_eq_true h5)
      subst this
      exact g_nnN act hG rfl (hgo _ _ _ h R σ L hs kc ks _ hX hV1 k1 k2 k3)
    | false =>
      rw [h5, cond_false] at h
      cases h4 : Nat.beq a.1 4 with
      | true =>
        rw [h4, cond_true, Bool.and_eq_true] at h
        rcases hv.rf4 (Nat.eq_of_beq_eq_true h4) with rfl | ⟨k, r, rfl, -⟩
        · exact g_nnN act hG rfl (hgo _ _ _ h.1 R σ L hs kc ks _ hX hV1 k1 k2 k3)
        · exact g_nnR act hG rfl (hgo _ _ _ h.2 R σ L hs kc ks _ hX hV1 k1 k2 k3)
      | false =>
        rw [h4, cond_false, Bool.and_eq_true] at h
        obtain ⟨k, r, rfl, -⟩ := hv.rf3 (Nat.eq_of_beq_eq_true h.1)
        exact g_nnR act hG rfl (hgo _ _ _ h.2 R σ L hs kc ks _ hX hV1 k1 k2 k3)
  · cases h

theorem cat1 {K : KX} {n0 n : Nat} {hs : List CE} {R : List Nat} {σ : Nat → Int} {a : AV} {v : Value} (hv : VM K n0 hs R n σ a v) (h : Nat.beq (catA a) 1 = true) : v.category = 1 := by
  have h := Nat.eq_of_beq_eq_true h
  rw [hv.cat ?_, h]
  intro z
  obtain ⟨t, a⟩ := a
  have z : t = 0 := z
  subst z
  have h : (9 : Nat) = 1 := h
  cases h
def x_pop (w : Nat) (A : ST) (q : Nat) (go : GO) : Bool := match A with
  | (E, Ls, a :: St, Rg) => Nat.beq (catA a) 1 && go (nxt w) (E, Ls, St, Rg) q
  | _ => false
def x_dup (w : Nat) (A : ST) (q : Nat) (go : GO) : Bool := match A with
  | (E, Ls, a :: St, Rg) => Nat.beq (catA a) 1 && go (nxt w) (E, Ls, a :: a :: St, Rg) q
  | _ => false
def x_dup2 (w : Nat) (A : ST) (q : Nat) (go : GO) : Bool := match A with
  | (E, Ls, a :: b :: St, Rg) => Nat.beq (catA a) 1 && (Nat.beq (catA b) 1 && go (nxt w) (E, Ls, a :: b :: a :: b :: St, Rg) q)
  | _ => false
def x_dupx1 (w : Nat) (A : ST) (q : Nat) (go : GO) : Bool := match A with
  | (E, Ls, a :: b :: St, Rg) => Nat.beq (catA a) 1 && (Nat.beq (catA b) 1 && go (nxt w) (E, Ls, a :: b :: a :: St, Rg) q)
  | _ => false
def x_goto (w : Nat) (A : ST) (q : Nat) (go : GO) : Bool := go (nxt w) A q
theorem x_goto_t (act : Act SSX TBL g CLS bl xs d p l s mm args meth c) (hG : G_goto SSX TBL CLS ftX mdx d pc w) (hgo : ∀ pc A q, go pc A q = true → Good K Inv R0 hs0 m0 d.2.2.1 kcP ksP lnP σ0 (WN g p l e Rm s mm args below meth c Q d kc0 ks0) pc A q)  (h : x_goto w A q go = true) : Good K Inv R0 hs0 m0 d.2.2.1 kcP ksP lnP σ0 (WN g p l e Rm s mm args below meth c Q d kc0 ks0) pc A q := by
  intro R σ L hs kc ks S hX hV k1 k2 k3
  exact g_goto act hG rfl (hgo _ _ _ h R σ L hs kc ks _ hX hV k1 k2 k3)

theorem x_pop_t (act : Act SSX TBL g CLS bl xs d p l s mm args meth c) (hG : G_pop SSX TBL CLS ftX mdx d pc w) (hgo : ∀ pc A q, go pc A q = true → Good K Inv R0 hs0 m0 d.2.2.1 kcP ksP lnP σ0 (WN g p l e Rm s mm args below meth c Q d kc0 ks0) pc A q)  (h : x_pop w A q go = true) : Good K Inv R0 hs0 m0 d.2.2.1 kcP ksP lnP σ0 (WN g p l e Rm s mm args below meth c Q d kc0 ks0) pc A q := by
  unfold x_pop at h
  split at h
  · rw [Bool.and_eq_true] at h
    intro R σ L hs kc ks S hX hV k1 k2 k3
    obtain ⟨v, S', rfl, hv, hV1⟩ := hV.pop
    exact g_pop act hG rfl (cat1 hv h.1) (hgo _ _ _ h.2 R σ L hs kc ks _ hX hV1 k1 k2 k3)
  · cases h

theorem x_dup_t (act : Act SSX TBL g CLS bl xs d p l s mm args meth c) (hG : G_dup SSX TBL CLS ftX mdx d pc w) (hgo : ∀ pc A q, go pc A q = true → Good K Inv R0 hs0 m0 d.2.2.1 kcP ksP lnP σ0 (WN g p l e Rm s mm args below meth c Q d kc0 ks0) pc A q)  (h : x_dup w A q go = true) : Good K Inv R0 hs0 m0 d.2.2.1 kcP ksP lnP σ0 (WN g p l e Rm s mm args below meth c Q d kc0 ks0) pc A q := by
  unfold x_dup at h
  split at h
  · rw [Bool.and_eq_true] at h
    intro R σ L hs kc ks S hX hV k1 k2 k3
    obtain ⟨v, S', rfl, hv, hV1⟩ := hV.pop
    exact g_dup act hG rfl (cat1 hv h.1) (hgo _ _ _ h.2 R σ L hs kc ks _ hX (hV.push hv) k1 k2 k3)
  · cases h

theorem x_dup2_t (act : Act SSX TBL g CLS bl xs d p l s mm args meth c) (hG : G_dup2 SSX TBL CLS ftX mdx d pc w) (hgo : ∀ pc A q, go pc A q = true → Good K Inv R0 hs0 m0 d.2.2.1 kcP ksP lnP σ0 (WN g p l e Rm s mm args below meth c Q d kc0 ks0) pc A q)  (h : x_dup2 w A q go = true) : Good K Inv R0 hs0 m0 d.2.2.1 kcP ksP lnP σ0 (WN g p l e Rm s mm args below meth c Q d kc0 ks0) pc A q := by
  unfold x_dup2 at h
  split at h
  · rw [Bool.and_eq_true, Bool.and_eq_true] at h
    intro R σ L hs kc ks S hX hV k1 k2 k3
    obtain ⟨v, S1, rfl, hv, hV1⟩ := hV.pop
    obtain ⟨u, S2, rfl, hu, hV2⟩ := hV1.pop
    exact g_dup2 act hG rfl (cat1 hv h.1) (cat1 hu h.2.1) (hgo _ _ _ h.2.2 R σ L hs kc ks _ hX ((hV.push hu).push hv) k1 k2 k3)
  · cases h

theorem x_dupx1_t (act : Act SSX TBL g CLS bl xs d p l s mm args meth c) (hG : G_dupx1 SSX TBL CLS ftX mdx d pc w) (hgo : ∀ pc A q, go pc A q = true → Good K Inv R0 hs0 m0 d.2.2.1 kcP ksP lnP σ0 (WN g p l e Rm s mm args below meth c Q d kc0 ks0) pc A q)  (h : x_dupx1 w A q go = true) : Good K Inv R0 hs0 m0 d.2.2.1 kcP ksP lnP σ0 (WN g p l e Rm s mm args below meth c Q d kc0 ks0) pc A q := by
  unfold x_dupx1 at h
  split at h
  · rw [Bool.and_eq_true, Bool.and_eq_true] at h
    intro R σ L hs kc ks S hX hV k1 k2 k3
    obtain ⟨v, S1, rfl, hv, hV1⟩ := hV.pop
    obtain ⟨u, S2, rfl, hu, hV2⟩ := hV1.pop
    exact g_dupx1 act hG rfl (cat1 hv h.1) (cat1 hu h.2.1) (hgo _ _ _ h.2.2 R σ L hs kc ks _ hX (((hV2.push hv).push hu).push hv) k1 k2 k3)
  · cases h

def pushT (A : ST) (t : FT) (k : ST → Bool) : Bool := bif Nat.beq t.1 1 then k (pushI A t.2.2.1 t.2.2.2) else bif Nat.beq t.1 2 then k (pushL A t.2.2.1 t.2.2.2 (decide (0 < t.2.2.1) || Nat.beq t.2.1 1)) else bif Nat.beq t.1 3 then k (pushA A (3, t.2.1, 0, 0)) else bif Nat.beq t.1 4 then k (pushA A (4, t.2.1, 0, 0)) else bif Nat.beq t.1 6 || Nat.beq t.1 8 then k (pushI A t.2.2.1 t.2.2.2) else Nat.beq t.1 7 && k (pushA A (3, t.2.1, 0, 0))
theorem pushT_t {K : KX} {n0 m0 nL : Nat} {σ0 σ : Nat → Int} {hs : List CE} {R : List Nat} {A : ST} {L : LN} {S : List Value} {t : FT} {k : ST → Bool} {v : Value} (h : pushT A t k = true) (hV : VX K n0 m0 nL σ0 hs R σ A L S) (hv : VT K R t v) : ∃ (σ' : Nat → Int) (B : ST), k B = true ∧ VX K n0 m0 nL σ0 hs R σ' B L (v :: S) := by
  obtain ⟨t, g9, lo, hi⟩ := t
  unfold pushT at h
  rcases hv with e | ⟨e, x, rfl, h1, h2⟩ | ⟨e, x, rfl, h1, h2, h3⟩ | ⟨e, hg⟩ | ⟨e, hg⟩ | ⟨e | e, x, rfl, h1, h2⟩ | ⟨e, hg⟩
  · have e : t = 0 := e
    subst e
    cases h
  · have e : t = 1 := e
    subst e
    exact ⟨_, _, h, hV.pushI h1 h2⟩
  · have e : t = 2 := e
    subst e
    exact ⟨_, _, h, hV.pushL h1 h2 (fun z => by
      rcases Bool.or_eq_true _ _ ▸ z with z | z
      · have := of_decide_eq_true z; have h1 : lo ≤ x.toInt := h1; have this : 0 < lo := this; omega
      · exact h3 (Nat.eq_of_beq_eq_true z))⟩
  · have e : t = 3 := e
    subst e
    exact ⟨_, _, h, hV.pushA (VM.mk3 hg)⟩
  · have e : t = 4 := e
    subst e
    exact ⟨_, _, h, hV.pushA (VM.mk4 hg)⟩
  · have e : t = 6 := e
    subst e
    exact ⟨_, _, h, hV.pushI h1 h2⟩
  · have e : t = 8 := e
    subst e
    exact ⟨_, _, h, hV.pushI h1 h2⟩
  · have e : t = 7 := e
    subst e
    exact ⟨_, _, h, hV.pushA (VM.mk3 hg)⟩
def x_getf (K : KX) (w : Nat) (A : ST) (q : Nat) (go : GO) : Bool := match A with
  | (E, Ls, (3, g, _, _) :: St, Rg) => Nat.blt g 1000 && (Nat.beq (fa w % 64) (kdK K g) && (Nat.blt (fa w / 64) (lnK K g) && (match gtR K.2.2 Rg g (fa w / 64) with
    | some a => go (nxt w) (E, Ls, a :: St, Rg) q
    | none => pushT (E, Ls, St, Rg) (ftK K g (fa w / 64)) (fun B => go (nxt w) B q))))
  | _ => false
theorem x_getf_t (act : Act SSX TBL g CLS bl xs d p l s mm args meth c) (hG : G_getf SSX TBL CLS ftX mdx d pc w) (hgo : ∀ pc A q, go pc A q = true → Good K Inv R0 hs0 m0 d.2.2.1 kcP ksP lnP σ0 (WN g p l e Rm s mm args below meth c Q d kc0 ks0) pc A q)  (h : x_getf K w A q go = true) : Good K Inv R0 hs0 m0 d.2.2.1 kcP ksP lnP σ0 (WN g p l e Rm s mm args below meth c Q d kc0 ks0) pc A q := by
  unfold x_getf at h
  split at h
  · rename_i E Ls g9 b9 δ9 St Rg
    rw [Bool.and_eq_true, Bool.and_eq_true, Bool.and_eq_true] at h
    obtain ⟨w1, w2, w3, h⟩ := h
    intro R σ L hs kc ks S hX hV k1 k2 k3
    obtain ⟨v, S', rfl, hv, hV1⟩ := hV.pop
    obtain ⟨k, rfl, hk, hg0⟩ := (hv.rf3 rfl).one w1
    have hk : R[k]? = some g9 := hk
    obtain ⟨sh, ty⟩ := hX.1.2.1 k g9 hk hg0
    have w3 : fa w / 64 < lnK K g9 := Nat.le_of_ble_eq_true w3
    refine r_getf act hG (Nat.eq_of_beq_eq_true w2) rfl rfl sh w3 rfl ?_
    split at h
    · rename_i a ha
      obtain ⟨i, qq, z1, z2, z3, z4⟩ := gtR_t ha
      have z5 := (hX.1.2.2 qq (List.mem_of_getElem? z1)).2.2 k (by rw [z3]; exact hk)
      have hr := hV1.2.2.2.2.2.2 i qq a z1 z2
      rw [← z5, z4] at hr
      exact hgo _ _ _ h R σ L hs kc ks _ hX (hV1.push hr) k1 k2 k3
    · obtain ⟨σ', B, z1, z2⟩ := pushT_t h hV1 (ty _ w3)
      exact hgo _ _ _ z1 R σ' L hs kc ks _ hX z2 k1 k2 k3
  · cases h

def fitA (E : List EV) (ty : Nat) (a : AV) : Bool := (Nat.beq ty 0 && Nat.beq a.1 1) || ((Nat.beq ty 1 && (Nat.beq a.1 1 && (decide (0 ≤ (evg E a.2.1).1 + a.2.2.2) && decide ((evg E a.2.1).2.1 + a.2.2.2 ≤ 1)))) || ((Nat.beq ty 2 && Nat.beq a.1 2) || (Nat.beq ty 3 && (Nat.beq a.1 3 || (Nat.beq a.1 4 || Nat.beq a.1 5)))))
theorem i01 {x : Int32} (h1 : 0 ≤ x.toInt) (h2 : x.toInt ≤ 1) : x = 0 ∨ x = 1 := by
  rcases Int.lt_or_le x.toInt 1 with q | q
  · exact Or.inl (i_eq.mpr (by show x.toInt = 0; omega))
  · exact Or.inr (i_eq.mpr (by show x.toInt = 1; omega))
theorem fitA_t {K : KX} {n0 : Nat} {hs : List CE} {R : List Nat} {E : List EV} {σ : Nat → Int} {a : AV} {v : Value} {ty : Nat} (hE : EM E σ) (h : fitA E ty a = true) (hv : VM K n0 hs R E.length σ a v) : fitV ty v := by
  unfold fitA at h
  simp only [Bool.or_eq_true, Bool.and_eq_true, decide_eq_true_eq] at h
  rcases h with ⟨h1, h2⟩ | ⟨h1, h2, h3, h4⟩ | ⟨h1, h2⟩ | ⟨h1, h2⟩
  · obtain ⟨x, rfl, -⟩ := hv.int (Nat.eq_of_beq_eq_true h2)
    exact Or.inl ⟨Nat.eq_of_beq_eq_true h1, x, rfl⟩
  · obtain ⟨x, rfl, lx, ex⟩ := hv.int (Nat.eq_of_beq_eq_true h2)
    obtain ⟨b1, b2, -⟩ := hE _ lx
    rcases i01 (x := x) (by omega) (by omega) with rfl | rfl
    · exact Or.inr (Or.inl ⟨Nat.eq_of_beq_eq_true h1, Or.inl rfl⟩)
    · exact Or.inr (Or.inl ⟨Nat.eq_of_beq_eq_true h1, Or.inr rfl⟩)
  · obtain ⟨x, rfl, -⟩ := hv.lng (Nat.eq_of_beq_eq_true h2)
    exact Or.inr (Or.inr (Or.inl ⟨Nat.eq_of_beq_eq_true h1, x, rfl⟩))
  · refine Or.inr (Or.inr (Or.inr ⟨Nat.eq_of_beq_eq_true h1, ?_⟩))
    rcases h2 with h2 | h2 | h2
    · obtain ⟨k, r, rfl, -⟩ := hv.rf3 (Nat.eq_of_beq_eq_true h2)
      exact Or.inr ⟨k, rfl⟩
    · rcases hv.rf4 (Nat.eq_of_beq_eq_true h2) with z | ⟨k, r, rfl, -⟩
      · exact Or.inl z
      · exact Or.inr ⟨k, rfl⟩
    · exact Or.inl (hv.nul (Nat.eq_of_beq_eq_true h2))
def x_putf (K : KX) (w : Nat) (A : ST) (q : Nat) (go : GO) : Bool := match A with
  | (E, Ls, a :: (3, g, _, _) :: St, Rg) => Nat.blt g 400 && (Nat.beq (fa w % 64) (kdK K g) && (Nat.blt (fa w / 64) (lnK K g) && (tyA K E a (ftK K g (fa w / 64)) && (fitA E (fb w) a && go (nxt w) (E, Ls, St, upR K.2.2 Rg g (fa w / 64) a) q))))
  | _ => false
theorem blt_t {a b : Nat} (h : Nat.blt a b = true) : a < b := Nat.le_of_ble_eq_true h
theorem blt4 {g : Nat} (h : Nat.blt g 400 = true) : Nat.blt g 1000 = true := Nat.ble_eq_true_of_le (by have := blt_t h; show g + 1 ≤ 1000; omega)
/-- a place of a typed cell is written -/
theorem VX.wrt {K : KX} {n0 m0 nL : Nat} {σ0 σ : Nat → Int} {hs : List CE} {R : List Nat} {E : List EV} {Ls St Rg : List AV} {L : LN} {S : List Value} (hT : HTy K R hs) (hV : VX K n0 m0 nL σ0 hs R σ (E, Ls, St, Rg) L S) {k r j : Nat} {a : AV} {v : Value} (hk : R[k]? = some r) (hr : r ≠ 0) (hv : VM K n0 hs R E.length σ a v) : VX K n0 m0 nL σ0 (wr hs k j v) R σ (E, Ls, St, upR K.2.2 Rg r j a) L S := by
  refine hV.hp (SBx.wr hk hr) (fun i q b hi hb => ?_)
  have sh := (hT.2.1 k r hk hr).1
  rw [rd_if sh]
  obtain ⟨y1, y2, y3⟩ := hT.2.2 q (List.mem_of_getElem? hi)
  rcases upR_t hi hb with ⟨z1, z2, rfl⟩ | ⟨z1, z2⟩
  · have e1 : k = q.2.1 := y3 k (by rw [z1]; exact hk)
    rw [if_pos ⟨e1.symm, z2⟩]
    exact hv.mono (Nat.le_refl _) (fun _ _ => rfl) (SBx.wr hk hr)
  · rw [if_neg ?_]
    · exact (hV.2.2.2.2.2.2 i q b hi z2).mono (Nat.le_refl _) (fun _ _ => rfl) (SBx.wr hk hr)
    · rintro ⟨e1, e2⟩
      rw [e1, hk] at y2
      cases y2
      exact z1 ⟨rfl, e2⟩
theorem x_putf_t (act : Act SSX TBL g CLS bl xs d p l s mm args meth c) (hG : G_putf SSX TBL CLS ftX mdx d pc w) (hgo : ∀ pc A q, go pc A q = true → Good K Inv R0 hs0 m0 d.2.2.1 kcP ksP lnP σ0 (WN g p l e Rm s mm args below meth c Q d kc0 ks0) pc A q) (hI : StI K Inv) (h : x_putf K w A q go = true) : Good K Inv R0 hs0 m0 d.2.2.1 kcP ksP lnP σ0 (WN g p l e Rm s mm args below meth c Q d kc0 ks0) pc A q := by
  unfold x_putf at h
  split at h
  · rename_i E Ls a g9 b9 δ9 St Rg
    rw [Bool.and_eq_true, Bool.and_eq_true, Bool.and_eq_true, Bool.and_eq_true, Bool.and_eq_true] at h
    obtain ⟨w1, w2, w3, w4, w5, h⟩ := h
    intro R σ L hs kc ks S hX hV k1 k2 k3
    obtain ⟨v, S1, rfl, hv, hV1⟩ := hV.pop
    obtain ⟨v2, S2, rfl, hv2, hV2⟩ := hV1.pop
    obtain ⟨k, rfl, hk, hg0⟩ := (hv2.rf3 rfl).one (blt4 w1)
    have hk : R[k]? = some g9 := hk
    obtain ⟨sh, ty⟩ := hX.1.2.1 k g9 hk hg0
    refine r_putf act hG (Nat.eq_of_beq_eq_true w2) rfl rfl sh (blt_t w3) (fitA_t hV2.em w5 hv) ?_
    exact hgo _ _ _ h R σ L _ kc ks _ (hX.wr hI hk hg0 (blt_t w1) (tyA_t hV2.em w4 hv)) (hV2.wrt hX.1 hk hg0 hv) k1 k2 (by rw [wr_len]; exact k3)
  · cases h

/-- arrays: the type of a part, a check of a part -/
def joinT (t u : FT) : FT := bif Nat.beq t.1 1 && Nat.beq u.1 1 then (1, 0, mnI t.2.2.1 u.2.2.1, mxI t.2.2.2 u.2.2.2) else bif decide (t = u) then t else (0, 0, 0, 0)
def jnT (K : KX) (g lo : Nat) : Nat → FT
  | 0 => ftK K g lo
  | n + 1 => joinT (jnT K g lo n) (ftK K g (lo + n + 1))
def arT (K : KX) (g : Nat) (lo hi : Int) : FT := bif (roK K g).2.2.2.isEmpty then (roK K g).2.2.1 else jnT K g lo.toNat (hi - lo).toNat
def alT (K : KX) (g lo : Nat) (f : FT → Bool) : Nat → Bool
  | 0 => f (ftK K g lo)
  | n + 1 => alT K g lo f n && f (ftK K g (lo + n + 1))
def arC (K : KX) (g : Nat) (lo hi : Int) (f : FT → Bool) : Bool := bif (roK K g).2.2.2.isEmpty then f (roK K g).2.2.1 else alT K g lo.toNat f (hi - lo).toNat
theorem mn_le {a b : Int} : mnI a b ≤ a ∧ mnI a b ≤ b := by
  unfold mnI
  cases h : decide (a ≤ b) with
  | true => have := of_decide_eq_true h; exact ⟨Int.le_refl _, this⟩
  | false => have := of_decide_eq_false h; exact ⟨(by show b ≤ a; omega), Int.le_refl _⟩
theorem mx_le {a b : Int} : a ≤ mxI a b ∧ b ≤ mxI a b := by
  unfold mxI
  cases h : decide (a ≤ b) with
  | true => have := of_decide_eq_true h; exact ⟨this, Int.le_refl _⟩
  | false => have := of_decide_eq_false h; exact ⟨Int.le_refl _, (by show b ≤ a; omega)⟩
theorem joinT_t {K : KX} {R : List Nat} {t u : FT} {v : Value} (h : VT K R t v ∨ VT K R u v) : VT K R (joinT t u) v := by
  unfold joinT
  cases h1 : Nat.beq t.1 1 && Nat.beq u.1 1 with
  | true =>
    rw [Bool.and_eq_true] at h1
    have e1 := Nat.eq_of_beq_eq_true h1.1
    have e2 := Nat.eq_of_beq_eq_true h1.2
    have key : ∀ t' : FT, t'.1 = 1 → VT K R t' v → ∃ x : Int32, v = .int x ∧ t'.2.2.1 ≤ x.toInt ∧ x.toInt ≤ t'.2.2.2 := by
      intro t' e h
      rcases h with h | ⟨-, h⟩ | ⟨h, -⟩ | ⟨h, -⟩ | ⟨h, -⟩ | ⟨h, -⟩ | ⟨h, -⟩
      rotate_left
      · exact h
      all_goals (rw [e] at h; exact absurd h (by decide))
    have a1 := @mn_le t.2.2.1 u.2.2.1
    have a2 := @mx_le t.2.2.2 u.2.2.2
    rcases h with h | h
    · obtain ⟨x, rfl, z1, z2⟩ := key t e1 h
      exact Or.inr (Or.inl ⟨rfl, x, rfl, Int.le_trans a1.1 z1, Int.le_trans z2 a2.1⟩)
    · obtain ⟨x, rfl, z1, z2⟩ := key u e2 h
      exact Or.inr (Or.inl ⟨rfl, x, rfl, Int.le_trans a1.2 z1, Int.le_trans z2 a2.2⟩)
  | false =>
    cases h2 : decide (t = u) with
    | true =>
      have := of_decide_eq_true h2
      subst this
      rcases h with h | h <;> exact h
    | false => exact Or.inl rfl
theorem jnT_t {K : KX} {R : List Nat} {g lo : Nat} {v : Value} : ∀ {n j : Nat}, j ≤ n → VT K R (ftK K g (lo + j)) v → VT K R (jnT K g lo n) v
  | 0, j, h, hv => by rw [show j = 0 by omega] at hv; exact hv
  | n + 1, j, h, hv => by
    rcases Nat.lt_or_ge n j with q | q
    · rw [show j = n + 1 by omega] at hv
      exact joinT_t (Or.inr hv)
    · exact joinT_t (Or.inl (jnT_t q hv))
theorem alT_t {K : KX} {g lo : Nat} {f : FT → Bool} : ∀ {n j : Nat}, j ≤ n → alT K g lo f n = true → f (ftK K g (lo + j)) = true
  | 0, j, h, hv => by rw [show j = 0 by omega]; exact hv
  | n + 1, j, h, hv => by
    have hv : (alT K g lo f n && f (ftK K g (lo + n + 1))) = true := hv
    rw [Bool.and_eq_true] at hv
    rcases Nat.lt_or_ge n j with q | q
    · rw [show j = n + 1 by omega]; exact hv.2
    · exact alT_t q hv.1
theorem ftK_e {K : KX} {g j : Nat} (h : (roK K g).2.2.2.isEmpty = true) : ftK K g j = (roK K g).2.2.1 := by
  unfold ftK
  rw [List.isEmpty_iff.mp h]
  rfl
theorem arT_t {K : KX} {R : List Nat} {g j : Nat} {lo hi : Int} {v : Value} (h0 : 0 ≤ lo) (h1 : lo ≤ (j : Int)) (h2 : (j : Int) ≤ hi) (hv : VT K R (ftK K g j) v) : VT K R (arT K g lo hi) v := by
  unfold arT
  cases hb : (roK K g).2.2.2.isEmpty with
  | true => rw [ftK_e hb] at hv; exact hv
  | false =>
    have e : lo.toNat + (j - lo.toNat) = j := by omega
    exact jnT_t (j := j - lo.toNat) (by omega) (by rw [e]; exact hv)
theorem arC_t {K : KX} {g j : Nat} {lo hi : Int} {f : FT → Bool} (h0 : 0 ≤ lo) (h1 : lo ≤ (j : Int)) (h2 : (j : Int) ≤ hi) (h : arC K g lo hi f = true) : f (ftK K g j) = true := by
  unfold arC at h
  cases hb : (roK K g).2.2.2.isEmpty with
  | true => rw [hb] at h; rw [ftK_e hb]; exact h
  | false =>
    rw [hb] at h
    have := alT_t (j := j - lo.toNat) (by omega) h
    rwa [show lo.toNat + (j - lo.toNat) = j by omega] at this
def idxR (E : List EV) (s : Nat) (δ : Int) (n : Nat) : Bool := decide (0 ≤ (evg E s).1 + δ) && decide ((evg E s).2.1 + δ < Int.ofNat n)
def x_ald (K : KX) (ok : Nat → Bool) (w : Nat) (A : ST) (q : Nat) (go : GO) : Bool := match A with
  | (E, Ls, (1, s, _, δ) :: (3, g, _, _) :: St, Rg) => Nat.blt g 1000 && (ok (kdK K g) && (idxR E s δ (lnK K g) && pushT (E, Ls, St, Rg) (arT K g ((evg E s).1 + δ) ((evg E s).2.1 + δ)) (fun B => go (nxt w) B q)))
  | _ => false
theorem x_ald_v {K : KX} {n0 m0 nL : Nat} {σ0 σ : Nat → Int} {hs : List CE} {R : List Nat} {A : ST} {L : LN} {S : List Value} {ok : Nat → Bool} {w q : Nat} {go : GO} (h : x_ald K ok w A q go = true) (hT : HTy K R hs) (hV : VX K n0 m0 nL σ0 hs R σ A L S) : ∃ (i : Int32) (k g j : Nat) (S' : List Value) (σ' : Nat → Int) (B : ST), S = .int i :: .ref k :: S' ∧ ok (kdK K g) = true ∧ shp hs k = some (kdK K g, lnK K g) ∧ i.toInt = (j : Int) ∧ j < lnK K g ∧ go (nxt w) B q = true ∧ VX K n0 m0 nL σ0 hs R σ' B L (rd hs k j :: S') := by
  unfold x_ald at h
  split at h
  · rename_i E Ls s9 b9 δ9 g9 b8 δ8 St Rg
    rw [Bool.and_eq_true, Bool.and_eq_true, Bool.and_eq_true] at h
    obtain ⟨w1, w2, w3, h⟩ := h
    unfold idxR at w3
    rw [Bool.and_eq_true, decide_eq_true_eq, decide_eq_true_eq] at w3
    obtain ⟨v, S1, rfl, hv, hV1⟩ := hV.pop
    obtain ⟨v2, S2, rfl, hv2, hV2⟩ := hV1.pop
    obtain ⟨i, rfl, li, ei⟩ := hv.int rfl
    have li : s9 < E.length := li
    have ei : i.toInt = σ s9 + δ9 := ei
    obtain ⟨k, rfl, hk, hg0⟩ := (hv2.rf3 rfl).one w1
    have hk : R[k]? = some g9 := hk
    obtain ⟨sh, ty⟩ := hT.2.1 k g9 hk hg0
    obtain ⟨b1, b2, -⟩ := hV2.em _ li
    have b1 : (evg E s9).1 ≤ σ s9 := b1
    have b2 : σ s9 ≤ (evg E s9).2.1 := b2
    have w4 : (evg E s9).2.1 + δ9 < (lnK K g9 : Int) := w3.2
    have ej : i.toInt = (i.toInt.toNat : Int) := by omega
    have hj : i.toInt.toNat < lnK K g9 := by omega
    obtain ⟨σ', B, z1, z2⟩ := pushT_t h hV2 (arT_t (j := i.toInt.toNat) w3.1 (by omega) (by omega) (ty _ hj))
    exact ⟨i, k, g9, i.toInt.toNat, S2, σ', B, rfl, w2, sh, ej, hj, z1, z2⟩
  · cases h
theorem x_iald_t (act : Act SSX TBL g CLS bl xs d p l s mm args meth c) (hG : G_iald SSX TBL CLS ftX mdx d pc w) (hgo : ∀ pc A q, go pc A q = true → Good K Inv R0 hs0 m0 d.2.2.1 kcP ksP lnP σ0 (WN g p l e Rm s mm args below meth c Q d kc0 ks0) pc A q)  (h : x_ald K (fun z => Nat.beq z 32) w A q go = true) : Good K Inv R0 hs0 m0 d.2.2.1 kcP ksP lnP σ0 (WN g p l e Rm s mm args below meth c Q d kc0 ks0) pc A q := by
  intro R σ L hs kc ks S hX hV k1 k2 k3
  obtain ⟨i, k, g9, j, S', σ', B, rfl, ok9, sh, ei, hj, z1, z2⟩ := x_ald_v h hX.1 hV
  exact r_iald act hG rfl (by rw [Nat.eq_of_beq_eq_true ok9] at sh; exact sh) ei hj rfl (hgo _ _ _ z1 R σ' L hs kc ks _ hX z2 k1 k2 k3)

theorem x_lald_t (act : Act SSX TBL g CLS bl xs d p l s mm args meth c) (hG : G_lald SSX TBL CLS ftX mdx d pc w) (hgo : ∀ pc A q, go pc A q = true → Good K Inv R0 hs0 m0 d.2.2.1 kcP ksP lnP σ0 (WN g p l e Rm s mm args below meth c Q d kc0 ks0) pc A q)  (h : x_ald K (fun z => Nat.beq z 33) w A q go = true) : Good K Inv R0 hs0 m0 d.2.2.1 kcP ksP lnP σ0 (WN g p l e Rm s mm args below meth c Q d kc0 ks0) pc A q := by
  intro R σ L hs kc ks S hX hV k1 k2 k3
  obtain ⟨i, k, g9, j, S', σ', B, rfl, ok9, sh, ei, hj, z1, z2⟩ := x_ald_v h hX.1 hV
  exact r_lald act hG rfl (by rw [Nat.eq_of_beq_eq_true ok9] at sh; exact sh) ei hj rfl (hgo _ _ _ z1 R σ' L hs kc ks _ hX z2 k1 k2 k3)

theorem x_aald_t (act : Act SSX TBL g CLS bl xs d p l s mm args meth c) (hG : G_aald SSX TBL CLS ftX mdx d pc w) (hgo : ∀ pc A q, go pc A q = true → Good K Inv R0 hs0 m0 d.2.2.1 kcP ksP lnP σ0 (WN g p l e Rm s mm args below meth c Q d kc0 ks0) pc A q)  (h : x_ald K (fun z => Nat.ble 37 z) w A q go = true) : Good K Inv R0 hs0 m0 d.2.2.1 kcP ksP lnP σ0 (WN g p l e Rm s mm args below meth c Q d kc0 ks0) pc A q := by
  intro R σ L hs kc ks S hX hV k1 k2 k3
  obtain ⟨i, k, g9, j, S', σ', B, rfl, ok9, sh, ei, hj, z1, z2⟩ := x_ald_v h hX.1 hV
  exact r_aald act hG rfl sh (Nat.le_of_ble_eq_true ok9) ei hj rfl (hgo _ _ _ z1 R σ' L hs kc ks _ hX z2 k1 k2 k3)

theorem x_bald_t (act : Act SSX TBL g CLS bl xs d p l s mm args meth c) (hG : G_bald SSX TBL CLS ftX mdx d pc w) (hgo : ∀ pc A q, go pc A q = true → Good K Inv R0 hs0 m0 d.2.2.1 kcP ksP lnP σ0 (WN g p l e Rm s mm args below meth c Q d kc0 ks0) pc A q)  (h : x_ald K (fun z => Nat.beq z 34 || Nat.beq z 35) w A q go = true) : Good K Inv R0 hs0 m0 d.2.2.1 kcP ksP lnP σ0 (WN g p l e Rm s mm args below meth c Q d kc0 ks0) pc A q := by
  intro R σ L hs kc ks S hX hV k1 k2 k3
  obtain ⟨i, k, g9, j, S', σ', B, rfl, ok9, sh, ei, hj, z1, z2⟩ := x_ald_v h hX.1 hV
  rw [Bool.or_eq_true] at ok9
  rcases ok9 with ok9 | ok9
  · exact r_bald act hG rfl (by rw [Nat.eq_of_beq_eq_true ok9] at sh; exact sh) ei hj rfl (hgo _ _ _ z1 R σ' L hs kc ks _ hX z2 k1 k2 k3)
  · exact r_zald act hG rfl (by rw [Nat.eq_of_beq_eq_true ok9] at sh; exact sh) ei hj rfl (hgo _ _ _ z1 R σ' L hs kc ks _ hX z2 k1 k2 k3)

def noR (K : KX) (g : Nat) : Bool := K.2.2.all (fun q => !Nat.beq q.1 g)
theorem noR_t {K : KX} {g j : Nat} {a : AV} (h : noR K g = true) : ∀ {Rg : List AV} {i : Nat} {q : Nat × Nat × Nat} {b : AV}, K.2.2[i]? = some q → Rg[i]? = some b → q.1 ≠ g := by
  intro Rg i q b hi hb z
  unfold noR at h
  rw [List.all_eq_true] at h
  have := h q (List.mem_of_getElem? hi)
  rw [z, Nat.beq_refl] at this
  cases this
theorem VX.wa {K : KX} {n0 m0 nL : Nat} {σ0 σ : Nat → Int} {hs : List CE} {R : List Nat} {E : List EV} {Ls St Rg : List AV} {L : LN} {S : List Value} (hT : HTy K R hs) (hV : VX K n0 m0 nL σ0 hs R σ (E, Ls, St, Rg) L S) {k r j : Nat} {v : Value} (hk : R[k]? = some r) (hr : r ≠ 0) (hn : noR K r = true) : VX K n0 m0 nL σ0 (wr hs k j v) R σ (E, Ls, St, Rg) L S := by
  refine hV.hp (SBx.wr hk hr) (fun i q b hi hb => ?_)
  have h1 := noR_t (a := b) (j := j) hn hi hb
  obtain ⟨y1, y2, y3⟩ := hT.2.2 q (List.mem_of_getElem? hi)
  rw [rd_ne _ _ (Or.inl (fun z => by rw [z, hk] at y2; cases y2; exact h1 rfl))]
  exact (hV.2.2.2.2.2.2 i q b hi hb).mono (Nat.le_refl _) (fun _ _ => rfl) (SBx.wr hk hr)
def nrg (K : KX) (g : Nat) (lo hi : Int) : Bool := K.2.2.all (fun q => !Nat.beq q.1 g || (decide (Int.ofNat q.2.2 < lo) || decide (hi < Int.ofNat q.2.2)))
theorem VX.wb {K : KX} {n0 m0 nL : Nat} {σ0 σ : Nat → Int} {hs : List CE} {R : List Nat} {E : List EV} {Ls St Rg : List AV} {L : LN} {S : List Value} (hT : HTy K R hs) (hV : VX K n0 m0 nL σ0 hs R σ (E, Ls, St, Rg) L S) {k r j : Nat} {v : Value} {lo hi : Int} (hk : R[k]? = some r) (hr : r ≠ 0) (h1 : lo ≤ (j : Int)) (h2 : (j : Int) ≤ hi) (hn : nrg K r lo hi = true) : VX K n0 m0 nL σ0 (wr hs k j v) R σ (E, Ls, St, Rg) L S := by
  refine hV.hp (SBx.wr hk hr) (fun i q b hi9 hb => ?_)
  obtain ⟨y1, y2, y3⟩ := hT.2.2 q (List.mem_of_getElem? hi9)
  unfold nrg at hn
  rw [List.all_eq_true] at hn
  have h9 := hn q (List.mem_of_getElem? hi9)
  rw [Bool.or_eq_true, Bool.or_eq_true, decide_eq_true_eq, decide_eq_true_eq] at h9
  have e0 : Int.ofNat q.2.2 = ((q.2.2 : Nat) : Int) := rfl
  have hne : q.2.1 ≠ k ∨ q.2.2 ≠ j := by
    rcases h9 with z | z | z
    · refine Or.inl (fun u => ?_)
      rw [u, hk] at y2
      rw [← Option.some.inj y2, Nat.beq_refl] at z
      cases z
    · exact Or.inr (by omega)
    · exact Or.inr (by omega)
  rw [rd_ne _ _ hne]
  exact (hV.2.2.2.2.2.2 i q b hi9 hb).mono (Nat.le_refl _) (fun _ _ => rfl) (SBx.wr hk hr)
def x_ast (K : KX) (ok : Nat → Bool) (chk : List EV → AV → Nat → FT → Bool) (w : Nat) (A : ST) (q : Nat) (go : GO) : Bool := match A with
  | (E, Ls, a :: (1, s, _, δ) :: (3, g, _, _) :: St, Rg) => Nat.blt g 400 && (ok (kdK K g) && (idxR E s δ (lnK K g) && (arC K g ((evg E s).1 + δ) ((evg E s).2.1 + δ) (chk E a (kdK K g)) && (nrg K g ((evg E s).1 + δ) ((evg E s).2.1 + δ) && go (nxt w) (E, Ls, St, Rg) q))))
  | _ => false
theorem x_ast_v {K : KX} {Inv : List Nat → List CE → Prop} {R0 : List Nat} {hs0 : List CE} {n0 m0 nL : Nat} {σ0 σ : Nat → Int} {hs : List CE} {R : List Nat} {A : ST} {L : LN} {S : List Value} {ok : Nat → Bool} {chk : List EV → AV → Nat → FT → Bool} {w q : Nat} {go : GO} (hI : StI K Inv) (h : x_ast K ok chk w A q go = true) (hX : HX K Inv R0 hs0 R hs) (hV : VX K n0 m0 nL σ0 hs R σ A L S) : ∃ (v : Value) (E : List EV) (a : AV) (i : Int32) (k g j : Nat) (S' : List Value) (B : ST), S = v :: .int i :: .ref k :: S' ∧ VM K n0 hs R E.length σ a v ∧ EM E σ ∧ ok (kdK K g) = true ∧ shp hs k = some (kdK K g, lnK K g) ∧ i.toInt = (j : Int) ∧ j < lnK K g ∧ chk E a (kdK K g) (ftK K g j) = true ∧ go (nxt w) B q = true ∧ ∀ v' : Value, VW K R (ftK K g j) v' → HX K Inv R0 hs0 R (wr hs k j v') ∧ VX K n0 m0 nL σ0 (wr hs k j v') R σ B L S' := by
  unfold x_ast at h
  split at h
  · rename_i E Ls a s9 b9 δ9 g9 b8 δ8 St Rg
    rw [Bool.and_eq_true, Bool.and_eq_true, Bool.and_eq_true, Bool.and_eq_true, Bool.and_eq_true] at h
    obtain ⟨w1, w2, w3, w5, w6, h⟩ := h
    unfold idxR at w3
    rw [Bool.and_eq_true, decide_eq_true_eq, decide_eq_true_eq] at w3
    obtain ⟨v, S1, rfl, hv, hV1⟩ := hV.pop
    obtain ⟨v1, S2, rfl, hv1, hV2⟩ := hV1.pop
    obtain ⟨v2, S3, rfl, hv2, hV3⟩ := hV2.pop
    obtain ⟨i, rfl, li, ei⟩ := hv1.int rfl
    have li : s9 < E.length := li
    have ei : i.toInt = σ s9 + δ9 := ei
    obtain ⟨k, rfl, hk, hg0⟩ := (hv2.rf3 rfl).one (blt4 w1)
    have hk : R[k]? = some g9 := hk
    obtain ⟨sh, ty⟩ := hX.1.2.1 k g9 hk hg0
    obtain ⟨b1, b2, -⟩ := hV2.em _ li
    have b1 : (evg E s9).1 ≤ σ s9 := b1
    have b2 : σ s9 ≤ (evg E s9).2.1 := b2
    have w4 : (evg E s9).2.1 + δ9 < (lnK K g9 : Int) := w3.2
    have ej : i.toInt = (i.toInt.toNat : Int) := by omega
    have hj : i.toInt.toNat < lnK K g9 := by omega
    exact ⟨v, E, a, i, k, g9, i.toInt.toNat, S3, _, rfl, hv, hV1.em, w2, sh, ej, hj, arC_t w3.1 (by omega) (by omega) w5, h, fun v' hv' => ⟨hX.wr hI hk hg0 (blt_t w1) hv', hV3.wb hX.1 hk hg0 (by omega) (by omega) w6⟩⟩
  · cases h
theorem x_iast_t (act : Act SSX TBL g CLS bl xs d p l s mm args meth c) (hG : G_iast SSX TBL CLS ftX mdx d pc w) (hgo : ∀ pc A q, go pc A q = true → Good K Inv R0 hs0 m0 d.2.2.1 kcP ksP lnP σ0 (WN g p l e Rm s mm args below meth c Q d kc0 ks0) pc A q) (hI : StI K Inv) (h : x_ast K (fun z => Nat.beq z 32) (fun E a _ t => Nat.beq a.1 1 && tyA K E a t) w A q go = true) : Good K Inv R0 hs0 m0 d.2.2.1 kcP ksP lnP σ0 (WN g p l e Rm s mm args below meth c Q d kc0 ks0) pc A q := by
  intro R σ L hs kc ks S hX hV k1 k2 k3
  obtain ⟨v, E, a, i, k, g9, j, S', B, rfl, hv, hE, ok9, sh, ei, hj, hc, z1, z2⟩ := x_ast_v hI h hX hV
  rw [Bool.and_eq_true] at hc
  obtain ⟨x, rfl, -⟩ := hv.int (Nat.eq_of_beq_eq_true hc.1)
  obtain ⟨y1, y2⟩ := z2 _ (tyA_t hE hc.2 hv)
  exact r_iast act hG rfl (by rw [Nat.eq_of_beq_eq_true ok9] at sh; exact sh) ei hj (hgo _ _ _ z1 R σ L _ kc ks _ y1 y2 k1 k2 (by rw [wr_len]; exact k3))

theorem x_last_t (act : Act SSX TBL g CLS bl xs d p l s mm args meth c) (hG : G_last SSX TBL CLS ftX mdx d pc w) (hgo : ∀ pc A q, go pc A q = true → Good K Inv R0 hs0 m0 d.2.2.1 kcP ksP lnP σ0 (WN g p l e Rm s mm args below meth c Q d kc0 ks0) pc A q) (hI : StI K Inv) (h : x_ast K (fun z => Nat.beq z 33) (fun E a _ t => Nat.beq a.1 2 && tyA K E a t) w A q go = true) : Good K Inv R0 hs0 m0 d.2.2.1 kcP ksP lnP σ0 (WN g p l e Rm s mm args below meth c Q d kc0 ks0) pc A q := by
  intro R σ L hs kc ks S hX hV k1 k2 k3
  obtain ⟨v, E, a, i, k, g9, j, S', B, rfl, hv, hE, ok9, sh, ei, hj, hc, z1, z2⟩ := x_ast_v hI h hX hV
  rw [Bool.and_eq_true] at hc
  obtain ⟨x, rfl, -⟩ := hv.lng (Nat.eq_of_beq_eq_true hc.1)
  obtain ⟨y1, y2⟩ := z2 _ (tyA_t hE hc.2 hv)
  exact r_last act hG rfl (by rw [Nat.eq_of_beq_eq_true ok9] at sh; exact sh) ei hj (hgo _ _ _ z1 R σ L _ kc ks _ y1 y2 k1 k2 (by rw [wr_len]; exact k3))

theorem x_dast_t (act : Act SSX TBL g CLS bl xs d p l s mm args meth c) (hG : G_dast SSX TBL CLS ftX mdx d pc w) (hgo : ∀ pc A q, go pc A q = true → Good K Inv R0 hs0 m0 d.2.2.1 kcP ksP lnP σ0 (WN g p l e Rm s mm args below meth c Q d kc0 ks0) pc A q) (hI : StI K Inv) (h : x_ast K (fun z => Nat.beq z 36) (fun E a _ t => Nat.beq a.1 9 && Nat.beq t.1 0) w A q go = true) : Good K Inv R0 hs0 m0 d.2.2.1 kcP ksP lnP σ0 (WN g p l e Rm s mm args below meth c Q d kc0 ks0) pc A q := by
  intro R σ L hs kc ks S hX hV k1 k2 k3
  obtain ⟨v, E, a, i, k, g9, j, S', B, rfl, hv, hE, ok9, sh, ei, hj, hc, z1, z2⟩ := x_ast_v hI h hX hV
  rw [Bool.and_eq_true] at hc
  obtain ⟨x, rfl, -⟩ := hv.dbl (Nat.eq_of_beq_eq_true hc.1)
  obtain ⟨y1, y2⟩ := z2 (.double x) (vw_of (Or.inl (Nat.eq_of_beq_eq_true hc.2)) (by rw [Nat.eq_of_beq_eq_true hc.2]; decide))
  exact r_dast act hG rfl (by rw [Nat.eq_of_beq_eq_true ok9] at sh; exact sh) ei hj (hgo _ _ _ z1 R σ L _ kc ks _ y1 y2 k1 k2 (by rw [wr_len]; exact k3))

def x_aldR (K : KX) (w : Nat) (A : ST) (q : Nat) (go : GO) : Bool := match A with
  | (E, Ls, (1, s, _, δ) :: (3, g, _, _) :: St, Rg) => Nat.blt g 1000 && (Nat.beq (kdK K g) 32 && (idxR E s δ (lnK K g) && (decide ((evg E s).1 = (evg E s).2.1) && (match gtR K.2.2 Rg g ((evg E s).1 + δ).toNat with
    | some a => go (nxt w) (E, Ls, a :: St, Rg) q
    | none => false))))
  | _ => false
def x_iastR (K : KX) (w : Nat) (A : ST) (q : Nat) (go : GO) : Bool := match A with
  | (E, Ls, (1, vs, vb, vd) :: (1, s, _, δ) :: (3, g, _, _) :: St, Rg) => Nat.blt g 400 && (Nat.beq (kdK K g) 32 && (idxR E s δ (lnK K g) && (decide ((evg E s).1 = (evg E s).2.1) && (tyA K E (1, vs, vb, vd) (ftK K g ((evg E s).1 + δ).toNat) && go (nxt w) (E, Ls, St, upR K.2.2 Rg g ((evg E s).1 + δ).toNat (1, vs, vb, vd)) q))))
  | _ => false
theorem x_aldR_t (act : Act SSX TBL g CLS bl xs d p l s mm args meth c) (hG : G_iald SSX TBL CLS ftX mdx d pc w) (hgo : ∀ pc A q, go pc A q = true → Good K Inv R0 hs0 m0 d.2.2.1 kcP ksP lnP σ0 (WN g p l e Rm s mm args below meth c Q d kc0 ks0) pc A q)  (h : x_aldR K w A q go = true) : Good K Inv R0 hs0 m0 d.2.2.1 kcP ksP lnP σ0 (WN g p l e Rm s mm args below meth c Q d kc0 ks0) pc A q := by
  unfold x_aldR at h
  split at h
  · rename_i E Ls s9 b9 δ9 g9 b8 δ8 St Rg
    rw [Bool.and_eq_true, Bool.and_eq_true, Bool.and_eq_true, Bool.and_eq_true, decide_eq_true_eq] at h
    obtain ⟨w1, w2, w3, w4, h⟩ := h
    unfold idxR at w3
    rw [Bool.and_eq_true, decide_eq_true_eq, decide_eq_true_eq] at w3
    intro R σ L hs kc ks S hX hV k1 k2 k3
    obtain ⟨v, S1, rfl, hv, hV1⟩ := hV.pop
    obtain ⟨v2, S2, rfl, hv2, hV2⟩ := hV1.pop
    obtain ⟨i, rfl, li, ei⟩ := hv.int rfl
    have li : s9 < E.length := li
    have ei : i.toInt = σ s9 + δ9 := ei
    obtain ⟨k, rfl, hk, hg0⟩ := (hv2.rf3 rfl).one w1
    have hk : R[k]? = some g9 := hk
    obtain ⟨sh, ty⟩ := hX.1.2.1 k g9 hk hg0
    obtain ⟨b1, b2, -⟩ := hV2.em _ li
    have b1 : (evg E s9).1 ≤ σ s9 := b1
    have b2 : σ s9 ≤ (evg E s9).2.1 := b2
    have w5 : (evg E s9).2.1 + δ9 < (lnK K g9 : Int) := w3.2
    split at h
    · rename_i a ha
      obtain ⟨i9, qq, z1, z2, z3, z4⟩ := gtR_t ha
      have z5 := (hX.1.2.2 qq (List.mem_of_getElem? z1)).2.2 k (by rw [z3]; exact hk)
      have hr := hV2.2.2.2.2.2.2 i9 qq a z1 z2
      rw [← z5, z4] at hr
      exact r_iald act hG rfl (by rw [Nat.eq_of_beq_eq_true w2] at sh; exact sh) (j := ((evg E s9).1 + δ9).toNat) (by omega) (by omega) rfl (hgo _ _ _ h R σ L hs kc ks _ hX (hV2.push hr) k1 k2 k3)
    · cases h
  · cases h

theorem x_iastR_t (act : Act SSX TBL g CLS bl xs d p l s mm args meth c) (hG : G_iast SSX TBL CLS ftX mdx d pc w) (hgo : ∀ pc A q, go pc A q = true → Good K Inv R0 hs0 m0 d.2.2.1 kcP ksP lnP σ0 (WN g p l e Rm s mm args below meth c Q d kc0 ks0) pc A q) (hI : StI K Inv) (h : x_iastR K w A q go = true) : Good K Inv R0 hs0 m0 d.2.2.1 kcP ksP lnP σ0 (WN g p l e Rm s mm args below meth c Q d kc0 ks0) pc A q := by
  unfold x_iastR at h
  split at h
  · rename_i E Ls vs9 vb9 vd9 s9 b9 δ9 g9 b8 δ8 St Rg
    rw [Bool.and_eq_true, Bool.and_eq_true, Bool.and_eq_true, Bool.and_eq_true, Bool.and_eq_true, decide_eq_true_eq] at h
    obtain ⟨w1, w2, w3, w4, w6, h⟩ := h
    unfold idxR at w3
    rw [Bool.and_eq_true, decide_eq_true_eq, decide_eq_true_eq] at w3
    intro R σ L hs kc ks S hX hV k1 k2 k3
    obtain ⟨v, S1, rfl, hv, hV1⟩ := hV.pop
    obtain ⟨v1, S2, rfl, hv1, hV2⟩ := hV1.pop
    obtain ⟨v2, S3, rfl, hv2, hV3⟩ := hV2.pop
    obtain ⟨x, rfl, -⟩ := hv.int rfl
    obtain ⟨i, rfl, li, ei⟩ := hv1.int rfl
    have li : s9 < E.length := li
    have ei : i.toInt = σ s9 + δ9 := ei
    obtain ⟨k, rfl, hk, hg0⟩ := (hv2.rf3 rfl).one (blt4 w1)
    have hk : R[k]? = some g9 := hk
    obtain ⟨sh, ty⟩ := hX.1.2.1 k g9 hk hg0
    obtain ⟨b1, b2, -⟩ := hV2.em _ li
    have b1 : (evg E s9).1 ≤ σ s9 := b1
    have b2 : σ s9 ≤ (evg E s9).2.1 := b2
    have w5 : (evg E s9).2.1 + δ9 < (lnK K g9 : Int) := w3.2
    exact r_iast act hG rfl (by rw [Nat.eq_of_beq_eq_true w2] at sh; exact sh) (j := ((evg E s9).1 + δ9).toNat) (by omega) (by omega) (hgo _ _ _ h R σ L _ kc ks _ (hX.wr hI hk hg0 (blt_t w1) (tyA_t hV1.em w6 hv)) (hV3.wrt hX.1 hk hg0 hv) k1 k2 (by rw [wr_len]; exact k3))
  · cases h

def chkB (E : List EV) (a : AV) (kd : Nat) (t : FT) : Bool := Nat.beq a.1 1 && (Nat.beq t.1 1 && (bif Nat.beq kd 34 then decide (t.2.2.1 ≤ -128) && decide (127 ≤ t.2.2.2) else decide (0 ≤ (evg E a.2.1).1 + a.2.2.2) && (decide ((evg E a.2.1).2.1 + a.2.2.2 ≤ 1) && (decide (t.2.2.1 ≤ 0) && decide (1 ≤ t.2.2.2)))))
theorem x_bast_t (act : Act SSX TBL g CLS bl xs d p l s mm args meth c) (hG : G_bast SSX TBL CLS ftX mdx d pc w) (hgo : ∀ pc A q, go pc A q = true → Good K Inv R0 hs0 m0 d.2.2.1 kcP ksP lnP σ0 (WN g p l e Rm s mm args below meth c Q d kc0 ks0) pc A q) (hI : StI K Inv) (h : x_ast K (fun z => Nat.beq z 34 || Nat.beq z 35) chkB w A q go = true) : Good K Inv R0 hs0 m0 d.2.2.1 kcP ksP lnP σ0 (WN g p l e Rm s mm args below meth c Q d kc0 ks0) pc A q := by
  intro R σ L hs kc ks S hX hV k1 k2 k3
  obtain ⟨v, E, a, i, k, g9, j, S', B, rfl, hv, hE, ok9, sh, ei, hj, hc, z1, z2⟩ := x_ast_v hI h hX hV
  unfold chkB at hc
  rw [Bool.and_eq_true, Bool.and_eq_true] at hc
  obtain ⟨c1, c2, c3⟩ := hc
  obtain ⟨x, rfl, lx, ex⟩ := hv.int (Nat.eq_of_beq_eq_true c1)
  have c2 := Nat.eq_of_beq_eq_true c2
  cases h4 : Nat.beq (kdK K g9) 34 with
  | true =>
    rw [h4, cond_true, Bool.and_eq_true, decide_eq_true_eq, decide_eq_true_eq] at c3
    have e8 : (x.toInt8.toInt32).toInt = x.toInt8.toInt := Int8.toInt_toInt32 _
    have h8 := Int8.le_toInt x.toInt8
    have h9 := Int8.toInt_lt x.toInt8
    obtain ⟨y1, y2⟩ := z2 (.int (vp_nar .byte x)) (vw_of (Or.inr (Or.inl ⟨c2, _, rfl, by rw [vp_nar_byte, e8]; omega, by rw [vp_nar_byte, e8]; omega⟩)) (by rw [c2]; decide))
    exact r_bast act hG rfl (by rw [Nat.eq_of_beq_eq_true h4] at sh; exact sh) ei hj (hgo _ _ _ z1 R σ L _ kc ks _ y1 y2 k1 k2 (by rw [wr_len]; exact k3))
  | false =>
    rw [h4, cond_false, Bool.and_eq_true, Bool.and_eq_true, Bool.and_eq_true, decide_eq_true_eq, decide_eq_true_eq, decide_eq_true_eq, decide_eq_true_eq] at c3
    obtain ⟨d1, d2, d3, d4⟩ := c3
    obtain ⟨b1, b2, -⟩ := hE _ lx
    have hn : vp_nar .boolean x = x := by
      rcases i01 (x := x) (by omega) (by omega) with rfl | rfl <;> decide
    rw [Bool.or_eq_true] at ok9
    have ok9 : Nat.beq (kdK K g9) 35 = true := by
      rcases ok9 with ok9 | ok9
      · rw [h4] at ok9; cases ok9
      · exact ok9
    obtain ⟨y1, y2⟩ := z2 (.int (vp_nar .boolean x)) (vw_of (Or.inr (Or.inl ⟨c2, _, rfl, by rw [hn]; omega, by rw [hn]; omega⟩)) (by rw [c2]; decide))
    exact r_zast act hG rfl (by rw [Nat.eq_of_beq_eq_true ok9] at sh; exact sh) ei hj (hgo _ _ _ z1 R σ L _ kc ks _ y1 y2 k1 k2 (by rw [wr_len]; exact k3))

def okK (K : KX) (kd : Nat) (a : AV) : Bool := Nat.beq a.1 5 || ((Nat.beq a.1 3 || Nat.beq a.1 4) && (Nat.blt a.2.1 1000 && ((Nat.beq kd 40 && Nat.beq (kdK K a.2.1) 3) || (Nat.beq kd 41 && Nat.beq (kdK K a.2.1) 2))))
theorem x_aast_t (act : Act SSX TBL g CLS bl xs d p l s mm args meth c) (hG : G_aast SSX TBL CLS ftX mdx d pc w) (hgo : ∀ pc A q, go pc A q = true → Good K Inv R0 hs0 m0 d.2.2.1 kcP ksP lnP σ0 (WN g p l e Rm s mm args below meth c Q d kc0 ks0) pc A q) (hI : StI K Inv) (h : x_ast K (fun z => Nat.ble 39 z) (fun E a kd t => okK K kd a && tyA K E a t) w A q go = true) : Good K Inv R0 hs0 m0 d.2.2.1 kcP ksP lnP σ0 (WN g p l e Rm s mm args below meth c Q d kc0 ks0) pc A q := by
  intro R σ L hs kc ks S hX hV k1 k2 k3
  obtain ⟨v, E, a, i, k, g9, j, S', B, rfl, hv, hE, ok9, sh, ei, hj, hc, z1, z2⟩ := x_ast_v hI h hX hV
  rw [Bool.and_eq_true] at hc
  obtain ⟨c1, c2⟩ := hc
  obtain ⟨y1, y2⟩ := z2 _ (tyA_t hE c2 hv)
  unfold okK at c1
  simp only [Bool.or_eq_true, Bool.and_eq_true] at c1
  have nul : v = .null → WpN g CLS p l e Rm s mm args below meth c Q d.2.2.1 kc0 ks0 pc L (hs, kc, ks) (v :: .int i :: .ref k :: S') := by
    rintro rfl
    exact r_aastN act hG rfl sh (Nat.le_of_ble_eq_true ok9) ei hj (hgo _ _ _ z1 R σ L _ kc ks _ y1 y2 k1 k2 (by rw [wr_len]; exact k3))
  have ref : ofG K R a.2.1 v → Nat.blt a.2.1 1000 = true → ((kdK K g9 = 40 ∧ kdK K a.2.1 = 3) ∨ (kdK K g9 = 41 ∧ kdK K a.2.1 = 2)) → WpN g CLS p l e Rm s mm args below meth c Q d.2.2.1 kc0 ks0 pc L (hs, kc, ks) (v :: .int i :: .ref k :: S') := by
    intro hg hb hk
    obtain ⟨k9, rfl, hk9, h0⟩ := hg.one hb
    exact r_aastR act hG rfl sh (hX.1.2.1 k9 _ hk9 h0).1 (by rcases hk with ⟨e1, e2⟩ | ⟨e1, e2⟩ <;> rw [e1, e2] <;> decide) ei hj (hgo _ _ _ z1 R σ L _ kc ks _ y1 y2 k1 k2 (by rw [wr_len]; exact k3))
  rcases c1 with c1 | ⟨c1, c3, c4⟩
  · exact nul (hv.nul (Nat.eq_of_beq_eq_true c1))
  · have c4 : (kdK K g9 = 40 ∧ kdK K a.2.1 = 3) ∨ (kdK K g9 = 41 ∧ kdK K a.2.1 = 2) := by
      rcases c4 with ⟨u1, u2⟩ | ⟨u1, u2⟩
      · exact Or.inl ⟨Nat.eq_of_beq_eq_true u1, Nat.eq_of_beq_eq_true u2⟩
      · exact Or.inr ⟨Nat.eq_of_beq_eq_true u1, Nat.eq_of_beq_eq_true u2⟩
    rcases c1 with c1 | c1
    · exact ref (hv.rf3 (Nat.eq_of_beq_eq_true c1)) c3 c4
    · rcases hv.rf4 (Nat.eq_of_beq_eq_true c1) with u | u
      · exact nul u
      · exact ref u c3 c4

def x_alen (K : KX) (w : Nat) (A : ST) (q : Nat) (go : GO) : Bool := match A with
  | (E, Ls, (3, g, _, _) :: St, Rg) => Nat.blt g 1000 && (Nat.ble 32 (kdK K g) && (Nat.blt (lnK K g) 65536 && go (nxt w) (pushI (E, Ls, St, Rg) (Int.ofNat (lnK K g)) (Int.ofNat (lnK K g))) q))
  | _ => false
theorem ofn_int {n : Nat} (h : n < 65536) : (Int32.ofNat n).toInt = Int.ofNat n := by
  rw [Int32.toInt_ofNat']
  rw [show Int32.size = 2 ^ 32 from rfl]
  exact i_bm (by show _ ≤ (n : Int); omega) (by show (n : Int) < _; omega)
theorem x_alen_t (act : Act SSX TBL g CLS bl xs d p l s mm args meth c) (hG : G_alen SSX TBL CLS ftX mdx d pc w) (hgo : ∀ pc A q, go pc A q = true → Good K Inv R0 hs0 m0 d.2.2.1 kcP ksP lnP σ0 (WN g p l e Rm s mm args below meth c Q d kc0 ks0) pc A q)  (h : x_alen K w A q go = true) : Good K Inv R0 hs0 m0 d.2.2.1 kcP ksP lnP σ0 (WN g p l e Rm s mm args below meth c Q d kc0 ks0) pc A q := by
  unfold x_alen at h
  split at h
  · rename_i E Ls g9 b9 δ9 St Rg
    rw [Bool.and_eq_true, Bool.and_eq_true, Bool.and_eq_true] at h
    obtain ⟨w1, w2, w3, h⟩ := h
    intro R σ L hs kc ks S hX hV k1 k2 k3
    obtain ⟨v, S', rfl, hv, hV1⟩ := hV.pop
    obtain ⟨k, rfl, hk, hg0⟩ := (hv.rf3 rfl).one w1
    have hk : R[k]? = some g9 := hk
    obtain ⟨sh, ty⟩ := hX.1.2.1 k g9 hk hg0
    have en := ofn_int (blt_t w3)
    exact r_alen act hG rfl sh (Nat.le_of_ble_eq_true w2) (hgo _ _ _ h R _ L hs kc ks _ hX (hV1.pushI (Int.le_of_eq en.symm) (Int.le_of_eq en)) k1 k2 k3)
  · cases h

end OPS2

/-! The checker: making, switches, the run of a method. -/
/-- method; numbers, arguments behind the new cell; role; kind, length; frames, words, room, locals -/
abbrev IT9 : Type := Nat × (List EV × List AV) × Nat × (Nat × Nat) × (Nat × Nat × Nat × Nat)
def SemI (K : KX) (Inv : List Nat → List CE → Prop) (c : IT9) : Prop :=
  ∃ d : MD, mdx c.1 = some d ∧ d.2.2.1 = c.2.2.2.2.2.2.2 ∧ c.2.2.1 ≠ 0 ∧ c.2.2.1 < 1000 ∧ ∀ (g0 : GG) (bl : Nat) (xs : Nat → Int32) (l : Launch) (hs : List CE) (R : List Nat) (σ : Nat → Int) (as : List Value) (k : Nat),
    TYg g0 → HTy K R hs → Inv R hs → hs.length + c.2.2.2.2.2.2.1 ≤ 6999999999999 → R[k]? = some 0 → hs[k]? = some (c.2.2.2.1.1, c.2.2.2.1.2, fun j => dv (ftX c.2.2.2.1.1 j)) → EM c.2.1.1 σ → SV (VM K 0 hs R c.2.1.1.length σ) c.2.1.2 as →
    BodyN SSX TBL g0 CLS bl xs l d c.2.2.2.2.1 c.2.2.2.2.2.1 c.2.2.2.2.2.2.1 (11 * c.2.2.2.2.2.2.1) (.ref k :: as) hs (fun kd r h2 => kd = 0 ∧ r = none ∧ ∃ R' : List Nat, R'[k]? = some c.2.2.1 ∧ (∀ k' r' : Nat, R[k']? = some r' → k' ≠ k → R'[k']? = some r') ∧ HTy K R' h2 ∧ Inv R' h2 ∧ (∀ k' r' : Nat, R[k']? = some r' → froz r' = true → k' ≠ k → h2[k']? = hs[k']?) ∧ h2.length ≤ hs.length + c.2.2.2.2.2.2.1 ∧ ∀ q ∈ K.2.2, rd h2 q.2.1 q.2.2 = rd hs q.2.1 q.2.2)
def noRaw (l : List AV) : Bool := l.all (fun a => !Nat.beq a.1 11)
theorem noRaw_t {l : List AV} (h : noRaw l = true) {i : Nat} {a : AV} (hi : l[i]? = some a) : a.1 ≠ 11 := by
  unfold noRaw at h
  rw [List.all_eq_true] at h
  have := h a (List.mem_of_getElem? hi)
  intro z
  rw [z] at this
  cases this
def calN (ct : CT9) (m0 : Nat) (Fa : LF) (c : IT9) (K : KX) (w : Nat) (A : ST) (q : Nat) (go : GO) : Bool :=
  match (A.2.2.1.take (fb w % 16)).reverse, A.2.2.1.drop (fb w % 16) with
  | (11, s, kd, ln) :: as, (11, s', _, _) :: rest => match ent K 0 c.2.1.1 A.1 0 c.2.1.2 as with
    | none => false
    | some s1 => Nat.beq s s' && (Nat.beq kd c.2.2.2.1.1 && (Nat.beq ln.toNat c.2.2.2.1.2 && (noRaw rest && (noRaw A.2.1 && (noRaw A.2.2.2 && (Nat.beq c.2.1.1.length s1.length && (Nat.beq (c.2.1.2.length + 1) (fb w % 16) && (Nat.ble (c.2.2.2.2.1 + 1) ct.2.2.2.1 && (Nat.ble (8 + (c.2.2.2.2.2.2.2 + 11) + c.2.2.2.2.2.1) ct.2.2.2.2.1 && (Nat.ble (1 + catS rest) 8 && (Nat.ble (1 + catS c.2.1.2) c.2.2.2.2.2.2.2 && (Nat.beq (fb w >>> 68) 0 && (okq A.1 m0 Fa (q + c.2.2.2.2.2.2.1) && go (nxt w) (A.1, A.2.1, (3, c.2.2.1, 0, 0) :: rest, A.2.2.2) (q + c.2.2.2.2.2.2.1))))))))))))))
  | _, _ => false
theorem lenR {K : KX} {Inv : List Nat → List CE → Prop} {R0 R : List Nat} {hs0 hs : List CE} (h : HX K Inv R0 hs0 R hs) : R0.length ≤ hs.length := by
  rw [← h.1.1]
  refine Nat.le_of_not_lt (fun q => ?_)
  have := h.2.1 R.length _ (List.getElem?_eq_getElem q)
  rw [List.getElem?_eq_none (Nat.le_refl _)] at this
  cases this
section OPS5
variable {K : KX} {Inv : List Nat → List CE → Prop} {R0 : List Nat} {hs0 : List CE} {m0 kcP ksP lnP : Nat} {σ0 : Nat → Int}
variable {g : GG} {bl : Nat} {xs : Nat → Int32} {d : MD} {p : Program} {l : Launch} {e : Env} {Rm : Room} {s : State} {mm : MethodId} {args : Array Value} {below : List Frame} {meth : Method} {c : Code} {Q : State → Prop} {kc0 ks0 pc w q : Nat} {A : ST} {go : GO}
variable {ct : CT9} {Fa : LF} {σe : Nat → Int} {KC KS : Nat}

theorem calN_t {c9 : IT9} (act : Act SSX TBL g CLS bl xs d p l s mm args meth c) (hEnd : EndN SSX TBL g CLS d p l e Rm s mm args below meth c Q kc0 ks0 ct.2.2.2.1 ct.2.2.2.2.1 KC KS (PO9 K Inv ct R0 hs0 σe)) (hR : ROOMX ct Rm kc0 ks0 KC KS hs0 σ0 σe m0 Fa kcP ksP lnP) (hG : G_call SSX TBL CLS ftX mdx d pc w) (hgo : ∀ pc A q, go pc A q = true → Good K Inv R0 hs0 m0 d.2.2.1 kcP ksP lnP σ0 (WN g p l e Rm s mm args below meth c Q d kc0 ks0) pc A q) (hTY : TYg g) (hS : SemI K Inv c9) (hu : c9.1 = fa w) (h : calN ct m0 Fa c9 K w A q go = true) : Good K Inv R0 hs0 m0 d.2.2.1 kcP ksP lnP σ0 (WN g p l e Rm s mm args below meth c Q d kc0 ks0) pc A q := by
  unfold calN at h
  split at h
  · rename_i s kd ln as s' b8 δ8 rest e9 e8
    split at h
    · cases h
    rename_i s1 e1
    simp only [Bool.and_eq_true] at h
    obtain ⟨w1, w2, w3, w4, w5, w6, w7, w8, w9, w10, w11, w12, w13, w14, h⟩ := h
    have w1 := Nat.eq_of_beq_eq_true w1
    have w2 := Nat.eq_of_beq_eq_true w2
    have w3 := Nat.eq_of_beq_eq_true w3
    have w7 := Nat.eq_of_beq_eq_true w7
    have w8 := Nat.eq_of_beq_eq_true w8
    have w9 := Nat.le_of_ble_eq_true w9
    have w10 := Nat.le_of_ble_eq_true w10
    have w11 := Nat.le_of_ble_eq_true w11
    have w12 := Nat.le_of_ble_eq_true w12
    have w13 := Nat.eq_of_beq_eq_true w13
    subst w1
    obtain ⟨d', hd1, hd2, hr0, hr1, hB⟩ := hS
    intro R σ L hs kc ks S hX hV k1 k2 k3
    obtain ⟨y1, y2, y3, y4, y5, y6, y7, y8, y9, y10, y11⟩ := id hR
    obtain ⟨v1, v2, v3, v4, v5, v6, v7⟩ := hV
    have hq := okq_t v3 v1 w14
    have hst : A.2.2.1 = A.2.2.1.take (fb w % 16) ++ A.2.2.1.drop (fb w % 16) := (List.take_append_drop _ _).symm
    have v6' := v6
    rw [hst] at v6'
    obtain ⟨S1, S2, rfl, hS1, hS2⟩ := v6'.split
    have hS1r := hS1.rev
    rw [e9] at hS1r
    rw [e8] at hS2
    obtain ⟨va, Sa, eSa, ha, hSa⟩ := hS1r
    obtain ⟨vb, Sb, rfl, hb, hSb⟩ := hS2
    obtain ⟨k, rfl, z1, z2, z3, z4, z5⟩ := ha.raw rfl
    obtain ⟨k', rfl, u1, u2, u3, u4, u5⟩ := hb.raw rfl
    have z5 : σ s = (k : Int) := z5
    have u5 : σ s = (k' : Int) := u5
    have hkk : k' = k := by omega
    subst hkk
    have z3 : hs[k']? = some (kd, ln.toNat, fun j => dv (ftX kd j)) := z3
    rw [w2, w3] at z3
    have hσ0 : ∀ s, s < 0 → sgS 0 σ s1 s = σ s := fun s hs => absurd hs (Nat.not_lt_zero _)
    have at0 : ∀ (i : Nat) (x : Nat × Int), s1[i]? = some x → sgS 0 σ s1 i = σ x.1 + x.2 := fun i x hx => by
      have := sgS_at (m := 0) (σ := σ) hx
      rwa [Nat.zero_add] at this
    have a1 := ent_t (n0 := R0.length) (n0' := 0) (hs := hs) (hs' := hs) (R := R) (n' := c9.2.1.1.length) (σ' := sgS 0 σ s1) v3 hσ0 (Nat.zero_le _) e1 (fun i x hx => by rw [Nat.zero_add]; exact at0 i x hx) (by omega)
    have b1 := ent_b (n0 := R0.length) (hs := hs) (R := R) v3 e1 (fun i c hc ht => by
      obtain ⟨v, y1, y2⟩ := hSa.ix i c hc
      exact vmlt y2 ht)
    have hEM : EM c9.2.1.1 (sgS 0 σ s1) := fun i hi => by
      obtain ⟨y, hy⟩ : ∃ y, s1[i]? = some y := ⟨_, List.getElem?_eq_getElem (by omega)⟩
      rw [at0 i y hy]
      have := (b1 i y hy).2
      rwa [Nat.zero_add] at this
    have hAS : SV (VM K 0 hs R c9.2.1.1.length (sgS 0 σ s1)) c9.2.1.2 Sa := SV.of hSa a1.1 (fun i p hp => by
      obtain ⟨c, y1, y2⟩ := a1.2 i p hp
      exact ⟨c, y1, fun v hv => (y2 v hv).2⟩)
    have hBody := hB g bl xs l hs R _ Sa k' hTY hX.1 hX.2.2.2 (by omega) z1 z3 hEM hAS
    rw [← eSa] at hBody
    have hlen : S1.reverse.length = fb w % 16 := by rw [eSa, List.length_cons, hAS.len, w8]
    have hasl : (argS S1.reverse).length ≤ d'.2.2.1 := by
      rw [hd2, eSa]
      have := argS_le Sa
      have := catS_t hAS
      show (argS Sa).length + 1 ≤ _
      omega
    have hn6 : nxt w = pc + 3 := by obtain ⟨_, _, _, _, _, _, h6, _⟩ := hG; exact h6
    have key := n_call (d' := d') (rest := .ref k' :: Sb) (as := S1.reverse) (h := (hs, kc, ks)) (L := L) tb_pres act hEnd hG (by rw [← hu]; exact hd1) hBody hlen hasl (fun _ => ⟨k', Sa, eSa, _, z3, Or.inl w13⟩) (by omega) (by rw [hd2]; omega) (by rw [List.map_cons, List.sum_cons]; have := catS_t hSb; show 1 + _ ≤ _; omega) (by show kc + _ ≤ _; omega) (by show ks + _ ≤ _; omega) ?_ ?_
    · rw [List.reverse_reverse] at key
      exact key
    · intro r h' hPO hret
      obtain ⟨-, rfl, R', p1, p2, p3, p4, p5, p6, p7⟩ := hPO
      rw [← hn6]
      have hm : ∀ k9 r9 : Nat, R[k9]? = some r9 → r9 ≠ 0 → R'[k9]? = some r9 := fun k9 r9 q1 q2 => p2 k9 r9 q1 (fun z => by subst z; rw [z1] at q1; cases q1; exact q2 rfl)
      have hk0 : ∀ k9 r9 : Nat, R0[k9]? = some r9 → k9 ≠ k' := fun k9 r9 q1 z => by
        subst z
        have := (List.getElem?_eq_some_iff.mp q1).1
        omega
      have hX2 : HX K Inv R0 hs0 R' h' := ⟨p3, fun k9 r9 q1 => p2 k9 r9 (hX.2.1 _ _ q1) (hk0 _ _ q1), fun k9 r9 q1 q2 => (p5 k9 r9 (hX.2.1 _ _ q1) q2 (hk0 _ _ q1)).trans (hX.2.2.1 k9 r9 q1 q2), p4⟩
      refine hgo _ _ _ h R' σ L h' _ _ _ hX2 ⟨v1, v2, v3, v4, fun i a hi ha0 => ?_, ⟨_, _, rfl, VM.mk3 ⟨k', c9.2.2.1, rfl, p1, hr0, ?_⟩, ?_⟩, fun i q a hq ha9 => ?_⟩ (by show kc + _ ≤ _; omega) (by show ks + _ ≤ _; omega) (by omega)
      · obtain ⟨v, q1, q2⟩ := v5 i a hi ha0
        exact ⟨v, q1, q2.mono2 (noRaw_t w5 hi) (Nat.le_refl _) (fun _ _ => rfl) hm⟩
      · unfold inG
        have h6 : Nat.ble 1000 c9.2.2.1 = false := by
          cases hb9 : Nat.ble 1000 c9.2.2.1 with
          | true => have := Nat.le_of_ble_eq_true hb9; omega
          | false => rfl
        rw [h6, cond_false, Nat.beq_refl]
      · exact SV.monoM (fun a ha9 v hv => hv.mono2 (by
          obtain ⟨i, hi⟩ := List.getElem?_of_mem ha9
          exact noRaw_t w4 hi) (Nat.le_refl _) (fun _ _ => rfl) hm) hSb
      · rw [p7 q (List.mem_of_getElem? hq)]
        exact (v7 i q a hq ha9).mono2 (noRaw_t w6 ha9) (Nat.le_refl _) (fun _ _ => rfl) hm
    · intro x h' hx3 hPO
      obtain ⟨q1, -⟩ := hPO
      omega
  · cases h

def x_new (m0 : Nat) (Fa : LF) (w : Nat) (A : ST) (q : Nat) (go : GO) : Bool := okq A.1 m0 Fa (q + (1 + fb w / 11)) && go (nxt w) (A.1 ++ [(0, 7000000000000, false)], A.2.1, (11, A.1.length, fa w, Int.ofNat (fb w)) :: A.2.2.1, A.2.2.2) (q + (1 + fb w / 11))
theorem x_new_t (act : Act SSX TBL g CLS bl xs d p l s mm args meth c) (hR : ROOMX ct Rm kc0 ks0 KC KS hs0 σ0 σe m0 Fa kcP ksP lnP) (hG : G_new SSX TBL CLS ftX mdx d pc w) (hI : StI K Inv) (hgo : ∀ pc A q, go pc A q = true → Good K Inv R0 hs0 m0 d.2.2.1 kcP ksP lnP σ0 (WN g p l e Rm s mm args below meth c Q d kc0 ks0) pc A q) (h : x_new m0 Fa w A q go = true) : Good K Inv R0 hs0 m0 d.2.2.1 kcP ksP lnP σ0 (WN g p l e Rm s mm args below meth c Q d kc0 ks0) pc A q := by
  unfold x_new at h
  rw [Bool.and_eq_true] at h
  intro R σ L hs kc ks S hX hV k1 k2 k3
  obtain ⟨y1, y2, y3, y4, y5, y6, y7, y8, y9, y10, y11⟩ := id hR
  have hq := okq_t hV.em hV.1 h.1
  have hn6 : nxt w = pc + 3 := by obtain ⟨_, _, _, _, _, _, h6, _⟩ := hG; exact h6
  generalize hu : fb w / 11 = u at *
  have hu2 : fb w ≤ 11 * (1 + u) := by omega
  refine n_new act hG (by show hs.length < _; omega) (by show kc + 1 ≤ _; omega) (by show ks + _ ≤ _; omega) hn6.symm ?_
  have hl := lenR hX
  have hV1 := hV.ext (e := (0, 7000000000000, false)) (x := (hs.length : Int)) (by show (0 : Int) ≤ _; omega) (by show (hs.length : Int) ≤ 7000000000000; omega) (fun z => by cases z)
  have hV2 := hV1.hp (Rg' := A.2.2.2) (SBx.app0 hX.1 (fa w, fb w, fun j => dv (ftX (fa w) j))) (fun i qq a hi ha => by
    have h1 := hV1.2.2.2.2.2.2 i qq a hi ha
    have h2 := (hX.1.2.2 qq (List.mem_of_getElem? hi)).2.1
    rw [rd_app (by rw [← hX.1.1]; exact (List.getElem?_eq_some_iff.mp h2).1)]
    exact h1.mono (Nat.le_refl _) (fun _ _ => rfl) (SBx.app0 hX.1 _))
  refine hgo _ _ _ h.2 (R ++ [0]) _ L _ _ _ _ (hX.app0 hI _) (hV2.push (Or.inr (Or.inr (Or.inr (Or.inr (Or.inr (Or.inr (Or.inr (Or.inr (Or.inr (Or.inr ⟨rfl, hs.length, rfl, ?_, hl, ?_, ?_, upS_same _ _ _⟩))))))))))) (by show kc + 1 ≤ _; omega) (by show ks + fb w ≤ _; omega) (by rw [List.length_append]; show hs.length + 1 ≤ _; omega)
  · rw [← hX.1.1, List.getElem?_append_right (Nat.le_refl _), Nat.sub_self]
    rfl
  · rw [List.getElem?_append_right (Nat.le_refl _), Nat.sub_self]
    rfl
  · rw [List.length_append]
    exact Nat.lt_succ_self _
def x_labs (m0 : Nat) (Fa : LF) (lam f : Nat) (w : Nat) (A : ST) (q : Nat) (go : GO) : Bool := popL A (fun s1 B => okq B.1 m0 Fa q && (Nat.ble 1 f && (Nat.ble 21 lam && (Nat.ble (catS B.2.2.1) 8 && go (nxt w) (pushL B (-9223372036854775808) 9223372036854775807 false) q))))
theorem x_labs_t (act : Act SSX TBL g CLS bl xs d p l s mm args meth c) (hR : ROOMX ct Rm kc0 ks0 KC KS hs0 σ0 σe m0 Fa kcP ksP lnP) (hG : G_labs SSX TBL CLS ftX mdx d pc w) (hgo : ∀ pc A q, go pc A q = true → Good K Inv R0 hs0 m0 d.2.2.1 kcP ksP lnP σ0 (WN g p l e Rm s mm args below meth c Q d kc0 ks0) pc A q) (h : x_labs m0 Fa ct.2.2.2.2.1 ct.2.2.2.1 w A q go = true) : Good K Inv R0 hs0 m0 d.2.2.1 kcP ksP lnP σ0 (WN g p l e Rm s mm args below meth c Q d kc0 ks0) pc A q := by
  intro R σ L hs kc ks S hX hV k1 k2 k3
  obtain ⟨s1, B, x, S', h, rfl, hV1, l1, ex⟩ := popL_t h hV
  rw [Bool.and_eq_true, Bool.and_eq_true, Bool.and_eq_true, Bool.and_eq_true] at h
  obtain ⟨w0, w1, w2, w3, h⟩ := h
  obtain ⟨y1, y2, y3, y4, y5, y6, y7, y8, y9, y10, y11⟩ := id hR
  have hq := okq_t hV1.em hV1.1 w0
  have w1 := Nat.le_of_ble_eq_true w1
  have w2 := Nat.le_of_ble_eq_true w2
  refine n_labs act hG (by omega) (by omega) (Nat.le_trans (catS_t hV1.2.2.2.2.2.1) (Nat.le_of_ble_eq_true w3)) (by show kc ≤ _; omega) (by show ks ≤ _; omega) rfl ?_
  obtain ⟨ix, hd, hn9, -⟩ := hG
  rw [← hn9]
  have hr := l_rng (if 0 < x then x else -x)
  exact hgo _ _ _ h R _ L hs kc ks _ hX (hV1.pushL (by omega) (by omega) (fun z => by cases z)) k1 k2 k3
def swT (b j : Nat) : Nat := Nat.mod (Nat.shiftRight b (Nat.add 48 (Nat.mul 16 j))) 65536
def x_sw (b w : Nat) (A : ST) (q : Nat) (go : GO) : Bool := pop1 A (fun s δ B =>
  (List.range (swn b)).all (fun j => br1 (B.1 ++ [(eI (swl b) + Int.ofNat j, eI (swl b) + Int.ofNat j, false)]) 0 s δ B.1.length 0 (fun E => go (swT b j) (setE B E) q)) &&
  (br1 (B.1 ++ [(eI (swl b), eI (swl b), false)]) 2 s δ B.1.length 0 (fun E => go (fa w) (setE B E) q) && br1 (B.1 ++ [(eI (swl b) + Int.ofNat (swn b), eI (swl b) + Int.ofNat (swn b), false)]) 3 s δ B.1.length 0 (fun E => go (fa w) (setE B E) q)))
theorem x_sw_t {b9 : Nat} (act : Act SSX TBL g CLS bl xs d p l s mm args meth c) (hG : G_switch SSX TBL CLS ftX mdx d pc w) (hgo : ∀ pc A q, go pc A q = true → Good K Inv R0 hs0 m0 d.2.2.1 kcP ksP lnP σ0 (WN g p l e Rm s mm args below meth c Q d kc0 ks0) pc A q) (hb9 : swb (fb w) = b9) (h : x_sw b9 w A q go = true) : Good K Inv R0 hs0 m0 d.2.2.1 kcP ksP lnP σ0 (WN g p l e Rm s mm args below meth c Q d kc0 ks0) pc A q := by
  intro R σ L hs kc ks S hX hV k1 k2 k3
  obtain ⟨s9, δ9, B, x, S', h, rfl, hV1, l1, ex⟩ := pop1_t h hV
  rw [Bool.and_eq_true, Bool.and_eq_true, List.all_eq_true] at h
  obtain ⟨h1, h2, h3⟩ := h
  obtain ⟨dflt, lo, hi, offs, len, c1, c2, c3, c4, c5⟩ := hG
  rw [hb9] at c2 c3 c5
  have elo : eI (swl b9) = lo := by
    unfold eI
    show ((swl b9 : Nat) : Int) - 2147483648 = lo
    omega
  rw [elo] at h1 h2 h3
  have pre : ∀ z : Int, VX K R0.length m0 d.2.2.1 σ0 hs R (upS σ B.1.length z) (B.1 ++ [(z, z, false)], B.2.1, B.2.2.1, B.2.2.2) L S' ∧ s9 < (B.1 ++ [(z, z, false)]).length ∧ B.1.length < (B.1 ++ [(z, z, false)]).length ∧ upS σ B.1.length z s9 = σ s9 ∧ upS σ B.1.length z B.1.length = z := fun z => by
    have hl : B.1.length < (B.1 ++ [(z, z, false)]).length := by rw [List.length_append]; exact Nat.lt_succ_self _
    exact ⟨hV1.ext (e := (z, z, false)) (Int.le_refl _) (Int.le_refl _) (fun q => by cases q), Nat.lt_trans l1 hl, hl, upS_lt σ z l1, upS_same _ _ _⟩
  have out : (x.toInt < lo ∨ hi < x.toInt) → WpN g CLS p l e Rm s mm args below meth c Q d.2.2.1 kc0 ks0 pc L (hs, kc, ks) (.int x :: S') := by
    intro ho
    refine n_tabOut act c1 ho c4 ?_
    rcases ho with ho | ho
    · obtain ⟨u1, u2, u3, u4, u5⟩ := pre lo
      obtain ⟨z1, z2⟩ := br1_t u1.em u2 u3 (Or.inr (Or.inr (Or.inl ⟨rfl, by rw [u4, u5]; omega⟩))) h2
      exact hgo _ _ _ z1 R _ L hs kc ks _ hX (u1.env z2 (rfn_len _ _ _ _ _ _)) k1 k2 k3
    · obtain ⟨u1, u2, u3, u4, u5⟩ := pre (lo + Int.ofNat (swn b9))
      have e0 : Int.ofNat (swn b9) = ((swn b9 : Nat) : Int) := rfl
      obtain ⟨z1, z2⟩ := br1_t u1.em u2 u3 (Or.inr (Or.inr (Or.inr (Or.inl ⟨rfl, by rw [u4, u5]; omega⟩)))) h3
      exact hgo _ _ _ z1 R _ L hs kc ks _ hX (u1.env z2 (rfn_len _ _ _ _ _ _)) k1 k2 k3
  by_cases o1 : x.toInt < lo
  · exact out (Or.inl o1)
  by_cases o2 : hi < x.toInt
  · exact out (Or.inr o2)
  have hj : (x.toInt - lo).toNat < swn b9 := by omega
  obtain ⟨off, f1, f2⟩ := c5 _ hj
  refine n_tabIn act c1 o1 o2 f1 f2 ?_
  have g1 := h1 _ (List.mem_range.mpr hj)
  obtain ⟨u1, u2, u3, u4, u5⟩ := pre (lo + Int.ofNat (x.toInt - lo).toNat)
  have e0 : Int.ofNat (x.toInt - lo).toNat = (((x.toInt - lo).toNat : Nat) : Int) := rfl
  obtain ⟨z1, z2⟩ := br1_t u1.em u2 u3 (Or.inl ⟨rfl, by rw [u4, u5]; omega⟩) g1
  exact hgo _ _ _ z1 R _ L hs kc ks _ hX (u1.env z2 (rfn_len _ _ _ _ _ _)) k1 k2 k3

/-- the last register's value told apart -/
def spl (A : ST) (f : ST → Bool) : Bool := match A.2.2.2.getLast? with
  | some a => Nat.beq a.1 1 && (Nat.blt a.2.1 A.1.length && (List.range ((evg A.1 a.2.1).2.1 - (evg A.1 a.2.1).1 + 1).toNat).all (fun j => f (setE A (A.1.set a.2.1 ((evg A.1 a.2.1).1 + Int.ofNat j, (evg A.1 a.2.1).1 + Int.ofNat j, (evg A.1 a.2.1).2.2)))))
  | none => false
theorem spl_t {W : Nat → LN → HN → List Value → Prop} {nL : Nat} {f : ST → Bool} (hf : ∀ A', f A' = true → Good K Inv R0 hs0 m0 nL kcP ksP lnP σ0 W pc A' q) (h : spl A f = true) : Good K Inv R0 hs0 m0 nL kcP ksP lnP σ0 W pc A q := by
  unfold spl at h
  split at h
  · rename_i a ha
    rw [Bool.and_eq_true, Bool.and_eq_true, List.all_eq_true] at h
    obtain ⟨w1, w2, h⟩ := h
    intro R σ L hs kc ks S hX hV k1 k2 k3
    obtain ⟨E, Ls, St, Rg⟩ := A
    have l1 : a.2.1 < E.length := blt_t w2
    obtain ⟨b1, b2, b3⟩ := hV.em _ l1
    refine hf _ (h (σ a.2.1 - (evg E a.2.1).1).toNat (List.mem_range.mpr (by show _ < ((evg E a.2.1).2.1 - (evg E a.2.1).1 + 1).toNat; omega))) R σ L hs kc ks S hX (hV.env (hV.em.set ?_ ?_ b3) (List.length_set ..)) k1 k2 k3
    · show (evg E a.2.1).1 + Int.ofNat _ ≤ _
      have : Int.ofNat (σ a.2.1 - (evg E a.2.1).1).toNat = ((σ a.2.1 - (evg E a.2.1).1).toNat : Int) := rfl
      rw [this]; omega
    · show _ ≤ (evg E a.2.1).1 + Int.ofNat _
      have : Int.ofNat (σ a.2.1 - (evg E a.2.1).1).toNat = ((σ a.2.1 - (evg E a.2.1).1).toNat : Int) := rfl
      rw [this]; omega
  · cases h
noncomputable def stp (K : KX) (GM : List CT9) (GI : List IT9) (ct : CT9) (hh : Bool) (m0 : Nat) (Fa : LF) (w op : Nat) (A : ST) (q : Nat) (go : GO) : Bool := bif Nat.beq op 1 then x_const w A q go else (bif Nat.beq op 2 then x_loadI w A q go else (bif Nat.beq op 3 then x_loadA w A q go else (bif Nat.beq op 6 then x_loadL w A q go else (bif Nat.beq op 16 then x_storeI w A q go else (bif Nat.beq op 11 then x_storeL w A q go else (bif Nat.beq op 45 then x_storeA w A q go else (bif Nat.beq op 9 then x_iinc w A q go else (bif Nat.beq op 10 then x_iadd w A q go else (bif Nat.beq op 38 then x_isub w A q go else (bif Nat.beq op 51 then x_iand w A q go else (bif Nat.beq op 75 then x_ior w A q go else (bif Nat.beq op 59 then x_ishl w A q go else (bif Nat.beq op 52 then x_ishr w A q go else (bif Nat.beq op 17 then x_imul w A q go else (bif Nat.beq op 73 then x_idiv w A q go else (bif Nat.beq op 23 then x_irem w A q go else (bif Nat.beq op 76 then x_ineg w A q go else (bif Nat.beq op 44 then x_i2l w A q go else (bif Nat.beq op 58 then x_i2b w A q go else (bif Nat.beq op 31 then x_ladd w A q go else (bif Nat.beq op 30 then x_lsub w A q go else (bif Nat.beq op 21 then x_lmul w A q go else (bif Nat.beq op 22 then x_ldiv w A q go else (bif Nat.beq op 27 then x_lrem w A q go else (bif Nat.beq op 37 then x_lneg w A q go else (bif Nat.beq op 12 then x_lcmp w A q go else (bif Nat.beq op 62 then x_ifnonnull w A q go else (bif Nat.beq op 63 then x_pop w A q go else (bif Nat.beq op 34 then x_dup w A q go else (bif Nat.beq op 48 then x_dup2 w A q go else (bif Nat.beq op 79 then x_dupx1 w A q go else (bif Nat.beq op 7 then x_goto w A q go else (bif Nat.beq op 46 then x_icmp 0 w A q go else (bif Nat.beq op 14 then x_if 0 w A q go else (bif Nat.beq op 33 then x_icmp 1 w A q go else (bif Nat.beq op 29 then x_if 1 w A q go else (bif Nat.beq op 32 then x_icmp 2 w A q go else (bif Nat.beq op 42 then x_if 2 w A q go else (bif Nat.beq op 8 then x_icmp 3 w A q go else (bif Nat.beq op 20 then x_if 3 w A q go else (bif Nat.beq op 43 then x_icmp 4 w A q go else (bif Nat.beq op 67 then x_if 4 w A q go else (bif Nat.beq op 60 then x_icmp 5 w A q go else (bif Nat.beq op 61 then x_if 5 w A q go else (bif Nat.beq op 4 then x_getf K w A q go else (bif Nat.beq op 19 then x_putf K w A q go else (bif Nat.beq op 26 then (x_aldR K w A q go || x_ald K (fun z => Nat.beq z 32) w A q go) else (bif Nat.beq op 13 then x_ald K (fun z => Nat.beq z 33) w A q go else (bif Nat.beq op 18 then x_ald K (fun z => Nat.ble 37 z) w A q go else (bif Nat.beq op 64 then x_ald K (fun z => Nat.beq z 34 || Nat.beq z 35) w A q go else (bif Nat.beq op 36 then (x_iastR K w A q go || x_ast K (fun z => Nat.beq z 32) (fun E a _ t => Nat.beq a.1 1 && tyA K E a t) w A q go) else (bif Nat.beq op 5 then x_ast K (fun z => Nat.beq z 33) (fun E a _ t => Nat.beq a.1 2 && tyA K E a t) w A q go else (bif Nat.beq op 57 then x_ast K (fun z => Nat.beq z 34 || Nat.beq z 35) chkB w A q go else (bif Nat.beq op 53 then x_ast K (fun z => Nat.ble 39 z) (fun E a kd t => okK K kd a && tyA K E a t) w A q go else (bif Nat.beq op 50 then x_alen K w A q go else (bif Nat.beq op 47 then x_retI K ct m0 Fa A q else (bif Nat.beq op 25 then x_retL K ct m0 Fa A q else (bif Nat.beq op 77 then x_retD K ct m0 Fa A q else (bif Nat.beq op 35 then x_retZ K ct m0 Fa A q else (bif Nat.beq op 49 then x_retA K ct m0 Fa A q else (bif Nat.beq op 24 then x_retV K ct m0 Fa A q else (bif Nat.beq op 56 then x_throw K ct m0 Fa w A q else (bif Nat.beq op 74 then x_mmax m0 Fa ct.2.2.2.2.1 ct.2.2.2.1 w A q go else (bif Nat.beq op 66 then x_labs m0 Fa ct.2.2.2.2.1 ct.2.2.2.1 w A q go else (bif Nat.beq op 40 then x_new m0 Fa w A q go else (bif Nat.beq op 54 then x_sw (swb (fb w)) w A q go else (bif Nat.beq op 15 then ((GM.any (fun c => Nat.beq c.1 (fa w) && cal1 K ct hh m0 Fa c w A q go) || GI.any (fun c => Nat.beq c.1 (fa w) && calN ct m0 Fa c K w A q go)) || (bif GM.any (fun c => Nat.beq c.1 (fa w)) then spl A (fun A' => GM.any (fun c => Nat.beq c.1 (fa w) && cal1 K ct hh m0 Fa c w A' q go)) else false)) else (bif Nat.beq op 86 then x_l2d w A q go else (bif Nat.beq op 88 then x_i2d w A q go else (bif Nat.beq op 87 then x_ddiv w A q go else (bif Nat.beq op 90 then x_ast K (fun z => Nat.beq z 36) (fun E a _ t => Nat.beq a.1 9 && Nat.beq t.1 0) w A q go else (false))))))))))))))))))))))))))))))))))))))))))))))))))))))))))))))))))))))))
def psOK (c : CT9) : Bool := c.2.2.1.all (fun pt => Nat.ble pt.1 4 && (Nat.beq pt.1 0 || pt.2.2.1.isEmpty))
theorem psOK_t {c : CT9} (h : psOK c = true) : ∀ pt ∈ c.2.2.1, pt.1 ≤ 4 ∧ (pt.1 ≠ 0 → pt.2.2.1 = []) := fun pt hp => by
  unfold psOK at h
  rw [List.all_eq_true] at h
  have := h pt hp
  rw [Bool.and_eq_true, Bool.or_eq_true] at this
  refine ⟨Nat.le_of_ble_eq_true this.1, fun z => ?_⟩
  rcases this.2 with u | u
  · exact absurd (Nat.eq_of_beq_eq_true u) z
  · exact List.isEmpty_iff.mp u
theorem nbf {a b : Nat} (h : ¬ a = b) : Nat.beq a b = false := by
  cases hb : Nat.beq a b with
  | true => exact absurd (Nat.eq_of_beq_eq_true hb) h
  | false => rfl
theorem stp_t {GM : List CT9} {GI : List IT9} {hh : Bool} {op : Nat} (act : Act SSX TBL g CLS bl xs d p l s mm args meth c) (hEnd : EndN SSX TBL g CLS d p l e Rm s mm args below meth c Q kc0 ks0 ct.2.2.2.1 ct.2.2.2.2.1 KC KS (PO9 K Inv ct R0 hs0 σe)) (hR : ROOMX ct Rm kc0 ks0 KC KS hs0 σ0 σe m0 Fa kcP ksP lnP) (hI : StI K Inv) (hTY : TYg g) (hgo : ∀ pc A q, go pc A q = true → Good K Inv R0 hs0 m0 d.2.2.1 kcP ksP lnP σ0 (WN g p l e Rm s mm args below meth c Q d kc0 ks0) pc A q) (hGM : ∀ c ∈ GM, SemC K Inv c ∧ psOK c = true) (hGI : ∀ c ∈ GI, SemI K Inv c) (hhh : hh = true → d.2.2.2.2 = []) (hG : Gd SSX TBL CLS ftX mdx d pc w) (hop : w % 256 = op) (h : stp K GM GI ct hh m0 Fa w op A q go = true) : Good K Inv R0 hs0 m0 d.2.2.1 kcP ksP lnP σ0 (WN g p l e Rm s mm args below meth c Q d kc0 ks0) pc A q := by
  obtain ⟨P, hP1, hP⟩ := hG
  rw [hop] at hP1
  unfold stp at h
  by_cases e1 : op = 1
  · subst e1
    rw [Nat.beq_refl, cond_true] at h
    have hP2 : G_const = P := Option.some.inj hP1
    subst hP2
    exact x_const_t act hP hgo h
  rw [nbf e1, cond_false] at h
  by_cases e2 : op = 2
  · subst e2
    rw [Nat.beq_refl, cond_true] at h
    have hP2 : G_loadI = P := Option.some.inj hP1
    subst hP2
    exact x_loadI_t act hP hgo h
  rw [nbf e2, cond_false] at h
  by_cases e3 : op = 3
  · subst e3
    rw [Nat.beq_refl, cond_true] at h
    have hP2 : G_loadA = P := Option.some.inj hP1
    subst hP2
    exact x_loadA_t act hP hgo h
  rw [nbf e3, cond_false] at h
  by_cases e6 : op = 6
  · subst e6
    rw [Nat.beq_refl, cond_true] at h
    have hP2 : G_loadL = P := Option.some.inj hP1
    subst hP2
    exact x_loadL_t act hP hgo h
  rw [nbf e6, cond_false] at h
  by_cases e16 : op = 16
  · subst e16
    rw [Nat.beq_refl, cond_true] at h
    have hP2 : G_storeI = P := Option.some.inj hP1
    subst hP2
    exact x_storeI_t act hP hgo h
  rw [nbf e16, cond_false] at h
  by_cases e11 : op = 11
  · subst e11
    rw [Nat.beq_refl, cond_true] at h
    have hP2 : G_storeL = P := Option.some.inj hP1
    subst hP2
    exact x_storeL_t act hP hgo h
  rw [nbf e11, cond_false] at h
  by_cases e45 : op = 45
  · subst e45
    rw [Nat.beq_refl, cond_true] at h
    have hP2 : G_storeA = P := Option.some.inj hP1
    subst hP2
    exact x_storeA_t act hP hgo h
  rw [nbf e45, cond_false] at h
  by_cases e9 : op = 9
  · subst e9
    rw [Nat.beq_refl, cond_true] at h
    have hP2 : G_iinc = P := Option.some.inj hP1
    subst hP2
    exact x_iinc_t act hP hgo h
  rw [nbf e9, cond_false] at h
  by_cases e10 : op = 10
  · subst e10
    rw [Nat.beq_refl, cond_true] at h
    have hP2 : G_iadd = P := Option.some.inj hP1
    subst hP2
    exact x_iadd_t act hP hgo h
  rw [nbf e10, cond_false] at h
  by_cases e38 : op = 38
  · subst e38
    rw [Nat.beq_refl, cond_true] at h
    have hP2 : G_isub = P := Option.some.inj hP1
    subst hP2
    exact x_isub_t act hP hgo h
  rw [nbf e38, cond_false] at h
  by_cases e51 : op = 51
  · subst e51
    rw [Nat.beq_refl, cond_true] at h
    have hP2 : G_iand = P := Option.some.inj hP1
    subst hP2
    exact x_iand_t act hP hgo h
  rw [nbf e51, cond_false] at h
  by_cases e75 : op = 75
  · subst e75
    rw [Nat.beq_refl, cond_true] at h
    have hP2 : G_ior = P := Option.some.inj hP1
    subst hP2
    exact x_ior_t act hP hgo h
  rw [nbf e75, cond_false] at h
  by_cases e59 : op = 59
  · subst e59
    rw [Nat.beq_refl, cond_true] at h
    have hP2 : G_ishl = P := Option.some.inj hP1
    subst hP2
    exact x_ishl_t act hP hgo h
  rw [nbf e59, cond_false] at h
  by_cases e52 : op = 52
  · subst e52
    rw [Nat.beq_refl, cond_true] at h
    have hP2 : G_ishr = P := Option.some.inj hP1
    subst hP2
    exact x_ishr_t act hP hgo h
  rw [nbf e52, cond_false] at h
  by_cases e17 : op = 17
  · subst e17
    rw [Nat.beq_refl, cond_true] at h
    have hP2 : G_imul = P := Option.some.inj hP1
    subst hP2
    exact x_imul_t act hP hgo h
  rw [nbf e17, cond_false] at h
  by_cases e73 : op = 73
  · subst e73
    rw [Nat.beq_refl, cond_true] at h
    have hP2 : G_idiv = P := Option.some.inj hP1
    subst hP2
    exact x_idiv_t act hP hgo h
  rw [nbf e73, cond_false] at h
  by_cases e23 : op = 23
  · subst e23
    rw [Nat.beq_refl, cond_true] at h
    have hP2 : G_irem = P := Option.some.inj hP1
    subst hP2
    exact x_irem_t act hP hgo h
  rw [nbf e23, cond_false] at h
  by_cases e76 : op = 76
  · subst e76
    rw [Nat.beq_refl, cond_true] at h
    have hP2 : G_ineg = P := Option.some.inj hP1
    subst hP2
    exact x_ineg_t act hP hgo h
  rw [nbf e76, cond_false] at h
  by_cases e44 : op = 44
  · subst e44
    rw [Nat.beq_refl, cond_true] at h
    have hP2 : G_i2l = P := Option.some.inj hP1
    subst hP2
    exact x_i2l_t act hP hgo h
  rw [nbf e44, cond_false] at h
  by_cases e58 : op = 58
  · subst e58
    rw [Nat.beq_refl, cond_true] at h
    have hP2 : G_i2b = P := Option.some.inj hP1
    subst hP2
    exact x_i2b_t act hP hgo h
  rw [nbf e58, cond_false] at h
  by_cases e31 : op = 31
  · subst e31
    rw [Nat.beq_refl, cond_true] at h
    have hP2 : G_ladd = P := Option.some.inj hP1
    subst hP2
    exact x_ladd_t act hP hgo h
  rw [nbf e31, cond_false] at h
  by_cases e30 : op = 30
  · subst e30
    rw [Nat.beq_refl, cond_true] at h
    have hP2 : G_lsub = P := Option.some.inj hP1
    subst hP2
    exact x_lsub_t act hP hgo h
  rw [nbf e30, cond_false] at h
  by_cases e21 : op = 21
  · subst e21
    rw [Nat.beq_refl, cond_true] at h
    have hP2 : G_lmul = P := Option.some.inj hP1
    subst hP2
    exact x_lmul_t act hP hgo h
  rw [nbf e21, cond_false] at h
  by_cases e22 : op = 22
  · subst e22
    rw [Nat.beq_refl, cond_true] at h
    have hP2 : G_ldiv = P := Option.some.inj hP1
    subst hP2
    exact x_ldiv_t act hP hgo h
  rw [nbf e22, cond_false] at h
  by_cases e27 : op = 27
  · subst e27
    rw [Nat.beq_refl, cond_true] at h
    have hP2 : G_lrem = P := Option.some.inj hP1
    subst hP2
    exact x_lrem_t act hP hgo h
  rw [nbf e27, cond_false] at h
  by_cases e37 : op = 37
  · subst e37
    rw [Nat.beq_refl, cond_true] at h
    have hP2 : G_lneg = P := Option.some.inj hP1
    subst hP2
    exact x_lneg_t act hP hgo h
  rw [nbf e37, cond_false] at h
  by_cases e12 : op = 12
  · subst e12
    rw [Nat.beq_refl, cond_true] at h
    have hP2 : G_lcmp = P := Option.some.inj hP1
    subst hP2
    exact x_lcmp_t act hP hgo h
  rw [nbf e12, cond_false] at h
  by_cases e62 : op = 62
  · subst e62
    rw [Nat.beq_refl, cond_true] at h
    have hP2 : G_ifnonnull = P := Option.some.inj hP1
    subst hP2
    exact x_ifnonnull_t act hP hgo h
  rw [nbf e62, cond_false] at h
  by_cases e63 : op = 63
  · subst e63
    rw [Nat.beq_refl, cond_true] at h
    have hP2 : G_pop = P := Option.some.inj hP1
    subst hP2
    exact x_pop_t act hP hgo h
  rw [nbf e63, cond_false] at h
  by_cases e34 : op = 34
  · subst e34
    rw [Nat.beq_refl, cond_true] at h
    have hP2 : G_dup = P := Option.some.inj hP1
    subst hP2
    exact x_dup_t act hP hgo h
  rw [nbf e34, cond_false] at h
  by_cases e48 : op = 48
  · subst e48
    rw [Nat.beq_refl, cond_true] at h
    have hP2 : G_dup2 = P := Option.some.inj hP1
    subst hP2
    exact x_dup2_t act hP hgo h
  rw [nbf e48, cond_false] at h
  by_cases e79 : op = 79
  · subst e79
    rw [Nat.beq_refl, cond_true] at h
    have hP2 : G_dupx1 = P := Option.some.inj hP1
    subst hP2
    exact x_dupx1_t act hP hgo h
  rw [nbf e79, cond_false] at h
  by_cases e7 : op = 7
  · subst e7
    rw [Nat.beq_refl, cond_true] at h
    have hP2 : G_goto = P := Option.some.inj hP1
    subst hP2
    exact x_goto_t act hP hgo h
  rw [nbf e7, cond_false] at h
  by_cases e46 : op = 46
  · subst e46
    rw [Nat.beq_refl, cond_true] at h
    have hP2 : G_icmpEq = P := Option.some.inj hP1
    subst hP2
    exact x_icmpEq_t act hP hgo h
  rw [nbf e46, cond_false] at h
  by_cases e14 : op = 14
  · subst e14
    rw [Nat.beq_refl, cond_true] at h
    have hP2 : G_ifEq = P := Option.some.inj hP1
    subst hP2
    exact x_ifEq_t act hP hgo h
  rw [nbf e14, cond_false] at h
  by_cases e33 : op = 33
  · subst e33
    rw [Nat.beq_refl, cond_true] at h
    have hP2 : G_icmpNe = P := Option.some.inj hP1
    subst hP2
    exact x_icmpNe_t act hP hgo h
  rw [nbf e33, cond_false] at h
  by_cases e29 : op = 29
  · subst e29
    rw [Nat.beq_refl, cond_true] at h
    have hP2 : G_ifNe = P := Option.some.inj hP1
    subst hP2
    exact x_ifNe_t act hP hgo h
  rw [nbf e29, cond_false] at h
  by_cases e32 : op = 32
  · subst e32
    rw [Nat.beq_refl, cond_true] at h
    have hP2 : G_icmpLt = P := Option.some.inj hP1
    subst hP2
    exact x_icmpLt_t act hP hgo h
  rw [nbf e32, cond_false] at h
  by_cases e42 : op = 42
  · subst e42
    rw [Nat.beq_refl, cond_true] at h
    have hP2 : G_ifLt = P := Option.some.inj hP1
    subst hP2
    exact x_ifLt_t act hP hgo h
  rw [nbf e42, cond_false] at h
  by_cases e8 : op = 8
  · subst e8
    rw [Nat.beq_refl, cond_true] at h
    have hP2 : G_icmpGe = P := Option.some.inj hP1
    subst hP2
    exact x_icmpGe_t act hP hgo h
  rw [nbf e8, cond_false] at h
  by_cases e20 : op = 20
  · subst e20
    rw [Nat.beq_refl, cond_true] at h
    have hP2 : G_ifGe = P := Option.some.inj hP1
    subst hP2
    exact x_ifGe_t act hP hgo h
  rw [nbf e20, cond_false] at h
  by_cases e43 : op = 43
  · subst e43
    rw [Nat.beq_refl, cond_true] at h
    have hP2 : G_icmpGt = P := Option.some.inj hP1
    subst hP2
    exact x_icmpGt_t act hP hgo h
  rw [nbf e43, cond_false] at h
  by_cases e67 : op = 67
  · subst e67
    rw [Nat.beq_refl, cond_true] at h
    have hP2 : G_ifGt = P := Option.some.inj hP1
    subst hP2
    exact x_ifGt_t act hP hgo h
  rw [nbf e67, cond_false] at h
  by_cases e60 : op = 60
  · subst e60
    rw [Nat.beq_refl, cond_true] at h
    have hP2 : G_icmpLe = P := Option.some.inj hP1
    subst hP2
    exact x_icmpLe_t act hP hgo h
  rw [nbf e60, cond_false] at h
  by_cases e61 : op = 61
  · subst e61
    rw [Nat.beq_refl, cond_true] at h
    have hP2 : G_ifLe = P := Option.some.inj hP1
    subst hP2
    exact x_ifLe_t act hP hgo h
  rw [nbf e61, cond_false] at h
  by_cases e4 : op = 4
  · subst e4
    rw [Nat.beq_refl, cond_true] at h
    have hP2 : G_getf = P := Option.some.inj hP1
    subst hP2
    exact x_getf_t act hP hgo h
  rw [nbf e4, cond_false] at h
  by_cases e19 : op = 19
  · subst e19
    rw [Nat.beq_refl, cond_true] at h
    have hP2 : G_putf = P := Option.some.inj hP1
    subst hP2
    exact x_putf_t act hP hgo hI h
  rw [nbf e19, cond_false] at h
  by_cases e26 : op = 26
  · subst e26
    rw [Nat.beq_refl, cond_true] at h
    have hP2 : G_iald = P := Option.some.inj hP1
    subst hP2
    exact (by rw [Bool.or_eq_true] at h; exact h.elim (fun h => x_aldR_t act hP hgo h) (fun h => x_iald_t act hP hgo h))
  rw [nbf e26, cond_false] at h
  by_cases e13 : op = 13
  · subst e13
    rw [Nat.beq_refl, cond_true] at h
    have hP2 : G_lald = P := Option.some.inj hP1
    subst hP2
    exact x_lald_t act hP hgo h
  rw [nbf e13, cond_false] at h
  by_cases e18 : op = 18
  · subst e18
    rw [Nat.beq_refl, cond_true] at h
    have hP2 : G_aald = P := Option.some.inj hP1
    subst hP2
    exact x_aald_t act hP hgo h
  rw [nbf e18, cond_false] at h
  by_cases e64 : op = 64
  · subst e64
    rw [Nat.beq_refl, cond_true] at h
    have hP2 : G_bald = P := Option.some.inj hP1
    subst hP2
    exact x_bald_t act hP hgo h
  rw [nbf e64, cond_false] at h
  by_cases e36 : op = 36
  · subst e36
    rw [Nat.beq_refl, cond_true] at h
    have hP2 : G_iast = P := Option.some.inj hP1
    subst hP2
    exact (by rw [Bool.or_eq_true] at h; exact h.elim (fun h => x_iastR_t act hP hgo hI h) (fun h => x_iast_t act hP hgo hI h))
  rw [nbf e36, cond_false] at h
  by_cases e5 : op = 5
  · subst e5
    rw [Nat.beq_refl, cond_true] at h
    have hP2 : G_last = P := Option.some.inj hP1
    subst hP2
    exact x_last_t act hP hgo hI h
  rw [nbf e5, cond_false] at h
  by_cases e57 : op = 57
  · subst e57
    rw [Nat.beq_refl, cond_true] at h
    have hP2 : G_bast = P := Option.some.inj hP1
    subst hP2
    exact x_bast_t act hP hgo hI h
  rw [nbf e57, cond_false] at h
  by_cases e53 : op = 53
  · subst e53
    rw [Nat.beq_refl, cond_true] at h
    have hP2 : G_aast = P := Option.some.inj hP1
    subst hP2
    exact x_aast_t act hP hgo hI h
  rw [nbf e53, cond_false] at h
  by_cases e50 : op = 50
  · subst e50
    rw [Nat.beq_refl, cond_true] at h
    have hP2 : G_alen = P := Option.some.inj hP1
    subst hP2
    exact x_alen_t act hP hgo h
  rw [nbf e50, cond_false] at h
  by_cases e47 : op = 47
  · subst e47
    rw [Nat.beq_refl, cond_true] at h
    have hP2 : G_retI = P := Option.some.inj hP1
    subst hP2
    exact x_retI_t hEnd hR hP h
  rw [nbf e47, cond_false] at h
  by_cases e25 : op = 25
  · subst e25
    rw [Nat.beq_refl, cond_true] at h
    have hP2 : G_retL = P := Option.some.inj hP1
    subst hP2
    exact x_retL_t hEnd hR hP h
  rw [nbf e25, cond_false] at h
  by_cases e77 : op = 77
  · subst e77
    rw [Nat.beq_refl, cond_true] at h
    have hP2 : G_retD = P := Option.some.inj hP1
    subst hP2
    exact x_retD_t hEnd hR hP h
  rw [nbf e77, cond_false] at h
  by_cases e35 : op = 35
  · subst e35
    rw [Nat.beq_refl, cond_true] at h
    have hP2 : G_retZ = P := Option.some.inj hP1
    subst hP2
    exact x_retZ_t hEnd hR hP h
  rw [nbf e35, cond_false] at h
  by_cases e49 : op = 49
  · subst e49
    rw [Nat.beq_refl, cond_true] at h
    have hP2 : G_retA = P := Option.some.inj hP1
    subst hP2
    exact x_retA_t hEnd hR hP h
  rw [nbf e49, cond_false] at h
  by_cases e24 : op = 24
  · subst e24
    rw [Nat.beq_refl, cond_true] at h
    have hP2 : G_retV = P := Option.some.inj hP1
    subst hP2
    exact x_retV_t hEnd hR hP h
  rw [nbf e24, cond_false] at h
  by_cases e56 : op = 56
  · subst e56
    rw [Nat.beq_refl, cond_true] at h
    have hP2 : G_throw = P := Option.some.inj hP1
    subst hP2
    exact x_throw_t hEnd hR hP h
  rw [nbf e56, cond_false] at h
  by_cases e74 : op = 74
  · subst e74
    rw [Nat.beq_refl, cond_true] at h
    have hP2 : G_mmax = P := Option.some.inj hP1
    subst hP2
    exact x_mmax_t act hP hgo hR h
  rw [nbf e74, cond_false] at h
  by_cases e66 : op = 66
  · subst e66
    rw [Nat.beq_refl, cond_true] at h
    have hP2 : G_labs = P := Option.some.inj hP1
    subst hP2
    exact x_labs_t act hR hP hgo h
  rw [nbf e66, cond_false] at h
  by_cases e40 : op = 40
  · subst e40
    rw [Nat.beq_refl, cond_true] at h
    have hP2 : G_new = P := Option.some.inj hP1
    subst hP2
    exact x_new_t act hR hP hI hgo h
  rw [nbf e40, cond_false] at h
  by_cases e54 : op = 54
  · subst e54
    rw [Nat.beq_refl, cond_true] at h
    have hP2 : G_switch = P := Option.some.inj hP1
    subst hP2
    exact x_sw_t act hP hgo rfl h
  rw [nbf e54, cond_false] at h
  by_cases e15 : op = 15
  · subst e15
    rw [Nat.beq_refl, cond_true] at h
    have hP2 : G_call = P := Option.some.inj hP1
    subst hP2
    rw [Bool.or_eq_true, Bool.or_eq_true, List.any_eq_true, List.any_eq_true] at h
    rcases h with (⟨c9, hc, h⟩ | ⟨c9, hc, h⟩) | h
    · rw [Bool.and_eq_true] at h
      exact cal1_t act hEnd hR hP hgo hTY (hGM c9 hc).1 (Nat.eq_of_beq_eq_true h.1) hhh (psOK_t (hGM c9 hc).2) h.2
    · rw [Bool.and_eq_true] at h
      exact calN_t act hEnd hR hP hgo hTY (hGI c9 hc) (Nat.eq_of_beq_eq_true h.1) h.2
    · cases h0 : GM.any (fun c => Nat.beq c.1 (fa w)) with
      | false => rw [h0] at h; cases h
      | true =>
        rw [h0, cond_true] at h
        refine spl_t (fun A' h9 => ?_) h
        rw [List.any_eq_true] at h9
        obtain ⟨c9, hc, h9⟩ := h9
        rw [Bool.and_eq_true] at h9
        exact cal1_t act hEnd hR hP hgo hTY (hGM c9 hc).1 (Nat.eq_of_beq_eq_true h9.1) hhh (psOK_t (hGM c9 hc).2) h9.2
  rw [nbf e15, cond_false] at h
  by_cases e86 : op = 86
  · subst e86
    rw [Nat.beq_refl, cond_true] at h
    have hP2 : G_l2d = P := Option.some.inj hP1
    subst hP2
    exact x_l2d_t act hP hgo h
  rw [nbf e86, cond_false] at h
  by_cases e88 : op = 88
  · subst e88
    rw [Nat.beq_refl, cond_true] at h
    have hP2 : G_i2d = P := Option.some.inj hP1
    subst hP2
    exact x_i2d_t act hP hgo h
  rw [nbf e88, cond_false] at h
  by_cases e87 : op = 87
  · subst e87
    rw [Nat.beq_refl, cond_true] at h
    have hP2 : G_ddiv = P := Option.some.inj hP1
    subst hP2
    exact x_ddiv_t act hP hgo h
  rw [nbf e87, cond_false] at h
  by_cases e90 : op = 90
  · subst e90
    rw [Nat.beq_refl, cond_true] at h
    have hP2 : G_dast = P := Option.some.inj hP1
    subst hP2
    exact x_dast_t act hP hgo hI h
  rw [nbf e90, cond_false] at h
  cases h
end OPS5

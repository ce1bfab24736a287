/-! The checker's operations: room, ends, calls, making. -/
def okq (E : List EV) (m0 : Nat) (Fa : LF) (q : Nat) : Bool := ltT m0 Fa.2 && chkF E (Int.ofNat q - Fa.1) (negT Fa.2)
theorem okq_t {E : List EV} {m0 : Nat} {Fa : LF} {q : Nat} {σ σ0 : Nat → Int} (hE : EM E σ) (h0 : ∀ s, s < m0 → σ s = σ0 s) (h : okq E m0 Fa q = true) : (q : Int) ≤ lfv σ0 Fa := by
  unfold okq at h
  rw [Bool.and_eq_true] at h
  have := chkF_t hE h.2
  rw [lft_neg, lft_cong h0 h.1] at this
  unfold lfv
  have e : Int.ofNat q = (q : Int) := rfl
  omega
/-- the room of a method, at a point -/
def ROOMX (ct : CT9) (Rm : Room) (kc0 ks0 KC KS : Nat) (hs0 : List CE) (σ0 σe : Nat → Int) (m0 : Nat) (Fa : LF) (kcP ksP lnP : Nat) : Prop :=
  ct.2.2.2.1 ≤ Rm.frames ∧ ct.2.2.2.2.1 ≤ Rm.locals ∧ KC ≤ Rm.cells + kc0 ∧ KS ≤ Rm.slots + ks0 ∧ (kcP : Int) + lfv σ0 Fa ≤ (KC : Int) ∧ (ksP : Int) + 11 * lfv σ0 Fa ≤ (KS : Int) ∧ (lnP : Int) + lfv σ0 Fa ≤ (hs0.length : Int) + (ct.2.2.2.2.2.1 : Int) ∧ hs0.length + ct.2.2.2.2.2.1 ≤ 6999999999999 ∧ ct.2.1.1.length ≤ m0 ∧ (∀ s, s < ct.2.1.1.length → σ0 s = σe s) ∧ EM ct.2.1.1 σe
/-- an end fits -/
def psE (K : KX) (Ee : List EV) (pt : PS9) (E : List EV) (res Rg : List AV) : Bool :=
  match ent K Ee.length (Ee ++ pt.2.1) E Ee.length pt.2.2.1 res with
  | none => false
  | some s1 => match ent K Ee.length (Ee ++ pt.2.1) E (Ee.length + s1.length) pt.2.2.2.1 Rg with
    | none => false
    | some s2 => Nat.beq pt.2.1.length (s1.length + s2.length) && (Nat.ble Rg.length K.2.2.length && (inM Ee.length pt.2.2.2.2 E && Nat.beq pt.2.2.2.2.length Ee.length))
theorem ic1 {s1 s2 : List (Nat × Int)} {i : Nat} {x : Nat × Int} (h : s1[i]? = some x) : (s1 ++ s2)[i]? = some x := by
  rw [List.getElem?_append_left (List.getElem?_eq_some_iff.mp h).1]; exact h
theorem ic2 {s1 s2 : List (Nat × Int)} {i : Nat} {x : Nat × Int} (h : s2[i]? = some x) : (s1 ++ s2)[s1.length + i]? = some x := by
  rw [List.getElem?_append_right (by omega), show s1.length + i - s1.length = i by omega]; exact h
theorem psE_t {K : KX} {n0 : Nat} {hs : List CE} {R : List Nat} {σ σe : Nat → Int} {Ee E : List EV} {pt : PS9} {res Rg : List AV} {vs : List Value} (hE : EM E σ) (hm : Ee.length ≤ E.length) (h0 : ∀ s, s < Ee.length → σ s = σe s) (hEe : EM Ee σe) (hr : SV (VM K n0 hs R E.length σ) res vs) (hg : ∀ (i : Nat) (q : Nat × Nat × Nat) (a : AV), K.2.2[i]? = some q → Rg[i]? = some a → VM K n0 hs R E.length σ a (rd hs q.2.1 q.2.2)) (h : psE K Ee pt E res Rg = true) :
    ∃ σ' : Nat → Int, (∀ s, s < Ee.length → σ' s = σe s) ∧ pt.2.2.2.2.length = Ee.length ∧ EM (pt.2.2.2.2 ++ pt.2.1) σ' ∧ SV (VM K 0 hs R (Ee ++ pt.2.1).length σ') pt.2.2.1 vs ∧ RgM K hs R (Ee ++ pt.2.1).length σ' pt.2.2.2.1 := by
  unfold psE at h
  split at h
  · cases h
  rename_i s1 e1
  split at h
  · cases h
  rename_i s2 e2
  rw [Bool.and_eq_true, Bool.and_eq_true, Bool.and_eq_true] at h
  obtain ⟨w1, w2, w3, w4⟩ := h
  have w1 := Nat.eq_of_beq_eq_true w1
  have w2 := Nat.le_of_ble_eq_true w2
  have w4 := Nat.eq_of_beq_eq_true w4
  have hln : (Ee ++ pt.2.1).length = Ee.length + (s1.length + s2.length) := by rw [List.length_append, w1]
  have hl2 : (s1 ++ s2).length = s1.length + s2.length := List.length_append
  have hσ : ∀ s, s < Ee.length → sgS Ee.length σ (s1 ++ s2) s = σ s := fun s hs => sgS_lt hs
  have a1 := ent_t (n0 := n0) (n0' := 0) (hs := hs) (hs' := hs) (R := R) (n' := (Ee ++ pt.2.1).length) (σ' := sgS Ee.length σ (s1 ++ s2)) hE hσ (by omega) e1 (fun i x hx => sgS_at (ic1 hx)) (by omega)
  have a2 := ent_t (n0 := n0) (n0' := 0) (hs := hs) (hs' := hs) (R := R) (n' := (Ee ++ pt.2.1).length) (σ' := sgS Ee.length σ (s1 ++ s2)) hE hσ (by omega) e2 (fun i x hx => by rw [show Ee.length + s1.length + i = Ee.length + (s1.length + i) by omega]; exact sgS_at (ic2 hx)) (by omega)
  have b1 := ent_b (n0 := n0) (hs := hs) (R := R) hE e1 (fun i c hc ht => by
    obtain ⟨v, z1, z2⟩ := hr.ix i c hc
    exact vmlt z2 ht)
  have b2 := ent_b (n0 := n0) (hs := hs) (R := R) hE e2 (fun i c hc ht => by
    have hi : i < K.2.2.length := Nat.lt_of_lt_of_le (List.getElem?_eq_some_iff.mp hc).1 w2
    exact vmlt (hg i _ c (List.getElem?_eq_getElem hi) hc) ht)
  refine ⟨sgS Ee.length σ (s1 ++ s2), fun s hs => (hσ s hs).trans (h0 s hs), w4, fun s hs9 => ?_, ?_, fun i q p hq hp => ?_⟩
  · rcases Nat.lt_or_ge s Ee.length with z | z
    · rw [hσ s z, evg_app_lt (by rw [w4]; exact z)]
      exact inM_t hE hm w3 z
    · obtain ⟨y, hy⟩ : ∃ y, (s1 ++ s2)[s - Ee.length]? = some y := ⟨_, List.getElem?_eq_getElem (by rw [List.length_append] at hs9; omega)⟩
      have e := sgS_at (m := Ee.length) (σ := σ) hy
      rw [show Ee.length + (s - Ee.length) = s by omega] at e
      have e9 : evg (pt.2.2.2.2 ++ pt.2.1) s = evg (Ee ++ pt.2.1) s := by rw [evg_app_ge (by omega), evg_app_ge z, w4]
      rw [List.length_append] at hs9
      rw [e, e9]
      rcases Nat.lt_or_ge (s - Ee.length) s1.length with y1 | y1
      · rw [List.getElem?_append_left y1] at hy
        have := (b1 _ y hy).2
        rwa [show Ee.length + (s - Ee.length) = s by omega] at this
      · rw [List.getElem?_append_right y1] at hy
        have := (b2 _ y hy).2
        rwa [show Ee.length + s1.length + (s - Ee.length - s1.length) = s by omega] at this
  · exact SV.of hr a1.1 (fun i p hp => by
      obtain ⟨c, z1, z2⟩ := a1.2 i p hp
      exact ⟨c, z1, fun v hv => (z2 v hv).2⟩)
  · obtain ⟨c, z1, z2⟩ := a2.2 i p hp
    exact (z2 _ (hg i q c hq z1)).2
def poF (K : KX) (ct : CT9) (kd : Nat) (E : List EV) (res Rg : List AV) : Bool := ct.2.2.1.any (fun pt => Nat.beq pt.1 kd && psE K ct.2.1.1 pt E res Rg)
theorem poF_t {K : KX} {Inv : List Nat → List CE → Prop} {R0 : List Nat} {hs0 : List CE} {n0 : Nat} {hs : List CE} {R : List Nat} {σ σe : Nat → Int} {ct : CT9} {kd : Nat} {E : List EV} {res Rg : List AV} {r : Option Value} (hE : EM E σ) (hm : ct.2.1.1.length ≤ E.length) (h0 : ∀ s, s < ct.2.1.1.length → σ s = σe s) (hEe : EM ct.2.1.1 σe) (hr : SV (VM K n0 hs R E.length σ) res r.toList) (hg : ∀ (i : Nat) (q : Nat × Nat × Nat) (a : AV), K.2.2[i]? = some q → Rg[i]? = some a → VM K n0 hs R E.length σ a (rd hs q.2.1 q.2.2)) (hX : HX K Inv R0 hs0 R hs) (hl : hs.length ≤ hs0.length + ct.2.2.2.2.2.1) (h : poF K ct kd E res Rg = true) : PO9 K Inv ct R0 hs0 σe kd r hs := by
  unfold poF at h
  rw [List.any_eq_true] at h
  obtain ⟨pt, h1, h2⟩ := h
  rw [Bool.and_eq_true] at h2
  obtain ⟨σ', z1, z0, z2, z3, z4⟩ := psE_t hE hm h0 hEe hr hg h2.2
  exact ⟨R, σ', pt, h1, Nat.eq_of_beq_eq_true h2.1, hX, hl, z1, z0, z2, z3, z4⟩
section OPS3
variable {K : KX} {Inv : List Nat → List CE → Prop} {R0 : List Nat} {hs0 : List CE} {m0 kcP ksP lnP : Nat} {σ0 : Nat → Int}
variable {g : GG} {bl : Nat} {xs : Nat → Int32} {d : MD} {p : Program} {l : Launch} {e : Env} {Rm : Room} {s : State} {mm : MethodId} {args : Array Value} {below : List Frame} {meth : Method} {c : Code} {Q : State → Prop} {kc0 ks0 pc w q : Nat} {A : ST} {go : GO}
variable {ct : CT9} {Fa : LF} {σe : Nat → Int} {KC KS : Nat}

def x_retI (K : KX) (ct : CT9) (m0 : Nat) (Fa : LF) (A : ST) (q : Nat) : Bool := match A with
  | (E, _, [a], Rg) => Nat.beq a.1 1 && (okq E m0 Fa q && poF K ct 0 E [a] Rg)
  | _ => false
theorem x_retI_t (hEnd : EndN SSX TBL g CLS d p l e Rm s mm args below meth c Q kc0 ks0 ct.2.2.2.1 ct.2.2.2.2.1 KC KS (PO9 K Inv ct R0 hs0 σe)) (hR : ROOMX ct Rm kc0 ks0 KC KS hs0 σ0 σe m0 Fa kcP ksP lnP) (hG : G_retI SSX TBL CLS ftX mdx d pc w) (h : x_retI K ct m0 Fa A q = true) : Good K Inv R0 hs0 m0 d.2.2.1 kcP ksP lnP σ0 (WN g p l e Rm s mm args below meth c Q d kc0 ks0) pc A q := by
  unfold x_retI at h
  split at h
  · rename_i E Ls a Rg
    rw [Bool.and_eq_true] at h
    obtain ⟨w1, h⟩ := h
    rw [Bool.and_eq_true] at h
    obtain ⟨w2, w3⟩ := h
    intro R σ L hs kc ks S hX hV k1 k2 k3
    obtain ⟨y1, y2, y3, y4, y5, y6, y7, y8, y9, y10, y11⟩ := hR
    obtain ⟨v, S', rfl, hv, hV1⟩ := hV.pop
    have hS : S' = [] := hV1.2.2.2.2.2.1
    subst hS
    have hq := okq_t hV1.em hV1.1 w2
    have hm : ct.2.1.1.length ≤ E.length := Nat.le_trans y9 hV1.2.1
    have hP := poF_t (r := some v) (res := [a]) hV1.em hm (fun s hs => (hV1.1 s (Nat.lt_of_lt_of_le hs y9)).trans (y10 s hs)) y11 (show SV _ [a] [v] from ⟨v, [], rfl, hv, rfl⟩) hV1.2.2.2.2.2.2 hX (by omega) w3
    obtain ⟨x, rfl, -⟩ := hv.int (Nat.eq_of_beq_eq_true w1)
    exact g_retI hEnd hG hP (by show kc ≤ KC; omega) (by show ks ≤ KS; omega)
  · cases h

def x_retL (K : KX) (ct : CT9) (m0 : Nat) (Fa : LF) (A : ST) (q : Nat) : Bool := match A with
  | (E, _, [a], Rg) => Nat.beq a.1 2 && (okq E m0 Fa q && poF K ct 0 E [a] Rg)
  | _ => false
theorem x_retL_t (hEnd : EndN SSX TBL g CLS d p l e Rm s mm args below meth c Q kc0 ks0 ct.2.2.2.1 ct.2.2.2.2.1 KC KS (PO9 K Inv ct R0 hs0 σe)) (hR : ROOMX ct Rm kc0 ks0 KC KS hs0 σ0 σe m0 Fa kcP ksP lnP) (hG : G_retL SSX TBL CLS ftX mdx d pc w) (h : x_retL K ct m0 Fa A q = true) : Good K Inv R0 hs0 m0 d.2.2.1 kcP ksP lnP σ0 (WN g p l e Rm s mm args below meth c Q d kc0 ks0) pc A q := by
  unfold x_retL at h
  split at h
  · rename_i E Ls a Rg
    rw [Bool.and_eq_true] at h
    obtain ⟨w1, h⟩ := h
    rw [Bool.and_eq_true] at h
    obtain ⟨w2, w3⟩ := h
    intro R σ L hs kc ks S hX hV k1 k2 k3
    obtain ⟨y1, y2, y3, y4, y5, y6, y7, y8, y9, y10, y11⟩ := hR
    obtain ⟨v, S', rfl, hv, hV1⟩ := hV.pop
    have hS : S' = [] := hV1.2.2.2.2.2.1
    subst hS
    have hq := okq_t hV1.em hV1.1 w2
    have hm : ct.2.1.1.length ≤ E.length := Nat.le_trans y9 hV1.2.1
    have hP := poF_t (r := some v) (res := [a]) hV1.em hm (fun s hs => (hV1.1 s (Nat.lt_of_lt_of_le hs y9)).trans (y10 s hs)) y11 (show SV _ [a] [v] from ⟨v, [], rfl, hv, rfl⟩) hV1.2.2.2.2.2.2 hX (by omega) w3
    obtain ⟨x, rfl, -⟩ := hv.lng (Nat.eq_of_beq_eq_true w1)
    exact g_retL hEnd hG hP (by show kc ≤ KC; omega) (by show ks ≤ KS; omega)
  · cases h

def x_retD (K : KX) (ct : CT9) (m0 : Nat) (Fa : LF) (A : ST) (q : Nat) : Bool := match A with
  | (E, _, [a], Rg) => Nat.beq a.1 9 && (okq E m0 Fa q && poF K ct 0 E [a] Rg)
  | _ => false
theorem x_retD_t (hEnd : EndN SSX TBL g CLS d p l e Rm s mm args below meth c Q kc0 ks0 ct.2.2.2.1 ct.2.2.2.2.1 KC KS (PO9 K Inv ct R0 hs0 σe)) (hR : ROOMX ct Rm kc0 ks0 KC KS hs0 σ0 σe m0 Fa kcP ksP lnP) (hG : G_retD SSX TBL CLS ftX mdx d pc w) (h : x_retD K ct m0 Fa A q = true) : Good K Inv R0 hs0 m0 d.2.2.1 kcP ksP lnP σ0 (WN g p l e Rm s mm args below meth c Q d kc0 ks0) pc A q := by
  unfold x_retD at h
  split at h
  · rename_i E Ls a Rg
    rw [Bool.and_eq_true] at h
    obtain ⟨w1, h⟩ := h
    rw [Bool.and_eq_true] at h
    obtain ⟨w2, w3⟩ := h
    intro R σ L hs kc ks S hX hV k1 k2 k3
    obtain ⟨y1, y2, y3, y4, y5, y6, y7, y8, y9, y10, y11⟩ := hR
    obtain ⟨v, S', rfl, hv, hV1⟩ := hV.pop
    have hS : S' = [] := hV1.2.2.2.2.2.1
    subst hS
    have hq := okq_t hV1.em hV1.1 w2
    have hm : ct.2.1.1.length ≤ E.length := Nat.le_trans y9 hV1.2.1
    have hP := poF_t (r := some v) (res := [a]) hV1.em hm (fun s hs => (hV1.1 s (Nat.lt_of_lt_of_le hs y9)).trans (y10 s hs)) y11 (show SV _ [a] [v] from ⟨v, [], rfl, hv, rfl⟩) hV1.2.2.2.2.2.2 hX (by omega) w3
    obtain ⟨x, rfl, -⟩ := hv.dbl (Nat.eq_of_beq_eq_true w1)
    exact g_retD hEnd hG hP (by show kc ≤ KC; omega) (by show ks ≤ KS; omega)
  · cases h

def x_retZ (K : KX) (ct : CT9) (m0 : Nat) (Fa : LF) (A : ST) (q : Nat) : Bool := match A with
  | (E, _, [a], Rg) => (Nat.beq a.1 1 && (decide (0 ≤ (evg E a.2.1).1 + a.2.2.2) && decide ((evg E a.2.1).2.1 + a.2.2.2 ≤ 1))) && (okq E m0 Fa q && poF K ct 0 E [a] Rg)
  | _ => false
theorem x_retZ_t (hEnd : EndN SSX TBL g CLS d p l e Rm s mm args below meth c Q kc0 ks0 ct.2.2.2.1 ct.2.2.2.2.1 KC KS (PO9 K Inv ct R0 hs0 σe)) (hR : ROOMX ct Rm kc0 ks0 KC KS hs0 σ0 σe m0 Fa kcP ksP lnP) (hG : G_retZ SSX TBL CLS ftX mdx d pc w) (h : x_retZ K ct m0 Fa A q = true) : Good K Inv R0 hs0 m0 d.2.2.1 kcP ksP lnP σ0 (WN g p l e Rm s mm args below meth c Q d kc0 ks0) pc A q := by
  unfold x_retZ at h
  split at h
  · rename_i E Ls a Rg
    rw [Bool.and_eq_true] at h
    obtain ⟨w1, h⟩ := h
    rw [Bool.and_eq_true] at h
    obtain ⟨w2, w3⟩ := h
    intro R σ L hs kc ks S hX hV k1 k2 k3
    obtain ⟨y1, y2, y3, y4, y5, y6, y7, y8, y9, y10, y11⟩ := hR
    obtain ⟨v, S', rfl, hv, hV1⟩ := hV.pop
    have hS : S' = [] := hV1.2.2.2.2.2.1
    subst hS
    have hq := okq_t hV1.em hV1.1 w2
    have hm : ct.2.1.1.length ≤ E.length := Nat.le_trans y9 hV1.2.1
    have hP := poF_t (r := some v) (res := [a]) hV1.em hm (fun s hs => (hV1.1 s (Nat.lt_of_lt_of_le hs y9)).trans (y10 s hs)) y11 (show SV _ [a] [v] from ⟨v, [], rfl, hv, rfl⟩) hV1.2.2.2.2.2.2 hX (by omega) w3
    rw [Bool.and_eq_true, Bool.and_eq_true, decide_eq_true_eq, decide_eq_true_eq] at w1
    obtain ⟨x, rfl, lx, ex⟩ := hv.int (Nat.eq_of_beq_eq_true w1.1)
    obtain ⟨b1, b2, -⟩ := hV1.em _ lx
    have b1 : (evg E a.2.1).1 ≤ σ a.2.1 := b1
    have b2 : σ a.2.1 ≤ (evg E a.2.1).2.1 := b2
    exact g_retZ hEnd hG (i01 (by omega) (by omega)) hP (by show kc ≤ KC; omega) (by show ks ≤ KS; omega)
  · cases h

def x_retA (K : KX) (ct : CT9) (m0 : Nat) (Fa : LF) (A : ST) (q : Nat) : Bool := match A with
  | (E, _, [a], Rg) => (Nat.beq a.1 3 || (Nat.beq a.1 4 || Nat.beq a.1 5)) && (okq E m0 Fa q && poF K ct 0 E [a] Rg)
  | _ => false
theorem x_retA_t (hEnd : EndN SSX TBL g CLS d p l e Rm s mm args below meth c Q kc0 ks0 ct.2.2.2.1 ct.2.2.2.2.1 KC KS (PO9 K Inv ct R0 hs0 σe)) (hR : ROOMX ct Rm kc0 ks0 KC KS hs0 σ0 σe m0 Fa kcP ksP lnP) (hG : G_retA SSX TBL CLS ftX mdx d pc w) (h : x_retA K ct m0 Fa A q = true) : Good K Inv R0 hs0 m0 d.2.2.1 kcP ksP lnP σ0 (WN g p l e Rm s mm args below meth c Q d kc0 ks0) pc A q := by
  unfold x_retA at h
  split at h
  · rename_i E Ls a Rg
    rw [Bool.and_eq_true] at h
    obtain ⟨w1, h⟩ := h
    rw [Bool.and_eq_true] at h
    obtain ⟨w2, w3⟩ := h
    intro R σ L hs kc ks S hX hV k1 k2 k3
    obtain ⟨y1, y2, y3, y4, y5, y6, y7, y8, y9, y10, y11⟩ := hR
    obtain ⟨v, S', rfl, hv, hV1⟩ := hV.pop
    have hS : S' = [] := hV1.2.2.2.2.2.1
    subst hS
    have hq := okq_t hV1.em hV1.1 w2
    have hm : ct.2.1.1.length ≤ E.length := Nat.le_trans y9 hV1.2.1
    have hP := poF_t (r := some v) (res := [a]) hV1.em hm (fun s hs => (hV1.1 s (Nat.lt_of_lt_of_le hs y9)).trans (y10 s hs)) y11 (show SV _ [a] [v] from ⟨v, [], rfl, hv, rfl⟩) hV1.2.2.2.2.2.2 hX (by omega) w3
    have hr : v = .null ∨ ∃ k : Nat, v = .ref k := by
      rw [Bool.or_eq_true, Bool.or_eq_true] at w1
      rcases w1 with u | u | u
      · obtain ⟨k, r, rfl, -⟩ := hv.rf3 (Nat.eq_of_beq_eq_true u)
        exact Or.inr ⟨k, rfl⟩
      · rcases hv.rf4 (Nat.eq_of_beq_eq_true u) with z | ⟨k, r, rfl, -⟩
        · exact Or.inl z
        · exact Or.inr ⟨k, rfl⟩
      · exact Or.inl (hv.nul (Nat.eq_of_beq_eq_true u))
    exact g_retA hEnd hG hr hP (by show kc ≤ KC; omega) (by show ks ≤ KS; omega)
  · cases h

def x_retV (K : KX) (ct : CT9) (m0 : Nat) (Fa : LF) (A : ST) (q : Nat) : Bool := match A with
  | (E, _, [], Rg) => okq E m0 Fa q && poF K ct 0 E [] Rg
  | _ => false
theorem x_retV_t (hEnd : EndN SSX TBL g CLS d p l e Rm s mm args below meth c Q kc0 ks0 ct.2.2.2.1 ct.2.2.2.2.1 KC KS (PO9 K Inv ct R0 hs0 σe)) (hR : ROOMX ct Rm kc0 ks0 KC KS hs0 σ0 σe m0 Fa kcP ksP lnP) (hG : G_retV SSX TBL CLS ftX mdx d pc w) (h : x_retV K ct m0 Fa A q = true) : Good K Inv R0 hs0 m0 d.2.2.1 kcP ksP lnP σ0 (WN g p l e Rm s mm args below meth c Q d kc0 ks0) pc A q := by
  unfold x_retV at h
  split at h
  · rename_i E Ls Rg
    rw [Bool.and_eq_true] at h
    intro R σ L hs kc ks S hX hV k1 k2 k3
    obtain ⟨y1, y2, y3, y4, y5, y6, y7, y8, y9, y10, y11⟩ := hR
    have hS : S = [] := hV.2.2.2.2.2.1
    subst hS
    have hq := okq_t hV.em hV.1 h.1
    have hm : ct.2.1.1.length ≤ E.length := Nat.le_trans y9 hV.2.1
    have hP := poF_t (r := none) (res := []) hV.em hm (fun s hs => (hV.1 s (Nat.lt_of_lt_of_le hs y9)).trans (y10 s hs)) y11 rfl hV.2.2.2.2.2.2 hX (by omega) h.2
    exact g_retV hEnd hG hP (by show kc ≤ KC; omega) (by show ks ≤ KS; omega)
  · cases h
def x_throw (K : KX) (ct : CT9) (m0 : Nat) (Fa : LF) (w : Nat) (A : ST) (q : Nat) : Bool := match A with
  | (E, _, [], Rg) => okq E m0 Fa (q + 1) && (Nat.ble 8 ct.2.2.2.1 && (Nat.ble 120 ct.2.2.2.2.1 && poF K ct (1 + fa w) E [] Rg))
  | _ => false
theorem x_throw_t (hEnd : EndN SSX TBL g CLS d p l e Rm s mm args below meth c Q kc0 ks0 ct.2.2.2.1 ct.2.2.2.2.1 KC KS (PO9 K Inv ct R0 hs0 σe)) (hR : ROOMX ct Rm kc0 ks0 KC KS hs0 σ0 σe m0 Fa kcP ksP lnP) (hG : G_throw SSX TBL CLS ftX mdx d pc w) (h : x_throw K ct m0 Fa w A q = true) : Good K Inv R0 hs0 m0 d.2.2.1 kcP ksP lnP σ0 (WN g p l e Rm s mm args below meth c Q d kc0 ks0) pc A q := by
  unfold x_throw at h
  split at h
  · rename_i E Ls Rg
    rw [Bool.and_eq_true, Bool.and_eq_true, Bool.and_eq_true] at h
    obtain ⟨w1, w2, w3, w4⟩ := h
    intro R σ L hs kc ks S hX hV k1 k2 k3
    obtain ⟨y1, y2, y3, y4, y5, y6, y7, y8, y9, y10, y11⟩ := hR
    have hS : S = [] := hV.2.2.2.2.2.1
    subst hS
    have hq := okq_t hV.em hV.1 w1
    have hm : ct.2.1.1.length ≤ E.length := Nat.le_trans y9 hV.2.1
    have hP := poF_t (r := none) (res := []) hV.em hm (fun s hs => (hV.1 s (Nat.lt_of_lt_of_le hs y9)).trans (y10 s hs)) y11 rfl hV.2.2.2.2.2.2 hX (by omega) w4
    exact g_throw hEnd hG rfl hP (by show kc + 1 ≤ KC; omega) (by show ks + 6 ≤ KS; omega) (Nat.le_of_ble_eq_true w2) (Nat.le_of_ble_eq_true w3)
  · cases h

def catS : List AV → Nat
  | [] => 0
  | a :: t => catA a + catS t
theorem cat_le (v : Value) : 1 ≤ v.category ∧ v.category ≤ 2 := by cases v <;> refine ⟨?_, ?_⟩ <;> first | exact Nat.le_refl _ | exact Nat.le_succ _
theorem catS_t {K : KX} {n0 n : Nat} {hs : List CE} {R : List Nat} {σ : Nat → Int} : ∀ {as : List AV} {S : List Value}, SV (VM K n0 hs R n σ) as S → (S.map fun v => v.category).sum ≤ catS as
  | [], _, h => by have h := show _ = [] from h; subst h; exact Nat.le_refl _
  | a :: _, _, h => by
    obtain ⟨v, S', rfl, h1, h2⟩ := h
    rw [List.map_cons, List.sum_cons]
    have ih := catS_t h2
    have hc : v.category ≤ catA a := by
      by_cases h0 : a.1 = 0
      · obtain ⟨t, a⟩ := a
        have h0 : t = 0 := h0
        subst h0
        have := (cat_le v).2
        show v.category ≤ 9
        omega
      · rw [h1.cat h0]
        exact Nat.le_refl _
    show _ ≤ catA a + _
    omega
theorem argS_le : ∀ as : List Value, (argS as).length ≤ (as.map fun v => v.category).sum
  | [] => Nat.le_refl _
  | v :: t => by
    have ih := argS_le t
    rw [List.map_cons, List.sum_cons]
    show (if v.category = 2 then some v :: none :: argS t else some v :: argS t).length ≤ _
    split
    · rename_i h; rw [h]; show (argS t).length + 1 + 1 ≤ _; omega
    · have := (cat_le v).1; show (argS t).length + 1 ≤ _; omega
def x_mmax (m0 : Nat) (Fa : LF) (lam f : Nat) (w : Nat) (A : ST) (q : Nat) (go : GO) : Bool := pop2 A (fun s1 δ1 s2 δ2 B => okq B.1 m0 Fa q && (Nat.ble 1 f && (Nat.ble 21 lam && (Nat.ble (catS B.2.2.1) 8 && go (nxt w) (pushI B (mxI ((evg B.1 s1).1 + δ1) ((evg B.1 s2).1 + δ2)) (mxI ((evg B.1 s1).2.1 + δ1) ((evg B.1 s2).2.1 + δ2))) q))))
theorem x_mmax_t (act : Act SSX TBL g CLS bl xs d p l s mm args meth c) (hG : G_mmax SSX TBL CLS ftX mdx d pc w) (hgo : ∀ pc A q, go pc A q = true → Good K Inv R0 hs0 m0 d.2.2.1 kcP ksP lnP σ0 (WN g p l e Rm s mm args below meth c Q d kc0 ks0) pc A q) (hR : ROOMX ct Rm kc0 ks0 KC KS hs0 σ0 σe m0 Fa kcP ksP lnP) (h : x_mmax m0 Fa ct.2.2.2.2.1 ct.2.2.2.1 w A q go = true) : Good K Inv R0 hs0 m0 d.2.2.1 kcP ksP lnP σ0 (WN g p l e Rm s mm args below meth c Q d kc0 ks0) pc A q := by
  intro R σ L hs kc ks S hX hV k1 k2 k3
  obtain ⟨s1, δ1, s2, δ2, B, x, y, S', h, rfl, hV1, l1, l2, ex, ey⟩ := pop2_t h hV
  rw [Bool.and_eq_true, Bool.and_eq_true, Bool.and_eq_true, Bool.and_eq_true] at h
  obtain ⟨w0, w1, w2, w3, h⟩ := h
  obtain ⟨a1, a2, -⟩ := hV1.em _ l1
  obtain ⟨b1, b2, -⟩ := hV1.em _ l2
  obtain ⟨y1, y2, y3, y4, y5, y6, y7, y8, y9, y10, y11⟩ := hR
  have hq := okq_t hV1.em hV1.1 w0
  have c1 := @mx_le ((evg B.1 s1).1 + δ1) ((evg B.1 s2).1 + δ2)
  have c2 := @mx_le ((evg B.1 s1).2.1 + δ1) ((evg B.1 s2).2.1 + δ2)
  have w1 := Nat.le_of_ble_eq_true w1
  have w2 := Nat.le_of_ble_eq_true w2
  refine n_mmax act hG (by omega) (by omega) (Nat.le_trans (catS_t hV1.2.2.2.2.2.1) (Nat.le_of_ble_eq_true w3)) (by show kc ≤ _; omega) (by show ks ≤ _; omega) rfl ?_
  obtain ⟨ix, hd, hn9, -⟩ := hG
  rw [← hn9]
  by_cases hxy : x < y
  · rw [if_pos hxy]
    rw [i_lt] at hxy
    exact hgo _ _ _ h R _ L hs kc ks _ hX (hV1.pushI (mxI_t (by omega) (by omega)) (Int.le_trans (by omega) c2.2)) k1 k2 k3
  · rw [if_neg hxy]
    rw [i_lt] at hxy
    exact hgo _ _ _ h R _ L hs kc ks _ hX (hV1.pushI (mxI_t (by omega) (by omega)) (Int.le_trans (by omega) c2.1)) k1 k2 k3

end OPS3

/-! The checker: a method's points are run; the contract follows. -/
noncomputable def exq (K : KX) (GM : List CT9) (GI : List IT9) (ct : CT9) (hh : Bool) (pr : Nat) (pts : List PT9) (Fm Fa : LF) (m0 : Nat) : Nat → GO
  | 0 => fun _ _ _ => false
  | n + 1 => fun pc A q => bif Nat.beq (ftc pr pc) 0 then false else stp K GM GI ct hh m0 Fa (ftc pr pc) (ftc pr pc % 256) A q (fun pc' A' q' => bif pts.any (fun Q => Nat.beq Q.1 pc') then Nat.ble A'.2.2.2.length K.2.2.length && pts.any (fun Q => Nat.beq Q.1 pc' && arr K ct.2.1.1.length m0 Fm Fa Q A' q') else exq K GM GI ct hh pr pts Fm Fa m0 n pc' A' q')
def posF (E : List EV) (F : LF) : Bool := chkF E (-F.1) (negT F.2)
theorem posF_t {E : List EV} {σ : Nat → Int} {F : LF} (hE : EM E σ) (h : posF E F = true) : 0 ≤ lfv σ F := by
  have := chkF_t hE h
  rw [lft_neg] at this
  unfold lfv
  omega
def argA : List AV → List AV
  | [] => []
  | a :: t => bif Nat.beq (catA a) 2 then a :: (0, 0, 0, 0) :: argA t else a :: argA t
def argB (as : List AV) (nL : Nat) : List AV := argA as ++ List.replicate (nL - (argA as).length) (0, 0, 0, 0)
theorem argA_t {K : KX} {n0 n : Nat} {hs : List CE} {R : List Nat} {σ : Nat → Int} : ∀ {as : List AV} {vs : List Value}, (as.all (fun a => !Nat.beq a.1 0)) = true → SV (VM K n0 hs R n σ) as vs → ∀ (i : Nat) (a : AV), (argA as)[i]? = some a → a.1 ≠ 0 → ∃ v : Value, (argS vs)[i]? = some (some v) ∧ VM K n0 hs R n σ a v ∧ a ∈ as
  | [], _, _, _, _, _, h, _ => by cases h
  | b :: t, _, hz, h, i, a, hi, ha => by
    obtain ⟨v, S', rfl, h1, h2⟩ := h
    rw [List.all_cons, Bool.and_eq_true] at hz
    have hb0 : b.1 ≠ 0 := fun z => by rw [z] at hz; exact absurd hz.1 (by decide)
    have hc := h1.cat hb0
    have hi : (bif Nat.beq (catA b) 2 then b :: (0, 0, 0, 0) :: argA t else b :: argA t)[i]? = some a := hi
    show ∃ u : Value, (if v.category = 2 then some v :: none :: argS S' else some v :: argS S')[i]? = some (some u) ∧ _
    cases h3 : Nat.beq (catA b) 2 with
    | true =>
      rw [h3, cond_true] at hi
      rw [if_pos (hc.trans (Nat.eq_of_beq_eq_true h3))]
      match i, hi with
      | 0, hi => cases hi; exact ⟨v, rfl, h1, List.mem_cons_self⟩
      | 1, hi => cases hi; exact absurd rfl ha
      | i + 2, hi =>
        obtain ⟨u, y1, y2, y3⟩ := argA_t hz.2 h2 i a hi ha
        exact ⟨u, y1, y2, List.mem_cons_of_mem _ y3⟩
    | false =>
      rw [h3, cond_false] at hi
      rw [if_neg (fun z => by rw [← hc, z] at h3; cases h3)]
      match i, hi with
      | 0, hi => cases hi; exact ⟨v, rfl, h1, List.mem_cons_self⟩
      | i + 1, hi =>
        obtain ⟨u, y1, y2, y3⟩ := argA_t hz.2 h2 i a hi ha
        exact ⟨u, y1, y2, List.mem_cons_of_mem _ y3⟩
theorem argB_t {as : List AV} {nL i : Nat} {a : AV} (h : (argB as nL)[i]? = some a) (ha : a.1 ≠ 0) : (argA as)[i]? = some a := by
  unfold argB at h
  rcases Nat.lt_or_ge i (argA as).length with q | q
  · rwa [List.getElem?_append_left q] at h
  · rw [List.getElem?_append_right q, List.getElem?_replicate] at h
    split at h
    · cases h; exact absurd rfl ha
    · cases h
section OPS6
variable {K : KX} {Inv : List Nat → List CE → Prop} {R0 : List Nat} {hs0 : List CE} {m0 kcP ksP lnP : Nat} {σ0 : Nat → Int}
variable {g : GG} {bl : Nat} {xs : Nat → Int32} {d : MD} {p : Program} {l : Launch} {e : Env} {Rm : Room} {s : State} {mm : MethodId} {args : Array Value} {below : List Frame} {meth : Method} {c : Code} {Q : State → Prop} {kc0 ks0 pc w q : Nat} {A : ST} {go : GO}
variable {ct : CT9} {Fa : LF} {σe : Nat → Int} {KC KS : Nat}

theorem exq_t {GM : List CT9} {GI : List IT9} {hh : Bool} {pr : Nat} {pts : List PT9} {Fm : LF} (act : Act SSX TBL g CLS bl xs d p l s mm args meth c) (hEnd : EndN SSX TBL g CLS d p l e Rm s mm args below meth c Q kc0 ks0 ct.2.2.2.1 ct.2.2.2.2.1 KC KS (PO9 K Inv ct R0 hs0 σe)) (hR : ROOMX ct Rm kc0 ks0 KC KS hs0 σ0 σe m0 Fa kcP ksP lnP) (hI : StI K Inv) (hTY : TYg g) (hGM : ∀ c ∈ GM, SemC K Inv c ∧ psOK c = true) (hGI : ∀ c ∈ GI, SemI K Inv c) (hhh : hh = true → d.2.2.2.2 = []) (hG : GPd SSX TBL CLS ftX mdx d pr)
    (hP : ∀ P ∈ pts, ∀ (R : List Nat) (σ : Nat → Int) (L : LN) (hs : List CE) (kc ks : Nat) (S : List Value), HX K Inv R0 hs0 R hs → VX K R0.length P.2.1.1.length d.2.2.1 σ hs R σ P.2.1 L S → (∀ s, s < ct.2.1.1.length → σ s = σe s) → 1 + lfv σ P.2.2.1 ≤ lfv σ0 Fm → (kc : Int) + lfv σ P.2.2.2 ≤ (KC : Int) → (ks : Int) + 11 * lfv σ P.2.2.2 ≤ (KS : Int) → (hs.length : Int) + lfv σ P.2.2.2 ≤ (hs0.length : Int) + (ct.2.2.2.2.2.1 : Int) → WpN g CLS p l e Rm s mm args below meth c Q d.2.2.1 kc0 ks0 P.1 L (hs, kc, ks) S) :
    ∀ (n pc : Nat) (A : ST) (q : Nat), exq K GM GI ct hh pr pts Fm Fa m0 n pc A q = true → Good K Inv R0 hs0 m0 d.2.2.1 kcP ksP lnP σ0 (WN g p l e Rm s mm args below meth c Q d kc0 ks0) pc A q
  | 0, _, _, _, h => by cases h
  | n + 1, pc, A, q, h => by
    unfold exq at h
    cases h0 : Nat.beq (ftc pr pc) 0 with
    | true => rw [h0, cond_true] at h; cases h
    | false =>
      rw [h0, cond_false] at h
      have hne : ftc pr pc ≠ 0 := fun z => by rw [z] at h0; cases h0
      refine stp_t act hEnd hR hI hTY (fun pc' A' q' h' => ?_) hGM hGI hhh (hG pc hne) rfl h
      cases h1 : pts.any (fun Q => Nat.beq Q.1 pc') with
      | false =>
        rw [h1, cond_false] at h'
        exact exq_t act hEnd hR hI hTY hGM hGI hhh hG hP n pc' A' q' h'
      | true =>
        rw [h1, cond_true, Bool.and_eq_true, List.any_eq_true] at h'
        obtain ⟨hK, P, hPm, h2⟩ := h'
        rw [Bool.and_eq_true] at h2
        have ep := Nat.eq_of_beq_eq_true h2.1
        intro R σ L hs kc ks S hX hV k1 k2 k3
        obtain ⟨y1, y2, y3, y4, y5, y6, y7, y8, y9, y10, y11⟩ := id hR
        obtain ⟨σ', z1, z2, z3, z4⟩ := arr_t (Nat.le_of_ble_eq_true hK) y9 h2.2 hV
        rw [← ep]
        exact hP P hPm R σ' L hs kc ks S hX z2 (fun s hs9 => (z1 s hs9).trans (y10 s hs9)) z3 (by omega) (by omega) (by omega)

end OPS6
noncomputable def chkM (K : KX) (GM : List CT9) (GI : List IT9) (ct : CT9) (hh : Bool) (pr : Nat) (F0 : LF × LF) (pts : List PT9) (fuel : Nat) : Bool :=
  chkF ct.2.1.1 (F0.2.1 - Int.ofNat ct.2.2.2.2.2.1) F0.2.2 && (Nat.ble (catS ct.2.1.2.1) ct.2.2.2.2.2.2 && (ct.2.1.2.1.all (fun a => !Nat.beq a.1 0) && (noRaw ct.2.1.2.1 && (noRaw ct.2.1.2.2 &&
  ((0, (ct.2.1.1, argB ct.2.1.2.1 ct.2.2.2.2.2.2, [], ct.2.1.2.2), F0.1, F0.2) :: pts).all (fun P => Nat.ble ct.2.1.1.length P.2.1.1.length && (posF P.2.1.1 P.2.2.1 && (posF P.2.1.1 P.2.2.2 && exq K GM GI ct hh pr ((0, (ct.2.1.1, argB ct.2.1.2.1 ct.2.2.2.2.2.2, [], ct.2.1.2.2), F0.1, F0.2) :: pts) P.2.2.1 P.2.2.2 P.2.1.1.length fuel P.1 P.2.1 0)))))))
theorem chk_sound {K : KX} {Inv : List Nat → List CE → Prop} {GM : List CT9} {GI : List IT9} {ct : CT9} {hh : Bool} {pr : Nat} {F0 : LF × LF} {pts : List PT9} {fuel : Nat} {d : MD} (hI : StI K Inv) (hd : mdx ct.1 = some d) (hnL : d.2.2.1 = ct.2.2.2.2.2.2) (hG : GPd SSX TBL CLS ftX mdx d pr) (hhh : hh = true → d.2.2.2.2 = []) (hGM : ∀ c ∈ GM, SemC K Inv c ∧ psOK c = true) (hGI : ∀ c ∈ GI, SemI K Inv c) (h : chkM K GM GI ct hh pr F0 pts fuel = true) : SemC K Inv ct := by
  unfold chkM at h
  generalize hpp : ((0, (ct.2.1.1, argB ct.2.1.2.1 ct.2.2.2.2.2.2, [], ct.2.1.2.2), F0.1, F0.2) : PT9) :: pts = PP at h
  rw [Bool.and_eq_true, Bool.and_eq_true, Bool.and_eq_true, Bool.and_eq_true, Bool.and_eq_true] at h
  obtain ⟨h1, h2, h3, n1, n2, h4⟩ := h
  have h4 := List.all_eq_true.mp h4
  refine ⟨d, hd, hnL, fun g0 bl xs l hs R σ as hTY hT hInv hlen hE hA hRg => ?_⟩
  intro wp p e Rm s m args below meth c Q kc0 ks0 kc ks act hf hl hc hs9 hEnd
  have main : ∀ (N : Nat), ∀ P ∈ PP, ∀ (R' : List Nat) (σ' : Nat → Int) (L : LN) (hs2 : List CE) (kc2 ks2 : Nat) (S : List Value), HX K Inv R hs R' hs2 → VX K R.length P.2.1.1.length d.2.2.1 σ' hs2 R' σ' P.2.1 L S → (∀ s, s < ct.2.1.1.length → σ' s = σ s) → lfv σ' P.2.2.1 < (N : Int) → (kc2 : Int) + lfv σ' P.2.2.2 ≤ ((kc + ct.2.2.2.2.2.1 : Nat) : Int) → (ks2 : Int) + 11 * lfv σ' P.2.2.2 ≤ ((ks + 11 * ct.2.2.2.2.2.1 : Nat) : Int) → (hs2.length : Int) + lfv σ' P.2.2.2 ≤ (hs.length : Int) + (ct.2.2.2.2.2.1 : Int) → WpN (gp g0 wp) CLS p l e Rm s m args below meth c Q d.2.2.1 kc0 ks0 P.1 L (hs2, kc2, ks2) S := by
    intro N
    induction N with
    | zero =>
      intro P hP R' σ' L hs2 kc2 ks2 S hX hV _ hlt
      have := h4 P hP
      rw [Bool.and_eq_true, Bool.and_eq_true, Bool.and_eq_true] at this
      have := posF_t hV.2.2.1 this.2.1
      omega
    | succ N ih =>
      intro P hP R' σ' L hs2 kc2 ks2 S hX hV hσ hlt hk1 hk2 hk3
      have h5 := h4 P hP
      rw [Bool.and_eq_true, Bool.and_eq_true, Bool.and_eq_true] at h5
      obtain ⟨w1, w2, w3, w4⟩ := h5
      have hR9 : ROOMX ct Rm kc0 ks0 (kc + ct.2.2.2.2.2.1) (ks + 11 * ct.2.2.2.2.2.1) hs σ' σ P.2.1.1.length P.2.2.2 kc2 ks2 hs2.length := ⟨hf, hl, hc, hs9, hk1, hk2, hk3, hlen, Nat.le_of_ble_eq_true w1, hσ, hE⟩
      exact exq_t act hEnd hR9 hI (show TYg (gp g0 wp) from hTY) hGM hGI hhh hG (fun P' hP' R3 σ3 L3 hs3 kc3 ks3 S3 hX3 hV3 hσ3 hm3 a1 a2 a3 => ih P' hP' R3 σ3 L3 hs3 kc3 ks3 S3 hX3 hV3 hσ3 (by omega) a1 a2 a3) fuel P.1 P.2.1 0 w4 R' σ' L hs2 kc2 ks2 S hX hV (by omega) (by omega) (by omega)
  have hlA : (argS as).length ≤ d.2.2.1 := by
    rw [hnL]
    exact Nat.le_trans (argS_le _) (Nat.le_trans (catS_t hA) (Nat.le_of_ble_eq_true h2))
  have hmem : ((0, (ct.2.1.1, argB ct.2.1.2.1 ct.2.2.2.2.2.2, [], ct.2.1.2.2), F0.1, F0.2) : PT9) ∈ PP := by rw [← hpp]; exact List.mem_cons_self
  have hal := chkF_t hE h1
  have e0 : Int.ofNat ct.2.2.2.2.2.1 = (ct.2.2.2.2.2.1 : Int) := rfl
  have hF : lfv σ F0.2 ≤ (ct.2.2.2.2.2.1 : Int) := by unfold lfv; omega
  refine main ((lfv σ F0.1).toNat + 1) _ hmem R σ (argL as d.2.2.1) hs kc ks [] ⟨hT, fun _ _ h => h, fun _ _ _ _ => rfl, hInv⟩ ⟨fun _ _ => rfl, Nat.le_refl _, hE, ?_, fun i a hi ha => ?_, rfl, fun i q a hq ha => ?_⟩ (fun _ _ => rfl) (by show lfv σ F0.1 < _; omega) (by show (kc : Int) + lfv σ F0.2 ≤ _; omega) (by show (ks : Int) + 11 * lfv σ F0.2 ≤ _; omega) (by show (hs.length : Int) + lfv σ F0.2 ≤ _; omega)
  · unfold argL
    rw [List.length_append, List.length_replicate]
    omega
  · obtain ⟨v, z1, z2, z3⟩ := argA_t h3 hA i a (argB_t hi ha) ha
    refine ⟨v, ?_, z2.mono2 ?_ (Nat.le_refl _) (fun _ _ => rfl) (fun _ _ h _ => h)⟩
    · unfold argL
      rw [List.getElem?_append_left (List.getElem?_eq_some_iff.mp z1).1]
      exact z1
    · obtain ⟨j, hj⟩ := List.getElem?_of_mem z3
      exact noRaw_t n1 hj
  · exact (hRg i q a hq ha).mono2 (noRaw_t n2 ha) (Nat.le_refl _) (fun _ _ => rfl) (fun _ _ h _ => h)


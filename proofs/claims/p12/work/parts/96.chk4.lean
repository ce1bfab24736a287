/-! The checker's operations: constants, locals, numbers. -/
abbrev WN (g : GG) (p : Program) (l : Launch) (e : Env) (Rm : Room) (s : State) (mm : MethodId) (args : Array Value) (below : List Frame) (meth : Method) (c : Code) (Q : State → Prop) (d : MD) (kc0 ks0 : Nat) : Nat → LN → HN → List Value → Prop := fun pc L h S => WpN g CLS p l e Rm s mm args below meth c Q d.2.2.1 kc0 ks0 pc L h S
def Good (K : KX) (Inv : List Nat → List CE → Prop) (R0 : List Nat) (hs0 : List CE) (m0 nL kcP ksP lnP : Nat) (σ0 : Nat → Int) (W : Nat → LN → HN → List Value → Prop) (pc : Nat) (A : ST) (q : Nat) : Prop :=
  ∀ (R : List Nat) (σ : Nat → Int) (L : LN) (hs : List CE) (kc ks : Nat) (S : List Value), HX K Inv R0 hs0 R hs → VX K R0.length m0 nL σ0 hs R σ A L S → kc ≤ kcP + q → ks ≤ ksP + 11 * q → hs.length ≤ lnP + q → W pc L (hs, kc, ks) S
abbrev GO : Type := Nat → ST → Nat → Bool
def pushA (A : ST) (a : AV) : ST := (A.1, A.2.1, a :: A.2.2.1, A.2.2.2)
def pushI (A : ST) (lo hi : Int) : ST := (A.1 ++ [(lo, hi, false)], A.2.1, (1, A.1.length, 0, 0) :: A.2.2.1, A.2.2.2)
def pushL (A : ST) (lo hi : Int) (nz : Bool) : ST := (A.1 ++ [(lo, hi, nz)], A.2.1, (2, A.1.length, 0, 0) :: A.2.2.1, A.2.2.2)
def setE (A : ST) (E : List EV) : ST := (E, A.2.1, A.2.2.1, A.2.2.2)
def setL (A : ST) (Ls : List AV) : ST := (A.1, Ls, A.2.2.1, A.2.2.2)
def pop1 (A : ST) (k : Nat → Int → ST → Bool) : Bool := match A with
  | (E, Ls, (1, s, _, δ) :: St, Rg) => k s δ (E, Ls, St, Rg)
  | _ => false
def popL (A : ST) (k : Nat → ST → Bool) : Bool := match A with
  | (E, Ls, (2, s, _, _) :: St, Rg) => k s (E, Ls, St, Rg)
  | _ => false
def pop2 (A : ST) (k : Nat → Int → Nat → Int → ST → Bool) : Bool := match A with
  | (E, Ls, (1, s2, _, δ2) :: (1, s1, _, δ1) :: St, Rg) => k s1 δ1 s2 δ2 (E, Ls, St, Rg)
  | _ => false
def pop2L (A : ST) (k : Nat → Nat → ST → Bool) : Bool := match A with
  | (E, Ls, (2, s2, _, _) :: (2, s1, _, _) :: St, Rg) => k s1 s2 (E, Ls, St, Rg)
  | _ => false
section POPS
variable {K : KX} {n0 m0 nL : Nat} {σ0 σ : Nat → Int} {hs : List CE} {R : List Nat} {A : ST} {L : LN} {S : List Value}
theorem pop1_t {k : Nat → Int → ST → Bool} (h : pop1 A k = true) (hV : VX K n0 m0 nL σ0 hs R σ A L S) : ∃ (s : Nat) (δ : Int) (B : ST) (x : Int32) (S' : List Value), k s δ B = true ∧ S = .int x :: S' ∧ VX K n0 m0 nL σ0 hs R σ B L S' ∧ s < B.1.length ∧ x.toInt = σ s + δ := by
  unfold pop1 at h
  split at h
  · obtain ⟨v, S', rfl, m1, hV1⟩ := hV.pop
    obtain ⟨x, rfl, lx, ex⟩ := m1.int rfl
    exact ⟨_, _, _, x, S', h, rfl, hV1, lx, ex⟩
  · cases h
theorem popL_t {k : Nat → ST → Bool} (h : popL A k = true) (hV : VX K n0 m0 nL σ0 hs R σ A L S) : ∃ (s : Nat) (B : ST) (x : Int64) (S' : List Value), k s B = true ∧ S = .long x :: S' ∧ VX K n0 m0 nL σ0 hs R σ B L S' ∧ s < B.1.length ∧ x.toInt = σ s := by
  unfold popL at h
  split at h
  · obtain ⟨v, S', rfl, m1, hV1⟩ := hV.pop
    obtain ⟨x, rfl, lx, ex⟩ := m1.lng rfl
    exact ⟨_, _, x, S', h, rfl, hV1, lx, ex⟩
  · cases h
theorem pop2_t {k : Nat → Int → Nat → Int → ST → Bool} (h : pop2 A k = true) (hV : VX K n0 m0 nL σ0 hs R σ A L S) : ∃ (s1 : Nat) (δ1 : Int) (s2 : Nat) (δ2 : Int) (B : ST) (x y : Int32) (S' : List Value), k s1 δ1 s2 δ2 B = true ∧ S = .int y :: .int x :: S' ∧ VX K n0 m0 nL σ0 hs R σ B L S' ∧ s1 < B.1.length ∧ s2 < B.1.length ∧ x.toInt = σ s1 + δ1 ∧ y.toInt = σ s2 + δ2 := by
  unfold pop2 at h
  split at h
  · obtain ⟨v, S1, rfl, m1, hV1⟩ := hV.pop
    obtain ⟨y, rfl, ly, ey⟩ := m1.int rfl
    obtain ⟨v, S2, rfl, m2, hV2⟩ := hV1.pop
    obtain ⟨x, rfl, lx, ex⟩ := m2.int rfl
    exact ⟨_, _, _, _, _, x, y, S2, h, rfl, hV2, lx, ly, ex, ey⟩
  · cases h
theorem pop2L_t {k : Nat → Nat → ST → Bool} (h : pop2L A k = true) (hV : VX K n0 m0 nL σ0 hs R σ A L S) : ∃ (s1 s2 : Nat) (B : ST) (x y : Int64) (S' : List Value), k s1 s2 B = true ∧ S = .long y :: .long x :: S' ∧ VX K n0 m0 nL σ0 hs R σ B L S' ∧ s1 < B.1.length ∧ s2 < B.1.length ∧ x.toInt = σ s1 ∧ y.toInt = σ s2 := by
  unfold pop2L at h
  split at h
  · obtain ⟨v, S1, rfl, m1, hV1⟩ := hV.pop
    obtain ⟨y, rfl, ly, ey⟩ := m1.lng rfl
    obtain ⟨v, S2, rfl, m2, hV2⟩ := hV1.pop
    obtain ⟨x, rfl, lx, ex⟩ := m2.lng rfl
    exact ⟨_, _, _, x, y, S2, h, rfl, hV2, lx, ly, ex, ey⟩
  · cases h
theorem VX.pushA (hV : VX K n0 m0 nL σ0 hs R σ A L S) {a : AV} {v : Value} (hv : VM K n0 hs R A.1.length σ a v) : VX K n0 m0 nL σ0 hs R σ (pushA A a) L (v :: S) := VX.push hV hv
theorem VX.pushI (hV : VX K n0 m0 nL σ0 hs R σ A L S) {lo hi : Int} {x : Int32} (h1 : lo ≤ x.toInt) (h2 : x.toInt ≤ hi) : VX K n0 m0 nL σ0 hs R (upS σ A.1.length x.toInt) (pushI A lo hi) L (.int x :: S) := by
  have := hV.ext (e := (lo, hi, false)) (x := x.toInt) h1 h2 (fun q => by cases q)
  exact this.push (VM.mkI (by rw [List.length_append]; exact Nat.lt_succ_self _) (by rw [upS_same]; omega))
theorem VX.pushL (hV : VX K n0 m0 nL σ0 hs R σ A L S) {lo hi : Int} {nz : Bool} {x : Int64} (h1 : lo ≤ x.toInt) (h2 : x.toInt ≤ hi) (h3 : nz = true → x.toInt ≠ 0) : VX K n0 m0 nL σ0 hs R (upS σ A.1.length x.toInt) (pushL A lo hi nz) L (.long x :: S) := by
  have := hV.ext (e := (lo, hi, nz)) (x := x.toInt) h1 h2 h3
  exact this.push (VM.mkL (by rw [List.length_append]; exact Nat.lt_succ_self _) (by rw [upS_same]))
end POPS

section OPS1
variable {K : KX} {Inv : List Nat → List CE → Prop} {R0 : List Nat} {hs0 : List CE} {m0 kcP ksP lnP : Nat} {σ0 : Nat → Int}
variable {g : GG} {bl : Nat} {xs : Nat → Int32} {d : MD} {p : Program} {l : Launch} {e : Env} {Rm : Room} {s : State} {mm : MethodId} {args : Array Value} {below : List Frame} {meth : Method} {c : Code} {Q : State → Prop} {kc0 ks0 pc w q : Nat} {A : ST} {go : GO}

def eI (e : Nat) : Int := Int.ofNat e - 2147483648
def eL (e : Nat) : Int := Int.ofNat e - 9223372036854775808
def cI9 (b : Nat) : Nat := Nat.div (Nat.div b 8) 4294967297
def cL9 (b : Nat) : Nat := Nat.div b 8
def constI (w e : Nat) (A : ST) (q : Nat) (go : GO) : Bool := Nat.blt e 4294967296 && (Nat.beq (fb w) (mkI e) && go (nxt w) (pushI A (eI e) (eI e)) q)
def constL (w e : Nat) (A : ST) (q : Nat) (go : GO) : Bool := Nat.blt e 18446744073709551616 && (Nat.beq (fb w) (mkL e) && go (nxt w) (pushL A (eL e) (eL e) (decide (eL e ≠ 0))) q)
def x_const (w : Nat) (A : ST) (q : Nat) (go : GO) : Bool :=
  bif Nat.beq (fb w) 4 then go (nxt w) (pushA A (5, 0, 0, 0)) q
  else bif Nat.beq (fb w) 7 then go (nxt w) (pushA A (7, 1, 0, 0)) q
  else bif Nat.beq (Nat.mod (fb w) 8) 1 then constI w (cI9 (fb w)) A q go else constL w (cL9 (fb w)) A q go
theorem iOf_int {e : Nat} (h : e < 4294967296) : (iOf e).toInt = eI e := by
  have := iEx_int (iOf e)
  rw [iEx_iOf h] at this
  show _ = (e : Int) - 2147483648
  omega
theorem lOf_int {e : Nat} (h : e < 18446744073709551616) : (lOf e).toInt = eL e := by
  have := lEx_int (lOf e)
  rw [lEx_lOf h] at this
  show _ = (e : Int) - 9223372036854775808
  omega

theorem constI_t (act : Act SSX TBL g CLS bl xs d p l s mm args meth c) (hG : G_const SSX TBL CLS ftX mdx d pc w) (hgo : ∀ pc A q, go pc A q = true → Good K Inv R0 hs0 m0 d.2.2.1 kcP ksP lnP σ0 (WN g p l e Rm s mm args below meth c Q d kc0 ks0) pc A q) {e9 : Nat} (h : constI w e9 A q go = true) : Good K Inv R0 hs0 m0 d.2.2.1 kcP ksP lnP σ0 (WN g p l e Rm s mm args below meth c Q d kc0 ks0) pc A q := by
  intro R σ L hs kc ks S hX hV k1 k2 k3
  unfold constI at h
  rw [Bool.and_eq_true, Bool.and_eq_true] at h
  obtain ⟨w1, w2, w3⟩ := h
  have w1 : e9 < 4294967296 := Nat.le_of_ble_eq_true w1
  have w2 := Nat.eq_of_beq_eq_true w2
  have ei := iOf_int w1
  refine g_constI act hG (x := iOf e9) (by rw [iEx_iOf w1]; exact w2) rfl (hgo _ _ _ w3 R _ L hs kc ks _ hX (hV.pushI (Int.le_of_eq ei.symm) (Int.le_of_eq ei)) k1 k2 k3)

theorem constL_t (act : Act SSX TBL g CLS bl xs d p l s mm args meth c) (hG : G_const SSX TBL CLS ftX mdx d pc w) (hgo : ∀ pc A q, go pc A q = true → Good K Inv R0 hs0 m0 d.2.2.1 kcP ksP lnP σ0 (WN g p l e Rm s mm args below meth c Q d kc0 ks0) pc A q) {e9 : Nat} (h : constL w e9 A q go = true) : Good K Inv R0 hs0 m0 d.2.2.1 kcP ksP lnP σ0 (WN g p l e Rm s mm args below meth c Q d kc0 ks0) pc A q := by
  intro R σ L hs kc ks S hX hV k1 k2 k3
  unfold constL at h
  rw [Bool.and_eq_true, Bool.and_eq_true] at h
  obtain ⟨w1, w2, w3⟩ := h
  have w1 : e9 < 18446744073709551616 := Nat.le_of_ble_eq_true w1
  have w2 := Nat.eq_of_beq_eq_true w2
  have ei := lOf_int w1
  refine g_constL act hG (x := lOf e9) (by rw [lEx_lOf w1]; exact w2) rfl (hgo _ _ _ w3 R _ L hs kc ks _ hX (hV.pushL (Int.le_of_eq ei.symm) (Int.le_of_eq ei) (fun z => by rw [ei]; exact of_decide_eq_true z)) k1 k2 k3)

theorem x_const_t (act : Act SSX TBL g CLS bl xs d p l s mm args meth c) (hG : G_const SSX TBL CLS ftX mdx d pc w) (hgo : ∀ pc A q, go pc A q = true → Good K Inv R0 hs0 m0 d.2.2.1 kcP ksP lnP σ0 (WN g p l e Rm s mm args below meth c Q d kc0 ks0) pc A q)  (h : x_const w A q go = true) : Good K Inv R0 hs0 m0 d.2.2.1 kcP ksP lnP σ0 (WN g p l e Rm s mm args below meth c Q d kc0 ks0) pc A q := by
  unfold x_const at h
  cases h1 : Nat.beq (fb w) 4 with
  | true =>
    rw [h1, cond_true] at h
    intro R σ L hs kc ks S hX hV k1 k2 k3
    exact g_null act hG (Nat.eq_of_beq_eq_true h1) rfl (hgo _ _ _ h R σ L hs kc ks _ hX (hV.pushA VM.mk5) k1 k2 k3)
  | false =>
    rw [h1, cond_false] at h
    cases h2 : Nat.beq (fb w) 7 with
    | true =>
      rw [h2, cond_true] at h
      intro R σ L hs kc ks S hX hV k1 k2 k3
      exact g_str act hG (Nat.eq_of_beq_eq_true h2) rfl (fun i k tx hdl hkl => hgo _ _ _ h R σ L hs kc ks _ hX (hV.pushA (VM.mk7 fun _ => ⟨k, (List.getElem?_eq_some_iff.mp hkl).1, rfl⟩)) k1 k2 k3)
    | false =>
      rw [h2, cond_false] at h
      cases h3 : Nat.beq (Nat.mod (fb w) 8) 1 with
      | true =>
        rw [h3, cond_true] at h
        exact constI_t act hG hgo h
      | false =>
        rw [h3, cond_false] at h
        exact constL_t act hG hgo h

def x_loadI (w : Nat) (A : ST) (q : Nat) (go : GO) : Bool := match A.2.1[fa w]? with
  | some a => Nat.beq a.1 1 && go (nxt w) (pushA A a) q
  | none => false
theorem x_loadI_t (act : Act SSX TBL g CLS bl xs d p l s mm args meth c) (hG : G_loadI SSX TBL CLS ftX mdx d pc w) (hgo : ∀ pc A q, go pc A q = true → Good K Inv R0 hs0 m0 d.2.2.1 kcP ksP lnP σ0 (WN g p l e Rm s mm args below meth c Q d kc0 ks0) pc A q)  (h : x_loadI w A q go = true) : Good K Inv R0 hs0 m0 d.2.2.1 kcP ksP lnP σ0 (WN g p l e Rm s mm args below meth c Q d kc0 ks0) pc A q := by
  unfold x_loadI at h
  split at h
  · rename_i a ha
    rw [Bool.and_eq_true] at h
    have e1 := Nat.eq_of_beq_eq_true h.1
    intro R σ L hs kc ks S hX hV k1 k2 k3
    obtain ⟨v, hl, hv⟩ := hV.load ha (by rw [e1]; decide)
    obtain ⟨x, rfl, -, -⟩ := hv.int e1
    exact g_loadI act hG rfl rfl hl (hgo _ _ _ h.2 R σ L hs kc ks _ hX (hV.pushA hv) k1 k2 k3)
  · cases h

def x_loadL (w : Nat) (A : ST) (q : Nat) (go : GO) : Bool := match A.2.1[fa w]? with
  | some a => Nat.beq a.1 2 && go (nxt w) (pushA A a) q
  | none => false
theorem x_loadL_t (act : Act SSX TBL g CLS bl xs d p l s mm args meth c) (hG : G_loadL SSX TBL CLS ftX mdx d pc w) (hgo : ∀ pc A q, go pc A q = true → Good K Inv R0 hs0 m0 d.2.2.1 kcP ksP lnP σ0 (WN g p l e Rm s mm args below meth c Q d kc0 ks0) pc A q)  (h : x_loadL w A q go = true) : Good K Inv R0 hs0 m0 d.2.2.1 kcP ksP lnP σ0 (WN g p l e Rm s mm args below meth c Q d kc0 ks0) pc A q := by
  unfold x_loadL at h
  split at h
  · rename_i a ha
    rw [Bool.and_eq_true] at h
    have e1 := Nat.eq_of_beq_eq_true h.1
    intro R σ L hs kc ks S hX hV k1 k2 k3
    obtain ⟨v, hl, hv⟩ := hV.load ha (by rw [e1]; decide)
    obtain ⟨x, rfl, -, -⟩ := hv.lng e1
    exact g_loadL act hG rfl rfl hl (hgo _ _ _ h.2 R σ L hs kc ks _ hX (hV.pushA hv) k1 k2 k3)
  · cases h

def x_loadA (w : Nat) (A : ST) (q : Nat) (go : GO) : Bool := match A.2.1[fa w]? with
  | some a => bif Nat.beq a.1 4 then go (nxt w) (pushA (setL A (A.2.1.set (fa w) (5, 0, 0, 0))) (5, 0, 0, 0)) q && go (nxt w) (pushA (setL A (A.2.1.set (fa w) (3, a.2.1, 0, 0))) (3, a.2.1, 0, 0)) q
    else (Nat.beq a.1 3 || (Nat.beq a.1 5 || (Nat.beq a.1 7 || Nat.beq a.1 11))) && go (nxt w) (pushA A a) q
  | none => false
theorem VX.same {K : KX} {n0 m0 nL : Nat} {σ0 σ : Nat → Int} {hs : List CE} {R : List Nat} {A : ST} {L : LN} {S : List Value} {i : Nat} {a : AV} {v : Value} (hV : VX K n0 m0 nL σ0 hs R σ A L S) (hl : L[i]? = some (some v)) (hv : VM K n0 hs R A.1.length σ a v) : VX K n0 m0 nL σ0 hs R σ (setL A (A.2.1.set i a)) L S := by
  obtain ⟨q1, q2, q3, q4, q5, q6, q7⟩ := hV
  refine ⟨q1, q2, q3, q4, fun j b hj hb => ?_, q6, q7⟩
  have hj : (A.2.1.set i a)[j]? = some b := hj
  rw [List.getElem?_set] at hj
  split at hj
  · rename_i e
    split at hj
    · cases hj
      subst e
      exact ⟨v, hl, hv⟩
    · cases hj
  · exact q5 j b hj hb
theorem x_loadA_t (act : Act SSX TBL g CLS bl xs d p l s mm args meth c) (hG : G_loadA SSX TBL CLS ftX mdx d pc w) (hgo : ∀ pc A q, go pc A q = true → Good K Inv R0 hs0 m0 d.2.2.1 kcP ksP lnP σ0 (WN g p l e Rm s mm args below meth c Q d kc0 ks0) pc A q)  (h : x_loadA w A q go = true) : Good K Inv R0 hs0 m0 d.2.2.1 kcP ksP lnP σ0 (WN g p l e Rm s mm args below meth c Q d kc0 ks0) pc A q := by
  unfold x_loadA at h
  split at h
  · rename_i a ha
    obtain ⟨t, a1, a2, a3⟩ := a
    cases h4 : Nat.beq t 4 with
    | true =>
      have hz : (bif Nat.beq t 4 then go (nxt w) (pushA (setL A (A.2.1.set (fa w) (5, 0, 0, 0))) (5, 0, 0, 0)) q && go (nxt w) (pushA (setL A (A.2.1.set (fa w) (3, a1, 0, 0))) (3, a1, 0, 0)) q else (Nat.beq t 3 || (Nat.beq t 5 || (Nat.beq t 7 || Nat.beq t 11))) && go (nxt w) (pushA A (t, a1, a2, a3)) q) = true := h
      clear h
      have h := hz
      clear hz
      rw [h4, cond_true, Bool.and_eq_true] at h
      have e4 := Nat.eq_of_beq_eq_true h4
      subst e4
      intro R σ L hs kc ks S hX hV k1 k2 k3
      obtain ⟨v, hl, hv⟩ := hV.load ha (by show ¬ ((4 : Nat) = 0); decide)
      rcases hv.rf4 rfl with rfl | hg
      · exact g_loadAN act hG rfl rfl hl (hgo _ _ _ h.1 R σ L hs kc ks _ hX ((hV.same hl VM.mk5).pushA VM.mk5) k1 k2 k3)
      · have hg2 := hg
        obtain ⟨k, r, rfl, -⟩ := hg2
        exact g_loadA act hG rfl rfl hl (hgo _ _ _ h.2 R σ L hs kc ks _ hX ((hV.same hl (VM.mk3 hg)).pushA (VM.mk3 hg)) k1 k2 k3)
    | false =>
      have hz : (bif Nat.beq t 4 then go (nxt w) (pushA (setL A (A.2.1.set (fa w) (5, 0, 0, 0))) (5, 0, 0, 0)) q && go (nxt w) (pushA (setL A (A.2.1.set (fa w) (3, a1, 0, 0))) (3, a1, 0, 0)) q else (Nat.beq t 3 || (Nat.beq t 5 || (Nat.beq t 7 || Nat.beq t 11))) && go (nxt w) (pushA A (t, a1, a2, a3)) q) = true := h
      clear h
      have h := hz
      clear hz
      rw [h4, cond_false, Bool.and_eq_true, Bool.or_eq_true, Bool.or_eq_true, Bool.or_eq_true] at h
      obtain ⟨hh, h⟩ := h
      intro R σ L hs kc ks S hX hV k1 k2 k3
      rcases hh with e1 | e1 | e1 | e1
      · have e1 := Nat.eq_of_beq_eq_true e1
        subst e1
        obtain ⟨v, hl, hv⟩ := hV.load ha (by show ¬ ((3 : Nat) = 0); decide)
        have hg := hv.rf3 rfl
        obtain ⟨k, r, rfl, -⟩ := hg
        exact g_loadA act hG rfl rfl hl (hgo _ _ _ h R σ L hs kc ks _ hX (hV.pushA hv) k1 k2 k3)
      · have e1 := Nat.eq_of_beq_eq_true e1
        subst e1
        obtain ⟨v, hl, hv⟩ := hV.load ha (by show ¬ ((5 : Nat) = 0); decide)
        have hg := hv.nul rfl
        subst hg
        exact g_loadAN act hG rfl rfl hl (hgo _ _ _ h R σ L hs kc ks _ hX (hV.pushA hv) k1 k2 k3)
      · have e1 := Nat.eq_of_beq_eq_true e1
        subst e1
        obtain ⟨v, hl, hv⟩ := hV.load ha (by show ¬ ((7 : Nat) = 0); decide)
        obtain ⟨k, rfl, -⟩ := hv.opq rfl
        exact g_loadA act hG rfl rfl hl (hgo _ _ _ h R σ L hs kc ks _ hX (hV.pushA hv) k1 k2 k3)
      · have e1 := Nat.eq_of_beq_eq_true e1
        subst e1
        obtain ⟨v, hl, hv⟩ := hV.load ha (by show ¬ ((11 : Nat) = 0); decide)
        obtain ⟨k, rfl, -⟩ := hv.raw rfl
        exact g_loadA act hG rfl rfl hl (hgo _ _ _ h R σ L hs kc ks _ hX (hV.pushA hv) k1 k2 k3)
  · cases h

def x_storeI (w : Nat) (A : ST) (q : Nat) (go : GO) : Bool := match A with
  | (E, Ls, (1, s, b, δ) :: St, Rg) => go (nxt w) (E, stA Ls (fa w) (1, s, b, δ), St, Rg) q
  | _ => false
def x_storeL (w : Nat) (A : ST) (q : Nat) (go : GO) : Bool := match A with
  | (E, Ls, (2, s, b, δ) :: St, Rg) => go (nxt w) (E, stA2 Ls (fa w) (2, s, b, δ), St, Rg) q
  | _ => false
def x_storeA (w : Nat) (A : ST) (q : Nat) (go : GO) : Bool := match A with
  | (E, Ls, a :: St, Rg) => (Nat.beq a.1 3 || (Nat.beq a.1 4 || (Nat.beq a.1 5 || (Nat.beq a.1 7 || Nat.beq a.1 11)))) && go (nxt w) (E, stA Ls (fa w) a, St, Rg) q
  | _ => false
theorem x_storeI_t (act : Act SSX TBL g CLS bl xs d p l s mm args meth c) (hG : G_storeI SSX TBL CLS ftX mdx d pc w) (hgo : ∀ pc A q, go pc A q = true → Good K Inv R0 hs0 m0 d.2.2.1 kcP ksP lnP σ0 (WN g p l e Rm s mm args below meth c Q d kc0 ks0) pc A q)  (h : x_storeI w A q go = true) : Good K Inv R0 hs0 m0 d.2.2.1 kcP ksP lnP σ0 (WN g p l e Rm s mm args below meth c Q d kc0 ks0) pc A q := by
  unfold x_storeI at h
  split at h
  · intro R σ L hs kc ks S hX hV k1 k2 k3
    obtain ⟨v, S', rfl, hv, hV1⟩ := hV.pop
    obtain ⟨x, rfl, -, -⟩ := hv.int rfl
    exact g_storeI act hG rfl rfl rfl (hgo _ _ _ h R σ _ hs kc ks _ hX (hV1.store hv (by show ¬ ((1 : Nat) = 0); decide) hG.1) k1 k2 k3)
  · cases h

theorem x_storeL_t (act : Act SSX TBL g CLS bl xs d p l s mm args meth c) (hG : G_storeL SSX TBL CLS ftX mdx d pc w) (hgo : ∀ pc A q, go pc A q = true → Good K Inv R0 hs0 m0 d.2.2.1 kcP ksP lnP σ0 (WN g p l e Rm s mm args below meth c Q d kc0 ks0) pc A q)  (h : x_storeL w A q go = true) : Good K Inv R0 hs0 m0 d.2.2.1 kcP ksP lnP σ0 (WN g p l e Rm s mm args below meth c Q d kc0 ks0) pc A q := by
  unfold x_storeL at h
  split at h
  · intro R σ L hs kc ks S hX hV k1 k2 k3
    obtain ⟨v, S', rfl, hv, hV1⟩ := hV.pop
    obtain ⟨x, rfl, -, -⟩ := hv.lng rfl
    exact g_storeL act hG rfl rfl rfl (hgo _ _ _ h R σ _ hs kc ks _ hX (hV1.store2 hv (by show ¬ ((2 : Nat) = 0); decide) hG.1) k1 k2 k3)
  · cases h

theorem x_storeA_t (act : Act SSX TBL g CLS bl xs d p l s mm args meth c) (hG : G_storeA SSX TBL CLS ftX mdx d pc w) (hgo : ∀ pc A q, go pc A q = true → Good K Inv R0 hs0 m0 d.2.2.1 kcP ksP lnP σ0 (WN g p l e Rm s mm args below meth c Q d kc0 ks0) pc A q)  (h : x_storeA w A q go = true) : Good K Inv R0 hs0 m0 d.2.2.1 kcP ksP lnP σ0 (WN g p l e Rm s mm args below meth c Q d kc0 ks0) pc A q := by
  unfold x_storeA at h
  split at h
  · rename_i E Ls a St Rg
    rw [Bool.and_eq_true] at h
    obtain ⟨hh, h⟩ := h
    intro R σ L hs kc ks S hX hV k1 k2 k3
    obtain ⟨v, S', rfl, hv, hV1⟩ := hV.pop
    have h0 : a.1 ≠ 0 := by intro z; rw [z] at hh; revert hh; decide
    have hr : v = .null ∨ ∃ k : Nat, v = .ref k := by
      simp only [Bool.or_eq_true] at hh
      rcases hh with e1 | e1 | e1 | e1 | e1
      · obtain ⟨k, r, rfl, -⟩ := hv.rf3 (Nat.eq_of_beq_eq_true e1)
        exact Or.inr ⟨k, rfl⟩
      · rcases hv.rf4 (Nat.eq_of_beq_eq_true e1) with z | ⟨k, r, rfl, -⟩
        · exact Or.inl z
        · exact Or.inr ⟨k, rfl⟩
      · exact Or.inl (hv.nul (Nat.eq_of_beq_eq_true e1))
      · obtain ⟨k, rfl, -⟩ := hv.opq (Nat.eq_of_beq_eq_true e1)
        exact Or.inr ⟨k, rfl⟩
      · obtain ⟨k, rfl, -⟩ := hv.raw (Nat.eq_of_beq_eq_true e1)
        exact Or.inr ⟨k, rfl⟩
    rcases hr with rfl | ⟨k, rfl⟩
    · exact g_storeAN act hG rfl rfl rfl (hgo _ _ _ h R σ _ hs kc ks _ hX (hV1.store hv h0 hG.1) k1 k2 k3)
    · exact g_storeA act hG rfl rfl rfl (hgo _ _ _ h R σ _ hs kc ks _ hX (hV1.store hv h0 hG.1) k1 k2 k3)
  · cases h

def rngI (lo hi : Int) : Bool := decide (-2147483648 ≤ lo) && decide (hi < 2147483648)
theorem rngI_t {lo hi : Int} (h : rngI lo hi = true) : -2147483648 ≤ lo ∧ hi < 2147483648 := by
  unfold rngI at h
  rw [Bool.and_eq_true] at h
  exact ⟨of_decide_eq_true h.1, of_decide_eq_true h.2⟩
def rngL (lo hi : Int) : Bool := decide (-9223372036854775808 ≤ lo) && decide (hi < 9223372036854775808)
theorem rngL_t {lo hi : Int} (h : rngL lo hi = true) : -9223372036854775808 ≤ lo ∧ hi < 9223372036854775808 := by
  unfold rngL at h
  rw [Bool.and_eq_true] at h
  exact ⟨of_decide_eq_true h.1, of_decide_eq_true h.2⟩
def iincE (w e : Nat) (A : ST) (q : Nat) (go : GO) : Bool := match A.2.1[fa w]? with
  | some (1, s, b, δ) => Nat.blt e 4294967296 && (rngI ((evg A.1 s).1 + (δ + eI e)) ((evg A.1 s).2.1 + (δ + eI e)) && go (nxt w) (setL A (stA A.2.1 (fa w) (1, s, b, δ + eI e))) q)
  | _ => false
def x_iinc (w : Nat) (A : ST) (q : Nat) (go : GO) : Bool := iincE w (fb w) A q go
theorem iincE_t (act : Act SSX TBL g CLS bl xs d p l s mm args meth c) (hG : G_iinc SSX TBL CLS ftX mdx d pc w) (hgo : ∀ pc A q, go pc A q = true → Good K Inv R0 hs0 m0 d.2.2.1 kcP ksP lnP σ0 (WN g p l e Rm s mm args below meth c Q d kc0 ks0) pc A q) {e9 : Nat} (he : fb w = e9) (h : iincE w e9 A q go = true) : Good K Inv R0 hs0 m0 d.2.2.1 kcP ksP lnP σ0 (WN g p l e Rm s mm args below meth c Q d kc0 ks0) pc A q := by
  unfold iincE at h
  split at h
  · rename_i s9 b9 δ9 ha
    rw [Bool.and_eq_true, Bool.and_eq_true] at h
    obtain ⟨w1, w2, h⟩ := h
    have w1 : e9 < 4294967296 := Nat.le_of_ble_eq_true w1
    have w2 := rngI_t w2
    intro R σ L hs kc ks S hX hV k1 k2 k3
    obtain ⟨v, hl, hv⟩ := hV.load ha (by show ¬ ((1 : Nat) = 0); decide)
    obtain ⟨x, rfl, lx, ex⟩ := hv.int rfl
    have ei := iOf_int w1
    have ex : x.toInt = σ s9 + δ9 := ex
    have lx : s9 < A.1.length := lx
    obtain ⟨b1, b2, -⟩ := hV.em _ lx
    have ez : (x + iOf e9).toInt = σ s9 + (δ9 + eI e9) := by
      generalize iOf e9 = y9 at *
      generalize eI e9 = z9 at *
      clear he w1 k1 k2 k3
      rw [i_add (by omega) (by omega), ei, ex]; omega
    exact g_iinc act hG rfl (he.trans (iEx_iOf w1).symm) rfl hl rfl (hgo _ _ _ h R σ _ hs kc ks _ hX (VX.store (E := A.1) (Ls := A.2.1) (St := A.2.2.1) (Rg := A.2.2.2) hV (VM.mkI (σ := σ) lx ez) (by show ¬ ((1 : Nat) = 0); decide) hG.1) k1 k2 k3)
  · cases h

theorem x_iinc_t (act : Act SSX TBL g CLS bl xs d p l s mm args meth c) (hG : G_iinc SSX TBL CLS ftX mdx d pc w) (hgo : ∀ pc A q, go pc A q = true → Good K Inv R0 hs0 m0 d.2.2.1 kcP ksP lnP σ0 (WN g p l e Rm s mm args below meth c Q d kc0 ks0) pc A q)  (h : x_iinc w A q go = true) : Good K Inv R0 hs0 m0 d.2.2.1 kcP ksP lnP σ0 (WN g p l e Rm s mm args below meth c Q d kc0 ks0) pc A q := by
  exact iincE_t act hG hgo rfl h

def x_iadd (w : Nat) (A : ST) (q : Nat) (go : GO) : Bool := pop2 A (fun s1 δ1 s2 δ2 B => bif rngI ((evg B.1 s1).1 + δ1 + ((evg B.1 s2).1 + δ2)) ((evg B.1 s1).2.1 + δ1 + ((evg B.1 s2).2.1 + δ2)) then (bif decide ((evg B.1 s2).1 = (evg B.1 s2).2.1) then go (nxt w) (pushA B (1, s1, 0, δ1 + ((evg B.1 s2).1 + δ2))) q else bif decide ((evg B.1 s1).1 = (evg B.1 s1).2.1) then go (nxt w) (pushA B (1, s2, 0, δ2 + ((evg B.1 s1).1 + δ1))) q else go (nxt w) (pushI B ((evg B.1 s1).1 + δ1 + ((evg B.1 s2).1 + δ2)) ((evg B.1 s1).2.1 + δ1 + ((evg B.1 s2).2.1 + δ2))) q) else go (nxt w) (pushI B (-2147483648) 2147483647) q)
theorem x_iadd_t (act : Act SSX TBL g CLS bl xs d p l s mm args meth c) (hG : G_iadd SSX TBL CLS ftX mdx d pc w) (hgo : ∀ pc A q, go pc A q = true → Good K Inv R0 hs0 m0 d.2.2.1 kcP ksP lnP σ0 (WN g p l e Rm s mm args below meth c Q d kc0 ks0) pc A q)  (h : x_iadd w A q go = true) : Good K Inv R0 hs0 m0 d.2.2.1 kcP ksP lnP σ0 (WN g p l e Rm s mm args below meth c Q d kc0 ks0) pc A q := by
  intro R σ L hs kc ks S hX hV k1 k2 k3
  obtain ⟨s1, δ1, s2, δ2, B, x, y, S', h, rfl, hV1, l1, l2, ex, ey⟩ := pop2_t h hV
  clear hV
  have hV := hV1
  obtain ⟨a1, a2, -⟩ := hV.em _ l1
  obtain ⟨b1, b2, -⟩ := hV.em _ l2
  refine g_iadd act hG rfl ?_
  cases h1 : rngI ((evg B.1 s1).1 + δ1 + ((evg B.1 s2).1 + δ2)) ((evg B.1 s1).2.1 + δ1 + ((evg B.1 s2).2.1 + δ2)) with
  | true =>
    rw [h1, cond_true] at h
    have h1 := rngI_t h1
    have ez : (x + y).toInt = x.toInt + y.toInt := i_add (by omega) (by omega)
    cases h2 : decide ((evg B.1 s2).1 = (evg B.1 s2).2.1) with
    | true =>
      rw [h2] at h
      have h2 := of_decide_eq_true h2
      exact hgo _ _ _ h R σ L hs kc ks _ hX (hV.pushA (VM.mkI l1 (by omega))) k1 k2 k3
    | false =>
      rw [h2] at h
      cases h3 : decide ((evg B.1 s1).1 = (evg B.1 s1).2.1) with
      | true =>
        rw [h3] at h
        have h3 := of_decide_eq_true h3
        exact hgo _ _ _ h R σ L hs kc ks _ hX (hV.pushA (VM.mkI l2 (by omega))) k1 k2 k3
      | false =>
        rw [h3] at h
        exact hgo _ _ _ h R _ L hs kc ks _ hX (hV.pushI (by omega) (by omega)) k1 k2 k3
  | false =>
    rw [h1] at h
    have := i_rng (x + y)
    exact hgo _ _ _ h R _ L hs kc ks _ hX (hV.pushI (by omega) (by omega)) k1 k2 k3

def x_isub (w : Nat) (A : ST) (q : Nat) (go : GO) : Bool := pop2 A (fun s1 δ1 s2 δ2 B => bif rngI ((evg B.1 s1).1 + δ1 - ((evg B.1 s2).2.1 + δ2)) ((evg B.1 s1).2.1 + δ1 - ((evg B.1 s2).1 + δ2)) then (bif decide ((evg B.1 s2).1 = (evg B.1 s2).2.1) then go (nxt w) (pushA B (1, s1, 0, δ1 - ((evg B.1 s2).1 + δ2))) q else go (nxt w) (pushI B ((evg B.1 s1).1 + δ1 - ((evg B.1 s2).2.1 + δ2)) ((evg B.1 s1).2.1 + δ1 - ((evg B.1 s2).1 + δ2))) q) else go (nxt w) (pushI B (-2147483648) 2147483647) q)
theorem x_isub_t (act : Act SSX TBL g CLS bl xs d p l s mm args meth c) (hG : G_isub SSX TBL CLS ftX mdx d pc w) (hgo : ∀ pc A q, go pc A q = true → Good K Inv R0 hs0 m0 d.2.2.1 kcP ksP lnP σ0 (WN g p l e Rm s mm args below meth c Q d kc0 ks0) pc A q)  (h : x_isub w A q go = true) : Good K Inv R0 hs0 m0 d.2.2.1 kcP ksP lnP σ0 (WN g p l e Rm s mm args below meth c Q d kc0 ks0) pc A q := by
  intro R σ L hs kc ks S hX hV k1 k2 k3
  obtain ⟨s1, δ1, s2, δ2, B, x, y, S', h, rfl, hV1, l1, l2, ex, ey⟩ := pop2_t h hV
  clear hV
  have hV := hV1
  obtain ⟨a1, a2, -⟩ := hV.em _ l1
  obtain ⟨b1, b2, -⟩ := hV.em _ l2
  refine g_isub act hG rfl ?_
  cases h1 : rngI ((evg B.1 s1).1 + δ1 - ((evg B.1 s2).2.1 + δ2)) ((evg B.1 s1).2.1 + δ1 - ((evg B.1 s2).1 + δ2)) with
  | true =>
    rw [h1, cond_true] at h
    have h1 := rngI_t h1
    have ez : (x - y).toInt = x.toInt - y.toInt := i_sub (by omega) (by omega)
    cases h2 : decide ((evg B.1 s2).1 = (evg B.1 s2).2.1) with
    | true =>
      rw [h2] at h
      have h2 := of_decide_eq_true h2
      exact hgo _ _ _ h R σ L hs kc ks _ hX (hV.pushA (VM.mkI l1 (by omega))) k1 k2 k3
    | false =>
      rw [h2] at h
      exact hgo _ _ _ h R _ L hs kc ks _ hX (hV.pushI (by omega) (by omega)) k1 k2 k3
  | false =>
    rw [h1] at h
    have := i_rng (x - y)
    exact hgo _ _ _ h R _ L hs kc ks _ hX (hV.pushI (by omega) (by omega)) k1 k2 k3

theorem i_and {x y : Int32} (h : 0 ≤ y.toInt) : 0 ≤ (x &&& y).toInt ∧ (x &&& y).toInt ≤ y.toInt := by
  have e1 : (x &&& y).toInt = (x.toBitVec &&& y.toBitVec).toInt := by rw [← Int32.toBitVec_and]; rfl
  have e2 : y.toInt = y.toBitVec.toInt := rfl
  rw [e2] at h ⊢
  rw [e1]
  rw [BitVec.toInt_eq_toNat_cond] at h ⊢
  rw [BitVec.toInt_eq_toNat_cond, BitVec.toNat_and]
  have h1 : x.toBitVec.toNat &&& y.toBitVec.toNat ≤ y.toBitVec.toNat := Nat.and_le_right
  have h2 := y.toBitVec.isLt
  split at h
  · rename_i h3
    rw [if_pos (by omega), if_pos h3]
    omega
  · omega

def x_iand (w : Nat) (A : ST) (q : Nat) (go : GO) : Bool := pop2 A (fun s1 δ1 s2 δ2 B => bif decide ((evg B.1 s2).1 = (evg B.1 s2).2.1) && decide (0 ≤ (evg B.1 s2).1 + δ2) then go (nxt w) (pushI B 0 ((evg B.1 s2).1 + δ2)) q else go (nxt w) (pushI B (-2147483648) 2147483647) q)
theorem x_iand_t (act : Act SSX TBL g CLS bl xs d p l s mm args meth c) (hG : G_iand SSX TBL CLS ftX mdx d pc w) (hgo : ∀ pc A q, go pc A q = true → Good K Inv R0 hs0 m0 d.2.2.1 kcP ksP lnP σ0 (WN g p l e Rm s mm args below meth c Q d kc0 ks0) pc A q)  (h : x_iand w A q go = true) : Good K Inv R0 hs0 m0 d.2.2.1 kcP ksP lnP σ0 (WN g p l e Rm s mm args below meth c Q d kc0 ks0) pc A q := by
  intro R σ L hs kc ks S hX hV k1 k2 k3
  obtain ⟨s1, δ1, s2, δ2, B, x, y, S', h, rfl, hV1, l1, l2, ex, ey⟩ := pop2_t h hV
  clear hV
  have hV := hV1
  obtain ⟨a1, a2, -⟩ := hV.em _ l1
  obtain ⟨b1, b2, -⟩ := hV.em _ l2
  refine g_iand act hG rfl ?_
  cases h1 : decide ((evg B.1 s2).1 = (evg B.1 s2).2.1) && decide (0 ≤ (evg B.1 s2).1 + δ2) with
  | true =>
    rw [h1, cond_true] at h
    rw [Bool.and_eq_true] at h1
    have w1 := of_decide_eq_true h1.1
    have w2 := of_decide_eq_true h1.2
    have ha := i_and (x := x) (y := y) (by omega)
    exact hgo _ _ _ h R _ L hs kc ks _ hX (hV.pushI (by omega) (by omega)) k1 k2 k3
  | false =>
    rw [h1, cond_false] at h
    have hr := i_rng (x &&& y)
    exact hgo _ _ _ h R _ L hs kc ks _ hX (hV.pushI (by omega) (by omega)) k1 k2 k3

def x_ior (w : Nat) (A : ST) (q : Nat) (go : GO) : Bool := pop2 A (fun s1 δ1 s2 δ2 B => go (nxt w) (pushI B (-2147483648) 2147483647) q)
theorem x_ior_t (act : Act SSX TBL g CLS bl xs d p l s mm args meth c) (hG : G_ior SSX TBL CLS ftX mdx d pc w) (hgo : ∀ pc A q, go pc A q = true → Good K Inv R0 hs0 m0 d.2.2.1 kcP ksP lnP σ0 (WN g p l e Rm s mm args below meth c Q d kc0 ks0) pc A q)  (h : x_ior w A q go = true) : Good K Inv R0 hs0 m0 d.2.2.1 kcP ksP lnP σ0 (WN g p l e Rm s mm args below meth c Q d kc0 ks0) pc A q := by
  intro R σ L hs kc ks S hX hV k1 k2 k3
  obtain ⟨s1, δ1, s2, δ2, B, x, y, S', h, rfl, hV1, l1, l2, ex, ey⟩ := pop2_t h hV
  clear hV
  have hV := hV1
  obtain ⟨a1, a2, -⟩ := hV.em _ l1
  obtain ⟨b1, b2, -⟩ := hV.em _ l2
  refine g_ior act hG rfl ?_
  have hr := i_rng (x ||| y)
  exact hgo _ _ _ h R _ L hs kc ks _ hX (hV.pushI (by omega) (by omega)) k1 k2 k3

def x_ishl (w : Nat) (A : ST) (q : Nat) (go : GO) : Bool := pop2 A (fun s1 δ1 s2 δ2 B => go (nxt w) (pushI B (-2147483648) 2147483647) q)
theorem x_ishl_t (act : Act SSX TBL g CLS bl xs d p l s mm args meth c) (hG : G_ishl SSX TBL CLS ftX mdx d pc w) (hgo : ∀ pc A q, go pc A q = true → Good K Inv R0 hs0 m0 d.2.2.1 kcP ksP lnP σ0 (WN g p l e Rm s mm args below meth c Q d kc0 ks0) pc A q)  (h : x_ishl w A q go = true) : Good K Inv R0 hs0 m0 d.2.2.1 kcP ksP lnP σ0 (WN g p l e Rm s mm args below meth c Q d kc0 ks0) pc A q := by
  intro R σ L hs kc ks S hX hV k1 k2 k3
  obtain ⟨s1, δ1, s2, δ2, B, x, y, S', h, rfl, hV1, l1, l2, ex, ey⟩ := pop2_t h hV
  clear hV
  have hV := hV1
  obtain ⟨a1, a2, -⟩ := hV.em _ l1
  obtain ⟨b1, b2, -⟩ := hV.em _ l2
  refine g_ishl act hG rfl ?_
  have hr := i_rng (x <<< (y &&& 31))
  exact hgo _ _ _ h R _ L hs kc ks _ hX (hV.pushI (by omega) (by omega)) k1 k2 k3

def x_ishr (w : Nat) (A : ST) (q : Nat) (go : GO) : Bool := pop2 A (fun s1 δ1 s2 δ2 B => go (nxt w) (pushI B (-2147483648) 2147483647) q)
theorem x_ishr_t (act : Act SSX TBL g CLS bl xs d p l s mm args meth c) (hG : G_ishr SSX TBL CLS ftX mdx d pc w) (hgo : ∀ pc A q, go pc A q = true → Good K Inv R0 hs0 m0 d.2.2.1 kcP ksP lnP σ0 (WN g p l e Rm s mm args below meth c Q d kc0 ks0) pc A q)  (h : x_ishr w A q go = true) : Good K Inv R0 hs0 m0 d.2.2.1 kcP ksP lnP σ0 (WN g p l e Rm s mm args below meth c Q d kc0 ks0) pc A q := by
  intro R σ L hs kc ks S hX hV k1 k2 k3
  obtain ⟨s1, δ1, s2, δ2, B, x, y, S', h, rfl, hV1, l1, l2, ex, ey⟩ := pop2_t h hV
  clear hV
  have hV := hV1
  obtain ⟨a1, a2, -⟩ := hV.em _ l1
  obtain ⟨b1, b2, -⟩ := hV.em _ l2
  refine g_ishr act hG rfl ?_
  have hr := i_rng (x >>> (y &&& 31))
  exact hgo _ _ _ h R _ L hs kc ks _ hX (hV.pushI (by omega) (by omega)) k1 k2 k3

def x_imul (w : Nat) (A : ST) (q : Nat) (go : GO) : Bool := pop2 A (fun s1 δ1 s2 δ2 B => bif decide (0 ≤ (evg B.1 s1).1 + δ1) && (decide (0 ≤ (evg B.1 s2).1 + δ2) && decide (((evg B.1 s1).2.1 + δ1) * ((evg B.1 s2).2.1 + δ2) < 2147483648)) then go (nxt w) (pushI B (((evg B.1 s1).1 + δ1) * ((evg B.1 s2).1 + δ2)) (((evg B.1 s1).2.1 + δ1) * ((evg B.1 s2).2.1 + δ2))) q else go (nxt w) (pushI B (-2147483648) 2147483647) q)
theorem x_imul_t (act : Act SSX TBL g CLS bl xs d p l s mm args meth c) (hG : G_imul SSX TBL CLS ftX mdx d pc w) (hgo : ∀ pc A q, go pc A q = true → Good K Inv R0 hs0 m0 d.2.2.1 kcP ksP lnP σ0 (WN g p l e Rm s mm args below meth c Q d kc0 ks0) pc A q)  (h : x_imul w A q go = true) : Good K Inv R0 hs0 m0 d.2.2.1 kcP ksP lnP σ0 (WN g p l e Rm s mm args below meth c Q d kc0 ks0) pc A q := by
  intro R σ L hs kc ks S hX hV k1 k2 k3
  obtain ⟨s1, δ1, s2, δ2, B, x, y, S', h, rfl, hV1, l1, l2, ex, ey⟩ := pop2_t h hV
  clear hV
  have hV := hV1
  obtain ⟨a1, a2, -⟩ := hV.em _ l1
  obtain ⟨b1, b2, -⟩ := hV.em _ l2
  refine g_imul act hG rfl ?_
  cases h1 : decide (0 ≤ (evg B.1 s1).1 + δ1) && (decide (0 ≤ (evg B.1 s2).1 + δ2) && decide (((evg B.1 s1).2.1 + δ1) * ((evg B.1 s2).2.1 + δ2) < 2147483648)) with
  | true =>
    rw [h1] at h
    rw [Bool.and_eq_true, Bool.and_eq_true] at h1
    obtain ⟨w1, w2, w3⟩ := h1
    have w1 := of_decide_eq_true w1
    have w2 := of_decide_eq_true w2
    have w3 := of_decide_eq_true w3
    have u1 : x.toInt * y.toInt ≤ ((evg B.1 s1).2.1 + δ1) * ((evg B.1 s2).2.1 + δ2) := Int.mul_le_mul (by omega) (by omega) (by omega) (by omega)
    have u2 : ((evg B.1 s1).1 + δ1) * ((evg B.1 s2).1 + δ2) ≤ x.toInt * y.toInt := Int.mul_le_mul (by omega) (by omega) w2 (by omega)
    have u3 : 0 ≤ x.toInt * y.toInt := Int.mul_nonneg (by omega) (by omega)
    have ez : (x * y).toInt = x.toInt * y.toInt := i_mul (by omega) (by omega)
    exact hgo _ _ _ h R _ L hs kc ks _ hX (hV.pushI (by rw [ez]; exact u2) (by rw [ez]; exact u1)) k1 k2 k3
  | false =>
    rw [h1] at h
    have hr := i_rng (x * y)
    exact hgo _ _ _ h R _ L hs kc ks _ hX (hV.pushI (by omega) (by omega)) k1 k2 k3

theorem i_div {x y : Int32} (h : 0 < y.toInt) : (x / y).toInt = x.toInt.tdiv y.toInt := by
  rw [Int32.toInt_div]
  have h1 := i_rng x
  refine i_bm ?_ ?_
  · rcases Int.le_total 0 x.toInt with q | q
    · have := Int.tdiv_nonneg q (Int.le_of_lt h); omega
    · have e : x.toInt.tdiv y.toInt = -((-x.toInt).tdiv y.toInt) := by rw [Int.neg_tdiv]; omega
      have := Int.tdiv_le_self (b := y.toInt) (show 0 ≤ -x.toInt by omega)
      omega
  · rcases Int.le_total 0 x.toInt with q | q
    · have := Int.tdiv_le_self (b := y.toInt) q; omega
    · have e : x.toInt.tdiv y.toInt = -((-x.toInt).tdiv y.toInt) := by rw [Int.neg_tdiv]; omega
      have := Int.tdiv_nonneg (a := -x.toInt) (b := y.toInt) (by omega) (by omega)
      omega

def x_idiv (w : Nat) (A : ST) (q : Nat) (go : GO) : Bool := pop2 A (fun s1 δ1 s2 δ2 B => (decide ((evg B.1 s2).1 = (evg B.1 s2).2.1) && (decide (0 < (evg B.1 s2).1 + δ2) && decide (0 ≤ (evg B.1 s1).1 + δ1))) && go (nxt w) (pushI B (((evg B.1 s1).1 + δ1) / ((evg B.1 s2).1 + δ2)) (((evg B.1 s1).2.1 + δ1) / ((evg B.1 s2).1 + δ2))) q)
theorem x_idiv_t (act : Act SSX TBL g CLS bl xs d p l s mm args meth c) (hG : G_idiv SSX TBL CLS ftX mdx d pc w) (hgo : ∀ pc A q, go pc A q = true → Good K Inv R0 hs0 m0 d.2.2.1 kcP ksP lnP σ0 (WN g p l e Rm s mm args below meth c Q d kc0 ks0) pc A q)  (h : x_idiv w A q go = true) : Good K Inv R0 hs0 m0 d.2.2.1 kcP ksP lnP σ0 (WN g p l e Rm s mm args below meth c Q d kc0 ks0) pc A q := by
  intro R σ L hs kc ks S hX hV k1 k2 k3
  obtain ⟨s1, δ1, s2, δ2, B, x, y, S', h, rfl, hV1, l1, l2, ex, ey⟩ := pop2_t h hV
  clear hV
  have hV := hV1
  obtain ⟨a1, a2, -⟩ := hV.em _ l1
  obtain ⟨b1, b2, -⟩ := hV.em _ l2
  rw [Bool.and_eq_true, Bool.and_eq_true, Bool.and_eq_true] at h
  obtain ⟨⟨w1, w2, w3⟩, h⟩ := h
  have w1 := of_decide_eq_true w1
  have w2 := of_decide_eq_true w2
  have w3 := of_decide_eq_true w3
  have ey2 : y.toInt = (evg B.1 s2).1 + δ2 := by omega
  have hy : 0 < y.toInt := by omega
  have hx : 0 ≤ x.toInt := by omega
  have hy0 : ¬ y = 0 := by intro z; rw [z] at hy; revert hy; decide
  have ed := i_div (x := x) hy
  rw [Int.tdiv_eq_ediv_of_nonneg hx] at ed
  refine g_idiv act hG hy0 rfl ?_
  exact hgo _ _ _ h R _ L hs kc ks _ hX (hV.pushI (by rw [ed, ey2]; exact Int.ediv_le_ediv (by omega) (by omega)) (by rw [ed, ey2]; exact Int.ediv_le_ediv (by omega) (by omega))) k1 k2 k3

def x_irem (w : Nat) (A : ST) (q : Nat) (go : GO) : Bool := pop2 A (fun s1 δ1 s2 δ2 B => (decide ((evg B.1 s2).1 = (evg B.1 s2).2.1) && (decide (0 < (evg B.1 s2).1 + δ2) && decide (0 ≤ (evg B.1 s1).1 + δ1))) && go (nxt w) (pushI B 0 ((evg B.1 s2).1 + δ2 - 1)) q)
theorem x_irem_t (act : Act SSX TBL g CLS bl xs d p l s mm args meth c) (hG : G_irem SSX TBL CLS ftX mdx d pc w) (hgo : ∀ pc A q, go pc A q = true → Good K Inv R0 hs0 m0 d.2.2.1 kcP ksP lnP σ0 (WN g p l e Rm s mm args below meth c Q d kc0 ks0) pc A q)  (h : x_irem w A q go = true) : Good K Inv R0 hs0 m0 d.2.2.1 kcP ksP lnP σ0 (WN g p l e Rm s mm args below meth c Q d kc0 ks0) pc A q := by
  intro R σ L hs kc ks S hX hV k1 k2 k3
  obtain ⟨s1, δ1, s2, δ2, B, x, y, S', h, rfl, hV1, l1, l2, ex, ey⟩ := pop2_t h hV
  clear hV
  have hV := hV1
  obtain ⟨a1, a2, -⟩ := hV.em _ l1
  obtain ⟨b1, b2, -⟩ := hV.em _ l2
  rw [Bool.and_eq_true, Bool.and_eq_true, Bool.and_eq_true] at h
  obtain ⟨⟨w1, w2, w3⟩, h⟩ := h
  have w1 := of_decide_eq_true w1
  have w2 := of_decide_eq_true w2
  have w3 := of_decide_eq_true w3
  have ey2 : y.toInt = (evg B.1 s2).1 + δ2 := by omega
  have hy : 0 < y.toInt := by omega
  have hx : 0 ≤ x.toInt := by omega
  have hy0 : ¬ y = 0 := by intro z; rw [z] at hy; revert hy; decide
  have ed := i_div (x := x) hy
  rw [Int.tdiv_eq_ediv_of_nonneg hx] at ed
  refine g_irem act hG hy0 rfl ?_
  have e2 := Int.emod_nonneg x.toInt (show y.toInt ≠ 0 by omega)
  have e3 := Int.emod_lt_of_pos x.toInt hy
  have e4 := Int.mul_ediv_add_emod x.toInt y.toInt
  have e5 : 0 ≤ x.toInt / y.toInt := Int.ediv_nonneg hx (Int.le_of_lt hy)
  have e6 : x.toInt / y.toInt * y.toInt = y.toInt * (x.toInt / y.toInt) := Int.mul_comm _ _
  have e7 : 0 ≤ y.toInt * (x.toInt / y.toInt) := Int.mul_nonneg (Int.le_of_lt hy) e5
  have hr := i_rng x
  have em : (x / y * y).toInt = y.toInt * (x.toInt / y.toInt) := by
    rw [i_mul (by rw [ed]; omega) (by rw [ed]; omega), ed, e6]
  have es : (x - x / y * y).toInt = x.toInt % y.toInt := by
    rw [i_sub (by rw [em]; omega) (by rw [em]; omega), em]; omega
  exact hgo _ _ _ h R _ L hs kc ks _ hX (hV.pushI (by omega) (by omega)) k1 k2 k3

def x_ineg (w : Nat) (A : ST) (q : Nat) (go : GO) : Bool := pop1 A (fun s1 δ1 B => bif decide (-2147483648 < (evg B.1 s1).1 + δ1) then go (nxt w) (pushI B (-((evg B.1 s1).2.1 + δ1)) (-((evg B.1 s1).1 + δ1))) q else go (nxt w) (pushI B (-2147483648) 2147483647) q)
theorem x_ineg_t (act : Act SSX TBL g CLS bl xs d p l s mm args meth c) (hG : G_ineg SSX TBL CLS ftX mdx d pc w) (hgo : ∀ pc A q, go pc A q = true → Good K Inv R0 hs0 m0 d.2.2.1 kcP ksP lnP σ0 (WN g p l e Rm s mm args below meth c Q d kc0 ks0) pc A q)  (h : x_ineg w A q go = true) : Good K Inv R0 hs0 m0 d.2.2.1 kcP ksP lnP σ0 (WN g p l e Rm s mm args below meth c Q d kc0 ks0) pc A q := by
  intro R σ L hs kc ks S hX hV k1 k2 k3
  obtain ⟨s1, δ1, B, x, S', h, rfl, hV1, l1, ex⟩ := pop1_t h hV
  clear hV
  have hV := hV1
  obtain ⟨a1, a2, -⟩ := hV.em _ l1
  refine g_ineg act hG rfl ?_
  cases h1 : decide (-2147483648 < (evg B.1 s1).1 + δ1) with
  | true =>
    rw [h1] at h
    have h1 := of_decide_eq_true h1
    have hr := i_rng x
    have en : (-x).toInt = -x.toInt := by rw [Int32.toInt_neg]; exact i_bm (by omega) (by omega)
    exact hgo _ _ _ h R _ L hs kc ks _ hX (hV.pushI (by omega) (by omega)) k1 k2 k3
  | false =>
    rw [h1] at h
    have hr := i_rng (-x)
    exact hgo _ _ _ h R _ L hs kc ks _ hX (hV.pushI (by omega) (by omega)) k1 k2 k3

def x_i2l (w : Nat) (A : ST) (q : Nat) (go : GO) : Bool := pop1 A (fun s1 δ1 B => go (nxt w) (pushL B ((evg B.1 s1).1 + δ1) ((evg B.1 s1).2.1 + δ1) (decide (0 < (evg B.1 s1).1 + δ1))) q)
theorem x_i2l_t (act : Act SSX TBL g CLS bl xs d p l s mm args meth c) (hG : G_i2l SSX TBL CLS ftX mdx d pc w) (hgo : ∀ pc A q, go pc A q = true → Good K Inv R0 hs0 m0 d.2.2.1 kcP ksP lnP σ0 (WN g p l e Rm s mm args below meth c Q d kc0 ks0) pc A q)  (h : x_i2l w A q go = true) : Good K Inv R0 hs0 m0 d.2.2.1 kcP ksP lnP σ0 (WN g p l e Rm s mm args below meth c Q d kc0 ks0) pc A q := by
  intro R σ L hs kc ks S hX hV k1 k2 k3
  obtain ⟨s1, δ1, B, x, S', h, rfl, hV1, l1, ex⟩ := pop1_t h hV
  clear hV
  have hV := hV1
  obtain ⟨a1, a2, -⟩ := hV.em _ l1
  refine g_i2l act hG rfl ?_
  have e := lw_i2l (x := x) rfl
  exact hgo _ _ _ h R _ L hs kc ks _ hX (hV.pushL (by omega) (by omega) (fun z => by have := of_decide_eq_true z; omega)) k1 k2 k3

def x_l2d (w : Nat) (A : ST) (q : Nat) (go : GO) : Bool := popL A (fun s1 B => go (nxt w) (pushA B (9, bif (evg B.1 s1).2.2 || (decide (0 < (evg B.1 s1).1) || decide ((evg B.1 s1).2.1 < 0)) then 2 else 3, 0, 0)) q)
theorem x_l2d_t (act : Act SSX TBL g CLS bl xs d p l s mm args meth c) (hG : G_l2d SSX TBL CLS ftX mdx d pc w) (hgo : ∀ pc A q, go pc A q = true → Good K Inv R0 hs0 m0 d.2.2.1 kcP ksP lnP σ0 (WN g p l e Rm s mm args below meth c Q d kc0 ks0) pc A q)  (h : x_l2d w A q go = true) : Good K Inv R0 hs0 m0 d.2.2.1 kcP ksP lnP σ0 (WN g p l e Rm s mm args below meth c Q d kc0 ks0) pc A q := by
  intro R σ L hs kc ks S hX hV k1 k2 k3
  obtain ⟨s1, B, x, S', h, rfl, hV1, l1, ex⟩ := popL_t h hV
  clear hV
  have hV := hV1
  obtain ⟨a1, a2, a3⟩ := hV.em _ l1
  refine g_l2d act hG rfl (hgo _ _ _ h R _ L hs kc ks _ hX (hV.pushA (VM.mk9 ?_)) k1 k2 k3)
  obtain ⟨sb, m, r, e1, e2⟩ := l2d_c x
  cases hz : (evg B.1 s1).2.2 || (decide (0 < (evg B.1 s1).1) || decide ((evg B.1 s1).2.1 < 0)) with
  | true =>
    refine ⟨fun z => absurd z (by decide), fun _ => ⟨sb, m, r, e1, e2 ?_⟩, fun z => absurd z (by decide)⟩
    simp only [Bool.or_eq_true, decide_eq_true_eq] at hz
    rcases hz with z | z | z
    · have := a3 z; omega
    · omega
    · omega
  | false => exact ⟨fun z => absurd z (by decide), fun z => absurd z (by decide), fun _ => ⟨sb, m, r, e1⟩⟩

def x_i2d (w : Nat) (A : ST) (q : Nat) (go : GO) : Bool := pop1 A (fun s1 δ1 B => go (nxt w) (pushA B (9, bif ((evg B.1 s1).2.2 && decide (δ1 = 0)) || (decide (0 < (evg B.1 s1).1 + δ1) || decide ((evg B.1 s1).2.1 + δ1 < 0)) then 2 else 3, 0, 0)) q)
theorem x_i2d_t (act : Act SSX TBL g CLS bl xs d p l s mm args meth c) (hG : G_i2d SSX TBL CLS ftX mdx d pc w) (hgo : ∀ pc A q, go pc A q = true → Good K Inv R0 hs0 m0 d.2.2.1 kcP ksP lnP σ0 (WN g p l e Rm s mm args below meth c Q d kc0 ks0) pc A q)  (h : x_i2d w A q go = true) : Good K Inv R0 hs0 m0 d.2.2.1 kcP ksP lnP σ0 (WN g p l e Rm s mm args below meth c Q d kc0 ks0) pc A q := by
  intro R σ L hs kc ks S hX hV k1 k2 k3
  obtain ⟨s1, δ1, B, x, S', h, rfl, hV1, l1, ex⟩ := pop1_t h hV
  clear hV
  have hV := hV1
  obtain ⟨a1, a2, a3⟩ := hV.em _ l1
  refine g_i2d act hG rfl (hgo _ _ _ h R _ L hs kc ks _ hX (hV.pushA (VM.mk9 ?_)) k1 k2 k3)
  obtain ⟨sb, m, r, e1, e2⟩ := i2d_c x
  cases hz : ((evg B.1 s1).2.2 && decide (δ1 = 0)) || (decide (0 < (evg B.1 s1).1 + δ1) || decide ((evg B.1 s1).2.1 + δ1 < 0)) with
  | true =>
    refine ⟨fun z => absurd z (by decide), fun _ => ⟨sb, m, r, e1, e2 ?_⟩, fun z => absurd z (by decide)⟩
    simp only [Bool.or_eq_true, Bool.and_eq_true, decide_eq_true_eq] at hz
    rcases hz with ⟨z, z2⟩ | z | z
    · have := a3 z; omega
    · omega
    · omega
  | false => exact ⟨fun z => absurd z (by decide), fun z => absurd z (by decide), fun _ => ⟨sb, m, r, e1⟩⟩

def x_ddiv (w : Nat) (A : ST) (q : Nat) (go : GO) : Bool := match A with
  | (E, Ls, a :: b :: St, Rg) => Nat.beq a.1 9 && (Nat.beq a.2.1 2 && (Nat.beq b.1 9 && ((Nat.beq b.2.1 1 || (Nat.beq b.2.1 2 || Nat.beq b.2.1 3)) && go (nxt w) (E, Ls, (9, 1, 0, 0) :: St, Rg) q)))
  | _ => false
theorem x_ddiv_t (act : Act SSX TBL g CLS bl xs d p l s mm args meth c) (hG : G_ddiv SSX TBL CLS ftX mdx d pc w) (hgo : ∀ pc A q, go pc A q = true → Good K Inv R0 hs0 m0 d.2.2.1 kcP ksP lnP σ0 (WN g p l e Rm s mm args below meth c Q d kc0 ks0) pc A q)  (h : x_ddiv w A q go = true) : Good K Inv R0 hs0 m0 d.2.2.1 kcP ksP lnP σ0 (WN g p l e Rm s mm args below meth c Q d kc0 ks0) pc A q := by
  unfold x_ddiv at h
  split at h
  · rename_i E Ls a b St Rg
    rw [Bool.and_eq_true, Bool.and_eq_true, Bool.and_eq_true, Bool.and_eq_true] at h
    obtain ⟨w1, w2, w3, w4, h⟩ := h
    intro R σ L hs kc ks S hX hV k1 k2 k3
    obtain ⟨v, S1, rfl, hv, hV1⟩ := hV.pop
    obtain ⟨v2, S2, rfl, hv2, hV2⟩ := hV1.pop
    obtain ⟨y, rfl, py⟩ := hv.dbl (Nat.eq_of_beq_eq_true w1)
    obtain ⟨x, rfl, px⟩ := hv2.dbl (Nat.eq_of_beq_eq_true w3)
    obtain ⟨sb, m, r, e1, e2⟩ := py.2.1 (Nat.eq_of_beq_eq_true w2)
    have hx : FP.Core.val64 x ≠ .nan := by
      simp only [Bool.or_eq_true] at w4
      rcases w4 with z | z | z
      · exact px.1 (Nat.eq_of_beq_eq_true z)
      · obtain ⟨s9, m9, r9, e9, -⟩ := px.2.1 (Nat.eq_of_beq_eq_true z)
        rw [e9]; exact FP.Core.Datum.noConfusion
      · obtain ⟨s9, m9, r9, e9⟩ := px.2.2 (Nat.eq_of_beq_eq_true z)
        rw [e9]; exact FP.Core.Datum.noConfusion
    have hn : FP.Core.val64 (FP.ddiv x y) ≠ .nan := by
      rw [show FP.ddiv x y = FP.Core.ddiv x y from rfl, FP.Core.val64_ddiv, e1]
      exact quo_nn hx e2
    exact g_ddiv act hG (nn64_of hn) rfl (hgo _ _ _ h R σ L hs kc ks _ hX (hV2.push (VM.mk9 ⟨fun _ => hn, fun z => absurd z (by decide), fun z => absurd z (by decide)⟩)) k1 k2 k3)
  · cases h

def x_i2b (w : Nat) (A : ST) (q : Nat) (go : GO) : Bool := pop1 A (fun s1 δ1 B => go (nxt w) (pushI B (-128) 127) q)
theorem x_i2b_t (act : Act SSX TBL g CLS bl xs d p l s mm args meth c) (hG : G_i2b SSX TBL CLS ftX mdx d pc w) (hgo : ∀ pc A q, go pc A q = true → Good K Inv R0 hs0 m0 d.2.2.1 kcP ksP lnP σ0 (WN g p l e Rm s mm args below meth c Q d kc0 ks0) pc A q)  (h : x_i2b w A q go = true) : Good K Inv R0 hs0 m0 d.2.2.1 kcP ksP lnP σ0 (WN g p l e Rm s mm args below meth c Q d kc0 ks0) pc A q := by
  intro R σ L hs kc ks S hX hV k1 k2 k3
  obtain ⟨s1, δ1, B, x, S', h, rfl, hV1, l1, ex⟩ := pop1_t h hV
  clear hV
  have hV := hV1
  obtain ⟨a1, a2, -⟩ := hV.em _ l1
  refine g_i2b act hG rfl ?_
  have e : (x.toInt8.toInt32).toInt = x.toInt8.toInt := Int8.toInt_toInt32 _
  have h8 := Int8.le_toInt x.toInt8
  have h9 := Int8.toInt_lt x.toInt8
  exact hgo _ _ _ h R _ L hs kc ks _ hX (hV.pushI (by rw [e]; omega) (by rw [e]; omega)) k1 k2 k3

def x_ladd (w : Nat) (A : ST) (q : Nat) (go : GO) : Bool := pop2L A (fun s1 s2 B => bif rngL ((evg B.1 s1).1 + (evg B.1 s2).1) ((evg B.1 s1).2.1 + (evg B.1 s2).2.1) then go (nxt w) (pushL B ((evg B.1 s1).1 + (evg B.1 s2).1) ((evg B.1 s1).2.1 + (evg B.1 s2).2.1) false) q else go (nxt w) (pushL B (-9223372036854775808) 9223372036854775807 false) q)
theorem x_ladd_t (act : Act SSX TBL g CLS bl xs d p l s mm args meth c) (hG : G_ladd SSX TBL CLS ftX mdx d pc w) (hgo : ∀ pc A q, go pc A q = true → Good K Inv R0 hs0 m0 d.2.2.1 kcP ksP lnP σ0 (WN g p l e Rm s mm args below meth c Q d kc0 ks0) pc A q)  (h : x_ladd w A q go = true) : Good K Inv R0 hs0 m0 d.2.2.1 kcP ksP lnP σ0 (WN g p l e Rm s mm args below meth c Q d kc0 ks0) pc A q := by
  intro R σ L hs kc ks S hX hV k1 k2 k3
  obtain ⟨s1, s2, B, x, y, S', h, rfl, hV1, l1, l2, ex, ey⟩ := pop2L_t h hV
  clear hV
  have hV := hV1
  obtain ⟨a1, a2, a3⟩ := hV.em _ l1
  obtain ⟨b1, b2, b3⟩ := hV.em _ l2
  refine g_ladd act hG rfl ?_
  cases h1 : rngL ((evg B.1 s1).1 + (evg B.1 s2).1) ((evg B.1 s1).2.1 + (evg B.1 s2).2.1) with
  | true =>
    rw [h1] at h
    have h1 := rngL_t h1
    have ez : (x + y).toInt = x.toInt + y.toInt := l_add (by omega) (by omega)
    exact hgo _ _ _ h R _ L hs kc ks _ hX (hV.pushL (by omega) (by omega) (fun z => by cases z)) k1 k2 k3
  | false =>
    rw [h1] at h
    have hr := l_rng (x + y)
    exact hgo _ _ _ h R _ L hs kc ks _ hX (hV.pushL (by omega) (by omega) (fun z => by cases z)) k1 k2 k3

def x_lsub (w : Nat) (A : ST) (q : Nat) (go : GO) : Bool := pop2L A (fun s1 s2 B => bif rngL ((evg B.1 s1).1 - (evg B.1 s2).2.1) ((evg B.1 s1).2.1 - (evg B.1 s2).1) then go (nxt w) (pushL B ((evg B.1 s1).1 - (evg B.1 s2).2.1) ((evg B.1 s1).2.1 - (evg B.1 s2).1) false) q else go (nxt w) (pushL B (-9223372036854775808) 9223372036854775807 false) q)
theorem x_lsub_t (act : Act SSX TBL g CLS bl xs d p l s mm args meth c) (hG : G_lsub SSX TBL CLS ftX mdx d pc w) (hgo : ∀ pc A q, go pc A q = true → Good K Inv R0 hs0 m0 d.2.2.1 kcP ksP lnP σ0 (WN g p l e Rm s mm args below meth c Q d kc0 ks0) pc A q)  (h : x_lsub w A q go = true) : Good K Inv R0 hs0 m0 d.2.2.1 kcP ksP lnP σ0 (WN g p l e Rm s mm args below meth c Q d kc0 ks0) pc A q := by
  intro R σ L hs kc ks S hX hV k1 k2 k3
  obtain ⟨s1, s2, B, x, y, S', h, rfl, hV1, l1, l2, ex, ey⟩ := pop2L_t h hV
  clear hV
  have hV := hV1
  obtain ⟨a1, a2, a3⟩ := hV.em _ l1
  obtain ⟨b1, b2, b3⟩ := hV.em _ l2
  refine g_lsub act hG rfl ?_
  cases h1 : rngL ((evg B.1 s1).1 - (evg B.1 s2).2.1) ((evg B.1 s1).2.1 - (evg B.1 s2).1) with
  | true =>
    rw [h1] at h
    have h1 := rngL_t h1
    have ez : (x - y).toInt = x.toInt - y.toInt := l_sub (by omega) (by omega)
    exact hgo _ _ _ h R _ L hs kc ks _ hX (hV.pushL (by omega) (by omega) (fun z => by cases z)) k1 k2 k3
  | false =>
    rw [h1] at h
    have hr := l_rng (x - y)
    exact hgo _ _ _ h R _ L hs kc ks _ hX (hV.pushL (by omega) (by omega) (fun z => by cases z)) k1 k2 k3

def x_lmul (w : Nat) (A : ST) (q : Nat) (go : GO) : Bool := pop2L A (fun s1 s2 B => go (nxt w) (pushL B (-9223372036854775808) 9223372036854775807 false) q)
theorem x_lmul_t (act : Act SSX TBL g CLS bl xs d p l s mm args meth c) (hG : G_lmul SSX TBL CLS ftX mdx d pc w) (hgo : ∀ pc A q, go pc A q = true → Good K Inv R0 hs0 m0 d.2.2.1 kcP ksP lnP σ0 (WN g p l e Rm s mm args below meth c Q d kc0 ks0) pc A q)  (h : x_lmul w A q go = true) : Good K Inv R0 hs0 m0 d.2.2.1 kcP ksP lnP σ0 (WN g p l e Rm s mm args below meth c Q d kc0 ks0) pc A q := by
  intro R σ L hs kc ks S hX hV k1 k2 k3
  obtain ⟨s1, s2, B, x, y, S', h, rfl, hV1, l1, l2, ex, ey⟩ := pop2L_t h hV
  clear hV
  have hV := hV1
  obtain ⟨a1, a2, a3⟩ := hV.em _ l1
  obtain ⟨b1, b2, b3⟩ := hV.em _ l2
  refine g_lmul act hG rfl ?_
  have hr := l_rng (x * y)
  exact hgo _ _ _ h R _ L hs kc ks _ hX (hV.pushL (by omega) (by omega) (fun z => by cases z)) k1 k2 k3

def x_ldiv (w : Nat) (A : ST) (q : Nat) (go : GO) : Bool := pop2L A (fun s1 s2 B => ((evg B.1 s2).2.2 || (decide (0 < (evg B.1 s2).1) || decide ((evg B.1 s2).2.1 < 0))) && go (nxt w) (pushL B (-9223372036854775808) 9223372036854775807 false) q)
theorem x_ldiv_t (act : Act SSX TBL g CLS bl xs d p l s mm args meth c) (hG : G_ldiv SSX TBL CLS ftX mdx d pc w) (hgo : ∀ pc A q, go pc A q = true → Good K Inv R0 hs0 m0 d.2.2.1 kcP ksP lnP σ0 (WN g p l e Rm s mm args below meth c Q d kc0 ks0) pc A q)  (h : x_ldiv w A q go = true) : Good K Inv R0 hs0 m0 d.2.2.1 kcP ksP lnP σ0 (WN g p l e Rm s mm args below meth c Q d kc0 ks0) pc A q := by
  intro R σ L hs kc ks S hX hV k1 k2 k3
  obtain ⟨s1, s2, B, x, y, S', h, rfl, hV1, l1, l2, ex, ey⟩ := pop2L_t h hV
  clear hV
  have hV := hV1
  obtain ⟨a1, a2, a3⟩ := hV.em _ l1
  obtain ⟨b1, b2, b3⟩ := hV.em _ l2
  rw [Bool.and_eq_true, Bool.or_eq_true, Bool.or_eq_true] at h
  obtain ⟨hz, h⟩ := h
  have hy : ¬ y = 0 := by
    intro z
    have z0 : y.toInt = 0 := by rw [z]; decide
    rcases hz with u | u | u
    · exact b3 u (by omega)
    · have := of_decide_eq_true u; omega
    · have := of_decide_eq_true u; omega
  refine g_ldiv act hG hy rfl ?_
  have hr := l_rng (x / y)
  exact hgo _ _ _ h R _ L hs kc ks _ hX (hV.pushL (by omega) (by omega) (fun z => by cases z)) k1 k2 k3

def x_lrem (w : Nat) (A : ST) (q : Nat) (go : GO) : Bool := pop2L A (fun s1 s2 B => ((evg B.1 s2).2.2 || (decide (0 < (evg B.1 s2).1) || decide ((evg B.1 s2).2.1 < 0))) && go (nxt w) (pushL B (-9223372036854775808) 9223372036854775807 false) q)
theorem x_lrem_t (act : Act SSX TBL g CLS bl xs d p l s mm args meth c) (hG : G_lrem SSX TBL CLS ftX mdx d pc w) (hgo : ∀ pc A q, go pc A q = true → Good K Inv R0 hs0 m0 d.2.2.1 kcP ksP lnP σ0 (WN g p l e Rm s mm args below meth c Q d kc0 ks0) pc A q)  (h : x_lrem w A q go = true) : Good K Inv R0 hs0 m0 d.2.2.1 kcP ksP lnP σ0 (WN g p l e Rm s mm args below meth c Q d kc0 ks0) pc A q := by
  intro R σ L hs kc ks S hX hV k1 k2 k3
  obtain ⟨s1, s2, B, x, y, S', h, rfl, hV1, l1, l2, ex, ey⟩ := pop2L_t h hV
  clear hV
  have hV := hV1
  obtain ⟨a1, a2, a3⟩ := hV.em _ l1
  obtain ⟨b1, b2, b3⟩ := hV.em _ l2
  rw [Bool.and_eq_true, Bool.or_eq_true, Bool.or_eq_true] at h
  obtain ⟨hz, h⟩ := h
  have hy : ¬ y = 0 := by
    intro z
    have z0 : y.toInt = 0 := by rw [z]; decide
    rcases hz with u | u | u
    · exact b3 u (by omega)
    · have := of_decide_eq_true u; omega
    · have := of_decide_eq_true u; omega
  refine g_lrem act hG hy rfl ?_
  have hr := l_rng (x - x / y * y)
  exact hgo _ _ _ h R _ L hs kc ks _ hX (hV.pushL (by omega) (by omega) (fun z => by cases z)) k1 k2 k3

def x_lneg (w : Nat) (A : ST) (q : Nat) (go : GO) : Bool := popL A (fun s1 B => bif decide (-9223372036854775808 < (evg B.1 s1).1) then go (nxt w) (pushL B (-(evg B.1 s1).2.1) (-(evg B.1 s1).1) (evg B.1 s1).2.2) q else go (nxt w) (pushL B (-9223372036854775808) 9223372036854775807 ((evg B.1 s1).2.2 || decide ((evg B.1 s1).2.1 < 0))) q)
theorem x_lneg_t (act : Act SSX TBL g CLS bl xs d p l s mm args meth c) (hG : G_lneg SSX TBL CLS ftX mdx d pc w) (hgo : ∀ pc A q, go pc A q = true → Good K Inv R0 hs0 m0 d.2.2.1 kcP ksP lnP σ0 (WN g p l e Rm s mm args below meth c Q d kc0 ks0) pc A q)  (h : x_lneg w A q go = true) : Good K Inv R0 hs0 m0 d.2.2.1 kcP ksP lnP σ0 (WN g p l e Rm s mm args below meth c Q d kc0 ks0) pc A q := by
  intro R σ L hs kc ks S hX hV k1 k2 k3
  obtain ⟨s1, B, x, S', h, rfl, hV1, l1, ex⟩ := popL_t h hV
  clear hV
  have hV := hV1
  obtain ⟨a1, a2, a3⟩ := hV.em _ l1
  refine g_lneg act hG rfl ?_
  cases h1 : decide (-9223372036854775808 < (evg B.1 s1).1) with
  | true =>
    rw [h1] at h
    have h1 := of_decide_eq_true h1
    have en : (-x).toInt = -x.toInt := l_neg (by omega)
    exact hgo _ _ _ h R _ L hs kc ks _ hX (hV.pushL (by omega) (by omega) (fun z => by have := a3 z; omega)) k1 k2 k3
  | false =>
    rw [h1] at h
    have hr := l_rng (-x)
    exact hgo _ _ _ h R _ L hs kc ks _ hX (hV.pushL (by omega) (by omega) (fun z => by
      have hx : x.toInt ≠ 0 := by
        rcases Bool.or_eq_true _ _ ▸ z with z | z
        · have := a3 z; omega
        · have := of_decide_eq_true z; omega
      have := l_negA x
      omega)) k1 k2 k3

def x_lcmp (w : Nat) (A : ST) (q : Nat) (go : GO) : Bool := pop2L A (fun s1 s2 B => go (nxt w) (pushA B (6, s1, s2, 0)) q)
theorem x_lcmp_t (act : Act SSX TBL g CLS bl xs d p l s mm args meth c) (hG : G_lcmp SSX TBL CLS ftX mdx d pc w) (hgo : ∀ pc A q, go pc A q = true → Good K Inv R0 hs0 m0 d.2.2.1 kcP ksP lnP σ0 (WN g p l e Rm s mm args below meth c Q d kc0 ks0) pc A q)  (h : x_lcmp w A q go = true) : Good K Inv R0 hs0 m0 d.2.2.1 kcP ksP lnP σ0 (WN g p l e Rm s mm args below meth c Q d kc0 ks0) pc A q := by
  intro R σ L hs kc ks S hX hV k1 k2 k3
  obtain ⟨s1, s2, B, x, y, S', h, rfl, hV1, l1, l2, ex, ey⟩ := pop2L_t h hV
  clear hV
  have hV := hV1
  obtain ⟨a1, a2, a3⟩ := hV.em _ l1
  obtain ⟨b1, b2, b3⟩ := hV.em _ l2
  refine g_lcmp act hG rfl ?_
  refine hgo _ _ _ h R σ L hs kc ks _ hX (hV.pushA (Or.inr (Or.inr (Or.inr (Or.inr (Or.inr (Or.inr (Or.inl ⟨rfl, _, rfl, l1, l2, ?_, ?_⟩)))))))) k1 k2 k3
  · show _ ↔ σ s1 < σ s2
    rw [cmpLt, ex, ey]
  · show _ ↔ σ s1 = σ s2
    rw [cmpEq, ex, ey]

end OPS1

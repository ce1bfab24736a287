/-! Reading and writing cells by their places. -/
def rd (hs : List CE) (k j : Nat) : Value := match hs[k]? with
  | some c => c.2.2 j
  | none => .null
/-- kind and length of a cell -/
def shp (hs : List CE) (k : Nat) : Option (Nat × Nat) := hs[k]?.map (fun c => (c.1, c.2.1))
def wr (hs : List CE) (k j : Nat) (v : Value) : List CE := match hs[k]? with
  | some c => hs.set k (c.1, c.2.1, upV c.2.2 j v)
  | none => hs
theorem shp_at {hs : List CE} {k c N : Nat} (h : shp hs k = some (c, N)) : hs[k]? = some (c, N, rd hs k) := by
  unfold shp at h
  rw [Option.map_eq_some_iff] at h
  obtain ⟨⟨a, b, f⟩, h1, h2⟩ := h
  cases h2
  rw [h1]
  congr 3
  funext j
  unfold rd
  rw [h1]
theorem wr_at {hs : List CE} {k c N j : Nat} {v : Value} (h : shp hs k = some (c, N)) : wr hs k j v = hs.set k (c, N, upV (rd hs k) j v) := by
  unfold wr
  rw [shp_at h]
theorem shp_lt {hs : List CE} {k c N : Nat} (h : shp hs k = some (c, N)) : k < hs.length := (List.getElem?_eq_some_iff.mp (shp_at h)).1
theorem wr_len (hs : List CE) (k j : Nat) (v : Value) : (wr hs k j v).length = hs.length := by
  unfold wr
  split
  · rw [List.length_set]
  · rfl
theorem shp_wr (hs : List CE) (k j k2 : Nat) (v : Value) : shp (wr hs k j v) k2 = shp hs k2 := by
  unfold wr
  cases h : hs[k]? with
  | none => rfl
  | some c =>
    show ((hs.set k (c.1, c.2.1, upV c.2.2 j v))[k2]?).map _ = (hs[k2]?).map _
    by_cases q : k = k2
    · subst q
      rw [List.getElem?_set_self (List.getElem?_eq_some_iff.mp h).1, h]
      rfl
    · rw [List.getElem?_set_ne q]
theorem rd_same {hs : List CE} {k c N j : Nat} {v : Value} (h : shp hs k = some (c, N)) : rd (wr hs k j v) k j = v := by
  rw [wr_at h]
  have e1 : (hs.set k (c, N, upV (rd hs k) j v))[k]? = some (c, N, upV (rd hs k) j v) := List.getElem?_set_self (shp_lt h)
  have e2 : rd (hs.set k (c, N, upV (rd hs k) j v)) k j = upV (rd hs k) j v j := by
    generalize upV (rd hs k) j v = f at e1 ⊢
    unfold rd
    rw [e1]
  rw [e2]
  exact upV_same _ _ _
theorem rd_ne (hs : List CE) {k j k2 j2 : Nat} (v : Value) (h : k2 ≠ k ∨ j2 ≠ j) : rd (wr hs k j v) k2 j2 = rd hs k2 j2 := by
  unfold wr
  cases hq : hs[k]? with
  | none => rfl
  | some c =>
    show rd (hs.set k (c.1, c.2.1, upV c.2.2 j v)) k2 j2 = rd hs k2 j2
    unfold rd
    by_cases q : k = k2
    · subst q
      rw [List.getElem?_set_self (List.getElem?_eq_some_iff.mp hq).1, hq]
      show upV c.2.2 j v j2 = c.2.2 j2
      rcases h with h | h
      · exact absurd rfl h
      · exact upV_ne _ _ h
    · rw [List.getElem?_set_ne q]
theorem rd_if {hs : List CE} {k c N j k2 j2 : Nat} {v : Value} (h : shp hs k = some (c, N)) : rd (wr hs k j v) k2 j2 = if k2 = k ∧ j2 = j then v else rd hs k2 j2 := by
  by_cases q : k2 = k ∧ j2 = j
  · obtain ⟨rfl, rfl⟩ := q
    rw [if_pos ⟨rfl, rfl⟩]
    exact rd_same h
  · rw [if_neg q]
    exact rd_ne hs v (by
      by_cases q1 : k2 = k
      · exact Or.inr (fun q2 => q ⟨q1, q2⟩)
      · exact Or.inl q1)
section RROWS
variable {ss : SS} {TBL : List Cond} {g : GG} {cl : List vw_C} {ft : Nat → Nat → Nat} {mdl : Nat → Option MD} {bl : Nat} {xs : Nat → Int32} {d : MD} {p : Program} {l : Launch} {e : Env} {R : Room} {s : State} {m : MethodId} {args : Array Value} {below : List Frame} {meth : Method} {c : Code} {Q : State → Prop} {kc0 ks0 pc n w : Nat} {L : LN} {hs : List CE} {kc ks : Nat} {S : List Value}
theorem r_getf (act : Act ss TBL g cl bl xs d p l s m args meth c) (hG : G_getf ss TBL cl ft mdl d pc w) {k ci j N : Nat} {v : Value} (hc : fa w % 64 = ci) (hj : fa w / 64 = j) (hn : nxt w = n) (hk : shp hs k = some (ci, N)) (hjN : j < N) (hv : rd hs k j = v) (K : WpN g cl p l e R s m args below meth c Q d.2.2.1 kc0 ks0 n L (hs, kc, ks) (v :: S)) : WpN g cl p l e R s m args below meth c Q d.2.2.1 kc0 ks0 pc L (hs, kc, ks) (.ref k :: S) := g_getf act hG hc hj hn (shp_at hk) hjN (by rw [hv]; exact K)
theorem r_putf (act : Act ss TBL g cl bl xs d p l s m args meth c) (hG : G_putf ss TBL cl ft mdl d pc w) {k ci j N : Nat} {v : Value} (hc : fa w % 64 = ci) (hj : fa w / 64 = j) (hn : nxt w = n) (hk : shp hs k = some (ci, N)) (hjN : j < N) (hf : fitV (fb w) v) (K : WpN g cl p l e R s m args below meth c Q d.2.2.1 kc0 ks0 n L (wr hs k j v, kc, ks) S) : WpN g cl p l e R s m args below meth c Q d.2.2.1 kc0 ks0 pc L (hs, kc, ks) (v :: .ref k :: S) := g_putf act hG hc hj hn (shp_at hk) hjN hf (by rw [wr_at hk] at K; exact K)
theorem r_iald (act : Act ss TBL g cl bl xs d p l s m args meth c) (hG : G_iald ss TBL cl ft mdl d pc w) {k N j : Nat} {i : Int32} {v : Value} (hn : nxt w = n) (hk : shp hs k = some (32, N)) (hi : i.toInt = (j : Int)) (hjN : j < N) (hv : rd hs k j = v) (K : WpN g cl p l e R s m args below meth c Q d.2.2.1 kc0 ks0 n L (hs, kc, ks) (v :: S)) : WpN g cl p l e R s m args below meth c Q d.2.2.1 kc0 ks0 pc L (hs, kc, ks) (.int i :: .ref k :: S) := g_iald act hG hn (shp_at hk) (by omega) (by omega) (by rw [show i.toInt.toNat = j by omega, hv]; exact K)
theorem r_lald (act : Act ss TBL g cl bl xs d p l s m args meth c) (hG : G_lald ss TBL cl ft mdl d pc w) {k N j : Nat} {i : Int32} {v : Value} (hn : nxt w = n) (hk : shp hs k = some (33, N)) (hi : i.toInt = (j : Int)) (hjN : j < N) (hv : rd hs k j = v) (K : WpN g cl p l e R s m args below meth c Q d.2.2.1 kc0 ks0 n L (hs, kc, ks) (v :: S)) : WpN g cl p l e R s m args below meth c Q d.2.2.1 kc0 ks0 pc L (hs, kc, ks) (.int i :: .ref k :: S) := g_lald act hG hn (shp_at hk) (by omega) (by omega) (by rw [show i.toInt.toNat = j by omega, hv]; exact K)
theorem r_bald (act : Act ss TBL g cl bl xs d p l s m args meth c) (hG : G_bald ss TBL cl ft mdl d pc w) {k N j : Nat} {i : Int32} {v : Value} (hn : nxt w = n) (hk : shp hs k = some (34, N)) (hi : i.toInt = (j : Int)) (hjN : j < N) (hv : rd hs k j = v) (K : WpN g cl p l e R s m args below meth c Q d.2.2.1 kc0 ks0 n L (hs, kc, ks) (v :: S)) : WpN g cl p l e R s m args below meth c Q d.2.2.1 kc0 ks0 pc L (hs, kc, ks) (.int i :: .ref k :: S) := g_bald act hG hn (shp_at hk) (by omega) (by omega) (by rw [show i.toInt.toNat = j by omega, hv]; exact K)
theorem r_zald (act : Act ss TBL g cl bl xs d p l s m args meth c) (hG : G_bald ss TBL cl ft mdl d pc w) {k N j : Nat} {i : Int32} {v : Value} (hn : nxt w = n) (hk : shp hs k = some (35, N)) (hi : i.toInt = (j : Int)) (hjN : j < N) (hv : rd hs k j = v) (K : WpN g cl p l e R s m args below meth c Q d.2.2.1 kc0 ks0 n L (hs, kc, ks) (v :: S)) : WpN g cl p l e R s m args below meth c Q d.2.2.1 kc0 ks0 pc L (hs, kc, ks) (.int i :: .ref k :: S) := g_zald act hG hn (shp_at hk) (by omega) (by omega) (by rw [show i.toInt.toNat = j by omega, hv]; exact K)
theorem r_aald (act : Act ss TBL g cl bl xs d p l s m args meth c) (hG : G_aald ss TBL cl ft mdl d pc w) {k N j c9 : Nat} {i : Int32} {v : Value} (hn : nxt w = n) (hk : shp hs k = some (c9, N)) (h37 : 37 ≤ c9) (hi : i.toInt = (j : Int)) (hjN : j < N) (hv : rd hs k j = v) (K : WpN g cl p l e R s m args below meth c Q d.2.2.1 kc0 ks0 n L (hs, kc, ks) (v :: S)) : WpN g cl p l e R s m args below meth c Q d.2.2.1 kc0 ks0 pc L (hs, kc, ks) (.int i :: .ref k :: S) := g_aald act hG hn (shp_at hk) h37 (by omega) (by omega) (by rw [show i.toInt.toNat = j by omega, hv]; exact K)
theorem r_iast (act : Act ss TBL g cl bl xs d p l s m args meth c) (hG : G_iast ss TBL cl ft mdl d pc w) {k N j : Nat} {i : Int32} {x : Int32} (hn : nxt w = n) (hk : shp hs k = some (32, N)) (hi : i.toInt = (j : Int)) (hjN : j < N) (K : WpN g cl p l e R s m args below meth c Q d.2.2.1 kc0 ks0 n L (wr hs k j (.int x), kc, ks) S) : WpN g cl p l e R s m args below meth c Q d.2.2.1 kc0 ks0 pc L (hs, kc, ks) (.int x :: .int i :: .ref k :: S) := g_iast act hG hn (shp_at hk) (by omega) (by omega) (by rw [wr_at hk] at K; rw [show i.toInt.toNat = j by omega]; exact K)
theorem r_last (act : Act ss TBL g cl bl xs d p l s m args meth c) (hG : G_last ss TBL cl ft mdl d pc w) {k N j : Nat} {i : Int32} {x : Int64} (hn : nxt w = n) (hk : shp hs k = some (33, N)) (hi : i.toInt = (j : Int)) (hjN : j < N) (K : WpN g cl p l e R s m args below meth c Q d.2.2.1 kc0 ks0 n L (wr hs k j (.long x), kc, ks) S) : WpN g cl p l e R s m args below meth c Q d.2.2.1 kc0 ks0 pc L (hs, kc, ks) (.long x :: .int i :: .ref k :: S) := g_last act hG hn (shp_at hk) (by omega) (by omega) (by rw [wr_at hk] at K; rw [show i.toInt.toNat = j by omega]; exact K)
theorem r_bast (act : Act ss TBL g cl bl xs d p l s m args meth c) (hG : G_bast ss TBL cl ft mdl d pc w) {k N j : Nat} {i : Int32} {x : Int32} (hn : nxt w = n) (hk : shp hs k = some (34, N)) (hi : i.toInt = (j : Int)) (hjN : j < N) (K : WpN g cl p l e R s m args below meth c Q d.2.2.1 kc0 ks0 n L (wr hs k j (.int (vp_nar .byte x)), kc, ks) S) : WpN g cl p l e R s m args below meth c Q d.2.2.1 kc0 ks0 pc L (hs, kc, ks) (.int x :: .int i :: .ref k :: S) := g_bast act hG hn (shp_at hk) (by omega) (by omega) (by rw [wr_at hk] at K; rw [show i.toInt.toNat = j by omega]; exact K)
theorem r_zast (act : Act ss TBL g cl bl xs d p l s m args meth c) (hG : G_bast ss TBL cl ft mdl d pc w) {k N j : Nat} {i : Int32} {x : Int32} (hn : nxt w = n) (hk : shp hs k = some (35, N)) (hi : i.toInt = (j : Int)) (hjN : j < N) (K : WpN g cl p l e R s m args below meth c Q d.2.2.1 kc0 ks0 n L (wr hs k j (.int (vp_nar .boolean x)), kc, ks) S) : WpN g cl p l e R s m args below meth c Q d.2.2.1 kc0 ks0 pc L (hs, kc, ks) (.int x :: .int i :: .ref k :: S) := g_zast act hG hn (shp_at hk) (by omega) (by omega) (by rw [wr_at hk] at K; rw [show i.toInt.toNat = j by omega]; exact K)
theorem r_alen (act : Act ss TBL g cl bl xs d p l s m args meth c) (hG : G_alen ss TBL cl ft mdl d pc w) {k N c9 : Nat} (hn : nxt w = n) (hk : shp hs k = some (c9, N)) (h32 : 32 ≤ c9) (K : WpN g cl p l e R s m args below meth c Q d.2.2.1 kc0 ks0 n L (hs, kc, ks) (.int (Int32.ofNat N) :: S)) : WpN g cl p l e R s m args below meth c Q d.2.2.1 kc0 ks0 pc L (hs, kc, ks) (.ref k :: S) := g_alen act hG hn (shp_at hk) h32 K
theorem r_aastN (act : Act ss TBL g cl bl xs d p l s m args meth c) (hG : G_aast ss TBL cl ft mdl d pc w) {k N j c9 : Nat} {i : Int32} (hn : nxt w = n) (hk : shp hs k = some (c9, N)) (h39 : 39 ≤ c9) (hi : i.toInt = (j : Int)) (hjN : j < N) (K : WpN g cl p l e R s m args below meth c Q d.2.2.1 kc0 ks0 n L (wr hs k j .null, kc, ks) S) : WpN g cl p l e R s m args below meth c Q d.2.2.1 kc0 ks0 pc L (hs, kc, ks) (.null :: .int i :: .ref k :: S) := n_aastN act hG.1 (shp_at hk) h39 (by omega) (by omega) (hG.2.1.symm.trans hn) (by rw [wr_at hk] at K; rw [show i.toInt.toNat = j by omega]; exact K)
theorem r_aastR (act : Act ss TBL g cl bl xs d p l s m args meth c) (hG : G_aast ss TBL cl ft mdl d pc w) {k N j c9 k2 c2 N2 : Nat} {i : Int32} (hn : nxt w = n) (hk : shp hs k = some (c9, N)) (hk2 : shp hs k2 = some (c2, N2)) (hcc : (c9 = 39 ∧ c2 = 8) ∨ (c9 = 40 ∧ c2 = 3) ∨ (c9 = 41 ∧ c2 = 2)) (hi : i.toInt = (j : Int)) (hjN : j < N) (K : WpN g cl p l e R s m args below meth c Q d.2.2.1 kc0 ks0 n L (wr hs k j (.ref k2), kc, ks) S) : WpN g cl p l e R s m args below meth c Q d.2.2.1 kc0 ks0 pc L (hs, kc, ks) (.ref k2 :: .int i :: .ref k :: S) := n_aastR act hG (shp_at hk) (shp_at hk2) hcc (by omega) (by omega) (hG.2.1.symm.trans hn) (by rw [wr_at hk] at K; rw [show i.toInt.toNat = j by omega]; exact K)
end RROWS
/-! Ints and longs as numbers. -/
theorem i0 : (0 : Int32).toInt = 0 := by decide
theorem l0 : (0 : Int64).toInt = 0 := by decide
theorem i_rng (x : Int32) : -2147483648 ≤ x.toInt ∧ x.toInt < 2147483648 := ⟨Int32.le_toInt x, Int32.toInt_lt x⟩
theorem l_rng (x : Int64) : -9223372036854775808 ≤ x.toInt ∧ x.toInt < 9223372036854775808 := ⟨Int64.le_toInt x, Int64.toInt_lt x⟩
theorem i_bm {z : Int} (h1 : -2147483648 ≤ z) (h2 : z < 2147483648) : z.bmod (2 ^ 32) = z := Int.bmod_eq_of_le (by omega) (by omega)
theorem l_bm {z : Int} (h1 : -9223372036854775808 ≤ z) (h2 : z < 9223372036854775808) : z.bmod (2 ^ 64) = z := Int.bmod_eq_of_le (by omega) (by omega)
theorem i_add {x y : Int32} (h1 : -2147483648 ≤ x.toInt + y.toInt) (h2 : x.toInt + y.toInt < 2147483648) : (x + y).toInt = x.toInt + y.toInt := by rw [Int32.toInt_add]; exact i_bm h1 h2
theorem i_sub {x y : Int32} (h1 : -2147483648 ≤ x.toInt - y.toInt) (h2 : x.toInt - y.toInt < 2147483648) : (x - y).toInt = x.toInt - y.toInt := by rw [Int32.toInt_sub]; exact i_bm h1 h2
theorem i_mul {x y : Int32} (h1 : -2147483648 ≤ x.toInt * y.toInt) (h2 : x.toInt * y.toInt < 2147483648) : (x * y).toInt = x.toInt * y.toInt := by rw [Int32.toInt_mul]; exact i_bm h1 h2
theorem l_add {x y : Int64} (h1 : -9223372036854775808 ≤ x.toInt + y.toInt) (h2 : x.toInt + y.toInt < 9223372036854775808) : (x + y).toInt = x.toInt + y.toInt := by rw [Int64.toInt_add]; exact l_bm h1 h2
theorem l_sub {x y : Int64} (h1 : -9223372036854775808 ≤ x.toInt - y.toInt) (h2 : x.toInt - y.toInt < 9223372036854775808) : (x - y).toInt = x.toInt - y.toInt := by rw [Int64.toInt_sub]; exact l_bm h1 h2
theorem l_mul {x y : Int64} (h1 : -9223372036854775808 ≤ x.toInt * y.toInt) (h2 : x.toInt * y.toInt < 9223372036854775808) : (x * y).toInt = x.toInt * y.toInt := by rw [Int64.toInt_mul]; exact l_bm h1 h2
theorem l_neg {x : Int64} (h : -9223372036854775808 < x.toInt) : (-x).toInt = -x.toInt := by
  rw [Int64.toInt_neg]
  have := l_rng x
  exact l_bm (by omega) (by omega)
theorem l_div {x y : Int64} (h : 0 < y.toInt) : (x / y).toInt = x.toInt.tdiv y.toInt := by
  rw [Int64.toInt_div]
  have h1 := l_rng x
  refine l_bm ?_ ?_
  · rcases Int.le_total 0 x.toInt with q | q
    · have := Int.tdiv_nonneg q (Int.le_of_lt h); omega
    · have e : x.toInt.tdiv y.toInt = -((-x.toInt).tdiv y.toInt) := by rw [Int.neg_tdiv]; omega
      have := Int.tdiv_le_self (b := y.toInt) (a := -x.toInt) (by omega)
      omega
  · rcases Int.le_total 0 x.toInt with q | q
    · have := Int.tdiv_le_self (b := y.toInt) q
      omega
    · have e : x.toInt.tdiv y.toInt = -((-x.toInt).tdiv y.toInt) := by rw [Int.neg_tdiv]; omega
      have := Int.tdiv_nonneg (a := -x.toInt) (b := y.toInt) (by omega) (Int.le_of_lt h)
      omega
theorem l_ne {x y : Int64} : x.toInt ≠ y.toInt ↔ ¬ x = y := by
  rw [Ne, Int64.toInt_inj]
theorem l_cmp {x y : Int64} : (lg_cmp x y = 0 ↔ x.toInt = y.toInt) ∧ (lg_cmp x y < 0 ↔ x.toInt < y.toInt) ∧ (0 ≤ lg_cmp x y ↔ y.toInt ≤ x.toInt) ∧ (0 < lg_cmp x y ↔ y.toInt < x.toInt) ∧ (lg_cmp x y ≤ 0 ↔ x.toInt ≤ y.toInt) := by
  unfold lg_cmp
  have e := @Int64.toInt_inj x y
  have lt := @Int64.lt_iff_toInt_lt y x
  by_cases h1 : y < x
  · rw [if_pos h1]
    have := lt.mp h1
    refine ⟨⟨fun q => absurd q (by decide), fun q => by omega⟩, ⟨fun q => absurd q (by decide), fun q => by omega⟩, ⟨fun _ => by omega, fun _ => by decide⟩, ⟨fun _ => this, fun _ => by decide⟩, ⟨fun q => absurd q (by decide), fun q => by omega⟩⟩
  · rw [if_neg h1]
    have h1' : ¬ y.toInt < x.toInt := fun q => h1 (lt.mpr q)
    by_cases h2 : x = y
    · rw [if_pos h2]
      have := e.mpr h2
      refine ⟨⟨fun _ => this, fun _ => rfl⟩, ⟨fun q => absurd q (by decide), fun q => by omega⟩, ⟨fun _ => by omega, fun _ => by decide⟩, ⟨fun q => absurd q (by decide), fun q => by omega⟩, ⟨fun _ => by omega, fun _ => by decide⟩⟩
    · rw [if_neg h2]
      have h2' : ¬ x.toInt = y.toInt := fun q => h2 (e.mp q)
      refine ⟨⟨fun q => absurd q (by decide), fun q => absurd q h2'⟩, ⟨fun _ => by omega, fun _ => by decide⟩, ⟨fun q => absurd q (by decide), fun q => by omega⟩, ⟨fun q => absurd q (by decide), fun q => by omega⟩, ⟨fun _ => by omega, fun _ => by decide⟩⟩
theorem cmpEq {x y : Int64} : lg_cmp x y = 0 ↔ x.toInt = y.toInt := l_cmp.1
theorem cmpLt {x y : Int64} : lg_cmp x y < 0 ↔ x.toInt < y.toInt := l_cmp.2.1
theorem cmpGe {x y : Int64} : 0 ≤ lg_cmp x y ↔ y.toInt ≤ x.toInt := l_cmp.2.2.1
theorem cmpGt {x y : Int64} : 0 < lg_cmp x y ↔ y.toInt < x.toInt := l_cmp.2.2.2.1
theorem cmpLe {x y : Int64} : lg_cmp x y ≤ 0 ↔ x.toInt ≤ y.toInt := l_cmp.2.2.2.2
theorem i_lt {x y : Int32} : x < y ↔ x.toInt < y.toInt := Int32.lt_iff_toInt_lt
theorem i_le {x y : Int32} : x ≤ y ↔ x.toInt ≤ y.toInt := Int32.le_iff_toInt_le
theorem i_eq {x y : Int32} : x = y ↔ x.toInt = y.toInt := Int32.toInt_inj.symm

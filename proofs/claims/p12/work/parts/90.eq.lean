/-! The equations of the angles. -/
def WQ (k j : Nat) : Prop := k = 133 ∨ k = 134 ∨ (k = 124 ∧ (j = 7 ∨ j = 8))
theorem WQ_rw : ∀ q ∈ RWT, ¬ WQ 124 q.1 := by
  intro q hq
  have : q.1 ≠ 7 ∧ q.1 ≠ 8 := by revert q; decide
  unfold WQ
  omega
/-- how many of the first lines (but one) join two nodes -/
def cnt (tl : Nat → Int) (but : Int) (x y : Int) : Nat → Nat
  | 0 => 0
  | k + 1 => cnt tl but x y k + if (k : Int) ≠ but ∧ ((tl (5 + k) = x ∧ tl (11 + k) = y) ∨ (tl (5 + k) = y ∧ tl (11 + k) = x)) then 1 else 0
theorem cnt_le (tl : Nat → Int) (but x y : Int) : ∀ k, cnt tl but x y k ≤ k
  | 0 => Nat.le_refl _
  | k + 1 => by
    have := cnt_le tl but x y k
    show cnt tl but x y k + (if _ then 1 else 0) ≤ k + 1
    split <;> omega
/-- the equations' matrix, by rows of four (the last place is for what is put in) -/
def lapc (tl : Nat → Int) (but : Int) (k : Nat) : Nat → Int
  | 0 => cnt tl but 0 1 k + cnt tl but 1 2 k + cnt tl but 1 3 k
  | 1 => -cnt tl but 1 2 k
  | 2 => -cnt tl but 1 3 k
  | 4 => -cnt tl but 1 2 k
  | 5 => cnt tl but 0 2 k + cnt tl but 1 2 k + cnt tl but 2 3 k
  | 6 => -cnt tl but 2 3 k
  | 8 => -cnt tl but 1 3 k
  | 9 => -cnt tl but 2 3 k
  | 10 => cnt tl but 0 3 k + cnt tl but 1 3 k + cnt tl but 2 3 k
  | _ => 0
theorem lapc_le (tl : Nat → Int) (but : Int) (k : Nat) : ∀ j, -(3 * k : Int) ≤ lapc tl but k j ∧ lapc tl but k j ≤ 3 * k := by
  intro j
  have h1 := cnt_le tl but 0 1 k
  have h2 := cnt_le tl but 0 2 k
  have h3 := cnt_le tl but 0 3 k
  have h4 := cnt_le tl but 1 2 k
  have h5 := cnt_le tl but 1 3 k
  have h6 := cnt_le tl but 2 3 k
  unfold lapc
  split <;> omega
/-- what is known of a net's lines -/
def NetL (tl : Nat → Int) (nl : Nat) : Prop := ∀ l, l < nl → 0 ≤ tl (5 + l) ∧ tl (5 + l) < 4 ∧ 0 ≤ tl (11 + l) ∧ tl (11 + l) < 4 ∧ tl (5 + l) ≠ tl (11 + l)
def stepc (f : Nat → Int) (a b : Int) : Nat → Int := fun j =>
  f j + (if 0 ≤ a ∧ (j : Int) = 5 * a then 1 else 0) + (if 0 ≤ b ∧ (j : Int) = 5 * b then 1 else 0) - (if 0 ≤ a ∧ 0 ≤ b ∧ (j : Int) = 4 * a + b then 1 else 0) - (if 0 ≤ a ∧ 0 ≤ b ∧ (j : Int) = 4 * b + a then 1 else 0)
theorem stepc_a {f : Nat → Int} {a b : Int} {i : Nat} (ha : 0 ≤ a) (hb : b < 0) (hi : (i : Int) = 5 * a) : ∀ j, upI f i (f i + 1) j = stepc f a b j := by
  intro j
  unfold stepc upI
  rw [if_neg (show ¬ (0 ≤ b ∧ (j : Int) = 5 * b) by omega), if_neg (show ¬ (0 ≤ a ∧ 0 ≤ b ∧ (j : Int) = 4 * a + b) by omega), if_neg (show ¬ (0 ≤ a ∧ 0 ≤ b ∧ (j : Int) = 4 * b + a) by omega)]
  by_cases z : j = i
  · subst z; rw [if_pos rfl, if_pos (by omega)]; omega
  · rw [if_neg z, if_neg (by omega)]; omega
theorem stepc_b {f : Nat → Int} {a b : Int} {i : Nat} (ha : a < 0) (hb : 0 ≤ b) (hi : (i : Int) = 5 * b) : ∀ j, upI f i (f i + 1) j = stepc f a b j := by
  intro j
  unfold stepc upI
  rw [if_neg (show ¬ (0 ≤ a ∧ (j : Int) = 5 * a) by omega), if_neg (show ¬ (0 ≤ a ∧ 0 ≤ b ∧ (j : Int) = 4 * a + b) by omega), if_neg (show ¬ (0 ≤ a ∧ 0 ≤ b ∧ (j : Int) = 4 * b + a) by omega)]
  by_cases z : j = i
  · subst z; rw [if_pos rfl, if_pos (by omega)]; omega
  · rw [if_neg z, if_neg (by omega)]; omega
theorem upI_at (f : Nat → Int) (i : Nat) (X : Int) : upI f i X i = X := if_pos rfl
theorem upI_ne (f : Nat → Int) {i j : Nat} (X : Int) (h : j ≠ i) : upI f i X j = f j := if_neg h
theorem stepc_ab {f : Nat → Int} {a b : Int} {i1 i2 i3 i4 : Nat} (ha : 0 ≤ a) (hb : 0 ≤ b) (hne : a ≠ b) (h1 : (i1 : Int) = 5 * a) (h2 : (i2 : Int) = 5 * b) (h3 : (i3 : Int) = 4 * a + b) (h4 : (i4 : Int) = 4 * b + a) : ∀ j, upI (upI (upI (upI f i1 (f i1 + 1)) i2 (upI f i1 (f i1 + 1) i2 + 1)) i3 (upI (upI f i1 (f i1 + 1)) i2 (upI f i1 (f i1 + 1) i2 + 1) i3 - 1)) i4 (upI (upI (upI f i1 (f i1 + 1)) i2 (upI f i1 (f i1 + 1) i2 + 1)) i3 (upI (upI f i1 (f i1 + 1)) i2 (upI f i1 (f i1 + 1) i2 + 1) i3 - 1) i4 - 1) j = stepc f a b j := by
  intro j
  rw [upI_ne f (i := i1) (j := i2) _ (by omega), upI_ne _ (i := i2) (j := i3) _ (by omega), upI_ne _ (i := i1) (j := i3) _ (by omega), upI_ne _ (i := i3) (j := i4) _ (by omega), upI_ne _ (i := i2) (j := i4) _ (by omega), upI_ne _ (i := i1) (j := i4) _ (by omega)]
  unfold stepc
  by_cases z4 : j = i4
  · subst z4
    rw [upI_at, if_neg (by omega), if_neg (by omega), if_neg (by omega), if_pos (by omega)]; omega
  · rw [upI_ne _ _ z4, if_neg (show ¬ (0 ≤ a ∧ 0 ≤ b ∧ (j : Int) = 4 * b + a) by omega)]
    by_cases z3 : j = i3
    · subst z3
      rw [upI_at, if_neg (by omega), if_neg (by omega), if_pos (by omega)]; omega
    · rw [upI_ne _ _ z3, if_neg (show ¬ (0 ≤ a ∧ 0 ≤ b ∧ (j : Int) = 4 * a + b) by omega)]
      by_cases z2 : j = i2
      · subst z2
        rw [upI_at, if_neg (by omega), if_pos (by omega)]; omega
      · rw [upI_ne _ _ z2, if_neg (show ¬ (0 ≤ b ∧ (j : Int) = 5 * b) by omega)]
        by_cases z1 : j = i1
        · subst z1
          rw [upI_at, if_pos (by omega)]; omega
        · rw [upI_ne _ _ z1, if_neg (by omega)]; omega
theorem lapc_step {tl : Nat → Int} {but : Int} {k nl : Nat} (hN : NetL tl nl) (hk : k < nl) : ∀ j, j < 12 → lapc tl but (k + 1) j = if (k : Int) = but then lapc tl but k j else stepc (lapc tl but k) (tl (5 + k) - 1) (tl (11 + k) - 1) j := by
  intro j hj
  obtain ⟨n1, n2, n3, n4, n5⟩ := hN k hk
  have key : ∀ x y, cnt tl but x y (k + 1) = cnt tl but x y k + if (k : Int) ≠ but ∧ ((tl (5 + k) = x ∧ tl (11 + k) = y) ∨ (tl (5 + k) = y ∧ tl (11 + k) = x)) then 1 else 0 := fun _ _ => rfl
  generalize tl (5 + k) = a at *
  generalize tl (11 + k) = b at *
  by_cases hb : (k : Int) = but
  · rw [if_pos hb]
    unfold lapc
    simp only [key]
    simp only [hb, ne_eq, not_true_eq_false, false_and, reduceIte, Nat.add_zero]
  · rw [if_neg hb]
    unfold stepc
    have hk2 : ∀ x y, cnt tl but x y (k + 1) = cnt tl but x y k + if ((a = x ∧ b = y) ∨ (a = y ∧ b = x)) then 1 else 0 := fun x y => by
      rw [key]; simp only [ne_eq, hb, not_false_eq_true, true_and]
    rcases (show a = 0 ∨ a = 1 ∨ a = 2 ∨ a = 3 by omega) with rfl | rfl | rfl | rfl <;> rcases (show b = 0 ∨ b = 1 ∨ b = 2 ∨ b = 3 by omega) with rfl | rfl | rfl | rfl <;> first | exact absurd rfl n5 | (rcases (show j = 0 ∨ j = 1 ∨ j = 2 ∨ j = 3 ∨ j = 4 ∨ j = 5 ∨ j = 6 ∨ j = 7 ∨ j = 8 ∨ j = 9 ∨ j = 10 ∨ j = 11 by omega) with rfl | rfl | rfl | rfl | rfl | rfl | rfl | rfl | rfl | rfl | rfl | rfl <;> simp [lapc, hk2] <;> omega)

theorem eq_loop {g0 : GG} {bl : Nat} {xs : Nat → Int32} {l : Launch} {wp : va_W} {p : Program} {e : Env} {R : Room} {s : State} {m : MethodId} {args : Array Value} {below : List Frame} {meth : Method} {c : Code} {Q : State → Prop} {kc0 ks0 kc ks f lam KC KS : Nat} {hs : List CE} {tl : Nat → Int} {ni bi : Int32} {nd nl : Nat} {but : Int} (hT : IArr hs 125 46 tl) (hnl : tl 2 = (nl : Int)) (hn6 : nl ≤ 6) (hN : NetL tl nl) (hni : ni.toInt = ((nd + 1 : Nat) : Int)) (hnd : nd < 3) (hbi : bi.toInt = but) (act : Act SSX TBL (gp g0 wp) CLS bl xs D_232 p l s m args meth c) (hEnd : EndN SSX TBL (gp g0 wp) CLS D_232 p l e R s m args below meth c Q kc0 ks0 f lam KC KS (fun kd r h2 => kd = 0 ∧ LArr h2 133 12 (upI (lapc tl but nl) (4 * nd + 3) 1) ∧ LArr h2 134 12 (fun _ => 1) ∧ FrS WQ hs h2)) (hk1 : kc ≤ KC) (hk2 : ks ≤ KS) : ∀ k : Nat, k ≤ nl → ∀ (ki : Int32) (hj : List CE), ki.toInt = (k : Int) → RW hj → IArr hj 125 46 tl → LArr hj 133 12 (lapc tl but k) → LArr hj 134 12 (fun _ => 1) → FrS WQ hs hj → WpN (gp g0 wp) CLS p l e R s m args below meth c Q D_232.2.2.1 kc0 ks0 30 [some (.ref 124), some (.int ni), some (.int bi), some (.int ki), none, none] (hj, kc, ks) [] := by
  refine dn (fun k hk ih => ?_)
  intro ki hj hki rwj hTj hA hB hfr
  have hbd : bd 1000 (lapc tl but k) := fun j => by have := lapc_le tl but k j; omega
  have hnk := fun (h : k < nl) => hN k h
  refine g_loadI act (gx gp_232 (w := 0x3001f02) rfl (by decide) rfl) (a := 3) (n := 31) rfl rfl rfl ?_
  refine g_loadA act (gx gp_232 (w := 0x2003) rfl (by decide) rfl) (a := 0) (n := 32) rfl rfl rfl ?_
  refine r_getf act (gx gp_232 (w := 0x3000049002304) rfl (by decide) rfl) (n := 35) (ci := 9) (j := 1) (N := 39) rfl rfl rfl rwj.1 (by decide) (rwj.2 (1, 125, 32, 46) (by decide)).1 ?_
  refine g_constI act (gx gp_232 (w := 0x40000001400000011000000002401) rfl (by decide) rfl) (n := 36) (x := (2 : Int32)) (by decide) rfl ?_
  obtain ⟨x_1, e_2, hx_3⟩ := hTj 2 (by omega)
  refine r_iald act (gx gp_232 (w := 0x251a) rfl (by decide) rfl) (n := 37) (j := 2) rfl (rwj.2 (1, 125, 32, 46) (by decide)).2 (show (2 : Int32).toInt = ((2 : Nat) : Int) from by decide) (show 2 < 46 by omega) (v := .int x_1) e_2 ?_
  refine g_icmpGe act (gx gp_232 (w := 0xa3002808) rfl (by decide) rfl) (tgt := 163) (n := 40) rfl rfl (fun h4 => ?_) (fun h4 => ?_)
  · simp only [i_le] at h4
    refine g_loadA act (gx gp_232 (w := 0xa403) rfl (by decide) rfl) (a := 0) (n := 164) rfl rfl rfl ?_
    refine r_getf act (gx gp_232 (w := 0x300048900a704) rfl (by decide) rfl) (n := 167) (ci := 9) (j := 18) (N := 39) rfl rfl rfl rwj.1 (by decide) (rwj.2 (18, 133, 33, 12) (by decide)).1 ?_
    refine g_constI act (gx gp_232 (w := 0x4000000240000002100000000a801) rfl (by decide) rfl) (n := 168) (x := (4 : Int32)) (by decide) rfl ?_
    refine g_loadI act (gx gp_232 (w := 0x100a902) rfl (by decide) rfl) (a := 1) (n := 169) rfl rfl rfl ?_
    refine g_constI act (gx gp_232 (w := 0x40000000c0000000900000000aa01) rfl (by decide) rfl) (n := 170) (x := (1 : Int32)) (by decide) rfl ?_
    refine g_isub act (gx gp_232 (w := 0xab26) rfl (by decide) rfl) (n := 171) rfl ?_
    have v_4 := iv_subN hni (show (1 : Int32).toInt = ((1 : Nat) : Int) from by decide) (show 1 ≤ (nd + 1) by omega)
    refine g_imul act (gx gp_232 (w := 0xac11) rfl (by decide) rfl) (n := 172) rfl ?_
    have v_5 := iv_mulN (show (4 : Int32).toInt = ((4 : Nat) : Int) from by decide) v_4 (show (4 * ((nd + 1) - 1)) < 2147483648 by omega)
    refine g_constI act (gx gp_232 (w := 0x40000001c0000001900000000ad01) rfl (by decide) rfl) (n := 173) (x := (3 : Int32)) (by decide) rfl ?_
    refine g_iadd act (gx gp_232 (w := 0xae0a) rfl (by decide) rfl) (n := 174) rfl ?_
    have v_6 := iv_addN v_5 (show (3 : Int32).toInt = ((3 : Nat) : Int) from by decide) (show ((4 * ((nd + 1) - 1)) + 3) < 2147483648 by omega)
    refine g_constL act (gx gp_232 (w := 0x4000000000000000a00000000af01) rfl (by decide) rfl) (n := 175) (x := 1) (by decide) rfl ?_
    refine r_last act (gx gp_232 (w := 0xb005) rfl (by decide) rfl) (n := 176) (j := ((4 * ((nd + 1) - 1)) + 3)) rfl (rwj.2 (18, 133, 33, 12) (by decide)).2 v_6 (show ((4 * ((nd + 1) - 1)) + 3) < 12 by omega) ?_
    have rw_7 := RW.wr (k := 133) (j := ((4 * ((nd + 1) - 1)) + 3)) (v := .long (1 : Int64)) rwj (Or.inl (by decide))
    have f_8 := hTj.ne (k := 133) (j := ((4 * ((nd + 1) - 1)) + 3)) (v := .long (1 : Int64)) (by decide)
    have f_9 := hA.put (j := ((4 * ((nd + 1) - 1)) + 3)) (rwj.2 (18, 133, 33, 12) (by decide)).2 (show (1 : Int64).toInt = (1 : Int) from by decide)
    have bd_10 := bd_up (i := ((4 * ((nd + 1) - 1)) + 3)) (X := 1) hbd (by omega) (by omega)
    have f_11 := hB.ne (k := 133) (j := ((4 * ((nd + 1) - 1)) + 3)) (v := .long (1 : Int64)) (by decide)
    have fr_12 := hfr.wr (k := 133) (j := ((4 * ((nd + 1) - 1)) + 3)) (.long (1 : Int64)) (by unfold WQ; omega)
    clear rwj hfr hTj hA hB
    generalize (wr hj 133 ((4 * ((nd + 1) - 1)) + 3) (.long (1 : Int64))) = hs_13 at *
    have hkk : nl = k := by omega
    exact g_retV hEnd (gx gp_232 (w := 0x18) rfl (by decide) rfl) ⟨rfl, f_9.cong (fun j _ => by rw [hkk, show 4 * (nd + 1 - 1) + 3 = 4 * nd + 3 by omega]), f_11, fr_12⟩ hk1 hk2
  · simp only [i_le] at h4
    refine g_loadA act (gx gp_232 (w := 0x2903) rfl (by decide) rfl) (a := 0) (n := 41) rfl rfl rfl ?_
    refine r_getf act (gx gp_232 (w := 0x3000049002c04) rfl (by decide) rfl) (n := 44) (ci := 9) (j := 1) (N := 39) rfl rfl rfl rwj.1 (by decide) (rwj.2 (1, 125, 32, 46) (by decide)).1 ?_
    refine g_constI act (gx gp_232 (w := 0x40000002c00000029000000002d01) rfl (by decide) rfl) (n := 45) (x := (5 : Int32)) (by decide) rfl ?_
    refine g_loadI act (gx gp_232 (w := 0x3002e02) rfl (by decide) rfl) (a := 3) (n := 46) rfl rfl rfl ?_
    refine g_iadd act (gx gp_232 (w := 0x2f0a) rfl (by decide) rfl) (n := 47) rfl ?_
    have v_14 := iv_addN (show (5 : Int32).toInt = ((5 : Nat) : Int) from by decide) hki (show (5 + k) < 2147483648 by omega)
    obtain ⟨x_15, e_16, hx_17⟩ := hTj (5 + k) (by omega)
    refine r_iald act (gx gp_232 (w := 0x301a) rfl (by decide) rfl) (n := 48) (j := (5 + k)) rfl (rwj.2 (1, 125, 32, 46) (by decide)).2 v_14 (show (5 + k) < 46 by omega) (v := .int x_15) e_16 ?_
    refine g_constI act (gx gp_232 (w := 0x40000000c00000009000000003101) rfl (by decide) rfl) (n := 49) (x := (1 : Int32)) (by decide) rfl ?_
    refine g_isub act (gx gp_232 (w := 0x3226) rfl (by decide) rfl) (n := 50) rfl ?_
    have v_18 := iv_sub hx_17 (show (1 : Int32).toInt = ((1 : Nat) : Int) from by decide) (show -2147483648 ≤ ((tl (5 + k)) - ((1 : Nat) : Int)) by omega) (show ((tl (5 + k)) - ((1 : Nat) : Int)) < 2147483648 by omega)
    refine g_storeI act (gx gp_232 (w := 0x4003410) rfl (by decide) rfl) (a := 4) (n := 52) rfl rfl (L2 := [some (.ref 124), some (.int ni), some (.int bi), some (.int ki), some (.int (x_15 - (1 : Int32))), none]) rfl ?_
    refine g_loadA act (gx gp_232 (w := 0x3503) rfl (by decide) rfl) (a := 0) (n := 53) rfl rfl rfl ?_
    refine r_getf act (gx gp_232 (w := 0x3000049003804) rfl (by decide) rfl) (n := 56) (ci := 9) (j := 1) (N := 39) rfl rfl rfl rwj.1 (by decide) (rwj.2 (1, 125, 32, 46) (by decide)).1 ?_
    refine g_constI act (gx gp_232 (w := 0x40000005c00000059000000003a01) rfl (by decide) rfl) (n := 58) (x := (11 : Int32)) (by decide) rfl ?_
    refine g_loadI act (gx gp_232 (w := 0x3003b02) rfl (by decide) rfl) (a := 3) (n := 59) rfl rfl rfl ?_
    refine g_iadd act (gx gp_232 (w := 0x3c0a) rfl (by decide) rfl) (n := 60) rfl ?_
    have v_19 := iv_addN (show (11 : Int32).toInt = ((11 : Nat) : Int) from by decide) hki (show (11 + k) < 2147483648 by omega)
    obtain ⟨x_20, e_21, hx_22⟩ := hTj (11 + k) (by omega)
    refine r_iald act (gx gp_232 (w := 0x3d1a) rfl (by decide) rfl) (n := 61) (j := (11 + k)) rfl (rwj.2 (1, 125, 32, 46) (by decide)).2 v_19 (show (11 + k) < 46 by omega) (v := .int x_20) e_21 ?_
    refine g_constI act (gx gp_232 (w := 0x40000000c00000009000000003e01) rfl (by decide) rfl) (n := 62) (x := (1 : Int32)) (by decide) rfl ?_
    refine g_isub act (gx gp_232 (w := 0x3f26) rfl (by decide) rfl) (n := 63) rfl ?_
    have v_23 := iv_sub hx_22 (show (1 : Int32).toInt = ((1 : Nat) : Int) from by decide) (show -2147483648 ≤ ((tl (11 + k)) - ((1 : Nat) : Int)) by omega) (show ((tl (11 + k)) - ((1 : Nat) : Int)) < 2147483648 by omega)
    refine g_storeI act (gx gp_232 (w := 0x5004110) rfl (by decide) rfl) (a := 5) (n := 65) rfl rfl (L2 := [some (.ref 124), some (.int ni), some (.int bi), some (.int ki), some (.int (x_15 - (1 : Int32))), some (.int (x_20 - (1 : Int32)))]) rfl ?_
    refine g_loadI act (gx gp_232 (w := 0x3004202) rfl (by decide) rfl) (a := 3) (n := 66) rfl rfl rfl ?_
    refine g_loadI act (gx gp_232 (w := 0x2004302) rfl (by decide) rfl) (a := 2) (n := 67) rfl rfl rfl ?_
    refine g_icmpNe act (gx gp_232 (w := 0x49004621) rfl (by decide) rfl) (tgt := 73) (n := 70) rfl rfl (fun h23 => ?_) (fun h23 => ?_)
    · simp only [i_eq] at h23
      refine g_loadI act (gx gp_232 (w := 0x4004b02) rfl (by decide) rfl) (a := 4) (n := 75) rfl rfl rfl ?_
      refine g_ifLt act (gx gp_232 (w := 0x5e004e2a) rfl (by decide) rfl) (tgt := 94) (n := 78) rfl rfl (fun h25 => ?_) (fun h25 => ?_)
      · simp only [i_lt, show (1 : Int32).toInt = 1 from by decide, i0] at h25
        refine g_loadI act (gx gp_232 (w := 0x5006002) rfl (by decide) rfl) (a := 5) (n := 96) rfl rfl rfl ?_
        refine g_ifLt act (gx gp_232 (w := 0x7300632a) rfl (by decide) rfl) (tgt := 115) (n := 99) rfl rfl (fun h27 => ?_) (fun h27 => ?_)
        · simp only [i_lt, show (1 : Int32).toInt = 1 from by decide, i0] at h27
          exfalso; omega
        · simp only [i_lt, show (1 : Int32).toInt = 1 from by decide, i0] at h27
          refine g_loadA act (gx gp_232 (w := 0x6403) rfl (by decide) rfl) (a := 0) (n := 100) rfl rfl rfl ?_
          refine r_getf act (gx gp_232 (w := 0x3000489006704) rfl (by decide) rfl) (n := 103) (ci := 9) (j := 18) (N := 39) rfl rfl rfl rwj.1 (by decide) (rwj.2 (18, 133, 33, 12) (by decide)).1 ?_
          refine g_constI act (gx gp_232 (w := 0x40000002400000021000000006801) rfl (by decide) rfl) (n := 104) (x := (4 : Int32)) (by decide) rfl ?_
          refine g_loadI act (gx gp_232 (w := 0x5006a02) rfl (by decide) rfl) (a := 5) (n := 106) rfl rfl rfl ?_
          refine g_imul act (gx gp_232 (w := 0x6b11) rfl (by decide) rfl) (n := 107) rfl ?_
          have v_24 := iv_mul (show (4 : Int32).toInt = ((4 : Nat) : Int) from by decide) v_23 (show -2147483648 ≤ (((4 : Nat) : Int) * ((tl (11 + k)) - ((1 : Nat) : Int))) by omega) (show (((4 : Nat) : Int) * ((tl (11 + k)) - ((1 : Nat) : Int))) < 2147483648 by omega)
          refine g_loadI act (gx gp_232 (w := 0x5006d02) rfl (by decide) rfl) (a := 5) (n := 109) rfl rfl rfl ?_
          refine g_iadd act (gx gp_232 (w := 0x6e0a) rfl (by decide) rfl) (n := 110) rfl ?_
          have v_25 := iv_add v_24 v_23 (show -2147483648 ≤ ((((4 : Nat) : Int) * ((tl (11 + k)) - ((1 : Nat) : Int))) + ((tl (11 + k)) - ((1 : Nat) : Int))) by omega) (show ((((4 : Nat) : Int) * ((tl (11 + k)) - ((1 : Nat) : Int))) + ((tl (11 + k)) - ((1 : Nat) : Int))) < 2147483648 by omega)
          refine g_dup2 act (gx gp_232 (w := 0x6f30) rfl (by decide) rfl) (n := 111) rfl rfl rfl ?_
          obtain ⟨j_26, hj_27⟩ := Int.eq_ofNat_of_zero_le (show (0 : Int) ≤ ((((4 : Nat) : Int) * ((tl (11 + k)) - ((1 : Nat) : Int))) + ((tl (11 + k)) - ((1 : Nat) : Int))) by omega)
          obtain ⟨x_28, e_29, hx_30⟩ := hA j_26 (by omega)
          have b_31 := hbd j_26
          refine r_lald act (gx gp_232 (w := 0x700d) rfl (by decide) rfl) (n := 112) (j := j_26) rfl (rwj.2 (18, 133, 33, 12) (by decide)).2 (v_25.trans hj_27) (show j_26 < 12 by omega) (v := .long x_28) e_29 ?_
          refine g_constL act (gx gp_232 (w := 0x4000000000000000a000000007101) rfl (by decide) rfl) (n := 113) (x := 1) (by decide) rfl ?_
          refine g_ladd act (gx gp_232 (w := 0x721f) rfl (by decide) rfl) (n := 114) rfl ?_
          have v_32 := lw_add hx_30 (show (1 : Int64).toInt = (1 : Int) from by decide) (show -9223372036854775808 ≤ (((lapc tl but k) j_26) + 1) by omega) (show (((lapc tl but k) j_26) + 1) < 9223372036854775808 by omega)
          refine r_last act (gx gp_232 (w := 0x7305) rfl (by decide) rfl) (n := 115) (j := j_26) rfl (rwj.2 (18, 133, 33, 12) (by decide)).2 (v_25.trans hj_27) (show j_26 < 12 by omega) ?_
          have rw_33 := RW.wr (k := 133) (j := j_26) (v := .long (x_28 + (1 : Int64))) rwj (Or.inl (by decide))
          have f_34 := hTj.ne (k := 133) (j := j_26) (v := .long (x_28 + (1 : Int64))) (by decide)
          have f_35 := hA.put (j := j_26) (rwj.2 (18, 133, 33, 12) (by decide)).2 v_32
          have bd_36 := bd_up (i := j_26) (X := (((lapc tl but k) j_26) + 1)) hbd (by omega) (by omega)
          have f_37 := hB.ne (k := 133) (j := j_26) (v := .long (x_28 + (1 : Int64))) (by decide)
          have fr_38 := hfr.wr (k := 133) (j := j_26) (.long (x_28 + (1 : Int64))) (by unfold WQ; omega)
          clear rwj hfr hTj hA hB
          generalize (wr hj 133 j_26 (.long (x_28 + (1 : Int64)))) = hs_39 at *
          refine g_loadI act (gx gp_232 (w := 0x4007502) rfl (by decide) rfl) (a := 4) (n := 117) rfl rfl rfl ?_
          refine g_ifLt act (gx gp_232 (w := 0x9d00782a) rfl (by decide) rfl) (tgt := 157) (n := 120) rfl rfl (fun h35 => ?_) (fun h35 => ?_)
          · simp only [i_lt, show (1 : Int32).toInt = 1 from by decide, i0] at h35
            refine g_iinc act (gx gp_232 (w := 0x8000000100000300a009) rfl (by decide) rfl) (a := 3) (i := (1 : Int32)) (n := 160) rfl (by decide) rfl rfl (L2 := [some (.ref 124), some (.int ni), some (.int bi), some (.int (ki + (1 : Int32))), some (.int (x_15 - (1 : Int32))), some (.int (x_20 - (1 : Int32)))]) rfl ?_
            have v_40 := iv_addN hki (show (1 : Int32).toInt = ((1 : Nat) : Int) from by decide) (show (k + 1) < 2147483648 by omega)
            refine g_goto act (gx gp_232 (w := 0x1e07) rfl (by decide) rfl) (n := 30) rfl ?_
            have hst := lapc_step (but := but) hN (show k < nl by omega)
            exact n_forget (d := D_232) (L2 := [some (.ref 124), some (.int ni), some (.int bi), some (.int (ki + (1 : Int32))), none, none]) (fun i v hi => by
              match i, hi with
              | 0, hi => exact hi
              | 1, hi => exact hi
              | 2, hi => exact hi
              | 3, hi => exact hi
              | 4, hi => cases hi
              | 5, hi => cases hi
              | i + 6, hi => cases hi) (ih (k + 1) (by omega) (by omega) _ _ v_40 rw_33 f_34 (f_35.cong (fun j hj => by
                rw [hst j hj]
                rw [if_neg (by omega)]; first | exact stepc_a (by omega) (by omega) (by omega) j | exact stepc_b (by omega) (by omega) (by omega) j)) f_37 fr_38)
          · simp only [i_lt, show (1 : Int32).toInt = 1 from by decide, i0] at h35
            exfalso; omega
      · simp only [i_lt, show (1 : Int32).toInt = 1 from by decide, i0] at h25
        refine g_loadA act (gx gp_232 (w := 0x4f03) rfl (by decide) rfl) (a := 0) (n := 79) rfl rfl rfl ?_
        refine r_getf act (gx gp_232 (w := 0x3000489005204) rfl (by decide) rfl) (n := 82) (ci := 9) (j := 18) (N := 39) rfl rfl rfl rwj.1 (by decide) (rwj.2 (18, 133, 33, 12) (by decide)).1 ?_
        refine g_constI act (gx gp_232 (w := 0x40000002400000021000000005301) rfl (by decide) rfl) (n := 83) (x := (4 : Int32)) (by decide) rfl ?_
        refine g_loadI act (gx gp_232 (w := 0x4005502) rfl (by decide) rfl) (a := 4) (n := 85) rfl rfl rfl ?_
        refine g_imul act (gx gp_232 (w := 0x5611) rfl (by decide) rfl) (n := 86) rfl ?_
        have v_41 := iv_mul (show (4 : Int32).toInt = ((4 : Nat) : Int) from by decide) v_18 (show -2147483648 ≤ (((4 : Nat) : Int) * ((tl (5 + k)) - ((1 : Nat) : Int))) by omega) (show (((4 : Nat) : Int) * ((tl (5 + k)) - ((1 : Nat) : Int))) < 2147483648 by omega)
        refine g_loadI act (gx gp_232 (w := 0x4005802) rfl (by decide) rfl) (a := 4) (n := 88) rfl rfl rfl ?_
        refine g_iadd act (gx gp_232 (w := 0x590a) rfl (by decide) rfl) (n := 89) rfl ?_
        have v_42 := iv_add v_41 v_18 (show -2147483648 ≤ ((((4 : Nat) : Int) * ((tl (5 + k)) - ((1 : Nat) : Int))) + ((tl (5 + k)) - ((1 : Nat) : Int))) by omega) (show ((((4 : Nat) : Int) * ((tl (5 + k)) - ((1 : Nat) : Int))) + ((tl (5 + k)) - ((1 : Nat) : Int))) < 2147483648 by omega)
        refine g_dup2 act (gx gp_232 (w := 0x5a30) rfl (by decide) rfl) (n := 90) rfl rfl rfl ?_
        obtain ⟨j_43, hj_44⟩ := Int.eq_ofNat_of_zero_le (show (0 : Int) ≤ ((((4 : Nat) : Int) * ((tl (5 + k)) - ((1 : Nat) : Int))) + ((tl (5 + k)) - ((1 : Nat) : Int))) by omega)
        obtain ⟨x_45, e_46, hx_47⟩ := hA j_43 (by omega)
        have b_48 := hbd j_43
        refine r_lald act (gx gp_232 (w := 0x5b0d) rfl (by decide) rfl) (n := 91) (j := j_43) rfl (rwj.2 (18, 133, 33, 12) (by decide)).2 (v_42.trans hj_44) (show j_43 < 12 by omega) (v := .long x_45) e_46 ?_
        refine g_constL act (gx gp_232 (w := 0x4000000000000000a000000005c01) rfl (by decide) rfl) (n := 92) (x := 1) (by decide) rfl ?_
        refine g_ladd act (gx gp_232 (w := 0x5d1f) rfl (by decide) rfl) (n := 93) rfl ?_
        have v_49 := lw_add hx_47 (show (1 : Int64).toInt = (1 : Int) from by decide) (show -9223372036854775808 ≤ (((lapc tl but k) j_43) + 1) by omega) (show (((lapc tl but k) j_43) + 1) < 9223372036854775808 by omega)
        refine r_last act (gx gp_232 (w := 0x5e05) rfl (by decide) rfl) (n := 94) (j := j_43) rfl (rwj.2 (18, 133, 33, 12) (by decide)).2 (v_42.trans hj_44) (show j_43 < 12 by omega) ?_
        have rw_50 := RW.wr (k := 133) (j := j_43) (v := .long (x_45 + (1 : Int64))) rwj (Or.inl (by decide))
        have f_51 := hTj.ne (k := 133) (j := j_43) (v := .long (x_45 + (1 : Int64))) (by decide)
        have f_52 := hA.put (j := j_43) (rwj.2 (18, 133, 33, 12) (by decide)).2 v_49
        have bd_53 := bd_up (i := j_43) (X := (((lapc tl but k) j_43) + 1)) hbd (by omega) (by omega)
        have f_54 := hB.ne (k := 133) (j := j_43) (v := .long (x_45 + (1 : Int64))) (by decide)
        have fr_55 := hfr.wr (k := 133) (j := j_43) (.long (x_45 + (1 : Int64))) (by unfold WQ; omega)
        clear rwj hfr hTj hA hB
        generalize (wr hj 133 j_43 (.long (x_45 + (1 : Int64)))) = hs_56 at *
        refine g_loadI act (gx gp_232 (w := 0x5006002) rfl (by decide) rfl) (a := 5) (n := 96) rfl rfl rfl ?_
        refine g_ifLt act (gx gp_232 (w := 0x7300632a) rfl (by decide) rfl) (tgt := 115) (n := 99) rfl rfl (fun h44 => ?_) (fun h44 => ?_)
        · simp only [i_lt, show (1 : Int32).toInt = 1 from by decide, i0] at h44
          refine g_loadI act (gx gp_232 (w := 0x4007502) rfl (by decide) rfl) (a := 4) (n := 117) rfl rfl rfl ?_
          refine g_ifLt act (gx gp_232 (w := 0x9d00782a) rfl (by decide) rfl) (tgt := 157) (n := 120) rfl rfl (fun h46 => ?_) (fun h46 => ?_)
          · simp only [i_lt, show (1 : Int32).toInt = 1 from by decide, i0] at h46
            exfalso; omega
          · simp only [i_lt, show (1 : Int32).toInt = 1 from by decide, i0] at h46
            refine g_loadI act (gx gp_232 (w := 0x5007a02) rfl (by decide) rfl) (a := 5) (n := 122) rfl rfl rfl ?_
            refine g_ifLt act (gx gp_232 (w := 0x9d007d2a) rfl (by decide) rfl) (tgt := 157) (n := 125) rfl rfl (fun h48 => ?_) (fun h48 => ?_)
            · simp only [i_lt, show (1 : Int32).toInt = 1 from by decide, i0] at h48
              refine g_iinc act (gx gp_232 (w := 0x8000000100000300a009) rfl (by decide) rfl) (a := 3) (i := (1 : Int32)) (n := 160) rfl (by decide) rfl rfl (L2 := [some (.ref 124), some (.int ni), some (.int bi), some (.int (ki + (1 : Int32))), some (.int (x_15 - (1 : Int32))), some (.int (x_20 - (1 : Int32)))]) rfl ?_
              have v_57 := iv_addN hki (show (1 : Int32).toInt = ((1 : Nat) : Int) from by decide) (show (k + 1) < 2147483648 by omega)
              refine g_goto act (gx gp_232 (w := 0x1e07) rfl (by decide) rfl) (n := 30) rfl ?_
              have hst := lapc_step (but := but) hN (show k < nl by omega)
              exact n_forget (d := D_232) (L2 := [some (.ref 124), some (.int ni), some (.int bi), some (.int (ki + (1 : Int32))), none, none]) (fun i v hi => by
                match i, hi with
                | 0, hi => exact hi
                | 1, hi => exact hi
                | 2, hi => exact hi
                | 3, hi => exact hi
                | 4, hi => cases hi
                | 5, hi => cases hi
                | i + 6, hi => cases hi) (ih (k + 1) (by omega) (by omega) _ _ v_57 rw_50 f_51 (f_52.cong (fun j hj => by
                  rw [hst j hj]
                  rw [if_neg (by omega)]; first | exact stepc_a (by omega) (by omega) (by omega) j | exact stepc_b (by omega) (by omega) (by omega) j)) f_54 fr_55)
            · simp only [i_lt, show (1 : Int32).toInt = 1 from by decide, i0] at h48
              exfalso; omega
        · simp only [i_lt, show (1 : Int32).toInt = 1 from by decide, i0] at h44
          refine g_loadA act (gx gp_232 (w := 0x6403) rfl (by decide) rfl) (a := 0) (n := 100) rfl rfl rfl ?_
          refine r_getf act (gx gp_232 (w := 0x3000489006704) rfl (by decide) rfl) (n := 103) (ci := 9) (j := 18) (N := 39) rfl rfl rfl rw_50.1 (by decide) (rw_50.2 (18, 133, 33, 12) (by decide)).1 ?_
          refine g_constI act (gx gp_232 (w := 0x40000002400000021000000006801) rfl (by decide) rfl) (n := 104) (x := (4 : Int32)) (by decide) rfl ?_
          refine g_loadI act (gx gp_232 (w := 0x5006a02) rfl (by decide) rfl) (a := 5) (n := 106) rfl rfl rfl ?_
          refine g_imul act (gx gp_232 (w := 0x6b11) rfl (by decide) rfl) (n := 107) rfl ?_
          have v_58 := iv_mul (show (4 : Int32).toInt = ((4 : Nat) : Int) from by decide) v_23 (show -2147483648 ≤ (((4 : Nat) : Int) * ((tl (11 + k)) - ((1 : Nat) : Int))) by omega) (show (((4 : Nat) : Int) * ((tl (11 + k)) - ((1 : Nat) : Int))) < 2147483648 by omega)
          refine g_loadI act (gx gp_232 (w := 0x5006d02) rfl (by decide) rfl) (a := 5) (n := 109) rfl rfl rfl ?_
          refine g_iadd act (gx gp_232 (w := 0x6e0a) rfl (by decide) rfl) (n := 110) rfl ?_
          have v_59 := iv_add v_58 v_23 (show -2147483648 ≤ ((((4 : Nat) : Int) * ((tl (11 + k)) - ((1 : Nat) : Int))) + ((tl (11 + k)) - ((1 : Nat) : Int))) by omega) (show ((((4 : Nat) : Int) * ((tl (11 + k)) - ((1 : Nat) : Int))) + ((tl (11 + k)) - ((1 : Nat) : Int))) < 2147483648 by omega)
          refine g_dup2 act (gx gp_232 (w := 0x6f30) rfl (by decide) rfl) (n := 111) rfl rfl rfl ?_
          obtain ⟨j_60, hj_61⟩ := Int.eq_ofNat_of_zero_le (show (0 : Int) ≤ ((((4 : Nat) : Int) * ((tl (11 + k)) - ((1 : Nat) : Int))) + ((tl (11 + k)) - ((1 : Nat) : Int))) by omega)
          obtain ⟨x_62, e_63, hx_64⟩ := f_52 j_60 (by omega)
          have b_65 := bd_53 j_60
          refine r_lald act (gx gp_232 (w := 0x700d) rfl (by decide) rfl) (n := 112) (j := j_60) rfl (rw_50.2 (18, 133, 33, 12) (by decide)).2 (v_59.trans hj_61) (show j_60 < 12 by omega) (v := .long x_62) e_63 ?_
          refine g_constL act (gx gp_232 (w := 0x4000000000000000a000000007101) rfl (by decide) rfl) (n := 113) (x := 1) (by decide) rfl ?_
          refine g_ladd act (gx gp_232 (w := 0x721f) rfl (by decide) rfl) (n := 114) rfl ?_
          have v_66 := lw_add hx_64 (show (1 : Int64).toInt = (1 : Int) from by decide) (show -9223372036854775808 ≤ (((upI (lapc tl but k) j_43 (((lapc tl but k) j_43) + 1)) j_60) + 1) by omega) (show (((upI (lapc tl but k) j_43 (((lapc tl but k) j_43) + 1)) j_60) + 1) < 9223372036854775808 by omega)
          refine r_last act (gx gp_232 (w := 0x7305) rfl (by decide) rfl) (n := 115) (j := j_60) rfl (rw_50.2 (18, 133, 33, 12) (by decide)).2 (v_59.trans hj_61) (show j_60 < 12 by omega) ?_
          have rw_67 := RW.wr (k := 133) (j := j_60) (v := .long (x_62 + (1 : Int64))) rw_50 (Or.inl (by decide))
          have f_68 := f_51.ne (k := 133) (j := j_60) (v := .long (x_62 + (1 : Int64))) (by decide)
          have f_69 := f_52.put (j := j_60) (rw_50.2 (18, 133, 33, 12) (by decide)).2 v_66
          have bd_70 := bd_up (i := j_60) (X := (((upI (lapc tl but k) j_43 (((lapc tl but k) j_43) + 1)) j_60) + 1)) bd_53 (by omega) (by omega)
          have f_71 := f_54.ne (k := 133) (j := j_60) (v := .long (x_62 + (1 : Int64))) (by decide)
          have fr_72 := fr_55.wr (k := 133) (j := j_60) (.long (x_62 + (1 : Int64))) (by unfold WQ; omega)
          clear rw_50 fr_55 f_51 f_52 f_54
          generalize (wr hs_56 133 j_60 (.long (x_62 + (1 : Int64)))) = hs_73 at *
          refine g_loadI act (gx gp_232 (w := 0x4007502) rfl (by decide) rfl) (a := 4) (n := 117) rfl rfl rfl ?_
          refine g_ifLt act (gx gp_232 (w := 0x9d00782a) rfl (by decide) rfl) (tgt := 157) (n := 120) rfl rfl (fun h57 => ?_) (fun h57 => ?_)
          · simp only [i_lt, show (1 : Int32).toInt = 1 from by decide, i0] at h57
            exfalso; omega
          · simp only [i_lt, show (1 : Int32).toInt = 1 from by decide, i0] at h57
            refine g_loadI act (gx gp_232 (w := 0x5007a02) rfl (by decide) rfl) (a := 5) (n := 122) rfl rfl rfl ?_
            refine g_ifLt act (gx gp_232 (w := 0x9d007d2a) rfl (by decide) rfl) (tgt := 157) (n := 125) rfl rfl (fun h59 => ?_) (fun h59 => ?_)
            · simp only [i_lt, show (1 : Int32).toInt = 1 from by decide, i0] at h59
              exfalso; omega
            · simp only [i_lt, show (1 : Int32).toInt = 1 from by decide, i0] at h59
              refine g_loadA act (gx gp_232 (w := 0x7e03) rfl (by decide) rfl) (a := 0) (n := 126) rfl rfl rfl ?_
              refine r_getf act (gx gp_232 (w := 0x3000489008104) rfl (by decide) rfl) (n := 129) (ci := 9) (j := 18) (N := 39) rfl rfl rfl rw_67.1 (by decide) (rw_67.2 (18, 133, 33, 12) (by decide)).1 ?_
              refine g_constI act (gx gp_232 (w := 0x40000002400000021000000008201) rfl (by decide) rfl) (n := 130) (x := (4 : Int32)) (by decide) rfl ?_
              refine g_loadI act (gx gp_232 (w := 0x4008402) rfl (by decide) rfl) (a := 4) (n := 132) rfl rfl rfl ?_
              refine g_imul act (gx gp_232 (w := 0x8511) rfl (by decide) rfl) (n := 133) rfl ?_
              have v_74 := iv_mul (show (4 : Int32).toInt = ((4 : Nat) : Int) from by decide) v_18 (show -2147483648 ≤ (((4 : Nat) : Int) * ((tl (5 + k)) - ((1 : Nat) : Int))) by omega) (show (((4 : Nat) : Int) * ((tl (5 + k)) - ((1 : Nat) : Int))) < 2147483648 by omega)
              refine g_loadI act (gx gp_232 (w := 0x5008702) rfl (by decide) rfl) (a := 5) (n := 135) rfl rfl rfl ?_
              refine g_iadd act (gx gp_232 (w := 0x880a) rfl (by decide) rfl) (n := 136) rfl ?_
              have v_75 := iv_add v_74 v_23 (show -2147483648 ≤ ((((4 : Nat) : Int) * ((tl (5 + k)) - ((1 : Nat) : Int))) + ((tl (11 + k)) - ((1 : Nat) : Int))) by omega) (show ((((4 : Nat) : Int) * ((tl (5 + k)) - ((1 : Nat) : Int))) + ((tl (11 + k)) - ((1 : Nat) : Int))) < 2147483648 by omega)
              refine g_dup2 act (gx gp_232 (w := 0x8930) rfl (by decide) rfl) (n := 137) rfl rfl rfl ?_
              obtain ⟨j_76, hj_77⟩ := Int.eq_ofNat_of_zero_le (show (0 : Int) ≤ ((((4 : Nat) : Int) * ((tl (5 + k)) - ((1 : Nat) : Int))) + ((tl (11 + k)) - ((1 : Nat) : Int))) by omega)
              obtain ⟨x_78, e_79, hx_80⟩ := f_69 j_76 (by omega)
              have b_81 := bd_70 j_76
              refine r_lald act (gx gp_232 (w := 0x8a0d) rfl (by decide) rfl) (n := 138) (j := j_76) rfl (rw_67.2 (18, 133, 33, 12) (by decide)).2 (v_75.trans hj_77) (show j_76 < 12 by omega) (v := .long x_78) e_79 ?_
              refine g_constL act (gx gp_232 (w := 0x4000000000000000a000000008b01) rfl (by decide) rfl) (n := 139) (x := 1) (by decide) rfl ?_
              refine g_lsub act (gx gp_232 (w := 0x8c1e) rfl (by decide) rfl) (n := 140) rfl ?_
              have v_82 := lw_sub hx_80 (show (1 : Int64).toInt = (1 : Int) from by decide) (show -9223372036854775808 ≤ (((upI (upI (lapc tl but k) j_43 (((lapc tl but k) j_43) + 1)) j_60 (((upI (lapc tl but k) j_43 (((lapc tl but k) j_43) + 1)) j_60) + 1)) j_76) - 1) by omega) (show (((upI (upI (lapc tl but k) j_43 (((lapc tl but k) j_43) + 1)) j_60 (((upI (lapc tl but k) j_43 (((lapc tl but k) j_43) + 1)) j_60) + 1)) j_76) - 1) < 9223372036854775808 by omega)
              refine r_last act (gx gp_232 (w := 0x8d05) rfl (by decide) rfl) (n := 141) (j := j_76) rfl (rw_67.2 (18, 133, 33, 12) (by decide)).2 (v_75.trans hj_77) (show j_76 < 12 by omega) ?_
              have rw_83 := RW.wr (k := 133) (j := j_76) (v := .long (x_78 - (1 : Int64))) rw_67 (Or.inl (by decide))
              have f_84 := f_68.ne (k := 133) (j := j_76) (v := .long (x_78 - (1 : Int64))) (by decide)
              have f_85 := f_69.put (j := j_76) (rw_67.2 (18, 133, 33, 12) (by decide)).2 v_82
              have bd_86 := bd_up (i := j_76) (X := (((upI (upI (lapc tl but k) j_43 (((lapc tl but k) j_43) + 1)) j_60 (((upI (lapc tl but k) j_43 (((lapc tl but k) j_43) + 1)) j_60) + 1)) j_76) - 1)) bd_70 (by omega) (by omega)
              have f_87 := f_71.ne (k := 133) (j := j_76) (v := .long (x_78 - (1 : Int64))) (by decide)
              have fr_88 := fr_72.wr (k := 133) (j := j_76) (.long (x_78 - (1 : Int64))) (by unfold WQ; omega)
              clear rw_67 fr_72 f_68 f_69 f_71
              generalize (wr hs_73 133 j_76 (.long (x_78 - (1 : Int64)))) = hs_89 at *
              refine g_loadA act (gx gp_232 (w := 0x8e03) rfl (by decide) rfl) (a := 0) (n := 142) rfl rfl rfl ?_
              refine r_getf act (gx gp_232 (w := 0x3000489009104) rfl (by decide) rfl) (n := 145) (ci := 9) (j := 18) (N := 39) rfl rfl rfl rw_83.1 (by decide) (rw_83.2 (18, 133, 33, 12) (by decide)).1 ?_
              refine g_constI act (gx gp_232 (w := 0x40000002400000021000000009201) rfl (by decide) rfl) (n := 146) (x := (4 : Int32)) (by decide) rfl ?_
              refine g_loadI act (gx gp_232 (w := 0x5009402) rfl (by decide) rfl) (a := 5) (n := 148) rfl rfl rfl ?_
              refine g_imul act (gx gp_232 (w := 0x9511) rfl (by decide) rfl) (n := 149) rfl ?_
              have v_90 := iv_mul (show (4 : Int32).toInt = ((4 : Nat) : Int) from by decide) v_23 (show -2147483648 ≤ (((4 : Nat) : Int) * ((tl (11 + k)) - ((1 : Nat) : Int))) by omega) (show (((4 : Nat) : Int) * ((tl (11 + k)) - ((1 : Nat) : Int))) < 2147483648 by omega)
              refine g_loadI act (gx gp_232 (w := 0x4009702) rfl (by decide) rfl) (a := 4) (n := 151) rfl rfl rfl ?_
              refine g_iadd act (gx gp_232 (w := 0x980a) rfl (by decide) rfl) (n := 152) rfl ?_
              have v_91 := iv_add v_90 v_18 (show -2147483648 ≤ ((((4 : Nat) : Int) * ((tl (11 + k)) - ((1 : Nat) : Int))) + ((tl (5 + k)) - ((1 : Nat) : Int))) by omega) (show ((((4 : Nat) : Int) * ((tl (11 + k)) - ((1 : Nat) : Int))) + ((tl (5 + k)) - ((1 : Nat) : Int))) < 2147483648 by omega)
              refine g_dup2 act (gx gp_232 (w := 0x9930) rfl (by decide) rfl) (n := 153) rfl rfl rfl ?_
              obtain ⟨j_92, hj_93⟩ := Int.eq_ofNat_of_zero_le (show (0 : Int) ≤ ((((4 : Nat) : Int) * ((tl (11 + k)) - ((1 : Nat) : Int))) + ((tl (5 + k)) - ((1 : Nat) : Int))) by omega)
              obtain ⟨x_94, e_95, hx_96⟩ := f_85 j_92 (by omega)
              have b_97 := bd_86 j_92
              refine r_lald act (gx gp_232 (w := 0x9a0d) rfl (by decide) rfl) (n := 154) (j := j_92) rfl (rw_83.2 (18, 133, 33, 12) (by decide)).2 (v_91.trans hj_93) (show j_92 < 12 by omega) (v := .long x_94) e_95 ?_
              refine g_constL act (gx gp_232 (w := 0x4000000000000000a000000009b01) rfl (by decide) rfl) (n := 155) (x := 1) (by decide) rfl ?_
              refine g_lsub act (gx gp_232 (w := 0x9c1e) rfl (by decide) rfl) (n := 156) rfl ?_
              have v_98 := lw_sub hx_96 (show (1 : Int64).toInt = (1 : Int) from by decide) (show -9223372036854775808 ≤ (((upI (upI (upI (lapc tl but k) j_43 (((lapc tl but k) j_43) + 1)) j_60 (((upI (lapc tl but k) j_43 (((lapc tl but k) j_43) + 1)) j_60) + 1)) j_76 (((upI (upI (lapc tl but k) j_43 (((lapc tl but k) j_43) + 1)) j_60 (((upI (lapc tl but k) j_43 (((lapc tl but k) j_43) + 1)) j_60) + 1)) j_76) - 1)) j_92) - 1) by omega) (show (((upI (upI (upI (lapc tl but k) j_43 (((lapc tl but k) j_43) + 1)) j_60 (((upI (lapc tl but k) j_43 (((lapc tl but k) j_43) + 1)) j_60) + 1)) j_76 (((upI (upI (lapc tl but k) j_43 (((lapc tl but k) j_43) + 1)) j_60 (((upI (lapc tl but k) j_43 (((lapc tl but k) j_43) + 1)) j_60) + 1)) j_76) - 1)) j_92) - 1) < 9223372036854775808 by omega)
              refine r_last act (gx gp_232 (w := 0x9d05) rfl (by decide) rfl) (n := 157) (j := j_92) rfl (rw_83.2 (18, 133, 33, 12) (by decide)).2 (v_91.trans hj_93) (show j_92 < 12 by omega) ?_
              have rw_99 := RW.wr (k := 133) (j := j_92) (v := .long (x_94 - (1 : Int64))) rw_83 (Or.inl (by decide))
              have f_100 := f_84.ne (k := 133) (j := j_92) (v := .long (x_94 - (1 : Int64))) (by decide)
              have f_101 := f_85.put (j := j_92) (rw_83.2 (18, 133, 33, 12) (by decide)).2 v_98
              have bd_102 := bd_up (i := j_92) (X := (((upI (upI (upI (lapc tl but k) j_43 (((lapc tl but k) j_43) + 1)) j_60 (((upI (lapc tl but k) j_43 (((lapc tl but k) j_43) + 1)) j_60) + 1)) j_76 (((upI (upI (lapc tl but k) j_43 (((lapc tl but k) j_43) + 1)) j_60 (((upI (lapc tl but k) j_43 (((lapc tl but k) j_43) + 1)) j_60) + 1)) j_76) - 1)) j_92) - 1)) bd_86 (by omega) (by omega)
              have f_103 := f_87.ne (k := 133) (j := j_92) (v := .long (x_94 - (1 : Int64))) (by decide)
              have fr_104 := fr_88.wr (k := 133) (j := j_92) (.long (x_94 - (1 : Int64))) (by unfold WQ; omega)
              clear rw_83 fr_88 f_84 f_85 f_87
              generalize (wr hs_89 133 j_92 (.long (x_94 - (1 : Int64)))) = hs_105 at *
              refine g_iinc act (gx gp_232 (w := 0x8000000100000300a009) rfl (by decide) rfl) (a := 3) (i := (1 : Int32)) (n := 160) rfl (by decide) rfl rfl (L2 := [some (.ref 124), some (.int ni), some (.int bi), some (.int (ki + (1 : Int32))), some (.int (x_15 - (1 : Int32))), some (.int (x_20 - (1 : Int32)))]) rfl ?_
              have v_106 := iv_addN hki (show (1 : Int32).toInt = ((1 : Nat) : Int) from by decide) (show (k + 1) < 2147483648 by omega)
              refine g_goto act (gx gp_232 (w := 0x1e07) rfl (by decide) rfl) (n := 30) rfl ?_
              have hst := lapc_step (but := but) hN (show k < nl by omega)
              exact n_forget (d := D_232) (L2 := [some (.ref 124), some (.int ni), some (.int bi), some (.int (ki + (1 : Int32))), none, none]) (fun i v hi => by
                match i, hi with
                | 0, hi => exact hi
                | 1, hi => exact hi
                | 2, hi => exact hi
                | 3, hi => exact hi
                | 4, hi => cases hi
                | 5, hi => cases hi
                | i + 6, hi => cases hi) (ih (k + 1) (by omega) (by omega) _ _ v_106 rw_99 f_100 (f_101.cong (fun j hj => by
                  rw [hst j hj]
                  rw [if_neg (by omega)]; exact stepc_ab (by omega) (by omega) (by omega) (by omega) (by omega) (by omega) (by omega) j)) f_103 fr_104)
    · simp only [i_eq] at h23
      refine g_goto act (gx gp_232 (w := 0x9d07) rfl (by decide) rfl) (n := 157) rfl ?_
      refine g_iinc act (gx gp_232 (w := 0x8000000100000300a009) rfl (by decide) rfl) (a := 3) (i := (1 : Int32)) (n := 160) rfl (by decide) rfl rfl (L2 := [some (.ref 124), some (.int ni), some (.int bi), some (.int (ki + (1 : Int32))), some (.int (x_15 - (1 : Int32))), some (.int (x_20 - (1 : Int32)))]) rfl ?_
      have v_107 := iv_addN hki (show (1 : Int32).toInt = ((1 : Nat) : Int) from by decide) (show (k + 1) < 2147483648 by omega)
      refine g_goto act (gx gp_232 (w := 0x1e07) rfl (by decide) rfl) (n := 30) rfl ?_
      have hst := lapc_step (but := but) hN (show k < nl by omega)
      exact n_forget (d := D_232) (L2 := [some (.ref 124), some (.int ni), some (.int bi), some (.int (ki + (1 : Int32))), none, none]) (fun i v hi => by
        match i, hi with
        | 0, hi => exact hi
        | 1, hi => exact hi
        | 2, hi => exact hi
        | 3, hi => exact hi
        | 4, hi => cases hi
        | 5, hi => cases hi
        | i + 6, hi => cases hi) (ih (k + 1) (by omega) (by omega) _ _ v_107 rwj hTj (hA.cong (fun j hj => by
          rw [hst j hj]
          first | rw [if_pos (by omega)] | (exfalso; omega))) hB hfr)

theorem eq_clear {g0 : GG} {bl : Nat} {xs : Nat → Int32} {l : Launch} {wp : va_W} {p : Program} {e : Env} {R : Room} {s : State} {m : MethodId} {args : Array Value} {below : List Frame} {meth : Method} {c : Code} {Q : State → Prop} {kc0 ks0 kc ks f lam KC KS : Nat} {hs : List CE} {tl : Nat → Int} {ni bi : Int32} {nd nl : Nat} {but : Int} (hT : IArr hs 125 46 tl) (hnl : tl 2 = (nl : Int)) (hn6 : nl ≤ 6) (hN : NetL tl nl) (hni : ni.toInt = ((nd + 1 : Nat) : Int)) (hnd : nd < 3) (hbi : bi.toInt = but) (act : Act SSX TBL (gp g0 wp) CLS bl xs D_232 p l s m args meth c) (hEnd : EndN SSX TBL (gp g0 wp) CLS D_232 p l e R s m args below meth c Q kc0 ks0 f lam KC KS (fun kd r h2 => kd = 0 ∧ LArr h2 133 12 (upI (lapc tl but nl) (4 * nd + 3) 1) ∧ LArr h2 134 12 (fun _ => 1) ∧ FrS WQ hs h2)) (hk1 : kc ≤ KC) (hk2 : ks ≤ KS) : ∀ k : Nat, k ≤ 12 → ∀ (ki : Int32) (hj : List CE) (fA fB : Nat → Int), ki.toInt = (k : Int) → RW hj → IArr hj 125 46 tl → LArr hj 133 12 fA → LArr hj 134 12 fB → (∀ j, j < k → fA j = 0 ∧ fB j = 1) → FrS WQ hs hj → WpN (gp g0 wp) CLS p l e R s m args below meth c Q D_232.2.2.1 kc0 ks0 2 [some (.ref 124), some (.int ni), some (.int bi), some (.int ki), none, none] (hj, kc, ks) [] := by
  refine dn (fun k hk ih => ?_)
  intro ki hj fA fB hki rwj hTj hA hB hz hfr
  refine g_loadI act (gx gp_232 (w := 0x3000302) rfl (by decide) rfl) (a := 3) (n := 3) rfl rfl rfl ?_
  refine g_constI act (gx gp_232 (w := 0x40000006400000061000000000501) rfl (by decide) rfl) (n := 5) (x := (12 : Int32)) (by decide) rfl ?_
  refine g_icmpGe act (gx gp_232 (w := 0x1c000808) rfl (by decide) rfl) (tgt := 28) (n := 8) rfl rfl (fun h3 => ?_) (fun h3 => ?_)
  · simp only [i_le, show (12 : Int32).toInt = 12 from by decide] at h3
    refine g_constI act (gx gp_232 (w := 0x40000000400000001000000001d01) rfl (by decide) rfl) (n := 29) (x := (0 : Int32)) (by decide) rfl ?_
    refine g_storeI act (gx gp_232 (w := 0x3001e10) rfl (by decide) rfl) (a := 3) (n := 30) rfl rfl (L2 := [some (.ref 124), some (.int ni), some (.int bi), some (.int (0 : Int32)), none, none]) rfl ?_
    have hA2 : LArr hj 133 12 (lapc tl but 0) := hA.cong (fun j hj => by
      rw [(hz j (by omega)).1]
      unfold lapc
      split <;> rfl)
    have hB2 : LArr hj 134 12 (fun _ => 1) := hB.cong (fun j hj => (hz j (by omega)).2)
    exact eq_loop hT hnl hn6 hN hni hnd hbi act hEnd hk1 hk2 0 (by omega) _ hj rfl rwj hTj hA2 hB2 hfr
  · simp only [i_le, show (12 : Int32).toInt = 12 from by decide] at h3
    refine g_loadA act (gx gp_232 (w := 0x903) rfl (by decide) rfl) (a := 0) (n := 9) rfl rfl rfl ?_
    refine r_getf act (gx gp_232 (w := 0x3000489000c04) rfl (by decide) rfl) (n := 12) (ci := 9) (j := 18) (N := 39) rfl rfl rfl rwj.1 (by decide) (rwj.2 (18, 133, 33, 12) (by decide)).1 ?_
    refine g_loadI act (gx gp_232 (w := 0x3000d02) rfl (by decide) rfl) (a := 3) (n := 13) rfl rfl rfl ?_
    refine g_constL act (gx gp_232 (w := 0x40000000000000002000000000e01) rfl (by decide) rfl) (n := 14) (x := 0) (by decide) rfl ?_
    refine r_last act (gx gp_232 (w := 0xf05) rfl (by decide) rfl) (n := 15) (j := k) rfl (rwj.2 (18, 133, 33, 12) (by decide)).2 hki (show k < 12 by omega) ?_
    have rw_1 := RW.wr (k := 133) (j := k) (v := .long (0 : Int64)) rwj (Or.inl (by decide))
    have f_2 := hTj.ne (k := 133) (j := k) (v := .long (0 : Int64)) (by decide)
    have f_3 := hA.put (j := k) (rwj.2 (18, 133, 33, 12) (by decide)).2 (show (0 : Int64).toInt = (0 : Int) from by decide)
    have f_4 := hB.ne (k := 133) (j := k) (v := .long (0 : Int64)) (by decide)
    have fr_5 := hfr.wr (k := 133) (j := k) (.long (0 : Int64)) (by unfold WQ; omega)
    clear rwj hfr hTj hA hB
    generalize (wr hj 133 k (.long (0 : Int64))) = hs_6 at *
    refine g_loadA act (gx gp_232 (w := 0x1003) rfl (by decide) rfl) (a := 0) (n := 16) rfl rfl rfl ?_
    refine r_getf act (gx gp_232 (w := 0x30004c9001304) rfl (by decide) rfl) (n := 19) (ci := 9) (j := 19) (N := 39) rfl rfl rfl rw_1.1 (by decide) (rw_1.2 (19, 134, 33, 12) (by decide)).1 ?_
    refine g_loadI act (gx gp_232 (w := 0x3001402) rfl (by decide) rfl) (a := 3) (n := 20) rfl rfl rfl ?_
    refine g_constL act (gx gp_232 (w := 0x4000000000000000a000000001501) rfl (by decide) rfl) (n := 21) (x := 1) (by decide) rfl ?_
    refine r_last act (gx gp_232 (w := 0x1605) rfl (by decide) rfl) (n := 22) (j := k) rfl (rw_1.2 (19, 134, 33, 12) (by decide)).2 hki (show k < 12 by omega) ?_
    have rw_7 := RW.wr (k := 134) (j := k) (v := .long (1 : Int64)) rw_1 (Or.inl (by decide))
    have f_8 := f_2.ne (k := 134) (j := k) (v := .long (1 : Int64)) (by decide)
    have f_9 := f_3.ne (k := 134) (j := k) (v := .long (1 : Int64)) (by decide)
    have f_10 := f_4.put (j := k) (rw_1.2 (19, 134, 33, 12) (by decide)).2 (show (1 : Int64).toInt = (1 : Int) from by decide)
    have fr_11 := fr_5.wr (k := 134) (j := k) (.long (1 : Int64)) (by unfold WQ; omega)
    clear rw_1 fr_5 f_2 f_3 f_4
    generalize (wr hs_6 134 k (.long (1 : Int64))) = hs_12 at *
    refine g_iinc act (gx gp_232 (w := 0x80000001000003001909) rfl (by decide) rfl) (a := 3) (i := (1 : Int32)) (n := 25) rfl (by decide) rfl rfl (L2 := [some (.ref 124), some (.int ni), some (.int bi), some (.int (ki + (1 : Int32))), none, none]) rfl ?_
    have v_13 := iv_addN hki (show (1 : Int32).toInt = ((1 : Nat) : Int) from by decide) (show (k + 1) < 2147483648 by omega)
    refine g_goto act (gx gp_232 (w := 0x207) rfl (by decide) rfl) (n := 2) rfl ?_
    exact ih (k + 1) (by omega) (by omega) _ _ _ _ v_13 rw_7 f_8 f_9 f_10 (fun j hj => by unfold upI; split <;> first | exact ⟨rfl, rfl⟩ | exact hz j (by omega)) fr_11

theorem b_eq {g0 : GG} {bl : Nat} {xs : Nat → Int32} {l : Launch} {hs : List CE} {tl : Nat → Int} {ni bi : Int32} {nd nl : Nat} {but : Int} (rw0 : RW hs) (hL1 : ∀ j, j < 12 → ∃ x : Int64, rd hs 133 j = .long x) (hL2 : ∀ j, j < 12 → ∃ x : Int64, rd hs 134 j = .long x) (hT : IArr hs 125 46 tl) (hnl : tl 2 = (nl : Int)) (hn6 : nl ≤ 6) (hN : NetL tl nl) (hni : ni.toInt = ((nd + 1 : Nat) : Int)) (hnd : nd < 3) (hbi : bi.toInt = but) : BodyN SSX TBL g0 CLS bl xs l D_232 0 0 0 0 [.ref 124, .int ni, .int bi] hs (fun kd r h2 => kd = 0 ∧ LArr h2 133 12 (upI (lapc tl but nl) (4 * nd + 3) 1) ∧ LArr h2 134 12 (fun _ => 1) ∧ FrS WQ hs h2) := by
  intro wp p e R s m args below meth c Q kc0 ks0 kc ks act hf hl hc hsl hEnd
  show WpN (gp g0 wp) CLS p l e R s m args below meth c Q D_232.2.2.1 kc0 ks0 0 [some (.ref 124), some (.int ni), some (.int bi), none, none, none] (hs, kc, ks) []
  refine g_constI act (gx gp_232 (w := 0x40000000400000001000000000101) rfl (by decide) rfl) (n := 1) (x := (0 : Int32)) (by decide) rfl ?_
  refine g_storeI act (gx gp_232 (w := 0x3000210) rfl (by decide) rfl) (a := 3) (n := 2) rfl rfl (L2 := [some (.ref 124), some (.int ni), some (.int bi), some (.int (0 : Int32)), none, none]) rfl ?_
  obtain ⟨fA, hA⟩ := LArr.any (c := 133) (n := 12) hL1
  obtain ⟨fB, hB⟩ := LArr.any (c := 134) (n := 12) hL2
  exact eq_clear hT hnl hn6 hN hni hnd hbi act hEnd (by omega) (by omega) 0 (by omega) _ hs fA fB rfl rw0 hT hA hB (fun j hj => absurd hj (by omega)) (FrS.rf _ _)

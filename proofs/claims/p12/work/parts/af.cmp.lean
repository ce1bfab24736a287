/-! compute: the trees are few. -/
theorem cmp_1 {g0 : GG} {bl : Nat} {xs : Nat → Int32} {l : Launch} {wp : va_W} {p : Program} {e : Env} {R : Room} {s : State} {m : MethodId} {args : Array Value} {below : List Frame} {meth : Method} {c : Code} {Q : State → Prop} {kc0 ks0 kc ks f lam KC9 KS : Nat}  {Inv : List Nat → List CE → Prop} (hI : StI KC Inv) {R0 : List Nat} {hs0 : List CE} {kf kl : Nat} {kg : Nat} (hkg : R0[kg]? = some 5) {w : Int32} (act : Act SSX TBL (gp g0 wp) CLS bl xs D_75 p l s m args meth c) (hEnd : EndN SSX TBL (gp g0 wp) CLS D_75 p l e R s m args below meth c Q kc0 ks0 f lam KC9 KS (fun kd r h2 => kd = 0 ∧ r = none ∧ LST Inv R0 hs0 kf kl 25 h2)) (hf : 2 ≤ R.frames) (hl : 48 ≤ R.locals) (hc : kc ≤ R.cells + kc0) (hsl : ks ≤ R.slots + ks0) (K : ∀ hs : List CE, LST Inv R0 hs0 kf kl 25 hs → WpN (gp g0 wp) CLS p l e R s m args below meth c Q D_75.2.2.1 kc0 ks0 49 [some (.ref kf), some (.ref kg), some (.int w), none, none, none, none] (hs, kc, ks) []) : ∀ (n : Nat) (i : Int32) (hs : List CE), 0 ≤ i.toInt → i.toInt + (n : Int) = 6 → LST Inv R0 hs0 kf kl (1 + 4 * i.toInt.toNat) hs → WpN (gp g0 wp) CLS p l e R s m args below meth c Q D_75.2.2.1 kc0 ks0 10 [some (.ref kf), some (.ref kg), some (.int w), some (.int i), none, none, none] (hs, kc, ks) [] := by
  intro n
  induction n with
  | zero =>
    intro i hs i0 hi hS
    obtain ⟨hX, hln, hkl, hkf, rkl, hL, hrg⟩ := id hS
    have hT := hX.1
    refine g_loadI act (gx gp_75 (w := 0x3000b02) rfl (by decide) rfl) (a := 3) (n := 11) rfl rfl rfl ?_
    refine g_loadA act (gx gp_75 (w := 0x1000c03) rfl (by decide) rfl) (a := 1) (n := 12) rfl rfl rfl ?_
    obtain ⟨x12, e_x12, lo_x12, hi_x12⟩ := ty_int (lo := 0) (hi := 6) (j := 2) hT hkg (by decide) (by decide) (Or.inr (Or.inl rfl)) rfl
    refine r_getf act (gx gp_75 (w := 0x84000f04) rfl (by decide) rfl) (n := 15) (ci := 4) (j := 2) (N := 18) rfl rfl rfl (ty_shp hT hkg (by decide) rfl rfl) (by decide) (v := .int x12) e_x12 ?_
    refine g_icmpGe act (gx gp_75 (w := 0x31001208) rfl (by decide) rfl) (tgt := 49) (n := 18) rfl rfl (fun h3 => ?_) (fun h3 => ?_)
    · simp only [i_le] at h3
      exact n_forget (d := D_75) (L2 := [some (.ref kf), some (.ref kg), some (.int w), none, none, none, none]) (fun i v hi => by
        match i, hi with
        | 0, hi => exact hi
        | 1, hi => exact hi
        | 2, hi => exact hi
        | 3, hi => cases hi
        | 4, hi => cases hi
        | 5, hi => cases hi
        | 6, hi => cases hi
        | i + 7, hi => cases hi) (K hs (lst_mono hS (by omega)))
    · simp only [i_le] at h3
      exfalso; omega
  | succ n ih =>
    intro i hs i0 hi hS
    have ei : (i + (1 : Int32)).toInt = i.toInt + 1 := i_add (by show _ ≤ _ + (1 : Int); omega) (by show _ + (1 : Int) < _; omega)
    have t43 : ∀ hs : List CE, LST Inv R0 hs0 kf kl (1 + 4 * i.toInt.toNat + 4) hs → WpN (gp g0 wp) CLS p l e R s m args below meth c Q D_75.2.2.1 kc0 ks0 43 [some (.ref kf), some (.ref kg), some (.int w), some (.int i), none, none, none] (hs, kc, ks) [] := by
      intro hs hS
      refine g_iinc act (gx gp_75 (w := 0x80000001000003002e09) rfl (by decide) rfl) (a := 3) (i := (1 : Int32)) (n := 46) rfl (by decide) rfl rfl (L2 := [some (.ref kf), some (.ref kg), some (.int w), some (.int (i + (1 : Int32))), none, none, none]) rfl ?_
      refine g_goto act (gx gp_75 (w := 0xa07) rfl (by decide) rfl) (n := 10) rfl ?_
      exact ih (i + (1 : Int32)) hs (by omega) (by omega) (by rw [show 1 + 4 * (i + (1 : Int32)).toInt.toNat = 1 + 4 * i.toInt.toNat + 4 by omega]; exact hS)
    obtain ⟨hX, hln, hkl, hkf, rkl, hL, hrg⟩ := id hS
    have hT := hX.1
    refine g_loadI act (gx gp_75 (w := 0x3000b02) rfl (by decide) rfl) (a := 3) (n := 11) rfl rfl rfl ?_
    refine g_loadA act (gx gp_75 (w := 0x1000c03) rfl (by decide) rfl) (a := 1) (n := 12) rfl rfl rfl ?_
    obtain ⟨x12, e_x12, lo_x12, hi_x12⟩ := ty_int (lo := 0) (hi := 6) (j := 2) hT hkg (by decide) (by decide) (Or.inr (Or.inl rfl)) rfl
    refine r_getf act (gx gp_75 (w := 0x84000f04) rfl (by decide) rfl) (n := 15) (ci := 4) (j := 2) (N := 18) rfl rfl rfl (ty_shp hT hkg (by decide) rfl rfl) (by decide) (v := .int x12) e_x12 ?_
    refine g_icmpGe act (gx gp_75 (w := 0x31001208) rfl (by decide) rfl) (tgt := 49) (n := 18) rfl rfl (fun h3 => ?_) (fun h3 => ?_)
    · simp only [i_le] at h3
      exact n_forget (d := D_75) (L2 := [some (.ref kf), some (.ref kg), some (.int w), none, none, none, none]) (fun i v hi => by
        match i, hi with
        | 0, hi => exact hi
        | 1, hi => exact hi
        | 2, hi => exact hi
        | 3, hi => cases hi
        | 4, hi => cases hi
        | 5, hi => cases hi
        | 6, hi => cases hi
        | i + 7, hi => cases hi) (K hs (lst_mono hS (by omega)))
    · simp only [i_le] at h3
      refine g_loadI act (gx gp_75 (w := 0x3001302) rfl (by decide) rfl) (a := 3) (n := 19) rfl rfl rfl ?_
      refine g_loadI act (gx gp_75 (w := 0x2001402) rfl (by decide) rfl) (a := 2) (n := 20) rfl rfl rfl ?_
      refine g_icmpEq act (gx gp_75 (w := 0x2b00172e) rfl (by decide) rfl) (tgt := 43) (n := 23) rfl rfl (fun h6 => ?_) (fun h6 => ?_)
      · simp only [i_eq] at h6
        exact t43 _ (lst_mono hS (by omega))
      · simp only [i_eq] at h6
        refine g_loadA act (gx gp_75 (w := 0x1803) rfl (by decide) rfl) (a := 0) (n := 24) rfl rfl rfl ?_
        refine g_loadA act (gx gp_75 (w := 0x1001903) rfl (by decide) rfl) (a := 1) (n := 25) rfl rfl rfl ?_
        obtain ⟨x25, e_x25, r_x25⟩ := ty_ref (r2 := 40) (j := 6) hT hkg (by decide) (by decide) (Or.inl rfl) rfl (by decide)
        refine r_getf act (gx gp_75 (w := 0x3000184001c04) rfl (by decide) rfl) (n := 28) (ci := 4) (j := 6) (N := 18) rfl rfl rfl (ty_shp hT hkg (by decide) rfl rfl) (by decide) (v := .ref x25) e_x25 ?_
        refine g_loadI act (gx gp_75 (w := 0x3001d02) rfl (by decide) rfl) (a := 3) (n := 29) rfl rfl rfl ?_
        obtain ⟨x29, e_x29, lo_x29, hi_x29⟩ := ty_int (lo := 0) (hi := 3) (j := i.toInt.toNat) hT r_x25 (by decide) (by show _ < 6; omega) (Or.inl rfl) rfl
        refine r_iald act (gx gp_75 (w := 0x1e1a) rfl (by decide) rfl) (n := 30) (N := 6) rfl (ty_shp hT r_x25 (by decide) rfl rfl) (j := i.toInt.toNat) (by omega) (by omega) (v := .int x29) e_x29 ?_
        refine g_constI act (gx gp_75 (w := 0x40000000c00000009000000001f01) rfl (by decide) rfl) (n := 31) (x := (1 : Int32)) (by decide) rfl ?_
        refine g_isub act (gx gp_75 (w := 0x2026) rfl (by decide) rfl) (n := 32) rfl ?_
        refine g_loadA act (gx gp_75 (w := 0x1002103) rfl (by decide) rfl) (a := 1) (n := 33) rfl rfl rfl ?_
        obtain ⟨x33, e_x33, r_x33⟩ := ty_ref (r2 := 40) (j := 7) hT hkg (by decide) (by decide) (Or.inl rfl) rfl (by decide)
        refine r_getf act (gx gp_75 (w := 0x30001c4002404) rfl (by decide) rfl) (n := 36) (ci := 4) (j := 7) (N := 18) rfl rfl rfl (ty_shp hT hkg (by decide) rfl rfl) (by decide) (v := .ref x33) e_x33 ?_
        refine g_loadI act (gx gp_75 (w := 0x3002502) rfl (by decide) rfl) (a := 3) (n := 37) rfl rfl rfl ?_
        obtain ⟨x37, e_x37, lo_x37, hi_x37⟩ := ty_int (lo := 0) (hi := 3) (j := i.toInt.toNat) hT r_x33 (by decide) (by show _ < 6; omega) (Or.inl rfl) rfl
        refine r_iald act (gx gp_75 (w := 0x261a) rfl (by decide) rfl) (n := 38) (N := 6) rfl (ty_shp hT r_x33 (by decide) rfl rfl) (j := i.toInt.toNat) (by omega) (by omega) (v := .int x37) e_x37 ?_
        refine g_constI act (gx gp_75 (w := 0x40000000c00000009000000002701) rfl (by decide) rfl) (n := 39) (x := (1 : Int32)) (by decide) rfl ?_
        refine g_isub act (gx gp_75 (w := 0x2826) rfl (by decide) rfl) (n := 40) rfl ?_
        have ea : ((x29 - (1 : Int32))).toInt = x29.toInt - 1 := i_sub (by show _ ≤ _ - (1 : Int); omega) (by show _ - (1 : Int) < _; omega)
        have eb : ((x37 - (1 : Int32))).toInt = x37.toInt - 1 := i_sub (by show _ ≤ _ - (1 : Int); omega) (by show _ - (1 : Int) < _; omega)
        refine n_call tb_pres act hEnd (gx (P := G_call) gp_75 (w := 0x200000000000080c33000048002b0f) rfl (by decide) rfl) (d' := D_72) rfl (f' := 0) (lam' := 0) (mc := 0) (ms := 0) (as := [.ref kf, .int (x29 - (1 : Int32)), .int (x37 - (1 : Int32))]) (rest := []) (b_add (a := (x29 - (1 : Int32))) (b := (x37 - (1 : Int32))) hI (by omega) (by omega) (by omega) (by omega) (by omega) hS) (show (3 : Nat) = fb 0x200000000000080c33000048002b0f % 16 by decide) (by show (3 : Nat) ≤ 3; decide) (fun _ => ⟨_, _, rfl, _, shp_at (ty_shp hT hkf (by decide) (a := 1) (b := 4) rfl rfl), Or.inr (show fb 0x200000000000080c33000048002b0f >>> 68 = 2 by decide)⟩) (by omega) (by show 8 + (3 + 11) + 0 ≤ R.locals; omega) (by show (0 : Nat) ≤ 8; decide) (by show kc + 0 ≤ _; omega) (by show ks + 0 ≤ _; omega) (fun r9 h2 hpo hr9 => ?_) (fun x9 hs9 hx9 hpo => ?_)
        · obtain rfl : r9 = none := hr9.elim (fun q => q.2) (fun q => absurd rfl q.1)
          obtain ⟨-, -, hS2⟩ := hpo
          show WpN (gp g0 wp) CLS p l e R s m args below meth c Q D_75.2.2.1 kc0 ks0 43 [some (.ref kf), some (.ref kg), some (.int w), some (.int i), none, none, none] (h2, kc, ks) []
          exact t43 _ hS2
        · exact absurd hpo.1 (by omega)

theorem cmp_2 {g0 : GG} {bl : Nat} {xs : Nat → Int32} {l : Launch} {wp : va_W} {p : Program} {e : Env} {R : Room} {s : State} {m : MethodId} {args : Array Value} {below : List Frame} {meth : Method} {c : Code} {Q : State → Prop} {kc0 ks0 kc ks f lam KC9 KS : Nat}  {Inv : List Nat → List CE → Prop} (hI : StI KC Inv) {R0 : List Nat} {hs0 : List CE} {kf kl : Nat} {kg : Nat} (hkg : R0[kg]? = some 5) {w : Int32} (act : Act SSX TBL (gp g0 wp) CLS bl xs D_75 p l s m args meth c) (hEnd : EndN SSX TBL (gp g0 wp) CLS D_75 p l e R s m args below meth c Q kc0 ks0 f lam KC9 KS (fun kd r h2 => kd = 0 ∧ r = none ∧ LST Inv R0 hs0 kf kl 25 h2)) (hf : 2 ≤ R.frames) (hl : 48 ≤ R.locals) (hc : kc ≤ R.cells + kc0) (hsl : ks ≤ R.slots + ks0) {i : Int32} (i0 : 0 ≤ i.toInt) (i6 : i.toInt < 6) (K : ∀ hs : List CE, LST Inv R0 hs0 kf kl 25 hs → WpN (gp g0 wp) CLS p l e R s m args below meth c Q D_75.2.2.1 kc0 ks0 132 [some (.ref kf), some (.ref kg), some (.int w), some (.int i), none, none, none] (hs, kc, ks) []) : ∀ (n : Nat) (j : Int32) (hs : List CE), 0 ≤ j.toInt → j.toInt + (n : Int) = 4 → LST Inv R0 hs0 kf kl 25 hs → WpN (gp g0 wp) CLS p l e R s m args below meth c Q D_75.2.2.1 kc0 ks0 66 [some (.ref kf), some (.ref kg), some (.int w), some (.int i), some (.int j), none, none] (hs, kc, ks) [] := by
  intro n
  induction n with
  | zero =>
    intro j hs j0 hj hS
    obtain ⟨hX, hln, hkl, hkf, rkl, hL, hrg⟩ := id hS
    have hT := hX.1
    refine g_loadI act (gx gp_75 (w := 0x4004402) rfl (by decide) rfl) (a := 4) (n := 68) rfl rfl rfl ?_
    refine g_loadA act (gx gp_75 (w := 0x1004503) rfl (by decide) rfl) (a := 1) (n := 69) rfl rfl rfl ?_
    obtain ⟨x69, e_x69, lo_x69, hi_x69⟩ := ty_int (lo := 0) (hi := 4) (j := 0) hT hkg (by decide) (by decide) (Or.inl rfl) rfl
    refine r_getf act (gx gp_75 (w := 0x4004804) rfl (by decide) rfl) (n := 72) (ci := 4) (j := 0) (N := 18) rfl rfl rfl (ty_shp hT hkg (by decide) rfl rfl) (by decide) (v := .int x69) e_x69 ?_
    refine g_icmpGe act (gx gp_75 (w := 0x84004b08) rfl (by decide) rfl) (tgt := 132) (n := 75) rfl rfl (fun h3 => ?_) (fun h3 => ?_)
    · simp only [i_le] at h3
      exact n_forget (d := D_75) (L2 := [some (.ref kf), some (.ref kg), some (.int w), some (.int i), none, none, none]) (fun i v hi => by
        match i, hi with
        | 0, hi => exact hi
        | 1, hi => exact hi
        | 2, hi => exact hi
        | 3, hi => exact hi
        | 4, hi => cases hi
        | 5, hi => cases hi
        | 6, hi => cases hi
        | i + 7, hi => cases hi) (K hs hS)
    · simp only [i_le] at h3
      exfalso; omega
  | succ n ih =>
    intro j hs j0 hj hS
    obtain ⟨hX, hln, hkl, hkf, rkl, hL, hrg⟩ := id hS
    have hT := hX.1
    have ej : (j + (1 : Int32)).toInt = j.toInt + 1 := i_add (by show _ ≤ _ + (1 : Int); omega) (by show _ + (1 : Int) < _; omega)
    refine g_loadI act (gx gp_75 (w := 0x4004402) rfl (by decide) rfl) (a := 4) (n := 68) rfl rfl rfl ?_
    refine g_loadA act (gx gp_75 (w := 0x1004503) rfl (by decide) rfl) (a := 1) (n := 69) rfl rfl rfl ?_
    obtain ⟨x69, e_x69, lo_x69, hi_x69⟩ := ty_int (lo := 0) (hi := 4) (j := 0) hT hkg (by decide) (by decide) (Or.inl rfl) rfl
    refine r_getf act (gx gp_75 (w := 0x4004804) rfl (by decide) rfl) (n := 72) (ci := 4) (j := 0) (N := 18) rfl rfl rfl (ty_shp hT hkg (by decide) rfl rfl) (by decide) (v := .int x69) e_x69 ?_
    refine g_icmpGe act (gx gp_75 (w := 0x84004b08) rfl (by decide) rfl) (tgt := 132) (n := 75) rfl rfl (fun h3 => ?_) (fun h3 => ?_)
    · simp only [i_le] at h3
      exact n_forget (d := D_75) (L2 := [some (.ref kf), some (.ref kg), some (.int w), some (.int i), none, none, none]) (fun i v hi => by
        match i, hi with
        | 0, hi => exact hi
        | 1, hi => exact hi
        | 2, hi => exact hi
        | 3, hi => exact hi
        | 4, hi => cases hi
        | 5, hi => cases hi
        | 6, hi => cases hi
        | i + 7, hi => cases hi) (K hs hS)
    · simp only [i_le] at h3
      refine g_loadA act (gx gp_75 (w := 0x4c03) rfl (by decide) rfl) (a := 0) (n := 76) rfl rfl rfl ?_
      obtain ⟨x76, e_x76, r_x76⟩ := ty_ref (r2 := 35) (j := 3) hT hkf (by decide) (by decide) (Or.inl rfl) rfl (by decide)
      refine r_getf act (gx gp_75 (w := 0x30000c1004f04) rfl (by decide) rfl) (n := 79) (ci := 1) (j := 3) (N := 4) rfl rfl rfl (ty_shp hT hkf (by decide) rfl rfl) (by decide) (v := .ref x76) e_x76 ?_
      refine g_loadA act (gx gp_75 (w := 0x1005003) rfl (by decide) rfl) (a := 1) (n := 80) rfl rfl rfl ?_
      obtain ⟨x80, e_x80, r_x80⟩ := ty_ref (r2 := 40) (j := 6) hT hkg (by decide) (by decide) (Or.inl rfl) rfl (by decide)
      refine r_getf act (gx gp_75 (w := 0x3000184005304) rfl (by decide) rfl) (n := 83) (ci := 4) (j := 6) (N := 18) rfl rfl rfl (ty_shp hT hkg (by decide) rfl rfl) (by decide) (v := .ref x80) e_x80 ?_
      refine g_loadI act (gx gp_75 (w := 0x3005402) rfl (by decide) rfl) (a := 3) (n := 84) rfl rfl rfl ?_
      obtain ⟨x84, e_x84, lo_x84, hi_x84⟩ := ty_int (lo := 0) (hi := 3) (j := i.toInt.toNat) hT r_x80 (by decide) (by show _ < 6; omega) (Or.inl rfl) rfl
      refine r_iald act (gx gp_75 (w := 0x551a) rfl (by decide) rfl) (n := 85) (N := 6) rfl (ty_shp hT r_x80 (by decide) rfl rfl) (j := i.toInt.toNat) (by omega) (by omega) (v := .int x84) e_x84 ?_
      obtain ⟨x85, e_x85, r_x85⟩ := ty_ref (r2 := 30) (j := x84.toInt.toNat) hT r_x76 (by decide) (by show _ < 4; omega) (Or.inl rfl) rfl (by decide)
      refine r_aald act (gx gp_75 (w := 0x5612) rfl (by decide) rfl) (n := 86) (N := 4) rfl (ty_shp hT r_x76 (by decide) rfl rfl) (by decide) (j := x84.toInt.toNat) (by omega) (by omega) (v := .ref x85) e_x85 ?_
      refine g_loadI act (gx gp_75 (w := 0x4005802) rfl (by decide) rfl) (a := 4) (n := 88) rfl rfl rfl ?_
      obtain ⟨x88, e_x88⟩ := ty_lng (j := j.toInt.toNat) hT r_x85 (by decide) (by show _ < 4; omega) rfl
      refine r_lald act (gx gp_75 (w := 0x590d) rfl (by decide) rfl) (n := 89) (N := 4) rfl (ty_shp hT r_x85 (by decide) rfl rfl) (j := j.toInt.toNat) (by omega) (by omega) (v := .long x88) e_x88 ?_
      refine g_loadA act (gx gp_75 (w := 0x5a03) rfl (by decide) rfl) (a := 0) (n := 90) rfl rfl rfl ?_
      obtain ⟨x90, e_x90, r_x90⟩ := ty_ref (r2 := 35) (j := 3) hT hkf (by decide) (by decide) (Or.inl rfl) rfl (by decide)
      refine r_getf act (gx gp_75 (w := 0x30000c1005d04) rfl (by decide) rfl) (n := 93) (ci := 1) (j := 3) (N := 4) rfl rfl rfl (ty_shp hT hkf (by decide) rfl rfl) (by decide) (v := .ref x90) e_x90 ?_
      refine g_loadA act (gx gp_75 (w := 0x1005e03) rfl (by decide) rfl) (a := 1) (n := 94) rfl rfl rfl ?_
      obtain ⟨x94, e_x94, r_x94⟩ := ty_ref (r2 := 40) (j := 7) hT hkg (by decide) (by decide) (Or.inl rfl) rfl (by decide)
      refine r_getf act (gx gp_75 (w := 0x30001c4006104) rfl (by decide) rfl) (n := 97) (ci := 4) (j := 7) (N := 18) rfl rfl rfl (ty_shp hT hkg (by decide) rfl rfl) (by decide) (v := .ref x94) e_x94 ?_
      refine g_loadI act (gx gp_75 (w := 0x3006202) rfl (by decide) rfl) (a := 3) (n := 98) rfl rfl rfl ?_
      obtain ⟨x98, e_x98, lo_x98, hi_x98⟩ := ty_int (lo := 0) (hi := 3) (j := i.toInt.toNat) hT r_x94 (by decide) (by show _ < 6; omega) (Or.inl rfl) rfl
      refine r_iald act (gx gp_75 (w := 0x631a) rfl (by decide) rfl) (n := 99) (N := 6) rfl (ty_shp hT r_x94 (by decide) rfl rfl) (j := i.toInt.toNat) (by omega) (by omega) (v := .int x98) e_x98 ?_
      obtain ⟨x99, e_x99, r_x99⟩ := ty_ref (r2 := 30) (j := x98.toInt.toNat) hT r_x90 (by decide) (by show _ < 4; omega) (Or.inl rfl) rfl (by decide)
      refine r_aald act (gx gp_75 (w := 0x6412) rfl (by decide) rfl) (n := 100) (N := 4) rfl (ty_shp hT r_x90 (by decide) rfl rfl) (by decide) (j := x98.toInt.toNat) (by omega) (by omega) (v := .ref x99) e_x99 ?_
      refine g_loadI act (gx gp_75 (w := 0x4006602) rfl (by decide) rfl) (a := 4) (n := 102) rfl rfl rfl ?_
      obtain ⟨x102, e_x102⟩ := ty_lng (j := j.toInt.toNat) hT r_x99 (by decide) (by show _ < 4; omega) rfl
      refine r_lald act (gx gp_75 (w := 0x670d) rfl (by decide) rfl) (n := 103) (N := 4) rfl (ty_shp hT r_x99 (by decide) rfl rfl) (j := j.toInt.toNat) (by omega) (by omega) (v := .long x102) e_x102 ?_
      refine g_lsub act (gx gp_75 (w := 0x681e) rfl (by decide) rfl) (n := 104) rfl ?_
      refine g_storeL act (gx gp_75 (w := 0x5006a0b) rfl (by decide) rfl) (a := 5) (n := 106) rfl rfl (L2 := [some (.ref kf), some (.ref kg), some (.int w), some (.int i), some (.int j), some (.long (x88 - x102)), none]) rfl ?_
      refine g_loadA act (gx gp_75 (w := 0x6b03) rfl (by decide) rfl) (a := 0) (n := 107) rfl rfl rfl ?_
      obtain ⟨x107, e_x107, r_x107⟩ := ty_ref (r2 := 33) (j := 1) hT hkf (by decide) (by decide) (Or.inl rfl) rfl (by decide)
      refine r_getf act (gx gp_75 (w := 0x3000041006e04) rfl (by decide) rfl) (n := 110) (ci := 1) (j := 1) (N := 4) rfl rfl rfl (ty_shp hT hkf (by decide) rfl rfl) (by decide) (v := .ref x107) e_x107 ?_
      refine g_loadI act (gx gp_75 (w := 0x3006f02) rfl (by decide) rfl) (a := 3) (n := 111) rfl rfl rfl ?_
      obtain ⟨x111, e_x111, r_x111⟩ := ty_ref (r2 := 30) (j := i.toInt.toNat) hT r_x107 (by decide) (by show _ < 6; omega) (Or.inl rfl) rfl (by decide)
      refine r_aald act (gx gp_75 (w := 0x7012) rfl (by decide) rfl) (n := 112) (N := 6) rfl (ty_shp hT r_x107 (by decide) rfl rfl) (by decide) (j := i.toInt.toNat) (by omega) (by omega) (v := .ref x111) e_x111 ?_
      refine g_loadI act (gx gp_75 (w := 0x4007202) rfl (by decide) rfl) (a := 4) (n := 114) rfl rfl rfl ?_
      have t125 : ∀ v : Int64, WpN (gp g0 wp) CLS p l e R s m args below meth c Q D_75.2.2.1 kc0 ks0 125 [some (.ref kf), some (.ref kg), some (.int w), some (.int i), some (.int j), some (.long (x88 - x102)), none] (hs, kc, ks) [.long v, .int j, .ref x111] := by
        intro v
        refine r_last act (gx gp_75 (w := 0x7e05) rfl (by decide) rfl) (n := 126) (N := 4) rfl (ty_shp hT r_x111 (by decide) rfl rfl) (j := j.toInt.toNat) (by omega) (by omega) ?_
        refine g_iinc act (gx gp_75 (w := 0x80000001000004008109) rfl (by decide) rfl) (a := 4) (i := (1 : Int32)) (n := 129) rfl (by decide) rfl rfl (L2 := [some (.ref kf), some (.ref kg), some (.int w), some (.int i), some (.int (j + (1 : Int32))), some (.long (x88 - x102)), none]) rfl ?_
        refine g_goto act (gx gp_75 (w := 0x4207) rfl (by decide) rfl) (n := 66) rfl ?_
        exact n_forget (d := D_75) (L2 := [some (.ref kf), some (.ref kg), some (.int w), some (.int i), some (.int (j + (1 : Int32))), none, none]) (fun i v hi => by
          match i, hi with
          | 0, hi => exact hi
          | 1, hi => exact hi
          | 2, hi => exact hi
          | 3, hi => exact hi
          | 4, hi => exact hi
          | 5, hi => cases hi
          | 6, hi => cases hi
          | i + 7, hi => cases hi) (ih (j + (1 : Int32)) _ (by omega) (by omega) (lst_wrO hI hS r_x111 (by decide) (by decide) (by decide) (by decide) (by decide) (by decide) (show VW KC R0 (2, 0, -9223372036854775808, 9223372036854775807) _ from vw_of (vt_lL rfl rfl rfl (fun h => by cases h)) (by decide))))
      refine g_loadI act (gx gp_75 (w := 0x3007302) rfl (by decide) rfl) (a := 3) (n := 115) rfl rfl rfl ?_
      refine g_loadI act (gx gp_75 (w := 0x2007402) rfl (by decide) rfl) (a := 2) (n := 116) rfl rfl rfl ?_
      refine g_icmpNe act (gx gp_75 (w := 0x7b007721) rfl (by decide) rfl) (tgt := 123) (n := 119) rfl rfl (fun h3 => ?_) (fun h3 => ?_)
      · simp only [i_eq] at h3
        refine g_loadL act (gx gp_75 (w := 0x5007d06) rfl (by decide) rfl) (a := 5) (n := 125) rfl rfl rfl ?_
        exact t125 (x88 - x102)
      · simp only [i_eq] at h3
        refine g_constL act (gx gp_75 (w := 0x40000000000000002000000007801) rfl (by decide) rfl) (n := 120) (x := 0) (by decide) rfl ?_
        refine g_goto act (gx gp_75 (w := 0x7d07) rfl (by decide) rfl) (n := 125) rfl ?_
        exact t125 (0 : Int64)

theorem cmp_3 {g0 : GG} {bl : Nat} {xs : Nat → Int32} {l : Launch} {wp : va_W} {p : Program} {e : Env} {R : Room} {s : State} {m : MethodId} {args : Array Value} {below : List Frame} {meth : Method} {c : Code} {Q : State → Prop} {kc0 ks0 kc ks f lam KC9 KS : Nat}  {Inv : List Nat → List CE → Prop} (hI : StI KC Inv) {R0 : List Nat} {hs0 : List CE} {kf kl : Nat} {kg : Nat} (hkg : R0[kg]? = some 5) {w : Int32} (act : Act SSX TBL (gp g0 wp) CLS bl xs D_75 p l s m args meth c) (hEnd : EndN SSX TBL (gp g0 wp) CLS D_75 p l e R s m args below meth c Q kc0 ks0 f lam KC9 KS (fun kd r h2 => kd = 0 ∧ r = none ∧ LST Inv R0 hs0 kf kl 25 h2)) (hf : 2 ≤ R.frames) (hl : 48 ≤ R.locals) (hc : kc ≤ R.cells + kc0) (hsl : ks ≤ R.slots + ks0) (hk1 : kc ≤ KC9) (hk2 : ks ≤ KS) : ∀ (n : Nat) (i : Int32) (hs : List CE), 0 ≤ i.toInt → i.toInt + (n : Int) = 6 → LST Inv R0 hs0 kf kl 25 hs → WpN (gp g0 wp) CLS p l e R s m args below meth c Q D_75.2.2.1 kc0 ks0 55 [some (.ref kf), some (.ref kg), some (.int w), some (.int i), none, none, none] (hs, kc, ks) [] := by
  intro n
  induction n with
  | zero =>
    intro i hs i0 hi hS
    obtain ⟨hX, hln, hkl, hkf, rkl, hL, hrg⟩ := id hS
    have hT := hX.1
    refine g_loadI act (gx gp_75 (w := 0x3003802) rfl (by decide) rfl) (a := 3) (n := 56) rfl rfl rfl ?_
    refine g_loadA act (gx gp_75 (w := 0x1003903) rfl (by decide) rfl) (a := 1) (n := 57) rfl rfl rfl ?_
    obtain ⟨x57, e_x57, lo_x57, hi_x57⟩ := ty_int (lo := 0) (hi := 6) (j := 2) hT hkg (by decide) (by decide) (Or.inr (Or.inl rfl)) rfl
    refine r_getf act (gx gp_75 (w := 0x84003c04) rfl (by decide) rfl) (n := 60) (ci := 4) (j := 2) (N := 18) rfl rfl rfl (ty_shp hT hkg (by decide) rfl rfl) (by decide) (v := .int x57) e_x57 ?_
    refine g_icmpGe act (gx gp_75 (w := 0x8a003f08) rfl (by decide) rfl) (tgt := 138) (n := 63) rfl rfl (fun h3 => ?_) (fun h3 => ?_)
    · simp only [i_le] at h3
      exact g_retV hEnd (gx gp_75 (w := 0x18) rfl (by decide) rfl) ⟨rfl, rfl, hS⟩ hk1 hk2
    · simp only [i_le] at h3
      exfalso; omega
  | succ n ih =>
    intro i hs i0 hi hS
    obtain ⟨hX, hln, hkl, hkf, rkl, hL, hrg⟩ := id hS
    have hT := hX.1
    have ei : (i + (1 : Int32)).toInt = i.toInt + 1 := i_add (by show _ ≤ _ + (1 : Int); omega) (by show _ + (1 : Int) < _; omega)
    refine g_loadI act (gx gp_75 (w := 0x3003802) rfl (by decide) rfl) (a := 3) (n := 56) rfl rfl rfl ?_
    refine g_loadA act (gx gp_75 (w := 0x1003903) rfl (by decide) rfl) (a := 1) (n := 57) rfl rfl rfl ?_
    obtain ⟨x57, e_x57, lo_x57, hi_x57⟩ := ty_int (lo := 0) (hi := 6) (j := 2) hT hkg (by decide) (by decide) (Or.inr (Or.inl rfl)) rfl
    refine r_getf act (gx gp_75 (w := 0x84003c04) rfl (by decide) rfl) (n := 60) (ci := 4) (j := 2) (N := 18) rfl rfl rfl (ty_shp hT hkg (by decide) rfl rfl) (by decide) (v := .int x57) e_x57 ?_
    refine g_icmpGe act (gx gp_75 (w := 0x8a003f08) rfl (by decide) rfl) (tgt := 138) (n := 63) rfl rfl (fun h3 => ?_) (fun h3 => ?_)
    · simp only [i_le] at h3
      exact g_retV hEnd (gx gp_75 (w := 0x18) rfl (by decide) rfl) ⟨rfl, rfl, hS⟩ hk1 hk2
    · simp only [i_le] at h3
      refine g_constI act (gx gp_75 (w := 0x40000000400000001000000004001) rfl (by decide) rfl) (n := 64) (x := (0 : Int32)) (by decide) rfl ?_
      refine g_storeI act (gx gp_75 (w := 0x4004210) rfl (by decide) rfl) (a := 4) (n := 66) rfl rfl (L2 := [some (.ref kf), some (.ref kg), some (.int w), some (.int i), some (.int (0 : Int32)), none, none]) rfl ?_
      refine cmp_2 hI hkg act hEnd hf hl hc hsl i0 (by omega) (fun hs hS => ?_) 4 0 hs (by decide) (by decide) hS
      refine g_iinc act (gx gp_75 (w := 0x80000001000003008709) rfl (by decide) rfl) (a := 3) (i := (1 : Int32)) (n := 135) rfl (by decide) rfl rfl (L2 := [some (.ref kf), some (.ref kg), some (.int w), some (.int (i + (1 : Int32))), none, none, none]) rfl ?_
      refine g_goto act (gx gp_75 (w := 0x3707) rfl (by decide) rfl) (n := 55) rfl ?_
      exact ih (i + (1 : Int32)) hs (by omega) (by omega) hS

theorem b_cmp {g0 : GG} {bl : Nat} {xs : Nat → Int32} {l : Launch} {hs : List CE} {Inv : List Nat → List CE → Prop} (hI : StI KC Inv) {R0 : List Nat} {hs0 : List CE} {kf kl : Nat} {kg : Nat} (hkg : R0[kg]? = some 5) {w : Int32} (hS : LST Inv R0 hs0 kf kl BIG hs) : BodyN SSX TBL g0 CLS bl xs l D_75 2 48 0 0 [.ref kf, .ref kg, .int w] hs (fun kd r h2 => kd = 0 ∧ r = none ∧ LST Inv R0 hs0 kf kl 25 h2) := by
  obtain ⟨hX, hln, hkl, hkf, rkl, hL, hrg⟩ := id hS
  have hT := hX.1
  intro wp p e R s m args below meth c Q kc0 ks0 kc ks act hf hl hc hsl hEnd
  have hf : 2 ≤ R.frames := hf
  have hl : 48 ≤ R.locals := hl
  show WpN (gp g0 wp) CLS p l e R s m args below meth c Q D_75.2.2.1 kc0 ks0 0 [some (.ref kf), some (.ref kg), some (.int w), none, none, none, none] (hs, kc, ks) []
  refine g_loadA act (gx gp_75 (w := 0x103) rfl (by decide) rfl) (a := 0) (n := 1) rfl rfl rfl ?_
  refine g_loadA act (gx gp_75 (w := 0x1000203) rfl (by decide) rfl) (a := 1) (n := 2) rfl rfl rfl ?_
  obtain ⟨x2, e_x2, lo_x2, hi_x2⟩ := ty_int (lo := 0) (hi := 4) (j := 0) hT hkg (by decide) (by decide) (Or.inl rfl) rfl
  refine r_getf act (gx gp_75 (w := 0x4000504) rfl (by decide) rfl) (n := 5) (ci := 4) (j := 0) (N := 18) rfl rfl rfl (ty_shp hT hkg (by decide) rfl rfl) (by decide) (v := .int x2) e_x2 ?_
  refine n_call tb_pres act hEnd (gx (P := G_call) gp_75 (w := 0x20000000000008102200004900080f) rfl (by decide) rfl) (d' := D_73) rfl (f' := 0) (lam' := 0) (mc := 0) (ms := 0) (as := [.ref kf, .int x2]) (rest := []) (b_lclr hI hS) (show (2 : Nat) = fb 0x20000000000008102200004900080f % 16 by decide) (by show (2 : Nat) ≤ 4; decide) (fun _ => ⟨_, _, rfl, _, shp_at (ty_shp hT hkf (by decide) (a := 1) (b := 4) rfl rfl), Or.inr (show fb 0x20000000000008102200004900080f >>> 68 = 2 by decide)⟩) (by omega) (by show 8 + (4 + 11) + 0 ≤ R.locals; omega) (by show (0 : Nat) ≤ 8; decide) (by show kc + 0 ≤ _; omega) (by show ks + 0 ≤ _; omega) (fun r9 h2 hpo hr9 => ?_) (fun x9 hs9 hx9 hpo => ?_)
  · obtain rfl : r9 = none := hr9.elim (fun q => q.2) (fun q => absurd rfl q.1)
    obtain ⟨-, -, hS⟩ := hpo
    show WpN (gp g0 wp) CLS p l e R s m args below meth c Q D_75.2.2.1 kc0 ks0 8 [some (.ref kf), some (.ref kg), some (.int w), none, none, none, none] (h2, kc, ks) []
    refine g_constI act (gx gp_75 (w := 0x40000000400000001000000000901) rfl (by decide) rfl) (n := 9) (x := (0 : Int32)) (by decide) rfl ?_
    refine g_storeI act (gx gp_75 (w := 0x3000a10) rfl (by decide) rfl) (a := 3) (n := 10) rfl rfl (L2 := [some (.ref kf), some (.ref kg), some (.int w), some (.int (0 : Int32)), none, none, none]) rfl ?_
    refine cmp_1 hI hkg act hEnd hf hl (by omega) (by omega) (fun hs hS => ?_) 6 0 h2 (by decide) (by decide) hS
    obtain ⟨hX, hln, hkl, hkf, rkl, hL, hrg⟩ := id hS
    have hT := hX.1
    refine g_loadA act (gx gp_75 (w := 0x3203) rfl (by decide) rfl) (a := 0) (n := 50) rfl rfl rfl ?_
    refine n_call tb_pres act hEnd (gx (P := G_call) gp_75 (w := 0x200000000000080c1100004c00350f) rfl (by decide) rfl) (d' := D_76) rfl (f' := 1) (lam' := 26) (mc := 0) (ms := 0) (as := [.ref kf]) (rest := []) (b_ang hI hS) (show (1 : Nat) = fb 0x200000000000080c1100004c00350f % 16 by decide) (by show (1 : Nat) ≤ 3; decide) (fun _ => ⟨_, _, rfl, _, shp_at (ty_shp hT hkf (by decide) (a := 1) (b := 4) rfl rfl), Or.inr (show fb 0x200000000000080c1100004c00350f >>> 68 = 2 by decide)⟩) (by omega) (by show 8 + (3 + 11) + 26 ≤ R.locals; omega) (by show (0 : Nat) ≤ 8; decide) (by show kc + 0 ≤ _; omega) (by show ks + 0 ≤ _; omega) (fun r9 h2 hpo hr9 => ?_) (fun x9 hs9 hx9 hpo => ?_)
    · obtain rfl : r9 = none := hr9.elim (fun q => q.2) (fun q => absurd rfl q.1)
      obtain ⟨-, -, hS2⟩ := hpo
      show WpN (gp g0 wp) CLS p l e R s m args below meth c Q D_75.2.2.1 kc0 ks0 53 [some (.ref kf), some (.ref kg), some (.int w), none, none, none, none] (h2, kc, ks) []
      refine g_constI act (gx gp_75 (w := 0x40000000400000001000000003601) rfl (by decide) rfl) (n := 54) (x := (0 : Int32)) (by decide) rfl ?_
      refine g_storeI act (gx gp_75 (w := 0x3003710) rfl (by decide) rfl) (a := 3) (n := 55) rfl rfl (L2 := [some (.ref kf), some (.ref kg), some (.int w), some (.int (0 : Int32)), none, none, none]) rfl ?_
      exact cmp_3 hI hkg act hEnd hf hl (by omega) (by omega) (by omega) (by omega) 6 0 h2 (by decide) (by decide) hS2
    · exact absurd hpo.1 (by omega)
  · exact absurd hpo.1 (by omega)

theorem sh_75 {Inv : List Nat → List CE → Prop} (hI : StI KC Inv) : SemC KC Inv ch_75 := by
  refine ⟨D_75, rfl, rfl, fun g0 bl xs l hs R0 σ as hTY hT hInv hlen hE hA hRg => ?_⟩
  obtain ⟨v0, S0, rfl, m0, v1, S1, rfl, m1, v2, S2, rfl, m2, hz⟩ := hA
  have hz : S2 = [] := hz
  subst hz
  obtain ⟨kf, rfl, hkf, -⟩ := (m0.rf3 rfl).one rfl
  have hkf : R0[kf]? = some 2 := hkf
  obtain ⟨kg, rfl, hkg, -⟩ := (m1.rf3 rfl).one rfl
  have hkg : R0[kg]? = some 5 := hkg
  obtain ⟨w, rfl, -⟩ := m2.int rfl
  obtain ⟨kl, e_kl, r_kl⟩ := ty_ref (r2 := 34) (j := 2) hT hkf (by decide) (by decide) (Or.inl rfl) rfl (by decide)
  refine BodyN.imp (b_cmp (hs0 := hs) (kl := kl) hI hkg ⟨⟨hT, fun _ _ h => h, fun _ _ _ _ => rfl, hInv⟩, rfl, e_kl, hkf, r_kl, fun a _ r _ c _ x _ => by have := l_rng x; unfold BIG; omega, fun _ _ => rfl⟩) ?_
  rintro kd r h2 ⟨rfl, rfl, hS⟩
  exact po_void (by decide) (by decide) hS.1 (by rw [hS.2.1]; exact Nat.le_add_right _ _) hE hRg hS.2.2.2.2.2.2


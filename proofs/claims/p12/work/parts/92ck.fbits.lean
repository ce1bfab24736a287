/-! The reference: loadBits, meanPrice. -/
def EX9 (hs : List CE) (tl wl : Nat → Int) (nl n : Nat) (ou : Int) : Prop := QRng hs 131 132 0 24 (facA tl nl n ou) ∧ ∃ lm : Nat → Int, IArr hs 136 6 lm ∧ ∀ j, j < 6 → lm j = wl j
theorem EX9.wr0 {hs : List CE} {tl wl : Nat → Int} {nl n : Nat} {ou : Int} (h : EX9 hs tl wl nl n ou) {v : Value} : EX9 (wr hs 124 0 v) tl wl nl n ou := by
  obtain ⟨a, lm, b, c⟩ := h
  have f := frs_one (hs := hs) (k := 124) (j := 0) (v := v)
  exact ⟨a.fr (fun j _ _ => ⟨f.2.2 131 j (by omega), f.2.2 132 j (by omega)⟩), lm, b.fr (fun j _ => f.2.2 136 j (by omega)), c⟩
/-- a number over M, so many times the greatest summand -/
def BQ (M : Nat) (q : Rat) (j : Nat) : Prop := ∃ N : Int, (M : Rat) * q = (N : Rat) ∧ N.natAbs ≤ j * 100000000000000
theorem BQ.mono {M : Nat} {q : Rat} {j k : Nat} (h : BQ M q j) (hk : j ≤ k) : BQ M q k := by
  obtain ⟨N, e, b⟩ := h
  exact ⟨N, e, Nat.le_trans b (Nat.mul_le_mul_right _ hk)⟩
theorem BQ.num {M : Nat} {q : Rat} {j : Nat} {t w : Int64} (hM : 0 < M) (h : BQ M q j) (hF : FR t w q) (hj : j ≤ 11) : t.toInt.natAbs ≤ 1100000000000000 := by
  obtain ⟨N, e, b⟩ := h
  have := (frac_of hM e).1
  rw [hF.1]
  have := Nat.mul_le_mul_right 100000000000000 hj
  omega
theorem ab_int {T : Nat} {f : Rat} (h0 : 0 < T) (hI : IsI ((T : Rat) * f)) (hA : Ab 1 f) : ∃ c : Int, (T : Rat) * f = (c : Rat) ∧ c.natAbs ≤ 99000 * T := by
  obtain ⟨c, e, c0, c1⟩ := cf_int (C := f + 1) h0 (by rw [Rat.mul_add, Rat.mul_one]; exact hI.add (IsI.int (T : Int))) (by have := hA.1; grind) (by have := hA.2; grind)
  refine ⟨c - (T : Int), ?_, by omega⟩
  rw [Rat.intCast_sub, ← e, Rat.mul_add, Rat.mul_one]
  show _ = (T : Rat) * f + (T : Rat) - (T : Rat)
  grind
theorem tm_o {T D : Nat} {f o : Rat} (hT : 0 < T) (hT6 : T ≤ 16) (hD : 0 < D) (hD6 : D ≤ 256) (h1 : IsI ((T : Rat) * f)) (h2 : Ab 1 f) (h3 : IsI ((D : Rat) * o)) (h4 : 0 ≤ o) (h5 : o ≤ 200) : BQ (T * D) (f * o) 1 := by
  obtain ⟨c, e, cb⟩ := ab_int hT h1 h2
  obtain ⟨d, e2, d0, d1⟩ := cf_int hD h3 h4 (by grind)
  refine ⟨c * d, ?_, ?_⟩
  · rw [Rat.natCast_mul, Rat.intCast_mul, ← e, ← e2]; grind
  · rw [Int.natAbs_mul]
    exact Nat.le_trans (Nat.mul_le_mul (show c.natAbs ≤ 1584000 by omega) (show d.natAbs ≤ 25344000 by omega)) (by decide)
theorem tm_z {T D : Nat} {f : Rat} {z : Int} (hT : 0 < T) (hT6 : T ≤ 16) (hD6 : D ≤ 256) (h1 : IsI ((T : Rat) * f)) (h2 : Ab 1 f) (hz : z.natAbs ≤ 1000) : BQ (T * D) (f * (z : Rat)) 1 := by
  obtain ⟨c, e, cb⟩ := ab_int hT h1 h2
  refine ⟨c * ((D : Int) * z), ?_, ?_⟩
  · rw [Rat.natCast_mul, Rat.intCast_mul, Rat.intCast_mul, ← e]
    show (T : Rat) * (D : Rat) * (f * (z : Rat)) = (T : Rat) * f * ((D : Rat) * (z : Rat))
    grind
  · rw [Int.natAbs_mul, Int.natAbs_mul]
    exact Nat.le_trans (Nat.mul_le_mul (show c.natAbs ≤ 1584000 by omega) (Nat.mul_le_mul (show (D : Int).natAbs ≤ 256 by omega) hz)) (by decide)
theorem bq_add {M : Nat} {q1 q2 : Rat} {j k : Nat} (h1 : BQ M q1 j) (h2 : BQ M q2 k) : BQ M (q1 + q2) (j + k) := by
  obtain ⟨N1, e1, b1⟩ := h1
  obtain ⟨N2, e2, b2⟩ := h2
  refine ⟨N1 + N2, by rw [Rat.mul_add, e1, e2, ← Rat.intCast_add], ?_⟩
  have := Int.natAbs_add_le N1 N2
  rw [Nat.add_mul]
  omega
theorem b_plusB {g0 : GG} {bl : Nat} {xs : Nat → Int32} {l : Launch} {hs : List CE} {a b c1 d : Int64} {q1 q2 : Rat} {M j : Nat} (rw0 : RW hs) (h1 : FR a b q1) (h2 : FR c1 d q2) (hM : 0 < M) (hM2 : M ≤ 4096) (x1 : BQ M q1 j) (x2 : BQ M q2 1) (hj : j ≤ 10) : BodyN SSX TBL g0 CLS bl xs l D_252 2 55 0 0 [.ref 124, .long a, .long b, .long c1, .long d] hs (POQ hs (q1 + q2)) := by
  obtain ⟨N1, e1, b1⟩ := x1
  obtain ⟨N2, e2, b2⟩ := x2
  have := Nat.mul_le_mul_right 100000000000000 hj
  exact b_plusY rw0 h1 h2 hM (by omega) e1 e2 (by omega)
theorem bq_zero {M : Nat} : BQ M 0 0 := ⟨0, by rw [Rat.mul_zero]; rfl, by decide⟩
theorem iv_neg9 {x : Int32} {z : Int} (h : x.toInt = z) (h1 : -2147483648 < z) : (-x).toInt = -z := by
  rw [← h] at h1 ⊢
  have := Int32.toInt_lt x
  rw [Int32.toInt_neg]
  exact i_bm (by omega) (by omega)
def sumI (f : Nat → Int) : Nat → Int
  | 0 => 0
  | k + 1 => sumI f k + f k
theorem sumI_b {f : Nat → Int} (h : ∀ j, 0 ≤ f j ∧ f j ≤ 220) : ∀ k, 0 ≤ sumI f k ∧ sumI f k ≤ 220 * (k : Int)
  | 0 => ⟨Int.le_refl _, Int.le_refl _⟩
  | k + 1 => by
    have a := sumI_b h k
    have b := h k
    show 0 ≤ sumI f k + f k ∧ sumI f k + f k ≤ _
    omega

theorem bits_2 {g0 : GG} {bl : Nat} {xs : Nat → Int32} {l : Launch} {wp : va_W} {p : Program} {e : Env} {R : Room} {s : State} {m : MethodId} {args : Array Value} {below : List Frame} {meth : Method} {c : Code} {Q : State → Prop} {kc0 ks0 kc ks f lam KC KS : Nat} {hs : List CE} {v : UInt32} (hc : kc ≤ R.cells + kc0) (hsl : ks ≤ R.slots + ks0) (act : Act SSX TBL (gp g0 wp) CLS bl xs D_185 p l s m args meth c) (hEnd : EndN SSX TBL (gp g0 wp) CLS D_185 p l e R s m args below meth c Q kc0 ks0 f lam KC KS (fun kd r h2 => kd = 0 ∧ hs = h2 ∧ ∃ x : Int32, r = some (.int x))) (hk1 : kc ≤ KC) (hk2 : ks ≤ KS) : ∀ (j : Nat) (q : Int) (x : UInt32) (k : Int32), NF x q q → -149 ≤ q → q ≤ 104 → max 0 (q + 23) ≤ (j : Int) → WpN (gp g0 wp) CLS p l e R s m args below meth c Q D_185.2.2.1 kc0 ks0 29 [some (.float v), some (.float x), some (.int k)] (hs, kc, ks) [] := by
  intro j
  induction j using Nat.strongRecOn with
  | ind j ih =>
    intro q x k hN hq1 hq2 hm
    replace ih := fun (q9 : Int) (x9 : UInt32) (k9 : Int32) (a1 : NF x9 q9 q9) (a2 : -149 ≤ q9) (a3 : q9 ≤ 104) (a4 : max 0 (q9 + 23) < (j : Int)) => ih (j - 1) (by omega) q9 x9 k9 a1 a2 a3 (by omega)
    refine g_loadF act (gx gp_185 (w := 0x1001e44) rfl (by decide) rfl) (a := 1) (n := 30) rfl rfl rfl ?_
    refine g_fcon2 act (gx gp_185 (w := 0x2000000001f51) rfl (by decide) rfl) (n := 31) (by decide) rfl ?_
    refine g_fcmpl act (gx gp_185 (w := 0x2045) rfl (by decide) rfl) (n := 32) rfl ?_
    refine g_ifLt act (gx gp_185 (w := 0x2d00232a) rfl (by decide) rfl) (tgt := 45) (n := 35) rfl rfl (fun h2 => ?_) (fun h2 => ?_)
    · simp only [i_lt, i0] at h2
      refine g_loadI act (gx gp_185 (w := 0x2002e02) rfl (by decide) rfl) (a := 2) (n := 46) rfl rfl rfl ?_
      refine g_constI act (gx gp_185 (w := 0x4000000bc000000b9000000003001) rfl (by decide) rfl) (n := 48) (x := (23 : Int32)) (by decide) rfl ?_
      refine g_ishl act (gx gp_185 (w := 0x313b) rfl (by decide) rfl) (n := 49) rfl ?_
      refine g_loadF act (gx gp_185 (w := 0x1003244) rfl (by decide) rfl) (a := 1) (n := 50) rfl rfl rfl ?_
      refine g_fcon1 act (gx gp_185 (w := 0x1000000003351) rfl (by decide) rfl) (n := 51) (by decide) rfl ?_
      have z1 := sub1_nn hN.nn
      refine g_fsub act (gx gp_185 (w := 0x3454) rfl (by decide) rfl) (n := 52) (nn_of z1) rfl ?_
      refine g_fconK act (gx gp_185 (w := 0x258000003000000003751) rfl (by decide) rfl) (n := 55) (x := 1258291200) (by decide) rfl ?_
      have z2 := mulK_nn z1 v_K (by decide)
      refine g_fmul act (gx gp_185 (w := 0x3853) rfl (by decide) rfl) (n := 56) (nn_of z2) rfl ?_
      refine g_f2i act (gx gp_185 (w := 0x3955) rfl (by decide) rfl) (n := 57) rfl ?_
      refine g_ior act (gx gp_185 (w := 0x3a4b) rfl (by decide) rfl) (n := 58) rfl ?_
      exact g_retI hEnd (gx gp_185 (w := 0x2f) rfl (by decide) rfl) ⟨rfl, rfl, _, rfl⟩ hk1 hk2
    · simp only [i_lt, i0] at h2
      refine g_loadF act (gx gp_185 (w := 0x1002444) rfl (by decide) rfl) (a := 1) (n := 36) rfl rfl rfl ?_
      refine g_fcon2 act (gx gp_185 (w := 0x2000000002551) rfl (by decide) rfl) (n := 37) (by decide) rfl ?_
      have q1 := cmp_ge2 hN (cl_ge (by omega))
      have hN2 := nf_div2 hN (by omega) (by omega)
      refine g_fdiv act (gx gp_185 (w := 0x2646) rfl (by decide) rfl) (n := 38) (nn_of hN2.nn) rfl ?_
      refine g_storeF act (gx gp_185 (w := 0x1002750) rfl (by decide) rfl) (a := 1) (n := 39) rfl rfl (L2 := [some (.float v), some (.float (FP.fdiv x FP.fconst2)), some (.int k)]) rfl ?_
      refine g_iinc act (gx gp_185 (w := 0x80000001000002002a09) rfl (by decide) rfl) (a := 2) (i := (1 : Int32)) (n := 42) rfl (by decide) rfl rfl (L2 := [some (.float v), some (.float (FP.fdiv x FP.fconst2)), some (.int (k + (1 : Int32)))]) rfl ?_
      refine g_goto act (gx gp_185 (w := 0x1d07) rfl (by decide) rfl) (n := 29) rfl ?_
      exact ih (q - 1) _ _ hN2 (by omega) (by omega) (by omega)

theorem bits_1 {g0 : GG} {bl : Nat} {xs : Nat → Int32} {l : Launch} {wp : va_W} {p : Program} {e : Env} {R : Room} {s : State} {m : MethodId} {args : Array Value} {below : List Frame} {meth : Method} {c : Code} {Q : State → Prop} {kc0 ks0 kc ks f lam KC KS : Nat} {hs : List CE} {v : UInt32} (hc : kc ≤ R.cells + kc0) (hsl : ks ≤ R.slots + ks0) (act : Act SSX TBL (gp g0 wp) CLS bl xs D_185 p l s m args meth c) (hEnd : EndN SSX TBL (gp g0 wp) CLS D_185 p l e R s m args below meth c Q kc0 ks0 f lam KC KS (fun kd r h2 => kd = 0 ∧ hs = h2 ∧ ∃ x : Int32, r = some (.int x))) (hk1 : kc ≤ KC) (hk2 : ks ≤ KS) : ∀ (j : Nat) (q : Int) (x : UInt32) (k : Int32), NF x q q → -149 ≤ q → q ≤ 104 → max 0 (-23 - q) ≤ (j : Int) → WpN (gp g0 wp) CLS p l e R s m args below meth c Q D_185.2.2.1 kc0 ks0 13 [some (.float v), some (.float x), some (.int k)] (hs, kc, ks) [] := by
  intro j
  induction j using Nat.strongRecOn with
  | ind j ih =>
    intro q x k hN hq1 hq2 hm
    replace ih := fun (q9 : Int) (x9 : UInt32) (k9 : Int32) (a1 : NF x9 q9 q9) (a2 : -149 ≤ q9) (a3 : q9 ≤ 104) (a4 : max 0 (-23 - q9) < (j : Int)) => ih (j - 1) (by omega) q9 x9 k9 a1 a2 a3 (by omega)
    refine g_loadF act (gx gp_185 (w := 0x1000e44) rfl (by decide) rfl) (a := 1) (n := 14) rfl rfl rfl ?_
    refine g_fcon1 act (gx gp_185 (w := 0x1000000000f51) rfl (by decide) rfl) (n := 15) (by decide) rfl ?_
    refine g_fcmpg act (gx gp_185 (w := 0x1052) rfl (by decide) rfl) (n := 16) rfl ?_
    refine g_ifGe act (gx gp_185 (w := 0x1d001314) rfl (by decide) rfl) (tgt := 29) (n := 19) rfl rfl (fun h2 => ?_) (fun h2 => ?_)
    · simp only [i_le, i0] at h2
      exact bits_2 hc hsl act hEnd hk1 hk2 (q + 23).toNat q x k hN hq1 hq2 (by omega)
    · simp only [i_le, i0] at h2
      refine g_loadF act (gx gp_185 (w := 0x1001444) rfl (by decide) rfl) (a := 1) (n := 20) rfl rfl rfl ?_
      refine g_fcon2 act (gx gp_185 (w := 0x2000000001551) rfl (by decide) rfl) (n := 21) (by decide) rfl ?_
      have q1 := cmp_lt1 hN (cg_neg (by omega))
      have hN2 := nf_mul2 hN (by omega) (by omega)
      refine g_fmul act (gx gp_185 (w := 0x1653) rfl (by decide) rfl) (n := 22) (nn_of hN2.nn) rfl ?_
      refine g_storeF act (gx gp_185 (w := 0x1001750) rfl (by decide) rfl) (a := 1) (n := 23) rfl rfl (L2 := [some (.float v), some (.float (FP.fmul x FP.fconst2)), some (.int k)]) rfl ?_
      refine g_iinc act (gx gp_185 (w := 0x7fffffff000002001a09) rfl (by decide) rfl) (a := 2) (i := (-1 : Int32)) (n := 26) rfl (by decide) rfl rfl (L2 := [some (.float v), some (.float (FP.fmul x FP.fconst2)), some (.int (k + (-1 : Int32)))]) rfl ?_
      refine g_goto act (gx gp_185 (w := 0xd07) rfl (by decide) rfl) (n := 13) rfl ?_
      exact ih (q + 1) _ _ hN2 (by omega) (by omega) (by omega)

theorem b_bitsOf {g0 : GG} {bl : Nat} {xs : Nat → Int32} {l : Launch} {hs : List CE} {v : UInt32} (hv : ZF v ∨ ∃ q : Int, NF v q q ∧ -148 ≤ q ∧ q ≤ 103) : BodyN SSX TBL g0 CLS bl xs l D_185 0 0 0 0 [.float v] hs (fun kd r h2 => kd = 0 ∧ hs = h2 ∧ ∃ x : Int32, r = some (.int x)) := by
  intro wp p e R s m args below meth c Q kc0 ks0 kc ks act hf hl hc hsl hEnd
  show WpN (gp g0 wp) CLS p l e R s m args below meth c Q D_185.2.2.1 kc0 ks0 0 [some (.float v), none, none] (hs, kc, ks) []
  rcases hv with hz | ⟨q, hN, hq1, hq2⟩
  · refine g_loadF act (gx gp_185 (w := 0x144) rfl (by decide) rfl) (a := 0) (n := 1) rfl rfl rfl ?_
    refine g_fcon0 act (gx gp_185 (w := 0x5000000000201) rfl (by decide) rfl) (n := 2) (by decide) rfl ?_
    refine g_fcmpl act (gx gp_185 (w := 0x345) rfl (by decide) rfl) (n := 3) rfl ?_
    refine g_ifNe act (gx gp_185 (w := 0x800061d) rfl (by decide) rfl) (tgt := 8) (n := 6) rfl rfl (fun h3 => ?_) (fun h3 => ?_)
    · simp only [i_eq, i0] at h3
      exfalso
      have z9 : (Op.cmpValue (FP.fcmp v FP.fconst0) .l).toInt = 0 := by rw [zf_eq hz]; exact c_eq
      omega
    · simp only [i_eq, i0] at h3
      refine g_constI act (gx gp_185 (w := 0x40000000400000001000000000701) rfl (by decide) rfl) (n := 7) (x := (0 : Int32)) (by decide) rfl ?_
      exact g_retI hEnd (gx gp_185 (w := 0x2f) rfl (by decide) rfl) ⟨rfl, rfl, _, rfl⟩ (by show kc ≤ kc + 0; omega) (by show ks ≤ ks + 0; omega)
  · refine g_loadF act (gx gp_185 (w := 0x144) rfl (by decide) rfl) (a := 0) (n := 1) rfl rfl rfl ?_
    refine g_fcon0 act (gx gp_185 (w := 0x5000000000201) rfl (by decide) rfl) (n := 2) (by decide) rfl ?_
    refine g_fcmpl act (gx gp_185 (w := 0x345) rfl (by decide) rfl) (n := 3) rfl ?_
    refine g_ifNe act (gx gp_185 (w := 0x800061d) rfl (by decide) rfl) (tgt := 8) (n := 6) rfl rfl (fun h3 => ?_) (fun h3 => ?_)
    · simp only [i_eq, i0] at h3
      refine g_loadF act (gx gp_185 (w := 0x944) rfl (by decide) rfl) (a := 0) (n := 9) rfl rfl rfl ?_
      refine g_storeF act (gx gp_185 (w := 0x1000a50) rfl (by decide) rfl) (a := 1) (n := 10) rfl rfl (L2 := [some (.float v), some (.float v), none]) rfl ?_
      refine g_constI act (gx gp_185 (w := 0x4000003fc000003f9000000000c01) rfl (by decide) rfl) (n := 12) (x := (127 : Int32)) (by decide) rfl ?_
      refine g_storeI act (gx gp_185 (w := 0x2000d10) rfl (by decide) rfl) (a := 2) (n := 13) rfl rfl (L2 := [some (.float v), some (.float v), some (.int (127 : Int32))]) rfl ?_
      exact bits_1 hc hsl act hEnd (by omega) (by omega) (149 + 104) q v 127 hN (by omega) (by omega) (by omega)
    · simp only [i_eq, i0] at h3
      refine g_constI act (gx gp_185 (w := 0x40000000400000001000000000701) rfl (by decide) rfl) (n := 7) (x := (0 : Int32)) (by decide) rfl ?_
      exact g_retI hEnd (gx gp_185 (w := 0x2f) rfl (by decide) rfl) ⟨rfl, rfl, _, rfl⟩ (by show kc ≤ kc + 0; omega) (by show ks ≤ ks + 0; omega)

theorem flX_2 {g0 : GG} {bl : Nat} {xs : Nat → Int32} {l : Launch} {wp : va_W} {p : Program} {e : Env} {R : Room} {s : State} {m : MethodId} {args : Array Value} {below : List Frame} {meth : Method} {c : Code} {Q : State → Prop} {kc0 ks0 kc ks f lam KC KS : Nat} {hs : List CE} {tl wl : Nat → Int} {nl n ng nr : Nat} (hNW : NW tl wl nl n ng nr) {dm : Nat → Int} {li : Int32} {ln9 : Nat} (hli : li.toInt = (ln9 : Int)) (hl6 : ln9 < 6) {fA o : Nat → Rat} {T D : Nat} (hT : 0 < T) (hT6 : T ≤ 16) (hD0 : 0 < D) (hD6 : D ≤ 256) (hfA : ∀ j, j < 24 → IsI ((T : Rat) * fA j) ∧ Ab 1 (fA j)) (hoA : ∀ g, g < 5 → IsI ((D : Rat) * o g) ∧ 0 ≤ o g ∧ o g ≤ 200) (hM0 : 0 < T * D) (hM2 : T * D ≤ 4096) (hSf : ∀ j, j < 24 → Sml (fA j)) (hSo : ∀ g, g < 5 → Sml (o g)) (hdm : ∀ j, 0 ≤ dm j ∧ dm j ≤ 220) (hf : 3 ≤ R.frames) (hl : 87 ≤ R.locals) (hc : kc ≤ R.cells + kc0) (hsl : ks ≤ R.slots + ks0) (act : Act SSX TBL (gp g0 wp) CLS bl xs D_209 p l s m args meth c) (hEnd : EndN SSX TBL (gp g0 wp) CLS D_209 p l e R s m args below meth c Q kc0 ks0 f lam KC KS (fun kd _ h2 => kd = 0 ∧ ∃ (t w : Int64) (q : Rat), rd h2 124 7 = .long t ∧ rd h2 124 8 = .long w ∧ FR t w q ∧ BQ (T * D) q 9 ∧ FrS W0 hs h2)) (hk1 : kc ≤ KC) (hk2 : ks ≤ KS) : ∀ j9 : Nat, j9 ≤ n + 1 → ∀ (xi : Int32) (a b : Int64) (q1 : Rat) (hj : List CE), xi.toInt = (j9 : Int) → FR a b q1 → BQ (T * D) q1 (5 + j9) → RW hj → IArr hj 125 46 tl → IArr hj 127 39 wl → IArr hj 135 4 dm → QArr hj 142 143 5 o → QRng hj 131 132 0 24 fA → (j9 = 0 ∨ (rd hj 124 7 = .long a ∧ rd hj 124 8 = .long b)) → FrS W0 hs hj → WpN (gp g0 wp) CLS p l e R s m args below meth c Q D_209.2.2.1 kc0 ks0 107 [some (.ref 124), some (.int li), some (.int (0 : Int32)), some (.long a), none, some (.long b), none, some (.int xi), none] (hj, kc, ks) [] := by
  have hN9 := hNW
  obtain ⟨n0, n1, n2, n3, n4, n5, n6, n7, n8, hG0, nL, nC, nP, nD⟩ := hN9
  have hGn := hG0.1
  have hGn3 := hG0.2.1
  have hGl := hG0.2.2.1
  refine dn (fun j9 hj9 ih => ?_)
  intro xi a b q1 hj hxi hF hbq rwj fTo fW hD hO hX hv hfr
  refine g_loadI act (gx gp_209 (w := 0x7006d02) rfl (by decide) rfl) (a := 7) (n := 109) rfl rfl rfl ?_
  refine g_loadA act (gx gp_209 (w := 0x6e03) rfl (by decide) rfl) (a := 0) (n := 110) rfl rfl rfl ?_
  refine r_getf act (gx gp_209 (w := 0x3000049007104) rfl (by decide) rfl) (n := 113) (ci := 9) (j := 1) (N := 39) rfl rfl rfl rwj.1 (by decide) (rwj.2 (1, 125, 32, 46) (by decide)).1 ?_
  refine g_constI act (gx gp_209 (w := 0x40000000400000001000000007201) rfl (by decide) rfl) (n := 114) (x := (0 : Int32)) (by decide) rfl ?_
  obtain ⟨x_1, e_2, hx_3⟩ := fTo 0 (by omega)
  refine r_iald act (gx gp_209 (w := 0x731a) rfl (by decide) rfl) (n := 115) (j := 0) rfl (rwj.2 (1, 125, 32, 46) (by decide)).2 (show (0 : Int32).toInt = ((0 : Nat) : Int) from by decide) (show 0 < 46 by omega) (v := .int x_1) e_2 ?_
  refine g_icmpGe act (gx gp_209 (w := 0xbf007608) rfl (by decide) rfl) (tgt := 191) (n := 118) rfl rfl (fun h4 => ?_) (fun h4 => ?_)
  · simp only [i_le] at h4
    obtain rfl : j9 = n + 1 := by omega
    rcases hv with hv | ⟨hv7, hv8⟩
    · omega
    · exact g_retV hEnd (gx gp_209 (w := 0x18) rfl (by decide) rfl) ⟨rfl, _, _, _, hv7, hv8, hF, hbq.mono (by omega), hfr⟩ hk1 hk2
  · simp only [i_le] at h4
    refine g_constI act (gx gp_209 (w := 0x4000000c4000000c1000000007801) rfl (by decide) rfl) (n := 120) (x := (24 : Int32)) (by decide) rfl ?_
    refine g_loadI act (gx gp_209 (w := 0x2007902) rfl (by decide) rfl) (a := 2) (n := 121) rfl rfl rfl ?_
    refine g_imul act (gx gp_209 (w := 0x7a11) rfl (by decide) rfl) (n := 122) rfl ?_
    have v_4 := iv_mulN (show (24 : Int32).toInt = ((24 : Nat) : Int) from by decide) (show (0 : Int32).toInt = ((0 : Nat) : Int) from by decide) (show (24 * 0) < 2147483648 by omega)
    refine g_constI act (gx gp_209 (w := 0x40000002400000021000000007b01) rfl (by decide) rfl) (n := 123) (x := (4 : Int32)) (by decide) rfl ?_
    refine g_loadI act (gx gp_209 (w := 0x1007c02) rfl (by decide) rfl) (a := 1) (n := 124) rfl rfl rfl ?_
    refine g_imul act (gx gp_209 (w := 0x7d11) rfl (by decide) rfl) (n := 125) rfl ?_
    have v_5 := iv_mulN (show (4 : Int32).toInt = ((4 : Nat) : Int) from by decide) hli (show (4 * ln9) < 2147483648 by omega)
    refine g_iadd act (gx gp_209 (w := 0x7e0a) rfl (by decide) rfl) (n := 126) rfl ?_
    have v_6 := iv_addN v_4 v_5 (show ((24 * 0) + (4 * ln9)) < 2147483648 by omega)
    refine g_loadI act (gx gp_209 (w := 0x7008002) rfl (by decide) rfl) (a := 7) (n := 128) rfl rfl rfl ?_
    refine g_iadd act (gx gp_209 (w := 0x810a) rfl (by decide) rfl) (n := 129) rfl ?_
    have v_7 := iv_addN v_6 hxi (show (((24 * 0) + (4 * ln9)) + j9) < 2147483648 by omega)
    refine g_storeI act (gx gp_209 (w := 0x8008310) rfl (by decide) rfl) (a := 8) (n := 131) rfl rfl (L2 := [some (.ref 124), some (.int li), some (.int (0 : Int32)), some (.long a), none, some (.long b), none, some (.int xi), some (.int ((((24 : Int32) * (0 : Int32)) + ((4 : Int32) * li)) + xi))]) rfl ?_
    refine g_loadA act (gx gp_209 (w := 0x8403) rfl (by decide) rfl) (a := 0) (n := 132) rfl rfl rfl ?_
    refine g_loadA act (gx gp_209 (w := 0x8503) rfl (by decide) rfl) (a := 0) (n := 133) rfl rfl rfl ?_
    refine r_getf act (gx gp_209 (w := 0x3000409008804) rfl (by decide) rfl) (n := 136) (ci := 9) (j := 16) (N := 39) rfl rfl rfl rwj.1 (by decide) (rwj.2 (16, 131, 33, 48) (by decide)).1 ?_
    refine g_loadI act (gx gp_209 (w := 0x8008a02) rfl (by decide) rfl) (a := 8) (n := 138) rfl rfl rfl ?_
    obtain ⟨x_8, w_11, e_9, e_12, hx_10⟩ := hX (((24 * 0) + (4 * ln9)) + j9) (by omega) (by omega)
    refine r_lald act (gx gp_209 (w := 0x8b0d) rfl (by decide) rfl) (n := 139) (j := (((24 * 0) + (4 * ln9)) + j9)) rfl (rwj.2 (16, 131, 33, 48) (by decide)).2 v_7 (show (((24 * 0) + (4 * ln9)) + j9) < 48 by omega) (v := .long x_8) e_9 ?_
    refine g_loadA act (gx gp_209 (w := 0x8c03) rfl (by decide) rfl) (a := 0) (n := 140) rfl rfl rfl ?_
    refine r_getf act (gx gp_209 (w := 0x3000449008f04) rfl (by decide) rfl) (n := 143) (ci := 9) (j := 17) (N := 39) rfl rfl rfl rwj.1 (by decide) (rwj.2 (17, 132, 33, 48) (by decide)).1 ?_
    refine g_loadI act (gx gp_209 (w := 0x8009102) rfl (by decide) rfl) (a := 8) (n := 145) rfl rfl rfl ?_
    refine r_lald act (gx gp_209 (w := 0x920d) rfl (by decide) rfl) (n := 146) (j := (((24 * 0) + (4 * ln9)) + j9)) rfl (rwj.2 (17, 132, 33, 48) (by decide)).2 v_7 (show (((24 * 0) + (4 * ln9)) + j9) < 48 by omega) (v := .long w_11) e_12 ?_
    refine g_loadA act (gx gp_209 (w := 0x9303) rfl (by decide) rfl) (a := 0) (n := 147) rfl rfl rfl ?_
    refine r_getf act (gx gp_209 (w := 0x3000509009604) rfl (by decide) rfl) (n := 150) (ci := 9) (j := 20) (N := 39) rfl rfl rfl rwj.1 (by decide) (rwj.2 (20, 135, 32, 4) (by decide)).1 ?_
    refine g_loadI act (gx gp_209 (w := 0x7009802) rfl (by decide) rfl) (a := 7) (n := 152) rfl rfl rfl ?_
    obtain ⟨x_18, e_19, hx_20⟩ := hD j9 (by omega)
    have b_21 := hdm j9
    refine r_iald act (gx gp_209 (w := 0x991a) rfl (by decide) rfl) (n := 153) (j := j9) rfl (rwj.2 (20, 135, 32, 4) (by decide)).2 hxi (show j9 < 4 by omega) (v := .int x_18) e_19 ?_
    refine g_ineg act (gx gp_209 (w := 0x9a4c) rfl (by decide) rfl) (n := 154) rfl ?_
    have v_22 := iv_neg9 hx_20 (by omega)
    refine g_i2l act (gx gp_209 (w := 0x9b2c) rfl (by decide) rfl) (n := 155) rfl ?_
    have v_23 := lw_i2l v_22
    refine g_constL act (gx gp_209 (w := 0x4000000000000000a000000009c01) rfl (by decide) rfl) (n := 156) (x := 1) (by decide) rfl ?_
    refine n_call tb_pres act hEnd (gx (P := G_call) gp_209 (w := 0xa0000000000008349500011a009f0f) rfl (by decide) rfl) (d' := D_282) rfl (as := [.ref 124, .long x_8, .long w_11, .long ((-x_18)).toInt64, .long (1 : Int64)]) (rest := []) (b_timesQ rwj hx_10 (fr_int (X := (-(dm j9))) v_23 (by decide)) (hSf _ (by omega)) (sml_int (by omega) (by omega))) (show (5 : Nat) = fb 0xa0000000000008349500011a009f0f % 16 by decide) (by show (9 : Nat) ≤ 13; decide) (fun _ => ⟨_, _, rfl, _, shp_at rwj.1, Or.inr (show fb 0xa0000000000008349500011a009f0f >>> 68 = 10 by decide)⟩) (by omega) (by show 8 + (13 + 11) + 55 ≤ R.locals; omega) (by show (0 : Nat) ≤ 8; decide) (by show kc + 0 ≤ _; omega) (by show ks + 0 ≤ _; omega) (fun r9 hs_24 hpo hr9 => ?_) (fun x9 hs9 hx9 hpo => ?_)
    · obtain rfl : r9 = none := hr9.elim (fun q => q.2) (fun q => absurd rfl q.1)
      obtain ⟨-, t_25, w_26, e_27, e_28, hF_29, fr_30⟩ := hpo
      have rw_31 := rwj.fr fr_30 W0_rw
      have f_32 := fTo.fr (fun j9 _ => fr_30.2.2 125 j9 (by unfold W0; omega))
      have f_33 := fW.fr (fun j9 _ => fr_30.2.2 127 j9 (by unfold W0; omega))
      have f_34 := hD.fr (fun j9 _ => fr_30.2.2 135 j9 (by unfold W0; omega))
      have f_35 := hO.fr (fun j9 _ => ⟨fr_30.2.2 142 j9 (by unfold W0; omega), fr_30.2.2 143 j9 (by unfold W0; omega)⟩)
      have f_36 := hX.fr (fun j9 _ _ => ⟨fr_30.2.2 131 j9 (by unfold W0; omega), fr_30.2.2 132 j9 (by unfold W0; omega)⟩)
      have fr_37 := hfr.tr fr_30
      clear rwj fTo fW hD hO hX hfr
      show WpN (gp g0 wp) CLS p l e R s m args below meth c Q D_209.2.2.1 kc0 ks0 159 [some (.ref 124), some (.int li), some (.int (0 : Int32)), some (.long a), none, some (.long b), none, some (.int xi), some (.int ((((24 : Int32) * (0 : Int32)) + ((4 : Int32) * li)) + xi))] (hs_24, kc, ks) []
      refine g_loadA act (gx gp_209 (w := 0xa003) rfl (by decide) rfl) (a := 0) (n := 160) rfl rfl rfl ?_
      refine g_loadL act (gx gp_209 (w := 0x300a106) rfl (by decide) rfl) (a := 3) (n := 161) rfl rfl rfl ?_
      refine g_loadL act (gx gp_209 (w := 0x500a306) rfl (by decide) rfl) (a := 5) (n := 163) rfl rfl rfl ?_
      refine g_loadA act (gx gp_209 (w := 0xa403) rfl (by decide) rfl) (a := 0) (n := 164) rfl rfl rfl ?_
      refine r_getf act (gx gp_209 (w := 0x20001c900a704) rfl (by decide) rfl) (n := 167) (ci := 9) (j := 7) (N := 39) rfl rfl rfl rw_31.1 (by decide) (v := .long t_25) e_27 ?_
      refine g_loadA act (gx gp_209 (w := 0xa803) rfl (by decide) rfl) (a := 0) (n := 168) rfl rfl rfl ?_
      refine r_getf act (gx gp_209 (w := 0x200020900ab04) rfl (by decide) rfl) (n := 171) (ci := 9) (j := 8) (N := 39) rfl rfl rfl rw_31.1 (by decide) (v := .long w_26) e_28 ?_
      have hbt_38 := (tm_z hT hT6 hD6 (hfA (((24 * 0) + (4 * ln9)) + j9) (by omega)).1 (hfA (((24 * 0) + (4 * ln9)) + j9) (by omega)).2 (z := (-(dm j9))) (by omega))
      refine n_call tb_pres act hEnd (gx (P := G_call) gp_209 (w := 0xa00000000000082c950000fc00ae0f) rfl (by decide) rfl) (d' := D_252) rfl (as := [.ref 124, .long a, .long b, .long t_25, .long w_26]) (rest := []) (b_plusB (j := 5 + j9) rw_31 hF hF_29 hM0 hM2 hbq hbt_38 (by omega)) (show (5 : Nat) = fb 0xa00000000000082c950000fc00ae0f % 16 by decide) (by show (9 : Nat) ≤ 11; decide) (fun _ => ⟨_, _, rfl, _, shp_at rw_31.1, Or.inr (show fb 0xa00000000000082c950000fc00ae0f >>> 68 = 10 by decide)⟩) (by omega) (by show 8 + (11 + 11) + 55 ≤ R.locals; omega) (by show (0 : Nat) ≤ 8; decide) (by show kc + 0 ≤ _; omega) (by show ks + 0 ≤ _; omega) (fun r9 hs_39 hpo hr9 => ?_) (fun x9 hs9 hx9 hpo => ?_)
      · obtain rfl : r9 = none := hr9.elim (fun q => q.2) (fun q => absurd rfl q.1)
        obtain ⟨-, t_40, w_41, e_42, e_43, hF_44, fr_45⟩ := hpo
        have rw_46 := rw_31.fr fr_45 W0_rw
        have f_47 := f_32.fr (fun j9 _ => fr_45.2.2 125 j9 (by unfold W0; omega))
        have f_48 := f_33.fr (fun j9 _ => fr_45.2.2 127 j9 (by unfold W0; omega))
        have f_49 := f_34.fr (fun j9 _ => fr_45.2.2 135 j9 (by unfold W0; omega))
        have f_50 := f_35.fr (fun j9 _ => ⟨fr_45.2.2 142 j9 (by unfold W0; omega), fr_45.2.2 143 j9 (by unfold W0; omega)⟩)
        have f_51 := f_36.fr (fun j9 _ _ => ⟨fr_45.2.2 131 j9 (by unfold W0; omega), fr_45.2.2 132 j9 (by unfold W0; omega)⟩)
        have fr_52 := fr_37.tr fr_45
        clear rw_31 f_32 f_33 f_34 f_35 f_36 e_27 e_28 fr_37
        show WpN (gp g0 wp) CLS p l e R s m args below meth c Q D_209.2.2.1 kc0 ks0 174 [some (.ref 124), some (.int li), some (.int (0 : Int32)), some (.long a), none, some (.long b), none, some (.int xi), some (.int ((((24 : Int32) * (0 : Int32)) + ((4 : Int32) * li)) + xi))] (hs_39, kc, ks) []
        refine g_loadA act (gx gp_209 (w := 0xaf03) rfl (by decide) rfl) (a := 0) (n := 175) rfl rfl rfl ?_
        refine r_getf act (gx gp_209 (w := 0x20001c900b204) rfl (by decide) rfl) (n := 178) (ci := 9) (j := 7) (N := 39) rfl rfl rfl rw_46.1 (by decide) (v := .long t_40) e_42 ?_
        refine g_storeL act (gx gp_209 (w := 0x300b30b) rfl (by decide) rfl) (a := 3) (n := 179) rfl rfl (L2 := [some (.ref 124), some (.int li), some (.int (0 : Int32)), some (.long t_40), none, some (.long b), none, some (.int xi), some (.int ((((24 : Int32) * (0 : Int32)) + ((4 : Int32) * li)) + xi))]) rfl ?_
        refine g_loadA act (gx gp_209 (w := 0xb403) rfl (by decide) rfl) (a := 0) (n := 180) rfl rfl rfl ?_
        refine r_getf act (gx gp_209 (w := 0x200020900b704) rfl (by decide) rfl) (n := 183) (ci := 9) (j := 8) (N := 39) rfl rfl rfl rw_46.1 (by decide) (v := .long w_41) e_43 ?_
        refine g_storeL act (gx gp_209 (w := 0x500b90b) rfl (by decide) rfl) (a := 5) (n := 185) rfl rfl (L2 := [some (.ref 124), some (.int li), some (.int (0 : Int32)), some (.long t_40), none, some (.long w_41), none, some (.int xi), some (.int ((((24 : Int32) * (0 : Int32)) + ((4 : Int32) * li)) + xi))]) rfl ?_
        refine g_iinc act (gx gp_209 (w := 0x8000000100000700bc09) rfl (by decide) rfl) (a := 7) (i := (1 : Int32)) (n := 188) rfl (by decide) rfl rfl (L2 := [some (.ref 124), some (.int li), some (.int (0 : Int32)), some (.long t_40), none, some (.long w_41), none, some (.int (xi + (1 : Int32))), some (.int ((((24 : Int32) * (0 : Int32)) + ((4 : Int32) * li)) + xi))]) rfl ?_
        have v_53 := iv_addN hxi (show (1 : Int32).toInt = ((1 : Nat) : Int) from by decide) (show (j9 + 1) < 2147483648 by omega)
        refine g_goto act (gx gp_209 (w := 0x6b07) rfl (by decide) rfl) (n := 107) rfl ?_
        exact n_forget (d := D_209) (L2 := [some (.ref 124), some (.int li), some (.int (0 : Int32)), some (.long t_40), none, some (.long w_41), none, some (.int (xi + (1 : Int32))), none]) (fun i v hi => by
          match i, hi with
          | 0, hi => exact hi
          | 1, hi => exact hi
          | 2, hi => exact hi
          | 3, hi => exact hi
          | 4, hi => cases hi
          | 5, hi => exact hi
          | 6, hi => cases hi
          | 7, hi => exact hi
          | 8, hi => cases hi
          | i + 9, hi => cases hi) (ih (j9 + 1) (by omega) (by omega) _ _ _ _ _ v_53 hF_44 ((bq_add hbq hbt_38).mono (by omega)) rw_46 f_47 f_48 f_49 f_50 f_51 (Or.inr ⟨e_42, e_43⟩) fr_52)
      · exact absurd hpo.1 (by omega)
    · exact absurd hpo.1 (by omega)

theorem flX_1 {g0 : GG} {bl : Nat} {xs : Nat → Int32} {l : Launch} {wp : va_W} {p : Program} {e : Env} {R : Room} {s : State} {m : MethodId} {args : Array Value} {below : List Frame} {meth : Method} {c : Code} {Q : State → Prop} {kc0 ks0 kc ks f lam KC KS : Nat} {hs : List CE} {tl wl : Nat → Int} {nl n ng nr : Nat} (hNW : NW tl wl nl n ng nr) {dm : Nat → Int} {li : Int32} {ln9 : Nat} (hli : li.toInt = (ln9 : Int)) (hl6 : ln9 < 6) {fA o : Nat → Rat} {T D : Nat} (hT : 0 < T) (hT6 : T ≤ 16) (hD0 : 0 < D) (hD6 : D ≤ 256) (hfA : ∀ j, j < 24 → IsI ((T : Rat) * fA j) ∧ Ab 1 (fA j)) (hoA : ∀ g, g < 5 → IsI ((D : Rat) * o g) ∧ 0 ≤ o g ∧ o g ≤ 200) (hM0 : 0 < T * D) (hM2 : T * D ≤ 4096) (hSf : ∀ j, j < 24 → Sml (fA j)) (hSo : ∀ g, g < 5 → Sml (o g)) (hdm : ∀ j, 0 ≤ dm j ∧ dm j ≤ 220) (hf : 3 ≤ R.frames) (hl : 87 ≤ R.locals) (hc : kc ≤ R.cells + kc0) (hsl : ks ≤ R.slots + ks0) (act : Act SSX TBL (gp g0 wp) CLS bl xs D_209 p l s m args meth c) (hEnd : EndN SSX TBL (gp g0 wp) CLS D_209 p l e R s m args below meth c Q kc0 ks0 f lam KC KS (fun kd _ h2 => kd = 0 ∧ ∃ (t w : Int64) (q : Rat), rd h2 124 7 = .long t ∧ rd h2 124 8 = .long w ∧ FR t w q ∧ BQ (T * D) q 9 ∧ FrS W0 hs h2)) (hk1 : kc ≤ KC) (hk2 : ks ≤ KS) : ∀ j9 : Nat, j9 ≤ ng → ∀ (xi : Int32) (a b : Int64) (q1 : Rat) (hj : List CE), xi.toInt = (j9 : Int) → FR a b q1 → BQ (T * D) q1 j9 → RW hj → IArr hj 125 46 tl → IArr hj 127 39 wl → IArr hj 135 4 dm → QArr hj 142 143 5 o → QRng hj 131 132 0 24 fA → FrS W0 hs hj → WpN (gp g0 wp) CLS p l e R s m args below meth c Q D_209.2.2.1 kc0 ks0 8 [some (.ref 124), some (.int li), some (.int (0 : Int32)), some (.long a), none, some (.long b), none, some (.int xi), none] (hj, kc, ks) [] := by
  have hN9 := hNW
  obtain ⟨n0, n1, n2, n3, n4, n5, n6, n7, n8, hG0, nL, nC, nP, nD⟩ := hN9
  have hGn := hG0.1
  have hGn3 := hG0.2.1
  have hGl := hG0.2.2.1
  refine dn (fun j9 hj9 ih => ?_)
  intro xi a b q1 hj hxi hF hbq rwj fTo fW hD hO hX hfr
  have hag := n7 j9
  refine g_loadI act (gx gp_209 (w := 0x7000a02) rfl (by decide) rfl) (a := 7) (n := 10) rfl rfl rfl ?_
  refine g_loadA act (gx gp_209 (w := 0xb03) rfl (by decide) rfl) (a := 0) (n := 11) rfl rfl rfl ?_
  refine r_getf act (gx gp_209 (w := 0x3000049000e04) rfl (by decide) rfl) (n := 14) (ci := 9) (j := 1) (N := 39) rfl rfl rfl rwj.1 (by decide) (rwj.2 (1, 125, 32, 46) (by decide)).1 ?_
  refine g_constI act (gx gp_209 (w := 0x40000001c00000019000000000f01) rfl (by decide) rfl) (n := 15) (x := (3 : Int32)) (by decide) rfl ?_
  obtain ⟨x_1, e_2, hx_3⟩ := fTo 3 (by omega)
  refine r_iald act (gx gp_209 (w := 0x101a) rfl (by decide) rfl) (n := 16) (j := 3) rfl (rwj.2 (1, 125, 32, 46) (by decide)).2 (show (3 : Int32).toInt = ((3 : Nat) : Int) from by decide) (show 3 < 46 by omega) (v := .int x_1) e_2 ?_
  refine g_icmpGe act (gx gp_209 (w := 0x68001308) rfl (by decide) rfl) (tgt := 104) (n := 19) rfl rfl (fun h4 => ?_) (fun h4 => ?_)
  · simp only [i_le] at h4
    refine g_constI act (gx gp_209 (w := 0x40000000400000001000000006901) rfl (by decide) rfl) (n := 105) (x := (0 : Int32)) (by decide) rfl ?_
    refine g_storeI act (gx gp_209 (w := 0x7006b10) rfl (by decide) rfl) (a := 7) (n := 107) rfl rfl (L2 := [some (.ref 124), some (.int li), some (.int (0 : Int32)), some (.long a), none, some (.long b), none, some (.int (0 : Int32)), none]) rfl ?_
    obtain rfl : j9 = ng := by omega
    exact flX_2 hNW hli hl6 hT hT6 hD0 hD6 hfA hoA hM0 hM2 hSf hSo hdm hf hl hc hsl act hEnd hk1 hk2 0 (by omega) _ a b q1 hj rfl hF (hbq.mono (by omega)) rwj fTo fW hD hO hX (Or.inl rfl) hfr
  · simp only [i_le] at h4
    refine g_constI act (gx gp_209 (w := 0x4000000c4000000c1000000001501) rfl (by decide) rfl) (n := 21) (x := (24 : Int32)) (by decide) rfl ?_
    refine g_loadI act (gx gp_209 (w := 0x2001602) rfl (by decide) rfl) (a := 2) (n := 22) rfl rfl rfl ?_
    refine g_imul act (gx gp_209 (w := 0x1711) rfl (by decide) rfl) (n := 23) rfl ?_
    have v_4 := iv_mulN (show (24 : Int32).toInt = ((24 : Nat) : Int) from by decide) (show (0 : Int32).toInt = ((0 : Nat) : Int) from by decide) (show (24 * 0) < 2147483648 by omega)
    refine g_constI act (gx gp_209 (w := 0x40000002400000021000000001801) rfl (by decide) rfl) (n := 24) (x := (4 : Int32)) (by decide) rfl ?_
    refine g_loadI act (gx gp_209 (w := 0x1001902) rfl (by decide) rfl) (a := 1) (n := 25) rfl rfl rfl ?_
    refine g_imul act (gx gp_209 (w := 0x1a11) rfl (by decide) rfl) (n := 26) rfl ?_
    have v_5 := iv_mulN (show (4 : Int32).toInt = ((4 : Nat) : Int) from by decide) hli (show (4 * ln9) < 2147483648 by omega)
    refine g_iadd act (gx gp_209 (w := 0x1b0a) rfl (by decide) rfl) (n := 27) rfl ?_
    have v_6 := iv_addN v_4 v_5 (show ((24 * 0) + (4 * ln9)) < 2147483648 by omega)
    refine g_loadA act (gx gp_209 (w := 0x1c03) rfl (by decide) rfl) (a := 0) (n := 28) rfl rfl rfl ?_
    refine r_getf act (gx gp_209 (w := 0x3000049001f04) rfl (by decide) rfl) (n := 31) (ci := 9) (j := 1) (N := 39) rfl rfl rfl rwj.1 (by decide) (rwj.2 (1, 125, 32, 46) (by decide)).1 ?_
    refine g_constI act (gx gp_209 (w := 0x40000008c00000089000000002101) rfl (by decide) rfl) (n := 33) (x := (17 : Int32)) (by decide) rfl ?_
    refine g_loadI act (gx gp_209 (w := 0x7002302) rfl (by decide) rfl) (a := 7) (n := 35) rfl rfl rfl ?_
    refine g_iadd act (gx gp_209 (w := 0x240a) rfl (by decide) rfl) (n := 36) rfl ?_
    have v_7 := iv_addN (show (17 : Int32).toInt = ((17 : Nat) : Int) from by decide) hxi (show (17 + j9) < 2147483648 by omega)
    obtain ⟨x_8, e_9, hx_10⟩ := fTo (17 + j9) (by omega)
    refine r_iald act (gx gp_209 (w := 0x251a) rfl (by decide) rfl) (n := 37) (j := (17 + j9)) rfl (rwj.2 (1, 125, 32, 46) (by decide)).2 v_7 (show (17 + j9) < 46 by omega) (v := .int x_8) e_9 ?_
    refine g_iadd act (gx gp_209 (w := 0x260a) rfl (by decide) rfl) (n := 38) rfl ?_
    have v_11 := iv_add v_6 hx_10 (show -2147483648 ≤ (((((24 * 0) + (4 * ln9)) : Nat) : Int) + (tl (17 + j9))) by omega) (show (((((24 * 0) + (4 * ln9)) : Nat) : Int) + (tl (17 + j9))) < 2147483648 by omega)
    refine g_storeI act (gx gp_209 (w := 0x8002810) rfl (by decide) rfl) (a := 8) (n := 40) rfl rfl (L2 := [some (.ref 124), some (.int li), some (.int (0 : Int32)), some (.long a), none, some (.long b), none, some (.int xi), some (.int ((((24 : Int32) * (0 : Int32)) + ((4 : Int32) * li)) + x_8))]) rfl ?_
    refine g_loadA act (gx gp_209 (w := 0x2903) rfl (by decide) rfl) (a := 0) (n := 41) rfl rfl rfl ?_
    refine g_loadA act (gx gp_209 (w := 0x2a03) rfl (by decide) rfl) (a := 0) (n := 42) rfl rfl rfl ?_
    refine r_getf act (gx gp_209 (w := 0x3000409002d04) rfl (by decide) rfl) (n := 45) (ci := 9) (j := 16) (N := 39) rfl rfl rfl rwj.1 (by decide) (rwj.2 (16, 131, 33, 48) (by decide)).1 ?_
    refine g_loadI act (gx gp_209 (w := 0x8002f02) rfl (by decide) rfl) (a := 8) (n := 47) rfl rfl rfl ?_
    obtain ⟨j_12, hj_13⟩ := Int.eq_ofNat_of_zero_le (show (0 : Int) ≤ (((((24 * 0) + (4 * ln9)) : Nat) : Int) + (tl (17 + j9))) by omega)
    obtain ⟨x_14, w_17, e_15, e_18, hx_16⟩ := hX j_12 (by omega) (by omega)
    refine r_lald act (gx gp_209 (w := 0x300d) rfl (by decide) rfl) (n := 48) (j := j_12) rfl (rwj.2 (16, 131, 33, 48) (by decide)).2 (v_11.trans hj_13) (show j_12 < 48 by omega) (v := .long x_14) e_15 ?_
    refine g_loadA act (gx gp_209 (w := 0x3103) rfl (by decide) rfl) (a := 0) (n := 49) rfl rfl rfl ?_
    refine r_getf act (gx gp_209 (w := 0x3000449003404) rfl (by decide) rfl) (n := 52) (ci := 9) (j := 17) (N := 39) rfl rfl rfl rwj.1 (by decide) (rwj.2 (17, 132, 33, 48) (by decide)).1 ?_
    refine g_loadI act (gx gp_209 (w := 0x8003602) rfl (by decide) rfl) (a := 8) (n := 54) rfl rfl rfl ?_
    refine r_lald act (gx gp_209 (w := 0x370d) rfl (by decide) rfl) (n := 55) (j := j_12) rfl (rwj.2 (17, 132, 33, 48) (by decide)).2 (v_11.trans hj_13) (show j_12 < 48 by omega) (v := .long w_17) e_18 ?_
    refine g_loadA act (gx gp_209 (w := 0x3803) rfl (by decide) rfl) (a := 0) (n := 56) rfl rfl rfl ?_
    refine r_getf act (gx gp_209 (w := 0x30007c9003b04) rfl (by decide) rfl) (n := 59) (ci := 9) (j := 31) (N := 39) rfl rfl rfl rwj.1 (by decide) (rwj.2 (31, 142, 33, 5) (by decide)).1 ?_
    refine g_loadI act (gx gp_209 (w := 0x7003d02) rfl (by decide) rfl) (a := 7) (n := 61) rfl rfl rfl ?_
    obtain ⟨x_24, w_27, e_25, e_28, hx_26⟩ := hO j9 (by omega)
    refine r_lald act (gx gp_209 (w := 0x3e0d) rfl (by decide) rfl) (n := 62) (j := j9) rfl (rwj.2 (31, 142, 33, 5) (by decide)).2 hxi (show j9 < 5 by omega) (v := .long x_24) e_25 ?_
    refine g_loadA act (gx gp_209 (w := 0x3f03) rfl (by decide) rfl) (a := 0) (n := 63) rfl rfl rfl ?_
    refine r_getf act (gx gp_209 (w := 0x3000809004204) rfl (by decide) rfl) (n := 66) (ci := 9) (j := 32) (N := 39) rfl rfl rfl rwj.1 (by decide) (rwj.2 (32, 143, 33, 5) (by decide)).1 ?_
    refine g_loadI act (gx gp_209 (w := 0x7004402) rfl (by decide) rfl) (a := 7) (n := 68) rfl rfl rfl ?_
    refine r_lald act (gx gp_209 (w := 0x450d) rfl (by decide) rfl) (n := 69) (j := j9) rfl (rwj.2 (32, 143, 33, 5) (by decide)).2 hxi (show j9 < 5 by omega) (v := .long w_27) e_28 ?_
    refine n_call tb_pres act hEnd (gx (P := G_call) gp_209 (w := 0xa0000000000008349500011a00480f) rfl (by decide) rfl) (d' := D_282) rfl (as := [.ref 124, .long x_14, .long w_17, .long x_24, .long w_27]) (rest := []) (b_timesQ rwj hx_16 hx_26 (hSf _ (by omega)) (hSo _ (by omega))) (show (5 : Nat) = fb 0xa0000000000008349500011a00480f % 16 by decide) (by show (9 : Nat) ≤ 13; decide) (fun _ => ⟨_, _, rfl, _, shp_at rwj.1, Or.inr (show fb 0xa0000000000008349500011a00480f >>> 68 = 10 by decide)⟩) (by omega) (by show 8 + (13 + 11) + 55 ≤ R.locals; omega) (by show (0 : Nat) ≤ 8; decide) (by show kc + 0 ≤ _; omega) (by show ks + 0 ≤ _; omega) (fun r9 hs_34 hpo hr9 => ?_) (fun x9 hs9 hx9 hpo => ?_)
    · obtain rfl : r9 = none := hr9.elim (fun q => q.2) (fun q => absurd rfl q.1)
      obtain ⟨-, t_35, w_36, e_37, e_38, hF_39, fr_40⟩ := hpo
      have rw_41 := rwj.fr fr_40 W0_rw
      have f_42 := fTo.fr (fun j9 _ => fr_40.2.2 125 j9 (by unfold W0; omega))
      have f_43 := fW.fr (fun j9 _ => fr_40.2.2 127 j9 (by unfold W0; omega))
      have f_44 := hD.fr (fun j9 _ => fr_40.2.2 135 j9 (by unfold W0; omega))
      have f_45 := hO.fr (fun j9 _ => ⟨fr_40.2.2 142 j9 (by unfold W0; omega), fr_40.2.2 143 j9 (by unfold W0; omega)⟩)
      have f_46 := hX.fr (fun j9 _ _ => ⟨fr_40.2.2 131 j9 (by unfold W0; omega), fr_40.2.2 132 j9 (by unfold W0; omega)⟩)
      have fr_47 := hfr.tr fr_40
      clear rwj fTo fW hD hO hX hfr
      show WpN (gp g0 wp) CLS p l e R s m args below meth c Q D_209.2.2.1 kc0 ks0 72 [some (.ref 124), some (.int li), some (.int (0 : Int32)), some (.long a), none, some (.long b), none, some (.int xi), some (.int ((((24 : Int32) * (0 : Int32)) + ((4 : Int32) * li)) + x_8))] (hs_34, kc, ks) []
      refine g_loadA act (gx gp_209 (w := 0x4903) rfl (by decide) rfl) (a := 0) (n := 73) rfl rfl rfl ?_
      refine g_loadL act (gx gp_209 (w := 0x3004a06) rfl (by decide) rfl) (a := 3) (n := 74) rfl rfl rfl ?_
      refine g_loadL act (gx gp_209 (w := 0x5004c06) rfl (by decide) rfl) (a := 5) (n := 76) rfl rfl rfl ?_
      refine g_loadA act (gx gp_209 (w := 0x4d03) rfl (by decide) rfl) (a := 0) (n := 77) rfl rfl rfl ?_
      refine r_getf act (gx gp_209 (w := 0x20001c9005004) rfl (by decide) rfl) (n := 80) (ci := 9) (j := 7) (N := 39) rfl rfl rfl rw_41.1 (by decide) (v := .long t_35) e_37 ?_
      refine g_loadA act (gx gp_209 (w := 0x5103) rfl (by decide) rfl) (a := 0) (n := 81) rfl rfl rfl ?_
      refine r_getf act (gx gp_209 (w := 0x2000209005404) rfl (by decide) rfl) (n := 84) (ci := 9) (j := 8) (N := 39) rfl rfl rfl rw_41.1 (by decide) (v := .long w_36) e_38 ?_
      have hbt_48 := (tm_o hT hT6 hD0 hD6 (hfA j_12 (by omega)).1 (hfA j_12 (by omega)).2 (hoA j9 (by omega)).1 (hoA j9 (by omega)).2.1 (hoA j9 (by omega)).2.2)
      refine n_call tb_pres act hEnd (gx (P := G_call) gp_209 (w := 0xa00000000000082c950000fc00570f) rfl (by decide) rfl) (d' := D_252) rfl (as := [.ref 124, .long a, .long b, .long t_35, .long w_36]) (rest := []) (b_plusB (j := j9) rw_41 hF hF_39 hM0 hM2 hbq hbt_48 (by omega)) (show (5 : Nat) = fb 0xa00000000000082c950000fc00570f % 16 by decide) (by show (9 : Nat) ≤ 11; decide) (fun _ => ⟨_, _, rfl, _, shp_at rw_41.1, Or.inr (show fb 0xa00000000000082c950000fc00570f >>> 68 = 10 by decide)⟩) (by omega) (by show 8 + (11 + 11) + 55 ≤ R.locals; omega) (by show (0 : Nat) ≤ 8; decide) (by show kc + 0 ≤ _; omega) (by show ks + 0 ≤ _; omega) (fun r9 hs_49 hpo hr9 => ?_) (fun x9 hs9 hx9 hpo => ?_)
      · obtain rfl : r9 = none := hr9.elim (fun q => q.2) (fun q => absurd rfl q.1)
        obtain ⟨-, t_50, w_51, e_52, e_53, hF_54, fr_55⟩ := hpo
        have rw_56 := rw_41.fr fr_55 W0_rw
        have f_57 := f_42.fr (fun j9 _ => fr_55.2.2 125 j9 (by unfold W0; omega))
        have f_58 := f_43.fr (fun j9 _ => fr_55.2.2 127 j9 (by unfold W0; omega))
        have f_59 := f_44.fr (fun j9 _ => fr_55.2.2 135 j9 (by unfold W0; omega))
        have f_60 := f_45.fr (fun j9 _ => ⟨fr_55.2.2 142 j9 (by unfold W0; omega), fr_55.2.2 143 j9 (by unfold W0; omega)⟩)
        have f_61 := f_46.fr (fun j9 _ _ => ⟨fr_55.2.2 131 j9 (by unfold W0; omega), fr_55.2.2 132 j9 (by unfold W0; omega)⟩)
        have fr_62 := fr_47.tr fr_55
        clear rw_41 f_42 f_43 f_44 f_45 f_46 e_37 e_38 fr_47
        show WpN (gp g0 wp) CLS p l e R s m args below meth c Q D_209.2.2.1 kc0 ks0 87 [some (.ref 124), some (.int li), some (.int (0 : Int32)), some (.long a), none, some (.long b), none, some (.int xi), some (.int ((((24 : Int32) * (0 : Int32)) + ((4 : Int32) * li)) + x_8))] (hs_49, kc, ks) []
        refine g_loadA act (gx gp_209 (w := 0x5803) rfl (by decide) rfl) (a := 0) (n := 88) rfl rfl rfl ?_
        refine r_getf act (gx gp_209 (w := 0x20001c9005b04) rfl (by decide) rfl) (n := 91) (ci := 9) (j := 7) (N := 39) rfl rfl rfl rw_56.1 (by decide) (v := .long t_50) e_52 ?_
        refine g_storeL act (gx gp_209 (w := 0x3005c0b) rfl (by decide) rfl) (a := 3) (n := 92) rfl rfl (L2 := [some (.ref 124), some (.int li), some (.int (0 : Int32)), some (.long t_50), none, some (.long b), none, some (.int xi), some (.int ((((24 : Int32) * (0 : Int32)) + ((4 : Int32) * li)) + x_8))]) rfl ?_
        refine g_loadA act (gx gp_209 (w := 0x5d03) rfl (by decide) rfl) (a := 0) (n := 93) rfl rfl rfl ?_
        refine r_getf act (gx gp_209 (w := 0x2000209006004) rfl (by decide) rfl) (n := 96) (ci := 9) (j := 8) (N := 39) rfl rfl rfl rw_56.1 (by decide) (v := .long w_51) e_53 ?_
        refine g_storeL act (gx gp_209 (w := 0x500620b) rfl (by decide) rfl) (a := 5) (n := 98) rfl rfl (L2 := [some (.ref 124), some (.int li), some (.int (0 : Int32)), some (.long t_50), none, some (.long w_51), none, some (.int xi), some (.int ((((24 : Int32) * (0 : Int32)) + ((4 : Int32) * li)) + x_8))]) rfl ?_
        refine g_iinc act (gx gp_209 (w := 0x80000001000007006509) rfl (by decide) rfl) (a := 7) (i := (1 : Int32)) (n := 101) rfl (by decide) rfl rfl (L2 := [some (.ref 124), some (.int li), some (.int (0 : Int32)), some (.long t_50), none, some (.long w_51), none, some (.int (xi + (1 : Int32))), some (.int ((((24 : Int32) * (0 : Int32)) + ((4 : Int32) * li)) + x_8))]) rfl ?_
        have v_63 := iv_addN hxi (show (1 : Int32).toInt = ((1 : Nat) : Int) from by decide) (show (j9 + 1) < 2147483648 by omega)
        refine g_goto act (gx gp_209 (w := 0x807) rfl (by decide) rfl) (n := 8) rfl ?_
        exact n_forget (d := D_209) (L2 := [some (.ref 124), some (.int li), some (.int (0 : Int32)), some (.long t_50), none, some (.long w_51), none, some (.int (xi + (1 : Int32))), none]) (fun i v hi => by
          match i, hi with
          | 0, hi => exact hi
          | 1, hi => exact hi
          | 2, hi => exact hi
          | 3, hi => exact hi
          | 4, hi => cases hi
          | 5, hi => exact hi
          | 6, hi => cases hi
          | 7, hi => exact hi
          | 8, hi => cases hi
          | i + 9, hi => cases hi) (ih (j9 + 1) (by omega) (by omega) _ _ _ _ _ v_63 hF_54 ((bq_add hbq hbt_48).mono (by omega)) rw_56 f_57 f_58 f_59 f_60 f_61 fr_62)
      · exact absurd hpo.1 (by omega)
    · exact absurd hpo.1 (by omega)

theorem b_flowsX {g0 : GG} {bl : Nat} {xs : Nat → Int32} {l : Launch} {hs : List CE} {tl wl : Nat → Int} {nl n ng nr : Nat} (hNW : NW tl wl nl n ng nr) {dm : Nat → Int} {li : Int32} {ln9 : Nat} (hli : li.toInt = (ln9 : Int)) (hl6 : ln9 < 6) {fA o : Nat → Rat} {T D : Nat} (hT : 0 < T) (hT6 : T ≤ 16) (hD0 : 0 < D) (hD6 : D ≤ 256) (hfA : ∀ j, j < 24 → IsI ((T : Rat) * fA j) ∧ Ab 1 (fA j)) (hoA : ∀ g, g < 5 → IsI ((D : Rat) * o g) ∧ 0 ≤ o g ∧ o g ≤ 200) (hM0 : 0 < T * D) (hM2 : T * D ≤ 4096) (hSf : ∀ j, j < 24 → Sml (fA j)) (hSo : ∀ g, g < 5 → Sml (o g)) (hdm : ∀ j, 0 ≤ dm j ∧ dm j ≤ 220) (rw0 : RW hs) (fTo : IArr hs 125 46 tl) (fW : IArr hs 127 39 wl) (hD : IArr hs 135 4 dm) (hO : QArr hs 142 143 5 o) (hX : QRng hs 131 132 0 24 fA) : BodyN SSX TBL g0 CLS bl xs l D_209 3 87 0 0 [.ref 124, .int li, .int (0 : Int32)] hs (fun kd _ h2 => kd = 0 ∧ ∃ (t w : Int64) (q : Rat), rd h2 124 7 = .long t ∧ rd h2 124 8 = .long w ∧ FR t w q ∧ BQ (T * D) q 9 ∧ FrS W0 hs h2) := by
  intro wp p e R s m args below meth c Q kc0 ks0 kc ks act hf hl hc hsl hEnd
  show WpN (gp g0 wp) CLS p l e R s m args below meth c Q D_209.2.2.1 kc0 ks0 0 [some (.ref 124), some (.int li), some (.int (0 : Int32)), none, none, none, none, none, none] (hs, kc, ks) []
  refine g_constL act (gx gp_209 (w := 0x40000000000000002000000000101) rfl (by decide) rfl) (n := 1) (x := 0) (by decide) rfl ?_
  refine g_storeL act (gx gp_209 (w := 0x300020b) rfl (by decide) rfl) (a := 3) (n := 2) rfl rfl (L2 := [some (.ref 124), some (.int li), some (.int (0 : Int32)), some (.long (0 : Int64)), none, none, none, none, none]) rfl ?_
  refine g_constL act (gx gp_209 (w := 0x4000000000000000a000000000301) rfl (by decide) rfl) (n := 3) (x := 1) (by decide) rfl ?_
  refine g_storeL act (gx gp_209 (w := 0x500050b) rfl (by decide) rfl) (a := 5) (n := 5) rfl rfl (L2 := [some (.ref 124), some (.int li), some (.int (0 : Int32)), some (.long (0 : Int64)), none, some (.long (1 : Int64)), none, none, none]) rfl ?_
  refine g_constI act (gx gp_209 (w := 0x40000000400000001000000000601) rfl (by decide) rfl) (n := 6) (x := (0 : Int32)) (by decide) rfl ?_
  refine g_storeI act (gx gp_209 (w := 0x7000810) rfl (by decide) rfl) (a := 7) (n := 8) rfl rfl (L2 := [some (.ref 124), some (.int li), some (.int (0 : Int32)), some (.long (0 : Int64)), none, some (.long (1 : Int64)), none, some (.int (0 : Int32)), none]) rfl ?_
  exact flX_1 hNW hli hl6 hT hT6 hD0 hD6 hfA hoA hM0 hM2 hSf hSo hdm hf hl hc hsl act hEnd (by omega) (by omega) 0 (by omega) _ _ _ 0 hs rfl fr_zero1 bq_zero rw0 fTo fW hD hO hX (FrS.rf _ _)

theorem b_findsL {g0 : GG} {bl : Nat} {xs : Nat → Int32} {l : Launch} {hs : List CE} {tl wl : Nat → Int} {nl n ng nr : Nat} {ou bd9 bl9 : Int} (hNW : NW tl wl nl n ng nr) (hB : BM hs tl wl) (hA : Ask hs tl nl n ou bd9 bl9) (hbd : bd9 ≤ 220) (hbl : bl9 ≤ 100001) : BodyN SSX TBL g0 CLS bl xs l D_206 7 186 0 0 [.ref 124] hs (fun kd r h2 => kd = 0 ∧ (r = some (.int 0) ∨ r = some (.int 1)) ∧ (FD9 h2 tl wl nl n ou bd9 bl9 ∧ QRng h2 131 132 0 24 (facA tl nl n ou)) ∧ (ModF hs → ModF h2) ∧ FrS WD hs h2) := by
  intro wp p e R s m args below meth c Q kc0 ks0 kc ks act hf hl hc hsl hEnd
  obtain ⟨rw0, hTo, hW⟩ := hB
  have hA9 := hA
  obtain ⟨hG, ⟨oi, b1, b2⟩, ⟨dm, c1, c2⟩, ⟨lm, d1, d2⟩, ⟨em, e1, e2⟩, ⟨cp, f1, f2⟩⟩ := hA
  obtain ⟨n0, -, n2, n3, -, n5, -, n7, -, -, -, n11, -, -⟩ := hNW
  refine n_longs (k := 131) (N := 48) (rw0.2 (16, 131, 33, 48) (by decide)).2 (fun l131 => ?_)
  refine n_longs (k := 132) (N := 48) (rw0.2 (17, 132, 33, 48) (by decide)).2 (fun l132 => ?_)
  refine n_longs (k := 133) (N := 12) (rw0.2 (18, 133, 33, 12) (by decide)).2 (fun l133 => ?_)
  refine n_longs (k := 134) (N := 12) (rw0.2 (19, 134, 33, 12) (by decide)).2 (fun l134 => ?_)
  refine n_longs (k := 139) (N := 1295) (rw0.2 (25, 139, 33, 1295) (by decide)).2 (fun l139 => ?_)
  refine n_longs (k := 140) (N := 1295) (rw0.2 (26, 140, 33, 1295) (by decide)).2 (fun l140 => ?_)
  refine n_longs (k := 142) (N := 5) (rw0.2 (31, 142, 33, 5) (by decide)).2 (fun l142 => ?_)
  refine n_longs (k := 143) (N := 5) (rw0.2 (32, 143, 33, 5) (by decide)).2 (fun l143 => ?_)
  refine n_ints (k := 141) (N := 30) (rw0.2 (27, 141, 32, 30) (by decide)).2 (fun i1 => ?_)
  obtain ⟨bz, hbz⟩ := IArr.start i1
  exact ((b_finds b2 n0 n2 n3 hG n5 n7 (fun j => by have := c2 j; omega) (fun j => by have := d2 j; omega) (fun j => by have := e2 j; omega) f2 (fun g hg => n11 g (by omega)) rw0 hTo hW c1 d1 e1 f1 b1 hbz l131 l132 l133 l134 l139 l140 l142 l143).mono (fun kd r h2 q => by
    obtain ⟨q1, q2, q3, q4, q5, -, -, q7, q8, q6⟩ := q
    exact ⟨q1, q2, ⟨⟨BM.fr ⟨rw0, hTo, hW⟩ q6 WD_rw (fun j => by unfold WD; omega) (fun j => by unfold WD; omega), hA9.fr q6 (fun k j h1 h2 => by unfold WD; omega) (by unfold WD; omega), q3, q4.kr (facA_den hG).1, fun z => (q5 z).kr ((facA_den hG).2 z)⟩, q4⟩, fun hM => hM.wd q6 q3 q7 q8, q6⟩)) wp p e R s m args below meth c Q kc0 ks0 kc ks act hf hl hc hsl hEnd

theorem b_isFoundL {g0 : GG} {bl : Nat} {xs : Nat → Int32} {l : Launch} {hs : List CE} {tl wl : Nat → Int} {nl n ng nr : Nat} {a : Int32} {i9 : Nat} (hNW : NW tl wl nl n ng nr) (hB : BM hs tl wl) (ha : a.toInt = (i9 : Int)) (hi4 : i9 < 4) : BodyN SSX TBL g0 CLS bl xs l D_221 8 207 0 0 [.ref 124, .int a] hs (fun kd r h2 => kd = 0 ∧ (∃ rv : Int32, r = some (.int rv) ∧ (rv = 0 ∨ rv = 1)) ∧ (FD9 h2 tl wl nl n (wl 38) 200 400 ∧ EX9 h2 tl wl nl n (wl 38)) ∧ (ModF hs → ModF h2) ∧ FrS WG hs h2) := by
  intro wp p e R s m args below meth c Q kc0 ks0 kc ks act hf hl hc hsl hEnd
  show WpN (gp g0 wp) CLS p l e R s m args below meth c Q D_221.2.2.1 kc0 ks0 0 [some (.ref 124), some (.int a)] (hs, kc, ks) []
  refine g_loadA act (gx gp_221 (w := 0x103) rfl (by decide) rfl) (a := 0) (n := 1) rfl rfl rfl ?_
  refine g_loadI act (gx gp_221 (w := 0x1000202) rfl (by decide) rfl) (a := 1) (n := 2) rfl rfl rfl ?_
  refine n_call tb_pres act hEnd (gx (P := G_call) gp_221 (w := 0xa00000000000080c220000b600050f) rfl (by decide) rfl) (d' := D_182) rfl (as := [.ref 124, .int a]) (rest := []) (b_asks ha (by omega) hB.1 hB.2.2) (show (2 : Nat) = fb 0xa00000000000080c220000b600050f % 16 by decide) (by show (2 : Nat) ≤ 3; decide) (fun _ => ⟨_, _, rfl, _, shp_at hB.1.1, Or.inr (show fb 0xa00000000000080c220000b600050f >>> 68 = 10 by decide)⟩) (by omega) (by show 8 + (3 + 11) + 22 ≤ R.locals; omega) (by show (0 : Nat) ≤ 8; decide) (by show kc + 0 ≤ _; omega) (by show ks + 0 ≤ _; omega) (fun r9 h1 hpo hr9 => ?_) (fun x9 hs9 hx9 hpo => ?_)
  · obtain rfl : r9 = none := hr9.elim (fun q => q.2) (fun q => absurd rfl q.1)
    obtain ⟨-, ⟨f1, z1, y1⟩, ⟨f2, z2, y2⟩, ⟨f3, z3, y3⟩, ⟨f4, z4, y4⟩, ho, fr1⟩ := hpo
    have hB1 := hB.fr fr1 WK_rw (fun j => by unfold WK; omega) (fun j => by unfold WK; omega)
    have hA1 : Ask h1 tl nl n (wl 38) 200 400 := ⟨hNW.2.2.2.2.2.2.2.2.2.1, ho, ⟨_, z1.cut, cut4_b (by decide) (fun j hj => by rw [y1 j hj]; have q := hNW.2.2.2.2.2.2.2.2.2.2.2.2.2 (4 * i9 + j) (by omega); rw [← Nat.add_assoc] at q; omega)⟩, ⟨_, z2.cut, cut4_b (by decide) (fun j hj => by rw [y2 j hj]; have q := hNW.2.2.2.2.2.2.2.2.2.2.1 j (by omega); omega)⟩, ⟨_, z3.cut, cut4_b (by decide) (fun j hj => by rw [y3 j hj]; have q := hNW.2.2.2.2.2.2.2.2.2.2.1 (6 + j) (by omega); omega)⟩, ⟨_, z4.cut, cut4_b (by decide) (fun j hj => by rw [y4 j hj]; exact hNW.2.2.2.2.2.2.2.2.2.2.2.2.1 j hj)⟩⟩
    show WpN (gp g0 wp) CLS p l e R s m args below meth c Q D_221.2.2.1 kc0 ks0 5 [some (.ref 124), some (.int a)] (h1, kc, ks) []
    refine g_loadA act (gx gp_221 (w := 0x603) rfl (by decide) rfl) (a := 0) (n := 6) rfl rfl rfl ?_
    refine n_call tb_pres act hEnd (gx (P := G_call) gp_221 (w := 0xa000000000000c08110000ce00090f) rfl (by decide) rfl) (d' := D_206) rfl (as := [.ref 124]) (rest := []) (b_findsL hNW hB1 hA1 (by decide) (by decide)) (show (1 : Nat) = fb 0xa000000000000c08110000ce00090f % 16 by decide) (by show (1 : Nat) ≤ 2; decide) (fun _ => ⟨_, _, rfl, _, shp_at hB1.1.1, Or.inr (show fb 0xa000000000000c08110000ce00090f >>> 68 = 10 by decide)⟩) (by omega) (by show 8 + (2 + 11) + 186 ≤ R.locals; omega) (by show (0 : Nat) ≤ 8; decide) (by show kc + 0 ≤ _; omega) (by show ks + 0 ≤ _; omega) (fun r9 h2 hpo hr9 => ?_) (fun x9 hs9 hx9 hpo => ?_)
    · obtain ⟨-, hr, ⟨hFd, hQ9⟩, hMd, fr2⟩ := hpo
      obtain ⟨rv, rfl, hrv⟩ : ∃ rv : Int32, r9 = some (.int rv) ∧ (rv = 0 ∨ rv = 1) := hr.elim (fun q => ⟨0, q, Or.inl rfl⟩) (fun q => ⟨1, q, Or.inr rfl⟩)
      show WpN (gp g0 wp) CLS p l e R s m args below meth c Q D_221.2.2.1 kc0 ks0 9 [some (.ref 124), some (.int a)] (h2, kc, ks) [.int rv]
      exact g_retZ hEnd (gx gp_221 (w := 0x23) rfl (by decide) rfl) hrv ⟨rfl, ⟨rv, rfl, hrv⟩, ⟨hFd, hQ9, f2, z2.fr (fun j9 _ => fr2.2.2 136 j9 (by unfold WD; omega)), y2⟩, (fun hM => hMd (hM.wk fr1 ho)), (fr1.mono (fun k9 j9 h9 => Or.inr h9)).tr (fr2.mono (fun k9 j9 h9 => Or.inl h9))⟩ (by show kc ≤ kc + 0; omega) (by show ks ≤ ks + 0; omega)
    · exact absurd hpo.1 (by omega)
  · exact absurd hpo.1 (by omega)

theorem b_isGoodL {g0 : GG} {bl : Nat} {xs : Nat → Int32} {l : Launch} {hs : List CE} {tl wl : Nat → Int} {nl n ng nr : Nat} (hNW : NW tl wl nl n ng nr) {it a b : Int32} {ti x y : Int} (hB : BM hs tl wl) (hM : ModF hs) (hit : it.toInt = ti) (hti : ti = 0 ∨ ti = 1) (ha : a.toInt = x) (hb : b.toInt = y) : BodyN SSX TBL g0 CLS bl xs l D_223 9 228 0 0 [.ref 124, .int it, .int a, .int b] hs (fun kd r h2 => kd = 0 ∧ ModF h2 ∧ FrS WM hs h2 ∧ ∃ rg : Int32, r = some (.int rg) ∧ (rg = 0 ∨ (rg = 1 ∧ ti = 1 ∧ 0 ≤ x ∧ x < tl 1 ∧ 0 ≤ y ∧ y ≤ 1 ∧ FD9 h2 tl wl nl n (wl 38) 200 400 ∧ EX9 h2 tl wl nl n (wl 38)))) := by
  intro wp p e R s m args below meth c Q kc0 ks0 kc ks act hf hl hc hsl hEnd
  have hN9 := hNW
  obtain ⟨n0, n1, n2, n3, n4, n5, n6, n7, n8, hG0, nL, nC, nP, nD⟩ := hN9
  have hGn := hG0.1
  have hGn3 := hG0.2.1
  have hGl := hG0.2.2.1
  obtain ⟨rw0, hTo, hW⟩ := hB
  show WpN (gp g0 wp) CLS p l e R s m args below meth c Q D_223.2.2.1 kc0 ks0 0 [some (.ref 124), some (.int it), some (.int a), some (.int b)] (hs, kc, ks) []
  refine g_loadA act (gx gp_223 (w := 0x103) rfl (by decide) rfl) (a := 0) (n := 1) rfl rfl rfl ?_
  refine g_loadI act (gx gp_223 (w := 0x1000202) rfl (by decide) rfl) (a := 1) (n := 2) rfl rfl rfl ?_
  refine g_ifEq act (gx gp_223 (w := 0xd00050e) rfl (by decide) rfl) (tgt := 13) (n := 5) rfl rfl (fun h3 => ?_) (fun h3 => ?_)
  · simp only [i_eq, i0] at h3
    refine g_constI act (gx gp_223 (w := 0x40000000c00000009000000000e01) rfl (by decide) rfl) (n := 14) (x := (1 : Int32)) (by decide) rfl ?_
    refine g_goto act (gx gp_223 (w := 0x2b07) rfl (by decide) rfl) (n := 43) rfl ?_
    refine r_putf act (gx gp_223 (w := 0x9002e13) rfl (by decide) rfl) (n := 46) (ci := 9) (j := 0) (N := 39) rfl rfl rfl rw0.1 (by decide) (Or.inl ⟨rfl, _, rfl⟩) ?_
    have rw_1 := RW.wr (k := 124) (j := 0) (v := .int (1 : Int32)) rw0 (Or.inr (by decide))
    have f_2 := hTo.ne (k := 124) (j := 0) (v := .int (1 : Int32)) (by decide)
    have f_3 := hW.ne (k := 124) (j := 0) (v := .int (1 : Int32)) (by decide)
    have f_4 := hM.wr0 (x := (1 : Int32)) rw0.1 (by decide) (by decide)
    have f_5 := rd_same (j := 0) (v := .int (1 : Int32)) rw0.1
    have fr_6 := (FrS.rf WM hs).wr (k := 124) (j := 0) (.int (1 : Int32)) (by unfold WM; omega)
    generalize (wr hs 124 0 (.int (1 : Int32))) = hs_7 at *
    refine g_loadA act (gx gp_223 (w := 0x2f03) rfl (by decide) rfl) (a := 0) (n := 47) rfl rfl rfl ?_
    refine r_getf act (gx gp_223 (w := 0x9003204) rfl (by decide) rfl) (n := 50) (ci := 9) (j := 0) (N := 39) rfl rfl rfl rw_1.1 (by decide) (v := .int (1 : Int32)) f_5 ?_
    refine g_ifNe act (gx gp_223 (w := 0x3900351d) rfl (by decide) rfl) (tgt := 57) (n := 53) rfl rfl (fun _ => ?_) (fun q => absurd (by decide) q)
    refine g_constI act (gx gp_223 (w := 0x40000000400000001000000003a01) rfl (by decide) rfl) (n := 58) (x := (0 : Int32)) (by decide) rfl ?_
    exact g_retZ hEnd (gx gp_223 (w := 0x23) rfl (by decide) rfl) (by decide) ⟨rfl, f_4, fr_6, _, rfl, Or.inl rfl⟩ (by show kc ≤ kc + 0; omega) (by show ks ≤ ks + 0; omega)
  · simp only [i_eq, i0] at h3
    refine g_loadA act (gx gp_223 (w := 0x603) rfl (by decide) rfl) (a := 0) (n := 6) rfl rfl rfl ?_
    refine g_loadI act (gx gp_223 (w := 0x2000702) rfl (by decide) rfl) (a := 2) (n := 7) rfl rfl rfl ?_
    refine n_call tb_pres act hEnd (gx (P := G_call) gp_223 (w := 0xa000000000000c08220000e0000a0f) rfl (by decide) rfl) (d' := D_224) rfl (as := [.ref 124, .int a]) (rest := [.ref 124]) (b_isInterval (tl := tl) rw0 hTo ha (by omega) (by omega)) (show (2 : Nat) = fb 0xa000000000000c08220000e0000a0f % 16 by decide) (by show (2 : Nat) ≤ 2; decide) (fun _ => ⟨_, _, rfl, _, shp_at rw0.1, Or.inr (show fb 0xa000000000000c08220000e0000a0f >>> 68 = 10 by decide)⟩) (by omega) (by show 8 + (2 + 11) + 22 ≤ R.locals; omega) (by show (1 : Nat) ≤ 8; decide) (by show kc + 0 ≤ _; omega) (by show ks + 0 ≤ _; omega) (fun r9 h3 hpo hr9 => ?_) (fun x9 hs9 hx9 hpo => ?_)
    · obtain ⟨-, rfl, hin_9⟩ := hpo
      obtain ⟨rv_8, rfl, hin_9o⟩ := in1_t hin_9
      show WpN (gp g0 wp) CLS p l e R s m args below meth c Q D_223.2.2.1 kc0 ks0 10 [some (.ref 124), some (.int it), some (.int a), some (.int b)] (hs, kc, ks) [.int rv_8, .ref 124]
      refine g_ifNe act (gx gp_223 (w := 0x11000d1d) rfl (by decide) rfl) (tgt := 17) (n := 13) rfl rfl (fun h11 => ?_) (fun h11 => ?_)
      · simp only [i_eq, i0] at h11
        refine g_loadI act (gx gp_223 (w := 0x3001202) rfl (by decide) rfl) (a := 3) (n := 18) rfl rfl rfl ?_
        refine g_constI act (gx gp_223 (w := 0x40000000400000001000000001301) rfl (by decide) rfl) (n := 19) (x := (0 : Int32)) (by decide) rfl ?_
        refine g_constI act (gx gp_223 (w := 0x40000000c00000009000000001401) rfl (by decide) rfl) (n := 20) (x := (1 : Int32)) (by decide) rfl ?_
        refine n_call tb_pres act hEnd (gx (P := G_call) gp_223 (w := 0x40c330000d900170f) rfl (by decide) rfl) (d' := D_217) rfl (as := [.int b, .int (0 : Int32), .int (1 : Int32)]) (rest := [.ref 124]) (b_in hb (show (0 : Int32).toInt = ((0 : Nat) : Int) from by decide) (show (1 : Int32).toInt = ((1 : Nat) : Int) from by decide)) (show (3 : Nat) = fb 0x40c330000d900170f % 16 by decide) (by show (3 : Nat) ≤ 3; decide) (fun q => absurd q (by decide)) (by omega) (by show 8 + (3 + 11) + 0 ≤ R.locals; omega) (by show (1 : Nat) ≤ 8; decide) (by show kc + 0 ≤ _; omega) (by show ks + 0 ≤ _; omega) (fun r9 h3 hpo hr9 => ?_) (fun x9 hs9 hx9 hpo => ?_)
        · obtain ⟨-, rfl, hin_11⟩ := hpo
          obtain ⟨rv_10, rfl, hin_11o⟩ := in1_t hin_11
          show WpN (gp g0 wp) CLS p l e R s m args below meth c Q D_223.2.2.1 kc0 ks0 23 [some (.ref 124), some (.int it), some (.int a), some (.int b)] (hs, kc, ks) [.int rv_10, .ref 124]
          refine g_ifNe act (gx gp_223 (w := 0x1e001a1d) rfl (by decide) rfl) (tgt := 30) (n := 26) rfl rfl (fun h15 => ?_) (fun h15 => ?_)
          · simp only [i_eq, i0] at h15
            refine g_loadA act (gx gp_223 (w := 0x1f03) rfl (by decide) rfl) (a := 0) (n := 31) rfl rfl rfl ?_
            refine g_loadI act (gx gp_223 (w := 0x2002002) rfl (by decide) rfl) (a := 2) (n := 32) rfl rfl rfl ?_
            obtain ⟨j_12, hj_13⟩ := Int.eq_ofNat_of_zero_le (show (0 : Int) ≤ x by omega)
            refine n_call tb_pres act hEnd (gx (P := G_call) gp_223 (w := 0xa000000000000c08220000dd00230f) rfl (by decide) rfl) (d' := D_221) rfl (as := [.ref 124, .int a]) (rest := [.ref 124]) (b_isFoundL hNW ⟨rw0, hTo, hW⟩ (ha.trans hj_13) (by omega)) (show (2 : Nat) = fb 0xa000000000000c08220000dd00230f % 16 by decide) (by show (2 : Nat) ≤ 2; decide) (fun _ => ⟨_, _, rfl, _, shp_at rw0.1, Or.inr (show fb 0xa000000000000c08220000dd00230f >>> 68 = 10 by decide)⟩) (by omega) (by show 8 + (2 + 11) + 207 ≤ R.locals; omega) (by show (1 : Nat) ≤ 8; decide) (by show kc + 0 ≤ _; omega) (by show ks + 0 ≤ _; omega) (fun r9 hs_14 hpo hr9 => ?_) (fun x9 hs9 hx9 hpo => ?_)
            · obtain ⟨-, ⟨rf, rfl, hr_17⟩, hFd_18, hMd9, fr_15⟩ := hpo
              have hr_17o : rf.toInt = 0 ∨ rf.toInt = 1 := hr_17.elim (fun q => Or.inl (by rw [q]; decide)) (fun q => Or.inr (by rw [q]; decide))
              have hM_16 := hMd9 hM
              have rw_19 := rw0.fr fr_15 WG_rw
              have f_20 := hTo.fr (fun j9 _ => fr_15.2.2 125 j9 (by unfold WG WD WK; omega))
              have f_21 := hW.fr (fun j9 _ => fr_15.2.2 127 j9 (by unfold WG WD WK; omega))
              have fr_22 := (FrS.rf WM hs).tr (fr_15.mono (fun k9 j9 h9 => by unfold WG WD WK at h9; unfold WM; omega))
              show WpN (gp g0 wp) CLS p l e R s m args below meth c Q D_223.2.2.1 kc0 ks0 35 [some (.ref 124), some (.int it), some (.int a), some (.int b)] (hs_14, kc, ks) [.int rf, .ref 124]
              refine g_ifEq act (gx gp_223 (w := 0x2a00260e) rfl (by decide) rfl) (tgt := 42) (n := 38) rfl rfl (fun h18 => ?_) (fun h18 => ?_)
              · simp only [i_eq, i0] at h18
                refine g_constI act (gx gp_223 (w := 0x40000001c00000019000000002b01) rfl (by decide) rfl) (n := 43) (x := (3 : Int32)) (by decide) rfl ?_
                refine r_putf act (gx gp_223 (w := 0x9002e13) rfl (by decide) rfl) (n := 46) (ci := 9) (j := 0) (N := 39) rfl rfl rfl rw_19.1 (by decide) (Or.inl ⟨rfl, _, rfl⟩) ?_
                have hFd_23 := And.intro (FD9.wr0 hFd_18.1 (v := .int (3 : Int32))) (EX9.wr0 hFd_18.2 (v := .int (3 : Int32)))
                have rw_24 := RW.wr (k := 124) (j := 0) (v := .int (3 : Int32)) rw_19 (Or.inr (by decide))
                have f_25 := f_20.ne (k := 124) (j := 0) (v := .int (3 : Int32)) (by decide)
                have f_26 := f_21.ne (k := 124) (j := 0) (v := .int (3 : Int32)) (by decide)
                have f_27 := hM_16.wr0 (x := (3 : Int32)) rw_19.1 (by decide) (by decide)
                have f_28 := rd_same (j := 0) (v := .int (3 : Int32)) rw_19.1
                have fr_29 := fr_22.wr (k := 124) (j := 0) (.int (3 : Int32)) (by unfold WM; omega)
                clear rw_19 fr_22 f_20 f_21 hM_16
                generalize (wr hs_14 124 0 (.int (3 : Int32))) = hs_30 at *
                refine g_loadA act (gx gp_223 (w := 0x2f03) rfl (by decide) rfl) (a := 0) (n := 47) rfl rfl rfl ?_
                refine r_getf act (gx gp_223 (w := 0x9003204) rfl (by decide) rfl) (n := 50) (ci := 9) (j := 0) (N := 39) rfl rfl rfl rw_24.1 (by decide) (v := .int (3 : Int32)) f_28 ?_
                refine g_ifNe act (gx gp_223 (w := 0x3900351d) rfl (by decide) rfl) (tgt := 57) (n := 53) rfl rfl (fun _ => ?_) (fun q => absurd (by decide) q)
                refine g_constI act (gx gp_223 (w := 0x40000000400000001000000003a01) rfl (by decide) rfl) (n := 58) (x := (0 : Int32)) (by decide) rfl ?_
                exact g_retZ hEnd (gx gp_223 (w := 0x23) rfl (by decide) rfl) (by decide) ⟨rfl, f_27, fr_29, _, rfl, Or.inl rfl⟩ (by show kc ≤ kc + 0; omega) (by show ks ≤ ks + 0; omega)
              · simp only [i_eq, i0] at h18
                refine g_constI act (gx gp_223 (w := 0x40000000400000001000000002701) rfl (by decide) rfl) (n := 39) (x := (0 : Int32)) (by decide) rfl ?_
                refine g_goto act (gx gp_223 (w := 0x2b07) rfl (by decide) rfl) (n := 43) rfl ?_
                refine r_putf act (gx gp_223 (w := 0x9002e13) rfl (by decide) rfl) (n := 46) (ci := 9) (j := 0) (N := 39) rfl rfl rfl rw_19.1 (by decide) (Or.inl ⟨rfl, _, rfl⟩) ?_
                have hFd_31 := And.intro (FD9.wr0 hFd_18.1 (v := .int (0 : Int32))) (EX9.wr0 hFd_18.2 (v := .int (0 : Int32)))
                have rw_32 := RW.wr (k := 124) (j := 0) (v := .int (0 : Int32)) rw_19 (Or.inr (by decide))
                have f_33 := f_20.ne (k := 124) (j := 0) (v := .int (0 : Int32)) (by decide)
                have f_34 := f_21.ne (k := 124) (j := 0) (v := .int (0 : Int32)) (by decide)
                have f_35 := hM_16.wr0 (x := (0 : Int32)) rw_19.1 (by decide) (by decide)
                have f_36 := rd_same (j := 0) (v := .int (0 : Int32)) rw_19.1
                have fr_37 := fr_22.wr (k := 124) (j := 0) (.int (0 : Int32)) (by unfold WM; omega)
                clear rw_19 fr_22 f_20 f_21 hM_16
                generalize (wr hs_14 124 0 (.int (0 : Int32))) = hs_38 at *
                refine g_loadA act (gx gp_223 (w := 0x2f03) rfl (by decide) rfl) (a := 0) (n := 47) rfl rfl rfl ?_
                refine r_getf act (gx gp_223 (w := 0x9003204) rfl (by decide) rfl) (n := 50) (ci := 9) (j := 0) (N := 39) rfl rfl rfl rw_32.1 (by decide) (v := .int (0 : Int32)) f_36 ?_
                refine g_ifNe act (gx gp_223 (w := 0x3900351d) rfl (by decide) rfl) (tgt := 57) (n := 53) rfl rfl (fun q => absurd q (by decide)) (fun _ => ?_)
                refine g_constI act (gx gp_223 (w := 0x40000000c00000009000000003601) rfl (by decide) rfl) (n := 54) (x := (1 : Int32)) (by decide) rfl ?_
                refine g_goto act (gx gp_223 (w := 0x3a07) rfl (by decide) rfl) (n := 58) rfl ?_
                exact g_retZ hEnd (gx gp_223 (w := 0x23) rfl (by decide) rfl) (by decide) ⟨rfl, f_35, fr_37, _, rfl, Or.inr ⟨rfl, by omega, by omega, by omega, by omega, by omega, hFd_31.1, hFd_31.2⟩⟩ (by show kc ≤ kc + 0; omega) (by show ks ≤ ks + 0; omega)
            · exact absurd hpo.1 (by omega)
          · simp only [i_eq, i0] at h15
            refine g_constI act (gx gp_223 (w := 0x40000001400000011000000001b01) rfl (by decide) rfl) (n := 27) (x := (2 : Int32)) (by decide) rfl ?_
            refine g_goto act (gx gp_223 (w := 0x2b07) rfl (by decide) rfl) (n := 43) rfl ?_
            refine r_putf act (gx gp_223 (w := 0x9002e13) rfl (by decide) rfl) (n := 46) (ci := 9) (j := 0) (N := 39) rfl rfl rfl rw0.1 (by decide) (Or.inl ⟨rfl, _, rfl⟩) ?_
            have rw_39 := RW.wr (k := 124) (j := 0) (v := .int (2 : Int32)) rw0 (Or.inr (by decide))
            have f_40 := hTo.ne (k := 124) (j := 0) (v := .int (2 : Int32)) (by decide)
            have f_41 := hW.ne (k := 124) (j := 0) (v := .int (2 : Int32)) (by decide)
            have f_42 := hM.wr0 (x := (2 : Int32)) rw0.1 (by decide) (by decide)
            have f_43 := rd_same (j := 0) (v := .int (2 : Int32)) rw0.1
            have fr_44 := (FrS.rf WM hs).wr (k := 124) (j := 0) (.int (2 : Int32)) (by unfold WM; omega)
            generalize (wr hs 124 0 (.int (2 : Int32))) = hs_45 at *
            refine g_loadA act (gx gp_223 (w := 0x2f03) rfl (by decide) rfl) (a := 0) (n := 47) rfl rfl rfl ?_
            refine r_getf act (gx gp_223 (w := 0x9003204) rfl (by decide) rfl) (n := 50) (ci := 9) (j := 0) (N := 39) rfl rfl rfl rw_39.1 (by decide) (v := .int (2 : Int32)) f_43 ?_
            refine g_ifNe act (gx gp_223 (w := 0x3900351d) rfl (by decide) rfl) (tgt := 57) (n := 53) rfl rfl (fun _ => ?_) (fun q => absurd (by decide) q)
            refine g_constI act (gx gp_223 (w := 0x40000000400000001000000003a01) rfl (by decide) rfl) (n := 58) (x := (0 : Int32)) (by decide) rfl ?_
            exact g_retZ hEnd (gx gp_223 (w := 0x23) rfl (by decide) rfl) (by decide) ⟨rfl, f_42, fr_44, _, rfl, Or.inl rfl⟩ (by show kc ≤ kc + 0; omega) (by show ks ≤ ks + 0; omega)
        · exact absurd hpo.1 (by omega)
      · simp only [i_eq, i0] at h11
        refine g_constI act (gx gp_223 (w := 0x40000000c00000009000000000e01) rfl (by decide) rfl) (n := 14) (x := (1 : Int32)) (by decide) rfl ?_
        refine g_goto act (gx gp_223 (w := 0x2b07) rfl (by decide) rfl) (n := 43) rfl ?_
        refine r_putf act (gx gp_223 (w := 0x9002e13) rfl (by decide) rfl) (n := 46) (ci := 9) (j := 0) (N := 39) rfl rfl rfl rw0.1 (by decide) (Or.inl ⟨rfl, _, rfl⟩) ?_
        have rw_46 := RW.wr (k := 124) (j := 0) (v := .int (1 : Int32)) rw0 (Or.inr (by decide))
        have f_47 := hTo.ne (k := 124) (j := 0) (v := .int (1 : Int32)) (by decide)
        have f_48 := hW.ne (k := 124) (j := 0) (v := .int (1 : Int32)) (by decide)
        have f_49 := hM.wr0 (x := (1 : Int32)) rw0.1 (by decide) (by decide)
        have f_50 := rd_same (j := 0) (v := .int (1 : Int32)) rw0.1
        have fr_51 := (FrS.rf WM hs).wr (k := 124) (j := 0) (.int (1 : Int32)) (by unfold WM; omega)
        generalize (wr hs 124 0 (.int (1 : Int32))) = hs_52 at *
        refine g_loadA act (gx gp_223 (w := 0x2f03) rfl (by decide) rfl) (a := 0) (n := 47) rfl rfl rfl ?_
        refine r_getf act (gx gp_223 (w := 0x9003204) rfl (by decide) rfl) (n := 50) (ci := 9) (j := 0) (N := 39) rfl rfl rfl rw_46.1 (by decide) (v := .int (1 : Int32)) f_50 ?_
        refine g_ifNe act (gx gp_223 (w := 0x3900351d) rfl (by decide) rfl) (tgt := 57) (n := 53) rfl rfl (fun _ => ?_) (fun q => absurd (by decide) q)
        refine g_constI act (gx gp_223 (w := 0x40000000400000001000000003a01) rfl (by decide) rfl) (n := 58) (x := (0 : Int32)) (by decide) rfl ?_
        exact g_retZ hEnd (gx gp_223 (w := 0x23) rfl (by decide) rfl) (by decide) ⟨rfl, f_49, fr_51, _, rfl, Or.inl rfl⟩ (by show kc ≤ kc + 0; omega) (by show ks ≤ ks + 0; omega)
    · exact absurd hpo.1 (by omega)

theorem b_loadBits {g0 : GG} {bl : Nat} {xs : Nat → Int32} {l : Launch} {hs : List CE} {tl wl : Nat → Int} {nl n ng nr : Nat} (hNW : NW tl wl nl n ng nr) {a b : Int32} (hL1 : ∀ l, l < nl → 1 ≤ wl l) (hB : BM hs tl wl) (hM : ModF hs) : BodyN SSX TBL g0 CLS bl xs l D_240 10 251 0 0 [.ref 124, .int a, .int b] hs (POI hs) := by
  intro wp p e R s m args below meth c Q kc0 ks0 kc ks act hf hl hc hsl hEnd
  have hN9 := hNW
  obtain ⟨n0, n1, n2, n3, n4, n5, n6, n7, n8, hG0, nL, nC, nP, nD⟩ := hN9
  have hGn := hG0.1
  have hGn3 := hG0.2.1
  have hGl := hG0.2.2.1
  obtain ⟨rw0, hTo, hW⟩ := hB
  show WpN (gp g0 wp) CLS p l e R s m args below meth c Q D_240.2.2.1 kc0 ks0 0 [some (.ref 124), some (.int a), some (.int b), none, none] (hs, kc, ks) []
  refine g_loadA act (gx gp_240 (w := 0x103) rfl (by decide) rfl) (a := 0) (n := 1) rfl rfl rfl ?_
  refine g_loadA act (gx gp_240 (w := 0x203) rfl (by decide) rfl) (a := 0) (n := 2) rfl rfl rfl ?_
  refine g_loadI act (gx gp_240 (w := 0x2000302) rfl (by decide) rfl) (a := 2) (n := 3) rfl rfl rfl ?_
  refine n_call tb_pres act hEnd (gx (P := G_call) gp_240 (w := 0xa000000000000c08220000e200060f) rfl (by decide) rfl) (d' := D_226) rfl (as := [.ref 124, .int b]) (rest := [.ref 124]) (b_isLine (tl := tl) rw0 hTo (rfl : Int32.toInt b = _) (by omega) (by omega)) (show (2 : Nat) = fb 0xa000000000000c08220000e200060f % 16 by decide) (by show (2 : Nat) ≤ 2; decide) (fun _ => ⟨_, _, rfl, _, shp_at rw0.1, Or.inr (show fb 0xa000000000000c08220000e200060f >>> 68 = 10 by decide)⟩) (by omega) (by show 8 + (2 + 11) + 22 ≤ R.locals; omega) (by show (1 : Nat) ≤ 8; decide) (by show kc + 0 ≤ _; omega) (by show ks + 0 ≤ _; omega) (fun r9 h3 hpo hr9 => ?_) (fun x9 hs9 hx9 hpo => ?_)
  · obtain ⟨-, rfl, hin_2⟩ := hpo
    obtain ⟨rv_1, rfl, hin_2o⟩ := in1_t hin_2
    show WpN (gp g0 wp) CLS p l e R s m args below meth c Q D_240.2.2.1 kc0 ks0 6 [some (.ref 124), some (.int a), some (.int b), none, none] (hs, kc, ks) [.int rv_1, .ref 124]
    refine g_loadI act (gx gp_240 (w := 0x1000702) rfl (by decide) rfl) (a := 1) (n := 7) rfl rfl rfl ?_
    refine g_constI act (gx gp_240 (w := 0x40000000400000001000000000801) rfl (by decide) rfl) (n := 8) (x := (0 : Int32)) (by decide) rfl ?_
    refine n_call tb_pres act hEnd (gx (P := G_call) gp_240 (w := 0xa000000000000c10440000df000b0f) rfl (by decide) rfl) (d' := D_223) rfl (as := [.ref 124, .int rv_1, .int a, .int (0 : Int32)]) (rest := []) (b_isGoodL hNW ⟨rw0, hTo, hW⟩ hM (ti := (Int32.toInt rv_1)) (rfl : Int32.toInt rv_1 = _) (by omega) (x := (Int32.toInt a)) (rfl : Int32.toInt a = _) (y := ((0 : Nat) : Int)) (show (0 : Int32).toInt = ((0 : Nat) : Int) from by decide)) (show (4 : Nat) = fb 0xa000000000000c10440000df000b0f % 16 by decide) (by show (4 : Nat) ≤ 4; decide) (fun _ => ⟨_, _, rfl, _, shp_at rw0.1, Or.inr (show fb 0xa000000000000c10440000df000b0f >>> 68 = 10 by decide)⟩) (by omega) (by show 8 + (4 + 11) + 228 ≤ R.locals; omega) (by show (0 : Nat) ≤ 8; decide) (by show kc + 0 ≤ _; omega) (by show ks + 0 ≤ _; omega) (fun r9 hs_3 hpo hr9 => ?_) (fun x9 hs9 hx9 hpo => ?_)
    · obtain ⟨-, hM_5, fr_4, rg, rfl, hg_6⟩ := hpo
      have rw_8 := rw0.fr fr_4 WM_rw
      have f_9 := hTo.fr (fun j9 _ => fr_4.2.2 125 j9 (by unfold WM; omega))
      have f_10 := hW.fr (fun j9 _ => fr_4.2.2 127 j9 (by unfold WM; omega))
      have fr_11 := (FrS.rf WM hs).tr fr_4
      show WpN (gp g0 wp) CLS p l e R s m args below meth c Q D_240.2.2.1 kc0 ks0 11 [some (.ref 124), some (.int a), some (.int b), none, none] (hs_3, kc, ks) [.int rg]
      rcases hg_6 with rfl | ⟨rfl, g1_13, g2_13, g3_13, g4_13, g5_13, hFD_13, hEX_13⟩
      · refine g_ifNe act (gx gp_240 (w := 0x24000e1d) rfl (by decide) rfl) (tgt := 36) (n := 14) rfl rfl (fun q => absurd q (by decide)) (fun _ => ?_)
        refine g_loadA act (gx gp_240 (w := 0xf03) rfl (by decide) rfl) (a := 0) (n := 15) rfl rfl rfl ?_
        refine g_loadA act (gx gp_240 (w := 0x1003) rfl (by decide) rfl) (a := 0) (n := 16) rfl rfl rfl ?_
        obtain ⟨rz_14, e_15, b_16, b_17⟩ := hM_5.1
        refine r_getf act (gx gp_240 (w := 0x9001304) rfl (by decide) rfl) (n := 19) (ci := 9) (j := 0) (N := 39) rfl rfl rfl rw_8.1 (by decide) (v := .int rz_14) e_15 ?_
        refine g_constI act (gx gp_240 (w := 0x40000001c00000019000000001401) rfl (by decide) rfl) (n := 20) (x := (3 : Int32)) (by decide) rfl ?_
        refine g_icmpNe act (gx gp_240 (w := 0x1b001721) rfl (by decide) rfl) (tgt := 27) (n := 23) rfl rfl (fun h10 => ?_) (fun h10 => ?_)
        · simp only [i_eq, show (3 : Int32).toInt = 3 from by decide] at h10
          refine g_loadA act (gx gp_240 (w := 0x1c03) rfl (by decide) rfl) (a := 0) (n := 28) rfl rfl rfl ?_
          refine r_getf act (gx gp_240 (w := 0x9001f04) rfl (by decide) rfl) (n := 31) (ci := 9) (j := 0) (N := 39) rfl rfl rfl rw_8.1 (by decide) (v := .int rz_14) e_15 ?_
          refine r_putf act (gx gp_240 (w := 0x9002213) rfl (by decide) rfl) (n := 34) (ci := 9) (j := 0) (N := 39) rfl rfl rfl rw_8.1 (by decide) (Or.inl ⟨rfl, _, rfl⟩) ?_
          have rw_18 := RW.wr (k := 124) (j := 0) (v := .int rz_14) rw_8 (Or.inr (by decide))
          have f_19 := f_9.ne (k := 124) (j := 0) (v := .int rz_14) (by decide)
          have f_20 := f_10.ne (k := 124) (j := 0) (v := .int rz_14) (by decide)
          have f_21 := hM_5.wr0 (x := rz_14) rw_8.1 (by omega) (by omega)
          have f_23 := rd_same (j := 0) (v := .int rz_14) rw_8.1
          have fr_24 := fr_11.wr (k := 124) (j := 0) (.int rz_14) (by unfold WM; omega)
          clear rw_8 fr_11 f_9 f_10 hM_5 e_15
          generalize (wr hs_3 124 0 (.int rz_14)) = hs_25 at *
          refine g_constI act (gx gp_240 (w := 0x40000000400000001000000002301) rfl (by decide) rfl) (n := 35) (x := (0 : Int32)) (by decide) rfl ?_
          exact g_retI hEnd (gx gp_240 (w := 0x2f) rfl (by decide) rfl) ⟨rfl, ⟨_, rfl⟩, f_21, fr_24⟩ (by show kc ≤ kc + 0; omega) (by show ks ≤ ks + 0; omega)
        · simp only [i_eq, show (3 : Int32).toInt = 3 from by decide] at h10
          refine g_constI act (gx gp_240 (w := 0x40000001400000011000000001801) rfl (by decide) rfl) (n := 24) (x := (2 : Int32)) (by decide) rfl ?_
          refine g_goto act (gx gp_240 (w := 0x1f07) rfl (by decide) rfl) (n := 31) rfl ?_
          refine r_putf act (gx gp_240 (w := 0x9002213) rfl (by decide) rfl) (n := 34) (ci := 9) (j := 0) (N := 39) rfl rfl rfl rw_8.1 (by decide) (Or.inl ⟨rfl, _, rfl⟩) ?_
          have rw_26 := RW.wr (k := 124) (j := 0) (v := .int (2 : Int32)) rw_8 (Or.inr (by decide))
          have f_27 := f_9.ne (k := 124) (j := 0) (v := .int (2 : Int32)) (by decide)
          have f_28 := f_10.ne (k := 124) (j := 0) (v := .int (2 : Int32)) (by decide)
          have f_29 := hM_5.wr0 (x := (2 : Int32)) rw_8.1 (by decide) (by decide)
          have f_31 := rd_same (j := 0) (v := .int (2 : Int32)) rw_8.1
          have fr_32 := fr_11.wr (k := 124) (j := 0) (.int (2 : Int32)) (by unfold WM; omega)
          clear rw_8 fr_11 f_9 f_10 hM_5 e_15
          generalize (wr hs_3 124 0 (.int (2 : Int32))) = hs_33 at *
          refine g_constI act (gx gp_240 (w := 0x40000000400000001000000002301) rfl (by decide) rfl) (n := 35) (x := (0 : Int32)) (by decide) rfl ?_
          exact g_retI hEnd (gx gp_240 (w := 0x2f) rfl (by decide) rfl) ⟨rfl, ⟨_, rfl⟩, f_29, fr_32⟩ (by show kc ≤ kc + 0; omega) (by show ks ≤ ks + 0; omega)
      · obtain ⟨⟨frw_12, fTo_12, fW_12⟩, ⟨hG_12, ⟨oi_12, f24_12, hoi_12⟩, ⟨dm_12, fD_12, hdm_12⟩, ⟨lm_12, fL_12, hlm_12⟩, ⟨em_12, fE_12, hem_12⟩, ⟨cp_12, fC_12, hcp_12⟩⟩, fFo_12, ⟨fK0_12, fK1_12⟩⟩ := hFD_13
        obtain ⟨⟨ct_12, cl_12, f29_12, f30_12, hck_12⟩, fKO_12⟩ := found_k hG_12 fFo_12
        obtain ⟨hQF, lm2, hL2, hL2e⟩ := hEX_13
        obtain ⟨D, C9, o9, ct9, cl9, hPD, -, -, -, hQO, -, -, -, hoA⟩ := id fFo_12
        have hDl := hPD.le hG_12
        have hTl := lam_ok hG_12
        have hfA : ∀ j, j < 24 → IsI (((tA tl nl n (-1) : Nat) : Rat) * facA tl nl n (wl 38) j) ∧ Ab 1 (facA tl nl n (wl 38) j) := fun j hj => by unfold facA; rw [if_pos hj]; exact facG_b hG_12.2.2.2.1 hG_12.1 hG_12.2.1 hG_12.2.2.1 hG_12.2.2.2.2.1 (by omega)
        refine g_ifNe act (gx gp_240 (w := 0x24000e1d) rfl (by decide) rfl) (tgt := 36) (n := 14) rfl rfl (fun _ => ?_) (fun q => absurd (by decide) q)
        refine g_loadA act (gx gp_240 (w := 0x2503) rfl (by decide) rfl) (a := 0) (n := 37) rfl rfl rfl ?_
        refine g_loadI act (gx gp_240 (w := 0x2002602) rfl (by decide) rfl) (a := 2) (n := 38) rfl rfl rfl ?_
        refine g_constI act (gx gp_240 (w := 0x40000000400000001000000002701) rfl (by decide) rfl) (n := 39) (x := (0 : Int32)) (by decide) rfl ?_
        obtain ⟨j_34, hj_35⟩ := Int.eq_ofNat_of_zero_le (show (0 : Int) ≤ (Int32.toInt b) by omega)
        refine n_call tb_pres act hEnd (gx (P := G_call) gp_240 (w := 0xa000000000000824330000d1002a0f) rfl (by decide) rfl) (d' := D_209) rfl (as := [.ref 124, .int b, .int (0 : Int32)]) (rest := []) (b_flowsX hNW (ln9 := j_34) (T := tA tl nl n (-1)) (D := D) ((rfl : Int32.toInt b = _).trans hj_35) (by omega) hTl.2.2.2.2.1 hTl.2.2.2.2.2.1 hDl.1 hDl.2 hfA hoA (Nat.mul_pos hTl.2.2.2.2.1 hDl.1) (Nat.mul_le_mul hTl.2.2.2.2.2.1 hDl.2) (fac_sml hG_12) (fun g9 hg9 => sml_of (X := 200) hDl.1 hDl.2 (hoA g9 hg9).1 ⟨by have q9 := (hoA g9 hg9).2.1; grind, (hoA g9 hg9).2.2⟩ (by decide)) (fun j9 => by have q9 := hdm_12 j9; omega) frw_12 fTo_12 fW_12 fD_12 hQO hQF) (show (3 : Nat) = fb 0xa000000000000824330000d1002a0f % 16 by decide) (by show (3 : Nat) ≤ 9; decide) (fun _ => ⟨_, _, rfl, _, shp_at frw_12.1, Or.inr (show fb 0xa000000000000824330000d1002a0f >>> 68 = 10 by decide)⟩) (by omega) (by show 8 + (9 + 11) + 87 ≤ R.locals; omega) (by show (0 : Nat) ≤ 8; decide) (by show kc + 0 ≤ _; omega) (by show ks + 0 ≤ _; omega) (fun r9 hs_36 hpo hr9 => ?_) (fun x9 hs9 hx9 hpo => ?_)
        · obtain rfl : r9 = none := hr9.elim (fun q => q.2) (fun q => absurd rfl q.1)
          obtain ⟨-, t_37, w_38, q_hs_36, e_39, e_40, hF_41, hb_44, fr_42⟩ := hpo
          have hM_43 := ModF.w0 hM_5 fr_42
          have hn_45 := hb_44.num (Nat.mul_pos hTl.2.2.2.2.1 hDl.1) hF_41 (by decide)
          have hw9 := hF_41.pos
          have rw_46 := frw_12.fr fr_42 W0_rw
          have f_48 := fTo_12.fr (fun j9 _ => fr_42.2.2 125 j9 (by unfold W0; omega))
          have f_49 := fW_12.fr (fun j9 _ => fr_42.2.2 127 j9 (by unfold W0; omega))
          have f_50 := fD_12.fr (fun j9 _ => fr_42.2.2 135 j9 (by unfold W0; omega))
          have f_51 := fE_12.fr (fun j9 _ => fr_42.2.2 137 j9 (by unfold W0; omega))
          have f_52 := fC_12.fr (fun j9 _ => fr_42.2.2 138 j9 (by unfold W0; omega))
          have f_53 := rd_fr fr_42 f24_12 (by unfold W0; omega)
          have f_54 := rd_fr fr_42 f29_12 (by unfold W0; omega)
          have f_55 := rd_fr fr_42 f30_12 (by unfold W0; omega)
          have f_56 := fFo_12.fr fr_42 (fun j9 => by unfold W0; omega) (by unfold W0; omega) (by unfold W0; omega)
          have f_57 := hQF.fr (fun j9 _ _ => ⟨fr_42.2.2 131 j9 (by unfold W0; omega), fr_42.2.2 132 j9 (by unfold W0; omega)⟩)
          have f_58 := hQO.fr (fun j9 _ => ⟨fr_42.2.2 142 j9 (by unfold W0; omega), fr_42.2.2 143 j9 (by unfold W0; omega)⟩)
          have f_59 := hL2.fr (fun j9 _ => fr_42.2.2 136 j9 (by unfold W0; omega))
          have fr_60 := fr_11.tr (fr_42.mono (fun k9 j9 h9 => by unfold W0 at h9; unfold WM; omega))
          clear frw_12 hM_5 fTo_12 fW_12 fD_12 fE_12 fC_12 f24_12 f29_12 f30_12 fFo_12 hQF hQO hL2 fr_11
          show WpN (gp g0 wp) CLS p l e R s m args below meth c Q D_240.2.2.1 kc0 ks0 42 [some (.ref 124), some (.int a), some (.int b), none, none] (hs_36, kc, ks) []
          refine g_loadA act (gx gp_240 (w := 0x2b03) rfl (by decide) rfl) (a := 0) (n := 43) rfl rfl rfl ?_
          refine r_getf act (gx gp_240 (w := 0x20001c9002e04) rfl (by decide) rfl) (n := 46) (ci := 9) (j := 7) (N := 39) rfl rfl rfl rw_46.1 (by decide) (v := .long t_37) e_39 ?_
          refine g_constL act (gx gp_240 (w := 0x40000000000000002000000002f01) rfl (by decide) rfl) (n := 47) (x := 0) (by decide) rfl ?_
          refine g_lcmp act (gx gp_240 (w := 0x300c) rfl (by decide) rfl) (n := 48) rfl ?_
          refine g_ifGe act (gx gp_240 (w := 0x3b003314) rfl (by decide) rfl) (tgt := 59) (n := 51) rfl rfl (fun h23 => ?_) (fun h23 => ?_)
          · simp only [cmpGe, show (0 : Int64).toInt = 0 from by decide] at h23
            refine g_loadA act (gx gp_240 (w := 0x3c03) rfl (by decide) rfl) (a := 0) (n := 60) rfl rfl rfl ?_
            refine r_getf act (gx gp_240 (w := 0x20001c9003f04) rfl (by decide) rfl) (n := 63) (ci := 9) (j := 7) (N := 39) rfl rfl rfl rw_46.1 (by decide) (v := .long t_37) e_39 ?_
            refine g_storeL act (gx gp_240 (w := 0x300400b) rfl (by decide) rfl) (a := 3) (n := 64) rfl rfl (L2 := [some (.ref 124), some (.int a), some (.int b), some (.long t_37), none]) rfl ?_
            refine g_loadL act (gx gp_240 (w := 0x3004106) rfl (by decide) rfl) (a := 3) (n := 65) rfl rfl rfl ?_
            refine g_l2f act (gx gp_240 (w := 0x4247) rfl (by decide) rfl) (n := 66) rfl ?_
            refine g_loadA act (gx gp_240 (w := 0x4303) rfl (by decide) rfl) (a := 0) (n := 67) rfl rfl rfl ?_
            refine r_getf act (gx gp_240 (w := 0x2000209004604) rfl (by decide) rfl) (n := 70) (ci := 9) (j := 8) (N := 39) rfl rfl rfl rw_46.1 (by decide) (v := .long w_38) e_40 ?_
            refine g_l2f act (gx gp_240 (w := 0x4747) rfl (by decide) rfl) (n := 71) rfl ?_
            have hn0 : 0 ≤ (t_37).toInt := by omega
            refine g_fdiv act (gx gp_240 (w := 0x4846) rfl (by decide) rfl) (n := 72) (nf_l1 hn0 hw9) rfl ?_
            refine g_loadA act (gx gp_240 (w := 0x4903) rfl (by decide) rfl) (a := 0) (n := 73) rfl rfl rfl ?_
            refine r_getf act (gx gp_240 (w := 0x3000549004c04) rfl (by decide) rfl) (n := 76) (ci := 9) (j := 21) (N := 39) rfl rfl rfl rw_46.1 (by decide) (rw_46.2 (21, 136, 32, 6) (by decide)).1 ?_
            refine g_loadI act (gx gp_240 (w := 0x2004d02) rfl (by decide) rfl) (a := 2) (n := 77) rfl rfl rfl ?_
            obtain ⟨x_61, e_62, hx_63⟩ := f_59 j_34 (by omega)
            refine r_iald act (gx gp_240 (w := 0x4e1a) rfl (by decide) rfl) (n := 78) (j := j_34) rfl (rw_46.2 (21, 136, 32, 6) (by decide)).2 ((rfl : Int32.toInt b = _).trans hj_35) (show j_34 < 6 by omega) (v := .int x_61) e_62 ?_
            refine g_i2f act (gx gp_240 (w := 0x4f48) rfl (by decide) rfl) (n := 79) rfl ?_
            have hlw := hL2e j_34 (by omega)
            have hlw1 := hL1 j_34 (by omega)
            have hlw4 := nL j_34 (by omega)
            have hlz : (x_61).toInt = wl j_34 := hx_63.trans hlw
            have hnf := nf_load (z := x_61) hn0 hw9 (by omega) (by omega)
            refine g_fdiv act (gx gp_240 (w := 0x5046) rfl (by decide) rfl) (n := 80) hnf.2.1 rfl ?_
            refine n_call tb_pres act hEnd (gx (P := G_call) gp_240 (w := 0x40c110000b900530f) rfl (by decide) rfl) (d' := D_185) rfl (as := [.float (FP.fdiv (FP.fdiv (FP.l2f t_37) (FP.l2f w_38)) (FP.i2f x_61))]) (rest := []) (b_bitsOf hnf.2.2) (show (1 : Nat) = fb 0x40c110000b900530f % 16 by decide) (by show (1 : Nat) ≤ 3; decide) (fun q => absurd q (by decide)) (by omega) (by show 8 + (3 + 11) + 0 ≤ R.locals; omega) (by show (0 : Nat) ≤ 8; decide) (by show kc + 0 ≤ _; omega) (by show ks + 0 ≤ _; omega) (fun r9 h3 hpo hr9 => ?_) (fun x9 hs9 hx9 hpo => ?_)
            · obtain ⟨-, rfl, bo_64, rfl⟩ := hpo
              show WpN (gp g0 wp) CLS p l e R s m args below meth c Q D_240.2.2.1 kc0 ks0 83 [some (.ref 124), some (.int a), some (.int b), some (.long t_37), none] (hs_36, kc, ks) [.int bo_64]
              exact g_retI hEnd (gx gp_240 (w := 0x2f) rfl (by decide) rfl) ⟨rfl, ⟨_, rfl⟩, hM_43, fr_60⟩ (by show kc ≤ kc + 0; omega) (by show ks ≤ ks + 0; omega)
            · exact absurd hpo.1 (by omega)
          · simp only [cmpGe, show (0 : Int64).toInt = 0 from by decide] at h23
            refine g_loadA act (gx gp_240 (w := 0x3403) rfl (by decide) rfl) (a := 0) (n := 52) rfl rfl rfl ?_
            refine r_getf act (gx gp_240 (w := 0x20001c9003704) rfl (by decide) rfl) (n := 55) (ci := 9) (j := 7) (N := 39) rfl rfl rfl rw_46.1 (by decide) (v := .long t_37) e_39 ?_
            refine g_lneg act (gx gp_240 (w := 0x3825) rfl (by decide) rfl) (n := 56) rfl ?_
            have v_65 := lw_neg (rfl : Int64.toInt t_37 = _) (by omega)
            refine g_goto act (gx gp_240 (w := 0x3f07) rfl (by decide) rfl) (n := 63) rfl ?_
            refine g_storeL act (gx gp_240 (w := 0x300400b) rfl (by decide) rfl) (a := 3) (n := 64) rfl rfl (L2 := [some (.ref 124), some (.int a), some (.int b), some (.long (-t_37)), none]) rfl ?_
            refine g_loadL act (gx gp_240 (w := 0x3004106) rfl (by decide) rfl) (a := 3) (n := 65) rfl rfl rfl ?_
            refine g_l2f act (gx gp_240 (w := 0x4247) rfl (by decide) rfl) (n := 66) rfl ?_
            refine g_loadA act (gx gp_240 (w := 0x4303) rfl (by decide) rfl) (a := 0) (n := 67) rfl rfl rfl ?_
            refine r_getf act (gx gp_240 (w := 0x2000209004604) rfl (by decide) rfl) (n := 70) (ci := 9) (j := 8) (N := 39) rfl rfl rfl rw_46.1 (by decide) (v := .long w_38) e_40 ?_
            refine g_l2f act (gx gp_240 (w := 0x4747) rfl (by decide) rfl) (n := 71) rfl ?_
            have hn0 : 0 ≤ ((-t_37)).toInt := by rw [v_65]; omega
            refine g_fdiv act (gx gp_240 (w := 0x4846) rfl (by decide) rfl) (n := 72) (nf_l1 hn0 hw9) rfl ?_
            refine g_loadA act (gx gp_240 (w := 0x4903) rfl (by decide) rfl) (a := 0) (n := 73) rfl rfl rfl ?_
            refine r_getf act (gx gp_240 (w := 0x3000549004c04) rfl (by decide) rfl) (n := 76) (ci := 9) (j := 21) (N := 39) rfl rfl rfl rw_46.1 (by decide) (rw_46.2 (21, 136, 32, 6) (by decide)).1 ?_
            refine g_loadI act (gx gp_240 (w := 0x2004d02) rfl (by decide) rfl) (a := 2) (n := 77) rfl rfl rfl ?_
            obtain ⟨x_66, e_67, hx_68⟩ := f_59 j_34 (by omega)
            refine r_iald act (gx gp_240 (w := 0x4e1a) rfl (by decide) rfl) (n := 78) (j := j_34) rfl (rw_46.2 (21, 136, 32, 6) (by decide)).2 ((rfl : Int32.toInt b = _).trans hj_35) (show j_34 < 6 by omega) (v := .int x_66) e_67 ?_
            refine g_i2f act (gx gp_240 (w := 0x4f48) rfl (by decide) rfl) (n := 79) rfl ?_
            have hlw := hL2e j_34 (by omega)
            have hlw1 := hL1 j_34 (by omega)
            have hlw4 := nL j_34 (by omega)
            have hlz : (x_66).toInt = wl j_34 := hx_68.trans hlw
            have hnf := nf_load (z := x_66) hn0 hw9 (by omega) (by omega)
            refine g_fdiv act (gx gp_240 (w := 0x5046) rfl (by decide) rfl) (n := 80) hnf.2.1 rfl ?_
            refine n_call tb_pres act hEnd (gx (P := G_call) gp_240 (w := 0x40c110000b900530f) rfl (by decide) rfl) (d' := D_185) rfl (as := [.float (FP.fdiv (FP.fdiv (FP.l2f (-t_37)) (FP.l2f w_38)) (FP.i2f x_66))]) (rest := []) (b_bitsOf hnf.2.2) (show (1 : Nat) = fb 0x40c110000b900530f % 16 by decide) (by show (1 : Nat) ≤ 3; decide) (fun q => absurd q (by decide)) (by omega) (by show 8 + (3 + 11) + 0 ≤ R.locals; omega) (by show (0 : Nat) ≤ 8; decide) (by show kc + 0 ≤ _; omega) (by show ks + 0 ≤ _; omega) (fun r9 h3 hpo hr9 => ?_) (fun x9 hs9 hx9 hpo => ?_)
            · obtain ⟨-, rfl, bo_69, rfl⟩ := hpo
              show WpN (gp g0 wp) CLS p l e R s m args below meth c Q D_240.2.2.1 kc0 ks0 83 [some (.ref 124), some (.int a), some (.int b), some (.long (-t_37)), none] (hs_36, kc, ks) [.int bo_69]
              exact g_retI hEnd (gx gp_240 (w := 0x2f) rfl (by decide) rfl) ⟨rfl, ⟨_, rfl⟩, hM_43, fr_60⟩ (by show kc ≤ kc + 0; omega) (by show ks ≤ ks + 0; omega)
            · exact absurd hpo.1 (by omega)
        · exact absurd hpo.1 (by omega)
    · exact absurd hpo.1 (by omega)
  · exact absurd hpo.1 (by omega)

theorem da_1 {g0 : GG} {bl : Nat} {xs : Nat → Int32} {l : Launch} {wp : va_W} {p : Program} {e : Env} {R : Room} {s : State} {m : MethodId} {args : Array Value} {below : List Frame} {meth : Method} {c : Code} {Q : State → Prop} {kc0 ks0 kc ks f lam KC KS : Nat} {hs : List CE} {tl : Nat → Int} {n : Nat} {dm : Nat → Int} (hn0 : tl 0 = (n : Int) + 1) (hn3 : n ≤ 3) (hdm : ∀ j, 0 ≤ dm j ∧ dm j ≤ 220) (rw0 : RW hs) (fTo : IArr hs 125 46 tl) (fD : IArr hs 135 4 dm) (hc : kc ≤ R.cells + kc0) (hsl : ks ≤ R.slots + ks0) (act : Act SSX TBL (gp g0 wp) CLS bl xs D_199 p l s m args meth c) (hEnd : EndN SSX TBL (gp g0 wp) CLS D_199 p l e R s m args below meth c Q kc0 ks0 f lam KC KS (fun kd r h2 => kd = 0 ∧ hs = h2 ∧ ∃ z : Int32, r = some (.int z) ∧ z.toInt = sumI dm (n + 1))) (hk1 : kc ≤ KC) (hk2 : ks ≤ KS) : ∀ j9 : Nat, j9 ≤ n + 1 → ∀ (xi si : Int32), xi.toInt = (j9 : Int) → si.toInt = sumI dm j9 → WpN (gp g0 wp) CLS p l e R s m args below meth c Q D_199.2.2.1 kc0 ks0 4 [some (.ref 124), some (.int si), some (.int xi)] (hs, kc, ks) [] := by
  refine dn (fun j9 hj9 ih => ?_)
  intro xi si hxi hsi
  have hsb := sumI_b hdm j9
  refine g_loadI act (gx gp_199 (w := 0x2000502) rfl (by decide) rfl) (a := 2) (n := 5) rfl rfl rfl ?_
  refine g_loadA act (gx gp_199 (w := 0x603) rfl (by decide) rfl) (a := 0) (n := 6) rfl rfl rfl ?_
  refine r_getf act (gx gp_199 (w := 0x3000049000904) rfl (by decide) rfl) (n := 9) (ci := 9) (j := 1) (N := 39) rfl rfl rfl rw0.1 (by decide) (rw0.2 (1, 125, 32, 46) (by decide)).1 ?_
  refine g_constI act (gx gp_199 (w := 0x40000000400000001000000000a01) rfl (by decide) rfl) (n := 10) (x := (0 : Int32)) (by decide) rfl ?_
  obtain ⟨x_1, e_2, hx_3⟩ := fTo 0 (by omega)
  refine r_iald act (gx gp_199 (w := 0xb1a) rfl (by decide) rfl) (n := 11) (j := 0) rfl (rw0.2 (1, 125, 32, 46) (by decide)).2 (show (0 : Int32).toInt = ((0 : Nat) : Int) from by decide) (show 0 < 46 by omega) (v := .int x_1) e_2 ?_
  refine g_icmpGe act (gx gp_199 (w := 0x1d000e08) rfl (by decide) rfl) (tgt := 29) (n := 14) rfl rfl (fun h4 => ?_) (fun h4 => ?_)
  · simp only [i_le] at h4
    refine g_loadI act (gx gp_199 (w := 0x1001e02) rfl (by decide) rfl) (a := 1) (n := 30) rfl rfl rfl ?_
    obtain rfl : j9 = n + 1 := by omega
    exact g_retI hEnd (gx gp_199 (w := 0x2f) rfl (by decide) rfl) ⟨rfl, rfl, _, rfl, hsi⟩ hk1 hk2
  · simp only [i_le] at h4
    refine g_loadI act (gx gp_199 (w := 0x1000f02) rfl (by decide) rfl) (a := 1) (n := 15) rfl rfl rfl ?_
    refine g_loadA act (gx gp_199 (w := 0x1003) rfl (by decide) rfl) (a := 0) (n := 16) rfl rfl rfl ?_
    refine r_getf act (gx gp_199 (w := 0x3000509001304) rfl (by decide) rfl) (n := 19) (ci := 9) (j := 20) (N := 39) rfl rfl rfl rw0.1 (by decide) (rw0.2 (20, 135, 32, 4) (by decide)).1 ?_
    refine g_loadI act (gx gp_199 (w := 0x2001402) rfl (by decide) rfl) (a := 2) (n := 20) rfl rfl rfl ?_
    obtain ⟨x_4, e_5, hx_6⟩ := fD j9 (by omega)
    have b_7 := hdm j9
    refine r_iald act (gx gp_199 (w := 0x151a) rfl (by decide) rfl) (n := 21) (j := j9) rfl (rw0.2 (20, 135, 32, 4) (by decide)).2 hxi (show j9 < 4 by omega) (v := .int x_4) e_5 ?_
    refine g_iadd act (gx gp_199 (w := 0x160a) rfl (by decide) rfl) (n := 22) rfl ?_
    have v_8 := iv_add hsi hx_6 (show -2147483648 ≤ ((sumI dm j9) + (dm j9)) by omega) (show ((sumI dm j9) + (dm j9)) < 2147483648 by omega)
    refine g_storeI act (gx gp_199 (w := 0x1001710) rfl (by decide) rfl) (a := 1) (n := 23) rfl rfl (L2 := [some (.ref 124), some (.int (si + x_4)), some (.int xi)]) rfl ?_
    refine g_iinc act (gx gp_199 (w := 0x80000001000002001a09) rfl (by decide) rfl) (a := 2) (i := (1 : Int32)) (n := 26) rfl (by decide) rfl rfl (L2 := [some (.ref 124), some (.int (si + x_4)), some (.int (xi + (1 : Int32)))]) rfl ?_
    have v_9 := iv_addN hxi (show (1 : Int32).toInt = ((1 : Nat) : Int) from by decide) (show (j9 + 1) < 2147483648 by omega)
    refine g_goto act (gx gp_199 (w := 0x407) rfl (by decide) rfl) (n := 4) rfl ?_
    exact ih (j9 + 1) (by omega) (by omega) _ _ v_9 v_8

theorem b_demandAll {g0 : GG} {bl : Nat} {xs : Nat → Int32} {l : Launch} {hs : List CE} {tl : Nat → Int} {n : Nat} {dm : Nat → Int} (hn0 : tl 0 = (n : Int) + 1) (hn3 : n ≤ 3) (hdm : ∀ j, 0 ≤ dm j ∧ dm j ≤ 220) (rw0 : RW hs) (fTo : IArr hs 125 46 tl) (fD : IArr hs 135 4 dm) : BodyN SSX TBL g0 CLS bl xs l D_199 0 0 0 0 [.ref 124] hs (fun kd r h2 => kd = 0 ∧ hs = h2 ∧ ∃ z : Int32, r = some (.int z) ∧ z.toInt = sumI dm (n + 1)) := by
  intro wp p e R s m args below meth c Q kc0 ks0 kc ks act hf hl hc hsl hEnd
  show WpN (gp g0 wp) CLS p l e R s m args below meth c Q D_199.2.2.1 kc0 ks0 0 [some (.ref 124), none, none] (hs, kc, ks) []
  refine g_constI act (gx gp_199 (w := 0x40000000400000001000000000101) rfl (by decide) rfl) (n := 1) (x := (0 : Int32)) (by decide) rfl ?_
  refine g_storeI act (gx gp_199 (w := 0x1000210) rfl (by decide) rfl) (a := 1) (n := 2) rfl rfl (L2 := [some (.ref 124), some (.int (0 : Int32)), none]) rfl ?_
  refine g_constI act (gx gp_199 (w := 0x40000000400000001000000000301) rfl (by decide) rfl) (n := 3) (x := (0 : Int32)) (by decide) rfl ?_
  refine g_storeI act (gx gp_199 (w := 0x2000410) rfl (by decide) rfl) (a := 2) (n := 4) rfl rfl (L2 := [some (.ref 124), some (.int (0 : Int32)), some (.int (0 : Int32))]) rfl ?_
  exact da_1 hn0 hn3 hdm rw0 fTo fD hc hsl act hEnd (by omega) (by omega) 0 (by omega) _ _ rfl rfl

def POD (hs : List CE) : Nat → Option Value → List CE → Prop := fun kd r h2 => kd = 0 ∧ (∃ x : UInt64, r = some (.double x)) ∧ ModF h2 ∧ FrS WM hs h2

theorem b_meanPrice {g0 : GG} {bl : Nat} {xs : Nat → Int32} {l : Launch} {hs : List CE} {tl wl : Nat → Int} {nl n ng nr : Nat} (hNW : NW tl wl nl n ng nr) {a : Int32} (hB : BM hs tl wl) (hM : ModF hs) : BodyN SSX TBL g0 CLS bl xs l D_241 11 275 0 0 [.ref 124, .int a] hs (POD hs) := by
  intro wp p e R s m args below meth c Q kc0 ks0 kc ks act hf hl hc hsl hEnd
  have hN9 := hNW
  obtain ⟨n0, n1, n2, n3, n4, n5, n6, n7, n8, hG0, nL, nC, nP, nD⟩ := hN9
  have hGn := hG0.1
  have hGn3 := hG0.2.1
  have hGl := hG0.2.2.1
  obtain ⟨rw0, hTo, hW⟩ := hB
  show WpN (gp g0 wp) CLS p l e R s m args below meth c Q D_241.2.2.1 kc0 ks0 0 [some (.ref 124), some (.int a)] (hs, kc, ks) []
  refine g_loadA act (gx gp_241 (w := 0x103) rfl (by decide) rfl) (a := 0) (n := 1) rfl rfl rfl ?_
  refine g_constI act (gx gp_241 (w := 0x40000000c00000009000000000201) rfl (by decide) rfl) (n := 2) (x := (1 : Int32)) (by decide) rfl ?_
  refine g_loadI act (gx gp_241 (w := 0x1000302) rfl (by decide) rfl) (a := 1) (n := 3) rfl rfl rfl ?_
  refine g_constI act (gx gp_241 (w := 0x40000000400000001000000000401) rfl (by decide) rfl) (n := 4) (x := (0 : Int32)) (by decide) rfl ?_
  refine g_loadA act (gx gp_241 (w := 0x503) rfl (by decide) rfl) (a := 0) (n := 5) rfl rfl rfl ?_
  refine n_call tb_pres act hEnd (gx (P := G_call) gp_241 (w := 0xa000000000000c04110000b200080f) rfl (by decide) rfl) (d' := D_178) rfl (as := [.ref 124]) (rest := [.int (0 : Int32), .int a, .int (1 : Int32), .ref 124]) (b_allNodes rw0 hTo) (show (1 : Nat) = fb 0xa000000000000c04110000b200080f % 16 by decide) (by show (1 : Nat) ≤ 1; decide) (fun _ => ⟨_, _, rfl, _, shp_at rw0.1, Or.inr (show fb 0xa000000000000c04110000b200080f >>> 68 = 10 by decide)⟩) (by omega) (by show 8 + (1 + 11) + 0 ≤ R.locals; omega) (by show (4 : Nat) ≤ 8; decide) (by show kc + 0 ≤ _; omega) (by show ks + 0 ≤ _; omega) (fun r9 h3 hpo hr9 => ?_) (fun x9 hs9 hx9 hpo => ?_)
  · obtain ⟨-, rfl, z_3, rfl, hx_2⟩ := hpo
    show WpN (gp g0 wp) CLS p l e R s m args below meth c Q D_241.2.2.1 kc0 ks0 8 [some (.ref 124), some (.int a)] (hs, kc, ks) [.int (((1 : Int32) <<< (z_3 &&& 31)) - 1), .int (0 : Int32), .int a, .int (1 : Int32), .ref 124]
    refine n_call tb_pres act hEnd (gx (P := G_call) gp_241 (w := 0xa000000000000c14550000e4000b0f) rfl (by decide) rfl) (d' := D_228) rfl (as := [.ref 124, .int (1 : Int32), .int a, .int (0 : Int32), .int (((1 : Int32) <<< (z_3 &&& 31)) - 1)]) (rest := []) (b_isPriced hNW ⟨rw0, hTo, hW⟩ hM (ti := ((1 : Nat) : Int)) (show (1 : Int32).toInt = ((1 : Nat) : Int) from by decide) (by omega) (x := (Int32.toInt a)) (rfl : Int32.toInt a = _) (y := ((0 : Nat) : Int)) (show (0 : Int32).toInt = ((0 : Nat) : Int) from by decide)) (show (5 : Nat) = fb 0xa000000000000c14550000e4000b0f % 16 by decide) (by show (5 : Nat) ≤ 5; decide) (fun _ => ⟨_, _, rfl, _, shp_at rw0.1, Or.inr (show fb 0xa000000000000c14550000e4000b0f >>> 68 = 10 by decide)⟩) (by omega) (by show 8 + (5 + 11) + 251 ≤ R.locals; omega) (by show (0 : Nat) ≤ 8; decide) (by show kc + 0 ≤ _; omega) (by show ks + 0 ≤ _; omega) (fun r9 hs_4 hpo hr9 => ?_) (fun x9 hs9 hx9 hpo => ?_)
    · obtain ⟨-, hM_6, fr_5, rg, rfl, hg_7⟩ := hpo
      have rw_8 := rw0.fr fr_5 WM_rw
      have f_9 := hTo.fr (fun j9 _ => fr_5.2.2 125 j9 (by unfold WM; omega))
      have f_10 := hW.fr (fun j9 _ => fr_5.2.2 127 j9 (by unfold WM; omega))
      have fr_11 := (FrS.rf WM hs).tr fr_5
      show WpN (gp g0 wp) CLS p l e R s m args below meth c Q D_241.2.2.1 kc0 ks0 11 [some (.ref 124), some (.int a)] (hs_4, kc, ks) [.int rg]
      rcases hg_7 with rfl | ⟨rfl, g1_12, g2_12, g3_12, g4_12, g5_12, hFD_12, hPI_12⟩
      · refine g_ifNe act (gx gp_241 (w := 0x29000e1d) rfl (by decide) rfl) (tgt := 41) (n := 14) rfl rfl (fun q => absurd q (by decide)) (fun _ => ?_)
        refine g_loadA act (gx gp_241 (w := 0xf03) rfl (by decide) rfl) (a := 0) (n := 15) rfl rfl rfl ?_
        refine g_loadA act (gx gp_241 (w := 0x1003) rfl (by decide) rfl) (a := 0) (n := 16) rfl rfl rfl ?_
        obtain ⟨rz_14, e_15, b_16, b_17⟩ := hM_6.1
        refine r_getf act (gx gp_241 (w := 0x9001304) rfl (by decide) rfl) (n := 19) (ci := 9) (j := 0) (N := 39) rfl rfl rfl rw_8.1 (by decide) (v := .int rz_14) e_15 ?_
        refine g_constI act (gx gp_241 (w := 0x40000001400000011000000001401) rfl (by decide) rfl) (n := 20) (x := (2 : Int32)) (by decide) rfl ?_
        refine g_icmpLe act (gx gp_241 (w := 0x2000173c) rfl (by decide) rfl) (tgt := 32) (n := 23) rfl rfl (fun h10 => ?_) (fun h10 => ?_)
        · simp only [i_le, show (2 : Int32).toInt = 2 from by decide] at h10
          refine g_loadA act (gx gp_241 (w := 0x2103) rfl (by decide) rfl) (a := 0) (n := 33) rfl rfl rfl ?_
          refine r_getf act (gx gp_241 (w := 0x9002404) rfl (by decide) rfl) (n := 36) (ci := 9) (j := 0) (N := 39) rfl rfl rfl rw_8.1 (by decide) (v := .int rz_14) e_15 ?_
          refine r_putf act (gx gp_241 (w := 0x9002713) rfl (by decide) rfl) (n := 39) (ci := 9) (j := 0) (N := 39) rfl rfl rfl rw_8.1 (by decide) (Or.inl ⟨rfl, _, rfl⟩) ?_
          have rw_18 := RW.wr (k := 124) (j := 0) (v := .int rz_14) rw_8 (Or.inr (by decide))
          have f_19 := f_9.ne (k := 124) (j := 0) (v := .int rz_14) (by decide)
          have f_20 := f_10.ne (k := 124) (j := 0) (v := .int rz_14) (by decide)
          have f_21 := hM_6.wr0 (x := rz_14) rw_8.1 (by omega) (by omega)
          have f_23 := rd_same (j := 0) (v := .int rz_14) rw_8.1
          have fr_24 := fr_11.wr (k := 124) (j := 0) (.int rz_14) (by unfold WM; omega)
          clear rw_8 fr_11 f_9 f_10 hM_6 e_15
          generalize (wr hs_4 124 0 (.int rz_14)) = hs_25 at *
          refine g_dcon0 act (gx gp_241 (w := 0x6000000002801) rfl (by decide) rfl) (n := 40) (by decide) rfl ?_
          exact g_retD hEnd (gx gp_241 (w := 0x4d) rfl (by decide) rfl) ⟨rfl, ⟨_, rfl⟩, f_21, fr_24⟩ (by show kc ≤ kc + 0; omega) (by show ks ≤ ks + 0; omega)
        · simp only [i_le, show (2 : Int32).toInt = 2 from by decide] at h10
          refine g_loadA act (gx gp_241 (w := 0x1803) rfl (by decide) rfl) (a := 0) (n := 24) rfl rfl rfl ?_
          refine r_getf act (gx gp_241 (w := 0x9001b04) rfl (by decide) rfl) (n := 27) (ci := 9) (j := 0) (N := 39) rfl rfl rfl rw_8.1 (by decide) (v := .int rz_14) e_15 ?_
          refine g_constI act (gx gp_241 (w := 0x40000000c00000009000000001c01) rfl (by decide) rfl) (n := 28) (x := (1 : Int32)) (by decide) rfl ?_
          refine g_isub act (gx gp_241 (w := 0x1d26) rfl (by decide) rfl) (n := 29) rfl ?_
          have v_26 := iv_sub (rfl : Int32.toInt rz_14 = _) (show (1 : Int32).toInt = ((1 : Nat) : Int) from by decide) (show -2147483648 ≤ ((Int32.toInt rz_14) - ((1 : Nat) : Int)) by omega) (show ((Int32.toInt rz_14) - ((1 : Nat) : Int)) < 2147483648 by omega)
          refine g_goto act (gx gp_241 (w := 0x2407) rfl (by decide) rfl) (n := 36) rfl ?_
          refine r_putf act (gx gp_241 (w := 0x9002713) rfl (by decide) rfl) (n := 39) (ci := 9) (j := 0) (N := 39) rfl rfl rfl rw_8.1 (by decide) (Or.inl ⟨rfl, _, rfl⟩) ?_
          have rw_27 := RW.wr (k := 124) (j := 0) (v := .int (rz_14 - (1 : Int32))) rw_8 (Or.inr (by decide))
          have f_28 := f_9.ne (k := 124) (j := 0) (v := .int (rz_14 - (1 : Int32))) (by decide)
          have f_29 := f_10.ne (k := 124) (j := 0) (v := .int (rz_14 - (1 : Int32))) (by decide)
          have f_30 := hM_6.wr0 (x := (rz_14 - (1 : Int32))) rw_8.1 (by omega) (by omega)
          have f_32 := rd_same (j := 0) (v := .int (rz_14 - (1 : Int32))) rw_8.1
          have fr_33 := fr_11.wr (k := 124) (j := 0) (.int (rz_14 - (1 : Int32))) (by unfold WM; omega)
          clear rw_8 fr_11 f_9 f_10 hM_6 e_15
          generalize (wr hs_4 124 0 (.int (rz_14 - (1 : Int32)))) = hs_34 at *
          refine g_dcon0 act (gx gp_241 (w := 0x6000000002801) rfl (by decide) rfl) (n := 40) (by decide) rfl ?_
          exact g_retD hEnd (gx gp_241 (w := 0x4d) rfl (by decide) rfl) ⟨rfl, ⟨_, rfl⟩, f_30, fr_33⟩ (by show kc ≤ kc + 0; omega) (by show ks ≤ ks + 0; omega)
      · obtain ⟨⟨frw_13, fTo_13, fW_13⟩, ⟨hG_13, ⟨oi_13, f24_13, hoi_13⟩, ⟨dm_13, fD_13, hdm_13⟩, ⟨lm_13, fL_13, hlm_13⟩, ⟨em_13, fE_13, hem_13⟩, ⟨cp_13, fC_13, hcp_13⟩⟩, fFo_13, ⟨fK0_13, fK1_13⟩⟩ := hFD_12
        obtain ⟨⟨ct_13, cl_13, f29_13, f30_13, hck_13⟩, fKO_13⟩ := found_k hG_13 fFo_13
        have fO7_13 := found_k7 hG_13 fFo_13
        have fPA_13 := pri_all hG_13 hPI_12 (bit_all (show _ = (n : Int) + 1 by have q9 := hx_2; omega) (by omega))
        refine g_ifNe act (gx gp_241 (w := 0x29000e1d) rfl (by decide) rfl) (tgt := 41) (n := 14) rfl rfl (fun _ => ?_) (fun q => absurd (by decide) q)
        refine g_loadA act (gx gp_241 (w := 0x2a03) rfl (by decide) rfl) (a := 0) (n := 42) rfl rfl rfl ?_
        refine n_call tb_pres act hEnd (gx (P := G_call) gp_241 (w := 0xa000000000000c0c110000c7002d0f) rfl (by decide) rfl) (d' := D_199) rfl (as := [.ref 124]) (rest := []) (b_demandAll n0 hGn3 (fun j9 => by have q9 := hdm_13 j9; omega) frw_13 fTo_13 fD_13) (show (1 : Nat) = fb 0xa000000000000c0c110000c7002d0f % 16 by decide) (by show (1 : Nat) ≤ 3; decide) (fun _ => ⟨_, _, rfl, _, shp_at frw_13.1, Or.inr (show fb 0xa000000000000c0c110000c7002d0f >>> 68 = 10 by decide)⟩) (by omega) (by show 8 + (3 + 11) + 0 ≤ R.locals; omega) (by show (0 : Nat) ≤ 8; decide) (by show kc + 0 ≤ _; omega) (by show ks + 0 ≤ _; omega) (fun r9 h3 hpo hr9 => ?_) (fun x9 hs9 hx9 hpo => ?_)
        · obtain ⟨-, rfl, da_35, rfl, hx_36⟩ := hpo
          show WpN (gp g0 wp) CLS p l e R s m args below meth c Q D_241.2.2.1 kc0 ks0 45 [some (.ref 124), some (.int a)] (hs_4, kc, ks) [.int da_35]
          refine g_ifNe act (gx gp_241 (w := 0x3700301d) rfl (by decide) rfl) (tgt := 55) (n := 48) rfl rfl (fun h17 => ?_) (fun h17 => ?_)
          · simp only [i_eq, i0] at h17
            refine g_loadA act (gx gp_241 (w := 0x3803) rfl (by decide) rfl) (a := 0) (n := 56) rfl rfl rfl ?_
            refine n_call tb_pres act hEnd (gx (P := G_call) gp_241 (w := 0xa000000000000808110000fb003b0f) rfl (by decide) rfl) (d' := D_251) rfl (as := [.ref 124]) (rest := []) (b_payments hNW (fun j9 => by have q9 := hdm_13 j9; omega) frw_13 fTo_13 fW_13 fD_13 fPA_13 hM_6) (show (1 : Nat) = fb 0xa000000000000808110000fb003b0f % 16 by decide) (by show (1 : Nat) ≤ 2; decide) (fun _ => ⟨_, _, rfl, _, shp_at frw_13.1, Or.inr (show fb 0xa000000000000808110000fb003b0f >>> 68 = 10 by decide)⟩) (by omega) (by show 8 + (2 + 11) + 115 ≤ R.locals; omega) (by show (0 : Nat) ≤ 8; decide) (by show kc + 0 ≤ _; omega) (by show ks + 0 ≤ _; omega) (fun r9 hs_37 hpo hr9 => ?_) (fun x9 hs9 hx9 hpo => ?_)
            · obtain rfl : r9 = none := hr9.elim (fun q => q.2) (fun q => absurd rfl q.1)
              obtain ⟨-, sx_42, sw_43, e_40, e_41, hk_44, hM_39, fr_38⟩ := hpo
              have rw_45 := frw_13.fr fr_38 WSm_rw
              have f_47 := fTo_13.fr (fun j9 _ => fr_38.2.2 125 j9 (by unfold WSm; omega))
              have f_48 := fW_13.fr (fun j9 _ => fr_38.2.2 127 j9 (by unfold WSm; omega))
              have f_49 := fD_13.fr (fun j9 _ => fr_38.2.2 135 j9 (by unfold WSm; omega))
              have f_50 := fL_13.fr (fun j9 _ => fr_38.2.2 136 j9 (by unfold WSm; omega))
              have f_51 := fE_13.fr (fun j9 _ => fr_38.2.2 137 j9 (by unfold WSm; omega))
              have f_52 := fC_13.fr (fun j9 _ => fr_38.2.2 138 j9 (by unfold WSm; omega))
              have f_53 := rd_fr fr_38 f24_13 (by unfold WSm; omega)
              have f_54 := rd_fr fr_38 f29_13 (by unfold WSm; omega)
              have f_55 := rd_fr fr_38 f30_13 (by unfold WSm; omega)
              have f_56 := fK0_13.fr (fun j9 _ _ => ⟨fr_38.2.2 131 j9 (by unfold WSm; omega), fr_38.2.2 132 j9 (by unfold WSm; omega)⟩)
              have f_57 := fun q9 => (fK1_13 q9).fr (fun j9 _ _ => ⟨fr_38.2.2 131 j9 (by unfold WSm; omega), fr_38.2.2 132 j9 (by unfold WSm; omega)⟩)
              have f_58 := fFo_13.fr fr_38 (fun j9 => by unfold WSm; omega) (by unfold WSm; omega) (by unfold WSm; omega)
              have f_59 := fO7_13.fr (fun j9 _ _ => ⟨fr_38.2.2 142 j9 (by unfold WSm; omega), fr_38.2.2 143 j9 (by unfold WSm; omega)⟩)
              have f_60 := fPA_13.fr (fun j9 _ _ => ⟨fr_38.2.2 144 j9 (by unfold WSm; omega), fr_38.2.2 145 j9 (by unfold WSm; omega)⟩)
              have fr_61 := fr_11.tr (fr_38.mono (fun k9 j9 h9 => by unfold WSm at h9; unfold WM; omega))
              clear frw_13 hM_6 fTo_13 fW_13 fD_13 fL_13 fE_13 fC_13 f24_13 f29_13 f30_13 fK0_13 fK1_13 fFo_13 fO7_13 fPA_13 fr_11
              show WpN (gp g0 wp) CLS p l e R s m args below meth c Q D_241.2.2.1 kc0 ks0 59 [some (.ref 124), some (.int a)] (hs_37, kc, ks) []
              refine g_loadA act (gx gp_241 (w := 0x3c03) rfl (by decide) rfl) (a := 0) (n := 60) rfl rfl rfl ?_
              refine r_getf act (gx gp_241 (w := 0x20008c9003f04) rfl (by decide) rfl) (n := 63) (ci := 9) (j := 35) (N := 39) rfl rfl rfl rw_45.1 (by decide) (v := .long sx_42) e_40 ?_
              refine g_l2d act (gx gp_241 (w := 0x4056) rfl (by decide) rfl) (n := 64) rfl ?_
              refine g_loadA act (gx gp_241 (w := 0x4103) rfl (by decide) rfl) (a := 0) (n := 65) rfl rfl rfl ?_
              refine r_getf act (gx gp_241 (w := 0x2000909004404) rfl (by decide) rfl) (n := 68) (ci := 9) (j := 36) (N := 39) rfl rfl rfl rw_45.1 (by decide) (v := .long sw_43) e_41 ?_
              refine g_l2d act (gx gp_241 (w := 0x4556) rfl (by decide) rfl) (n := 69) rfl ?_
              have m1 := md_1 (t := sx_42) hk_44.ne
              refine g_ddiv act (gx gp_241 (w := 0x4657) rfl (by decide) rfl) (n := 70) (nn64_of m1) rfl ?_
              refine g_loadA act (gx gp_241 (w := 0x4703) rfl (by decide) rfl) (a := 0) (n := 71) rfl rfl rfl ?_
              refine n_call tb_pres act hEnd (gx (P := G_call) gp_241 (w := 0xa000000000000c0c110000c7004a0f) rfl (by decide) rfl) (d' := D_199) rfl (as := [.ref 124]) (rest := [.double (FP.ddiv (FP.l2d sx_42) (FP.l2d sw_43))]) (b_demandAll n0 hGn3 (fun j9 => by have q9 := hdm_13 j9; omega) rw_45 f_47 f_49) (show (1 : Nat) = fb 0xa000000000000c0c110000c7004a0f % 16 by decide) (by show (1 : Nat) ≤ 3; decide) (fun _ => ⟨_, _, rfl, _, shp_at rw_45.1, Or.inr (show fb 0xa000000000000c0c110000c7004a0f >>> 68 = 10 by decide)⟩) (by omega) (by show 8 + (3 + 11) + 0 ≤ R.locals; omega) (by show (2 : Nat) ≤ 8; decide) (by show kc + 0 ≤ _; omega) (by show ks + 0 ≤ _; omega) (fun r9 h3 hpo hr9 => ?_) (fun x9 hs9 hx9 hpo => ?_)
              · obtain ⟨-, rfl, da_62, rfl, hx_63⟩ := hpo
                show WpN (gp g0 wp) CLS p l e R s m args below meth c Q D_241.2.2.1 kc0 ks0 74 [some (.ref 124), some (.int a)] (hs_37, kc, ks) [.int da_62, .double (FP.ddiv (FP.l2d sx_42) (FP.l2d sw_43))]
                refine g_i2d act (gx gp_241 (w := 0x4b58) rfl (by decide) rfl) (n := 75) rfl ?_
                have m2 := md_2 m1 (z := da_62) (by rw [hx_63]; omega)
                refine g_ddiv act (gx gp_241 (w := 0x4c57) rfl (by decide) rfl) (n := 76) (nn64_of m2) rfl ?_
                exact g_retD hEnd (gx gp_241 (w := 0x4d) rfl (by decide) rfl) ⟨rfl, ⟨_, rfl⟩, hM_39, fr_61⟩ (by show kc ≤ kc + 0; omega) (by show ks ≤ ks + 0; omega)
              · exact absurd hpo.1 (by omega)
            · exact absurd hpo.1 (by omega)
          · simp only [i_eq, i0] at h17
            refine g_loadA act (gx gp_241 (w := 0x3103) rfl (by decide) rfl) (a := 0) (n := 49) rfl rfl rfl ?_
            refine g_constI act (gx gp_241 (w := 0x40000001c00000019000000003201) rfl (by decide) rfl) (n := 50) (x := (3 : Int32)) (by decide) rfl ?_
            refine r_putf act (gx gp_241 (w := 0x9003513) rfl (by decide) rfl) (n := 53) (ci := 9) (j := 0) (N := 39) rfl rfl rfl frw_13.1 (by decide) (Or.inl ⟨rfl, _, rfl⟩) ?_
            have rw_64 := RW.wr (k := 124) (j := 0) (v := .int (3 : Int32)) frw_13 (Or.inr (by decide))
            have f_65 := hM_6.wr0 (x := (3 : Int32)) frw_13.1 (by decide) (by decide)
            have f_66 := fTo_13.ne (k := 124) (j := 0) (v := .int (3 : Int32)) (by decide)
            have f_67 := fW_13.ne (k := 124) (j := 0) (v := .int (3 : Int32)) (by decide)
            have f_68 := fD_13.ne (k := 124) (j := 0) (v := .int (3 : Int32)) (by decide)
            have f_69 := fL_13.ne (k := 124) (j := 0) (v := .int (3 : Int32)) (by decide)
            have f_70 := fE_13.ne (k := 124) (j := 0) (v := .int (3 : Int32)) (by decide)
            have f_71 := fC_13.ne (k := 124) (j := 0) (v := .int (3 : Int32)) (by decide)
            have f_72 := (rd_ne hs_4 (k := 124) (j := 0) (.int (3 : Int32)) (Or.inr (by decide))).trans f24_13
            have f_73 := (rd_ne hs_4 (k := 124) (j := 0) (.int (3 : Int32)) (Or.inr (by decide))).trans f29_13
            have f_74 := (rd_ne hs_4 (k := 124) (j := 0) (.int (3 : Int32)) (Or.inr (by decide))).trans f30_13
            have f_75 := fK0_13.ne (k := 124) (j := 0) (v := .int (3 : Int32)) (by decide) (by decide)
            have f_76 := fun q9 => (fK1_13 q9).ne (k := 124) (j := 0) (v := .int (3 : Int32)) (by decide) (by decide)
            have f_77 := fFo_13.fr (frs_one (k := 124) (j := 0) (v := .int (3 : Int32))) (fun j9 => by omega) (by omega) (by omega)
            have f_78 := fO7_13.ne (k := 124) (j := 0) (v := .int (3 : Int32)) (by decide) (by decide)
            have f_79 := fPA_13.ne (k := 124) (j := 0) (v := .int (3 : Int32)) (by decide) (by decide)
            have f_80 := rd_same (j := 0) (v := .int (3 : Int32)) frw_13.1
            have fr_81 := fr_11.wr (k := 124) (j := 0) (.int (3 : Int32)) (by unfold WM; omega)
            clear frw_13 fr_11 hM_6 fTo_13 fW_13 fD_13 fL_13 fE_13 fC_13 f24_13 f29_13 f30_13 fK0_13 fK1_13 fFo_13 fO7_13 fPA_13
            generalize (wr hs_4 124 0 (.int (3 : Int32))) = hs_82 at *
            refine g_dcon0 act (gx gp_241 (w := 0x6000000003601) rfl (by decide) rfl) (n := 54) (by decide) rfl ?_
            exact g_retD hEnd (gx gp_241 (w := 0x4d) rfl (by decide) rfl) ⟨rfl, ⟨_, rfl⟩, f_65, fr_81⟩ (by show kc ≤ kc + 0; omega) (by show ks ≤ ks + 0; omega)
        · exact absurd hpo.1 (by omega)
    · exact absurd hpo.1 (by omega)
  · exact absurd hpo.1 (by omega)

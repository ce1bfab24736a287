/-! The reference's common divisor, over any longs. -/
theorem l_remA {x y : Int64} (hy : y.toInt ≠ 0) : (x - x / y * y).toInt = x.toInt.tmod y.toInt := by
  rw [Int64.toInt_sub, Int64.toInt_mul, Int64.toInt_div, Int.bmod_mul_bmod, Int.sub_bmod_bmod]
  have h1 := Int.mul_tdiv_add_tmod x.toInt y.toInt
  have h2 : x.toInt - x.toInt.tdiv y.toInt * y.toInt = x.toInt.tmod y.toInt := by rw [Int.mul_comm]; omega
  rw [h2]
  have hr := l_rng x
  have h3 : (x.toInt.tmod y.toInt).natAbs = x.toInt.natAbs % y.toInt.natAbs := Int.natAbs_tmod _ _
  have h4 : x.toInt.natAbs % y.toInt.natAbs < y.toInt.natAbs := Nat.mod_lt _ (by omega)
  have hs := l_rng y
  exact l_bm (by omega) (by omega)
theorem l_negA (x : Int64) : (-x).toInt.natAbs = x.toInt.natAbs := by
  have hr := l_rng x
  by_cases h : -9223372036854775808 < x.toInt
  · rw [l_neg h, Int.natAbs_neg]
  · have e : x.toInt = -9223372036854775808 := by omega
    rw [Int64.toInt_neg, e]
    decide

theorem common_loopA {g0 : GG} {bl : Nat} {xs : Nat → Int32} {l : Launch} {wp : va_W} {p : Program} {e : Env} {R : Room} {s : State} {m : MethodId} {args : Array Value} {below : List Frame} {meth : Method} {c : Code} {Q : State → Prop} {kc0 ks0 kc ks f lam KC KS : Nat} {hs : List CE} {a b : Int64} {G : Nat} (act : Act SSX TBL (gp g0 wp) CLS bl xs D_191 p l s m args meth c) (hEnd : EndN SSX TBL (gp g0 wp) CLS D_191 p l e R s m args below meth c Q kc0 ks0 f lam KC KS (fun k r h2 => k = 0 ∧ hs = h2 ∧ ∃ z : Int64, r = some (.long z) ∧ z.toInt.natAbs = G)) (hk1 : kc ≤ KC) (hk2 : ks ≤ KS) : ∀ (n : Nat) (x y : Int64), y.toInt.natAbs ≤ n → Nat.gcd x.toInt.natAbs y.toInt.natAbs = G → WpN (gp g0 wp) CLS p l e R s m args below meth c Q D_191.2.2.1 kc0 ks0 28 [some (.long a), none, some (.long b), none, some (.long x), none, some (.long y), none, none, none] (hs, kc, ks) [] := by
  intro n
  induction n using Nat.strongRecOn with
  | ind n ih =>
  intro x y h2 h3
  refine g_loadL act (gx gp_191 (w := 0x6001e06) rfl (by decide) rfl) (a := 6) (n := 30) rfl rfl rfl ?_
  refine g_constL act (gx gp_191 (w := 0x40000000000000002000000001f01) rfl (by decide) rfl) (n := 31) (x := 0) (by decide) rfl ?_
  refine g_lcmp act (gx gp_191 (w := 0x200c) rfl (by decide) rfl) (n := 32) rfl ?_
  refine g_ifEq act (gx gp_191 (w := 0x3500230e) rfl (by decide) rfl) (tgt := 53) (n := 35) rfl rfl (fun h4 => ?_) (fun h4 => ?_)
  · simp only [cmpEq, show (0 : Int64).toInt = 0 from by decide] at h4
    refine g_loadL act (gx gp_191 (w := 0x4003706) rfl (by decide) rfl) (a := 4) (n := 55) rfl rfl rfl ?_
    exact g_retL hEnd (gx gp_191 (w := 0x19) rfl (by decide) rfl) ⟨rfl, rfl, x, rfl, by
      have hz : y.toInt = 0 := h4
      rw [hz] at h3
      rw [← h3]
      exact (Nat.gcd_zero_right _).symm⟩ hk1 hk2
  · simp only [cmpEq, show (0 : Int64).toInt = 0 from by decide] at h4
    refine g_loadL act (gx gp_191 (w := 0x4002506) rfl (by decide) rfl) (a := 4) (n := 37) rfl rfl rfl ?_
    refine g_loadL act (gx gp_191 (w := 0x6002706) rfl (by decide) rfl) (a := 6) (n := 39) rfl rfl rfl ?_
    refine g_lrem act (gx gp_191 (w := 0x281b) rfl (by decide) rfl) (n := 40) (fun q => h4 (by rw [q]; decide)) rfl ?_
    refine g_storeL act (gx gp_191 (w := 0x8002a0b) rfl (by decide) rfl) (a := 8) (n := 42) rfl rfl (L2 := [some (.long a), none, some (.long b), none, some (.long x), none, some (.long y), none, some (.long (x - x / y * y)), none]) rfl ?_
    refine g_loadL act (gx gp_191 (w := 0x6002c06) rfl (by decide) rfl) (a := 6) (n := 44) rfl rfl rfl ?_
    refine g_storeL act (gx gp_191 (w := 0x4002e0b) rfl (by decide) rfl) (a := 4) (n := 46) rfl rfl (L2 := [some (.long a), none, some (.long b), none, some (.long y), none, some (.long y), none, some (.long (x - x / y * y)), none]) rfl ?_
    refine g_loadL act (gx gp_191 (w := 0x8003006) rfl (by decide) rfl) (a := 8) (n := 48) rfl rfl rfl ?_
    refine g_storeL act (gx gp_191 (w := 0x600320b) rfl (by decide) rfl) (a := 6) (n := 50) rfl rfl (L2 := [some (.long a), none, some (.long b), none, some (.long y), none, some (.long (x - x / y * y)), none, some (.long (x - x / y * y)), none]) rfl ?_
    refine g_goto act (gx gp_191 (w := 0x1c07) rfl (by decide) rfl) (n := 28) rfl ?_
    have hz : y.toInt ≠ 0 := h4
    have hr := l_remA (x := x) hz
    have hn : (x - x / y * y).toInt.natAbs = x.toInt.natAbs % y.toInt.natAbs := by rw [hr]; exact Int.natAbs_tmod _ _
    have hg : Nat.gcd y.toInt.natAbs (x.toInt.natAbs % y.toInt.natAbs) = Nat.gcd x.toInt.natAbs y.toInt.natAbs := by rw [Nat.gcd_comm y.toInt.natAbs (x.toInt.natAbs % y.toInt.natAbs), ← Nat.gcd_rec, Nat.gcd_comm]
    have hlt : x.toInt.natAbs % y.toInt.natAbs < y.toInt.natAbs := Nat.mod_lt _ (by omega)
    match n, h2, ih with
    | 0, h2, _ => exact absurd h2 (by omega)
    | n + 1, h2, ih =>
      exact n_forget (d := D_191) (L2 := [some (.long a), none, some (.long b), none, some (.long y), none, some (.long (x - x / y * y)), none, none, none]) (fun i v hi => by
        match i, hi with
        | 0, hi => exact hi
        | 1, hi => exact hi
        | 2, hi => exact hi
        | 3, hi => exact hi
        | 4, hi => exact hi
        | 5, hi => exact hi
        | 6, hi => exact hi
        | 7, hi => exact hi
        | 8, hi => cases hi
        | 9, hi => cases hi
        | i + 10, hi => cases hi) (ih n (by omega) _ _ (by rw [hn]; omega) (by rw [hn, hg]; exact h3))

theorem b_commonA {g0 : GG} {bl : Nat} {xs : Nat → Int32} {l : Launch} {hs : List CE} {a b : Int64} : BodyN SSX TBL g0 CLS bl xs l D_191 0 0 0 0 [.long a, .long b] hs (fun k r h2 => k = 0 ∧ hs = h2 ∧ ∃ z : Int64, r = some (.long z) ∧ z.toInt.natAbs = Nat.gcd a.toInt.natAbs b.toInt.natAbs) := by
  intro wp p e R s m args below meth c Q kc0 ks0 kc ks act hf hl hc hsl hEnd
  show WpN (gp g0 wp) CLS p l e R s m args below meth c Q D_191.2.2.1 kc0 ks0 0 [some (.long a), none, some (.long b), none, none, none, none, none, none, none] (hs, kc, ks) []
  refine g_loadL act (gx gp_191 (w := 0x106) rfl (by decide) rfl) (a := 0) (n := 1) rfl rfl rfl ?_
  refine g_constL act (gx gp_191 (w := 0x40000000000000002000000000201) rfl (by decide) rfl) (n := 2) (x := 0) (by decide) rfl ?_
  refine g_lcmp act (gx gp_191 (w := 0x30c) rfl (by decide) rfl) (n := 3) rfl ?_
  refine g_ifGe act (gx gp_191 (w := 0xb000614) rfl (by decide) rfl) (tgt := 11) (n := 6) rfl rfl (fun h4 => ?_) (fun h4 => ?_)
  · simp only [cmpGe, show (0 : Int64).toInt = 0 from by decide] at h4
    refine g_loadL act (gx gp_191 (w := 0xc06) rfl (by decide) rfl) (a := 0) (n := 12) rfl rfl rfl ?_
    refine g_storeL act (gx gp_191 (w := 0x4000e0b) rfl (by decide) rfl) (a := 4) (n := 14) rfl rfl (L2 := [some (.long a), none, some (.long b), none, some (.long a), none, none, none, none, none]) rfl ?_
    refine g_loadL act (gx gp_191 (w := 0x2000f06) rfl (by decide) rfl) (a := 2) (n := 15) rfl rfl rfl ?_
    refine g_constL act (gx gp_191 (w := 0x40000000000000002000000001001) rfl (by decide) rfl) (n := 16) (x := 0) (by decide) rfl ?_
    refine g_lcmp act (gx gp_191 (w := 0x110c) rfl (by decide) rfl) (n := 17) rfl ?_
    refine g_ifGe act (gx gp_191 (w := 0x19001414) rfl (by decide) rfl) (tgt := 25) (n := 20) rfl rfl (fun h10 => ?_) (fun h10 => ?_)
    · simp only [cmpGe, show (0 : Int64).toInt = 0 from by decide] at h10
      refine g_loadL act (gx gp_191 (w := 0x2001a06) rfl (by decide) rfl) (a := 2) (n := 26) rfl rfl rfl ?_
      refine g_storeL act (gx gp_191 (w := 0x6001c0b) rfl (by decide) rfl) (a := 6) (n := 28) rfl rfl (L2 := [some (.long a), none, some (.long b), none, some (.long a), none, some (.long b), none, none, none]) rfl ?_
      exact common_loopA act hEnd (by omega) (by omega) _ _ _ (Nat.le_refl _) (by first | rfl | (rw [l_negA a, l_negA b]) | (rw [l_negA a]) | (rw [l_negA b]))
    · simp only [cmpGe, show (0 : Int64).toInt = 0 from by decide] at h10
      refine g_loadL act (gx gp_191 (w := 0x2001506) rfl (by decide) rfl) (a := 2) (n := 21) rfl rfl rfl ?_
      refine g_lneg act (gx gp_191 (w := 0x1625) rfl (by decide) rfl) (n := 22) rfl ?_
      refine g_goto act (gx gp_191 (w := 0x1a07) rfl (by decide) rfl) (n := 26) rfl ?_
      refine g_storeL act (gx gp_191 (w := 0x6001c0b) rfl (by decide) rfl) (a := 6) (n := 28) rfl rfl (L2 := [some (.long a), none, some (.long b), none, some (.long a), none, some (.long (-b)), none, none, none]) rfl ?_
      exact common_loopA act hEnd (by omega) (by omega) _ _ _ (Nat.le_refl _) (by first | rfl | (rw [l_negA a, l_negA b]) | (rw [l_negA a]) | (rw [l_negA b]))
  · simp only [cmpGe, show (0 : Int64).toInt = 0 from by decide] at h4
    refine g_loadL act (gx gp_191 (w := 0x706) rfl (by decide) rfl) (a := 0) (n := 7) rfl rfl rfl ?_
    refine g_lneg act (gx gp_191 (w := 0x825) rfl (by decide) rfl) (n := 8) rfl ?_
    refine g_goto act (gx gp_191 (w := 0xc07) rfl (by decide) rfl) (n := 12) rfl ?_
    refine g_storeL act (gx gp_191 (w := 0x4000e0b) rfl (by decide) rfl) (a := 4) (n := 14) rfl rfl (L2 := [some (.long a), none, some (.long b), none, some (.long (-a)), none, none, none, none, none]) rfl ?_
    refine g_loadL act (gx gp_191 (w := 0x2000f06) rfl (by decide) rfl) (a := 2) (n := 15) rfl rfl rfl ?_
    refine g_constL act (gx gp_191 (w := 0x40000000000000002000000001001) rfl (by decide) rfl) (n := 16) (x := 0) (by decide) rfl ?_
    refine g_lcmp act (gx gp_191 (w := 0x110c) rfl (by decide) rfl) (n := 17) rfl ?_
    refine g_ifGe act (gx gp_191 (w := 0x19001414) rfl (by decide) rfl) (tgt := 25) (n := 20) rfl rfl (fun h24 => ?_) (fun h24 => ?_)
    · simp only [cmpGe, show (0 : Int64).toInt = 0 from by decide] at h24
      refine g_loadL act (gx gp_191 (w := 0x2001a06) rfl (by decide) rfl) (a := 2) (n := 26) rfl rfl rfl ?_
      refine g_storeL act (gx gp_191 (w := 0x6001c0b) rfl (by decide) rfl) (a := 6) (n := 28) rfl rfl (L2 := [some (.long a), none, some (.long b), none, some (.long (-a)), none, some (.long b), none, none, none]) rfl ?_
      exact common_loopA act hEnd (by omega) (by omega) _ _ _ (Nat.le_refl _) (by first | rfl | (rw [l_negA a, l_negA b]) | (rw [l_negA a]) | (rw [l_negA b]))
    · simp only [cmpGe, show (0 : Int64).toInt = 0 from by decide] at h24
      refine g_loadL act (gx gp_191 (w := 0x2001506) rfl (by decide) rfl) (a := 2) (n := 21) rfl rfl rfl ?_
      refine g_lneg act (gx gp_191 (w := 0x1625) rfl (by decide) rfl) (n := 22) rfl ?_
      refine g_goto act (gx gp_191 (w := 0x1a07) rfl (by decide) rfl) (n := 26) rfl ?_
      refine g_storeL act (gx gp_191 (w := 0x6001c0b) rfl (by decide) rfl) (a := 6) (n := 28) rfl rfl (L2 := [some (.long a), none, some (.long b), none, some (.long (-a)), none, some (.long (-b)), none, none, none]) rfl ?_
      exact common_loopA act hEnd (by omega) (by omega) _ _ _ (Nat.le_refl _) (by first | rfl | (rw [l_negA a, l_negA b]) | (rw [l_negA a]) | (rw [l_negA b]))


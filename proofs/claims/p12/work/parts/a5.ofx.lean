/-! The class's fractions on plain states. -/
/-- Euclid's steps: what is kept -/
def CDI (a b : Int64) (i : Int) (x y : Int64) : Prop :=
  (i = 0 ∧ x.toInt.natAbs = a.toInt.natAbs ∧ y.toInt.natAbs = b.toInt.natAbs ∧ (b.toInt ≠ -9223372036854775808 → 0 ≤ y.toInt)) ∨
  (i = 1 ∧ b.toInt ≠ 0 ∧ x.toInt.natAbs = b.toInt.natAbs ∧ y.toInt.natAbs = a.toInt.natAbs % b.toInt.natAbs ∧ (b.toInt ≠ -9223372036854775808 → 0 ≤ x.toInt)) ∨
  (2 ≤ i ∧ x.toInt.natAbs ≤ a.toInt.natAbs ∧ x.toInt.natAbs ≤ b.toInt.natAbs ∧ y.toInt.natAbs < x.toInt.natAbs)
def CDP (a b g : Int64) : Prop := 1 ≤ g.toInt ∧ (b.toInt ≠ 0 → g.toInt.natAbs ≤ b.toInt.natAbs) ∧ (a.toInt ≠ 0 → g.toInt.natAbs ≤ a.toInt.natAbs) ∧ (a.toInt = 0 → b.toInt ≠ 0 → b.toInt ≠ -9223372036854775808 → g.toInt.natAbs = b.toInt.natAbs)
theorem CDI.step {a b x y r : Int64} {i : Int} (h : CDI a b i x y) (hy : y.toInt ≠ 0) (hr : r.toInt.natAbs = x.toInt.natAbs % y.toInt.natAbs) : CDI a b (i + 1) y r := by
  have hl : x.toInt.natAbs % y.toInt.natAbs < y.toInt.natAbs := Nat.mod_lt _ (by omega)
  rcases h with ⟨h1, h2, h3, h4⟩ | ⟨h1, h2, h3, h4, h5⟩ | ⟨h1, h2, h3, h4⟩
  · exact Or.inr (Or.inl ⟨by omega, by omega, h3, by rw [hr, h2, h3], h4⟩)
  · have q1 := Nat.mod_le a.toInt.natAbs b.toInt.natAbs
    have q2 : a.toInt.natAbs % b.toInt.natAbs < b.toInt.natAbs := Nat.mod_lt _ (by omega)
    exact Or.inr (Or.inr ⟨by omega, by omega, by omega, by omega⟩)
  · exact Or.inr (Or.inr ⟨by omega, by omega, by omega, by omega⟩)
theorem CDI.one {a b x y : Int64} {i : Int} (h : CDI a b i x y) (he : y.toInt = 0 ∨ 100 ≤ i) (hx : x.toInt < 1) : CDP a b 1 := by
  have e1 : (1 : Int64).toInt = 1 := by decide
  refine ⟨by rw [e1]; omega, fun q => by rw [e1]; omega, fun q => by rw [e1]; omega, fun qa qb qc => ?_⟩
  rcases h with ⟨h1, h2, h3, h4⟩ | ⟨h1, h2, h3, h4, h5⟩ | ⟨h1, h2, h3, h4⟩
  · omega
  · have := h5 qc
    omega
  · omega
theorem CDI.end {a b x y : Int64} {i : Int} (h : CDI a b i x y) (he : y.toInt = 0 ∨ 100 ≤ i) (hx : 1 ≤ x.toInt) : CDP a b x := by
  refine ⟨hx, fun q => ?_, fun q => ?_, fun qa qb qc => ?_⟩
  · rcases h with ⟨h1, h2, h3, h4⟩ | ⟨h1, h2, h3, h4, h5⟩ | ⟨h1, h2, h3, h4⟩ <;> omega
  · rcases h with ⟨h1, h2, h3, h4⟩ | ⟨h1, h2, h3, h4, h5⟩ | ⟨h1, h2, h3, h4⟩
    · omega
    · have h6 : a.toInt.natAbs % b.toInt.natAbs = 0 := by omega
      have := Nat.le_of_dvd (by omega) (Nat.dvd_of_mod_eq_zero h6)
      omega
    · omega
  · rcases h with ⟨h1, h2, h3, h4⟩ | ⟨h1, h2, h3, h4, h5⟩ | ⟨h1, h2, h3, h4⟩ <;> omega

theorem cd_loop {g0 : GG} {bl : Nat} {xs : Nat → Int32} {l : Launch} {wp : va_W} {p : Program} {e : Env} {R : Room} {s : State} {m : MethodId} {args : Array Value} {below : List Frame} {meth : Method} {c : Code} {Q : State → Prop} {kc0 ks0 kc ks f lam KC KS : Nat} {hs : List CE} {a b : Int64} (act : Act SSX TBL (gp g0 wp) CLS bl xs D_80 p l s m args meth c) (hEnd : EndN SSX TBL (gp g0 wp) CLS D_80 p l e R s m args below meth c Q kc0 ks0 f lam KC KS (fun k r h2 => k = 0 ∧ hs = h2 ∧ ∃ z : Int64, r = some (.long z) ∧ CDP a b z)) (hk1 : kc ≤ KC) (hk2 : ks ≤ KS) : ∀ (n : Nat) (i : Int32) (x y : Int64), 0 ≤ i.toInt → i.toInt + (n : Int) = 100 → CDI a b i.toInt x y → WpN (gp g0 wp) CLS p l e R s m args below meth c Q D_80.2.2.1 kc0 ks0 31 [some (.long a), none, some (.long b), none, some (.long x), none, some (.long y), none, some (.int i), none, none] (hs, kc, ks) [] := by
  intro n
  induction n with
  | zero =>
    intro i x y hi0 hi hC
    refine g_loadI act (gx gp_80 (w := 0x8002102) rfl (by decide) rfl) (a := 8) (n := 33) rfl rfl rfl ?_
    refine g_constI act (gx gp_80 (w := 0x40000032400000321000000002301) rfl (by decide) rfl) (n := 35) (x := (100 : Int32)) (by decide) rfl ?_
    refine g_icmpGe act (gx gp_80 (w := 0x42002608) rfl (by decide) rfl) (tgt := 66) (n := 38) rfl rfl (fun h3 => ?_) (fun h3 => ?_)
    · simp only [i_le, show (100 : Int32).toInt = 100 from by decide] at h3
      refine g_loadL act (gx gp_80 (w := 0x4004406) rfl (by decide) rfl) (a := 4) (n := 68) rfl rfl rfl ?_
      refine g_constL act (gx gp_80 (w := 0x4000000000000000a000000004501) rfl (by decide) rfl) (n := 69) (x := 1) (by decide) rfl ?_
      refine g_lcmp act (gx gp_80 (w := 0x460c) rfl (by decide) rfl) (n := 70) rfl ?_
      refine g_ifGe act (gx gp_80 (w := 0x4d004914) rfl (by decide) rfl) (tgt := 77) (n := 73) rfl rfl (fun h7 => ?_) (fun h7 => ?_)
      · simp only [cmpGe, show (1 : Int64).toInt = 1 from by decide] at h7
        refine g_loadL act (gx gp_80 (w := 0x4004f06) rfl (by decide) rfl) (a := 4) (n := 79) rfl rfl rfl ?_
        exact g_retL hEnd (gx gp_80 (w := 0x19) rfl (by decide) rfl) ⟨rfl, rfl, _, rfl, hC.end (by omega) (by omega)⟩ hk1 hk2
      · simp only [cmpGe, show (1 : Int64).toInt = 1 from by decide] at h7
        refine g_constL act (gx gp_80 (w := 0x4000000000000000a000000004a01) rfl (by decide) rfl) (n := 74) (x := 1) (by decide) rfl ?_
        refine g_goto act (gx gp_80 (w := 0x4f07) rfl (by decide) rfl) (n := 79) rfl ?_
        exact g_retL hEnd (gx gp_80 (w := 0x19) rfl (by decide) rfl) ⟨rfl, rfl, _, rfl, hC.one (by omega) (by omega)⟩ hk1 hk2
    · simp only [i_le, show (100 : Int32).toInt = 100 from by decide] at h3
      refine g_loadL act (gx gp_80 (w := 0x6002806) rfl (by decide) rfl) (a := 6) (n := 40) rfl rfl rfl ?_
      refine g_constL act (gx gp_80 (w := 0x40000000000000002000000002901) rfl (by decide) rfl) (n := 41) (x := 0) (by decide) rfl ?_
      refine g_lcmp act (gx gp_80 (w := 0x2a0c) rfl (by decide) rfl) (n := 42) rfl ?_
      refine g_ifEq act (gx gp_80 (w := 0x42002d0e) rfl (by decide) rfl) (tgt := 66) (n := 45) rfl rfl (fun h14 => ?_) (fun h14 => ?_)
      · simp only [cmpEq, show (0 : Int64).toInt = 0 from by decide] at h14
        refine g_loadL act (gx gp_80 (w := 0x4004406) rfl (by decide) rfl) (a := 4) (n := 68) rfl rfl rfl ?_
        refine g_constL act (gx gp_80 (w := 0x4000000000000000a000000004501) rfl (by decide) rfl) (n := 69) (x := 1) (by decide) rfl ?_
        refine g_lcmp act (gx gp_80 (w := 0x460c) rfl (by decide) rfl) (n := 70) rfl ?_
        refine g_ifGe act (gx gp_80 (w := 0x4d004914) rfl (by decide) rfl) (tgt := 77) (n := 73) rfl rfl (fun h18 => ?_) (fun h18 => ?_)
        · simp only [cmpGe, show (1 : Int64).toInt = 1 from by decide] at h18
          refine g_loadL act (gx gp_80 (w := 0x4004f06) rfl (by decide) rfl) (a := 4) (n := 79) rfl rfl rfl ?_
          exact g_retL hEnd (gx gp_80 (w := 0x19) rfl (by decide) rfl) ⟨rfl, rfl, _, rfl, hC.end (by omega) (by omega)⟩ hk1 hk2
        · simp only [cmpGe, show (1 : Int64).toInt = 1 from by decide] at h18
          refine g_constL act (gx gp_80 (w := 0x4000000000000000a000000004a01) rfl (by decide) rfl) (n := 74) (x := 1) (by decide) rfl ?_
          refine g_goto act (gx gp_80 (w := 0x4f07) rfl (by decide) rfl) (n := 79) rfl ?_
          exact g_retL hEnd (gx gp_80 (w := 0x19) rfl (by decide) rfl) ⟨rfl, rfl, _, rfl, hC.one (by omega) (by omega)⟩ hk1 hk2
      · simp only [cmpEq, show (0 : Int64).toInt = 0 from by decide] at h14
        refine g_loadL act (gx gp_80 (w := 0x4002f06) rfl (by decide) rfl) (a := 4) (n := 47) rfl rfl rfl ?_
        refine g_loadL act (gx gp_80 (w := 0x6003106) rfl (by decide) rfl) (a := 6) (n := 49) rfl rfl rfl ?_
        refine g_lrem act (gx gp_80 (w := 0x321b) rfl (by decide) rfl) (n := 50) (fun q => absurd (show y.toInt = 0 by rw [q]; decide) (by omega)) rfl ?_
        refine g_storeL act (gx gp_80 (w := 0x900340b) rfl (by decide) rfl) (a := 9) (n := 52) rfl rfl (L2 := [some (.long a), none, some (.long b), none, some (.long x), none, some (.long y), none, some (.int i), some (.long (x - x / y * y)), none]) rfl ?_
        refine g_loadL act (gx gp_80 (w := 0x6003606) rfl (by decide) rfl) (a := 6) (n := 54) rfl rfl rfl ?_
        refine g_storeL act (gx gp_80 (w := 0x400380b) rfl (by decide) rfl) (a := 4) (n := 56) rfl rfl (L2 := [some (.long a), none, some (.long b), none, some (.long y), none, some (.long y), none, some (.int i), some (.long (x - x / y * y)), none]) rfl ?_
        refine g_loadL act (gx gp_80 (w := 0x9003a06) rfl (by decide) rfl) (a := 9) (n := 58) rfl rfl rfl ?_
        refine g_storeL act (gx gp_80 (w := 0x6003c0b) rfl (by decide) rfl) (a := 6) (n := 60) rfl rfl (L2 := [some (.long a), none, some (.long b), none, some (.long y), none, some (.long (x - x / y * y)), none, some (.int i), some (.long (x - x / y * y)), none]) rfl ?_
        refine g_iinc act (gx gp_80 (w := 0x80000001000008003f09) rfl (by decide) rfl) (a := 8) (i := (1 : Int32)) (n := 63) rfl (by decide) rfl rfl (L2 := [some (.long a), none, some (.long b), none, some (.long y), none, some (.long (x - x / y * y)), none, some (.int (i + (1 : Int32))), some (.long (x - x / y * y)), none]) rfl ?_
        refine g_goto act (gx gp_80 (w := 0x1f07) rfl (by decide) rfl) (n := 31) rfl ?_
        exact absurd hi (by omega)
  | succ n ih =>
    intro i x y hi0 hi hC
    refine g_loadI act (gx gp_80 (w := 0x8002102) rfl (by decide) rfl) (a := 8) (n := 33) rfl rfl rfl ?_
    refine g_constI act (gx gp_80 (w := 0x40000032400000321000000002301) rfl (by decide) rfl) (n := 35) (x := (100 : Int32)) (by decide) rfl ?_
    refine g_icmpGe act (gx gp_80 (w := 0x42002608) rfl (by decide) rfl) (tgt := 66) (n := 38) rfl rfl (fun h3 => ?_) (fun h3 => ?_)
    · simp only [i_le, show (100 : Int32).toInt = 100 from by decide] at h3
      refine g_loadL act (gx gp_80 (w := 0x4004406) rfl (by decide) rfl) (a := 4) (n := 68) rfl rfl rfl ?_
      refine g_constL act (gx gp_80 (w := 0x4000000000000000a000000004501) rfl (by decide) rfl) (n := 69) (x := 1) (by decide) rfl ?_
      refine g_lcmp act (gx gp_80 (w := 0x460c) rfl (by decide) rfl) (n := 70) rfl ?_
      refine g_ifGe act (gx gp_80 (w := 0x4d004914) rfl (by decide) rfl) (tgt := 77) (n := 73) rfl rfl (fun h7 => ?_) (fun h7 => ?_)
      · simp only [cmpGe, show (1 : Int64).toInt = 1 from by decide] at h7
        refine g_loadL act (gx gp_80 (w := 0x4004f06) rfl (by decide) rfl) (a := 4) (n := 79) rfl rfl rfl ?_
        exact g_retL hEnd (gx gp_80 (w := 0x19) rfl (by decide) rfl) ⟨rfl, rfl, _, rfl, hC.end (by omega) (by omega)⟩ hk1 hk2
      · simp only [cmpGe, show (1 : Int64).toInt = 1 from by decide] at h7
        refine g_constL act (gx gp_80 (w := 0x4000000000000000a000000004a01) rfl (by decide) rfl) (n := 74) (x := 1) (by decide) rfl ?_
        refine g_goto act (gx gp_80 (w := 0x4f07) rfl (by decide) rfl) (n := 79) rfl ?_
        exact g_retL hEnd (gx gp_80 (w := 0x19) rfl (by decide) rfl) ⟨rfl, rfl, _, rfl, hC.one (by omega) (by omega)⟩ hk1 hk2
    · simp only [i_le, show (100 : Int32).toInt = 100 from by decide] at h3
      refine g_loadL act (gx gp_80 (w := 0x6002806) rfl (by decide) rfl) (a := 6) (n := 40) rfl rfl rfl ?_
      refine g_constL act (gx gp_80 (w := 0x40000000000000002000000002901) rfl (by decide) rfl) (n := 41) (x := 0) (by decide) rfl ?_
      refine g_lcmp act (gx gp_80 (w := 0x2a0c) rfl (by decide) rfl) (n := 42) rfl ?_
      refine g_ifEq act (gx gp_80 (w := 0x42002d0e) rfl (by decide) rfl) (tgt := 66) (n := 45) rfl rfl (fun h14 => ?_) (fun h14 => ?_)
      · simp only [cmpEq, show (0 : Int64).toInt = 0 from by decide] at h14
        refine g_loadL act (gx gp_80 (w := 0x4004406) rfl (by decide) rfl) (a := 4) (n := 68) rfl rfl rfl ?_
        refine g_constL act (gx gp_80 (w := 0x4000000000000000a000000004501) rfl (by decide) rfl) (n := 69) (x := 1) (by decide) rfl ?_
        refine g_lcmp act (gx gp_80 (w := 0x460c) rfl (by decide) rfl) (n := 70) rfl ?_
        refine g_ifGe act (gx gp_80 (w := 0x4d004914) rfl (by decide) rfl) (tgt := 77) (n := 73) rfl rfl (fun h18 => ?_) (fun h18 => ?_)
        · simp only [cmpGe, show (1 : Int64).toInt = 1 from by decide] at h18
          refine g_loadL act (gx gp_80 (w := 0x4004f06) rfl (by decide) rfl) (a := 4) (n := 79) rfl rfl rfl ?_
          exact g_retL hEnd (gx gp_80 (w := 0x19) rfl (by decide) rfl) ⟨rfl, rfl, _, rfl, hC.end (by omega) (by omega)⟩ hk1 hk2
        · simp only [cmpGe, show (1 : Int64).toInt = 1 from by decide] at h18
          refine g_constL act (gx gp_80 (w := 0x4000000000000000a000000004a01) rfl (by decide) rfl) (n := 74) (x := 1) (by decide) rfl ?_
          refine g_goto act (gx gp_80 (w := 0x4f07) rfl (by decide) rfl) (n := 79) rfl ?_
          exact g_retL hEnd (gx gp_80 (w := 0x19) rfl (by decide) rfl) ⟨rfl, rfl, _, rfl, hC.one (by omega) (by omega)⟩ hk1 hk2
      · simp only [cmpEq, show (0 : Int64).toInt = 0 from by decide] at h14
        refine g_loadL act (gx gp_80 (w := 0x4002f06) rfl (by decide) rfl) (a := 4) (n := 47) rfl rfl rfl ?_
        refine g_loadL act (gx gp_80 (w := 0x6003106) rfl (by decide) rfl) (a := 6) (n := 49) rfl rfl rfl ?_
        refine g_lrem act (gx gp_80 (w := 0x321b) rfl (by decide) rfl) (n := 50) (fun q => absurd (show y.toInt = 0 by rw [q]; decide) (by omega)) rfl ?_
        refine g_storeL act (gx gp_80 (w := 0x900340b) rfl (by decide) rfl) (a := 9) (n := 52) rfl rfl (L2 := [some (.long a), none, some (.long b), none, some (.long x), none, some (.long y), none, some (.int i), some (.long (x - x / y * y)), none]) rfl ?_
        refine g_loadL act (gx gp_80 (w := 0x6003606) rfl (by decide) rfl) (a := 6) (n := 54) rfl rfl rfl ?_
        refine g_storeL act (gx gp_80 (w := 0x400380b) rfl (by decide) rfl) (a := 4) (n := 56) rfl rfl (L2 := [some (.long a), none, some (.long b), none, some (.long y), none, some (.long y), none, some (.int i), some (.long (x - x / y * y)), none]) rfl ?_
        refine g_loadL act (gx gp_80 (w := 0x9003a06) rfl (by decide) rfl) (a := 9) (n := 58) rfl rfl rfl ?_
        refine g_storeL act (gx gp_80 (w := 0x6003c0b) rfl (by decide) rfl) (a := 6) (n := 60) rfl rfl (L2 := [some (.long a), none, some (.long b), none, some (.long y), none, some (.long (x - x / y * y)), none, some (.int i), some (.long (x - x / y * y)), none]) rfl ?_
        refine g_iinc act (gx gp_80 (w := 0x80000001000008003f09) rfl (by decide) rfl) (a := 8) (i := (1 : Int32)) (n := 63) rfl (by decide) rfl rfl (L2 := [some (.long a), none, some (.long b), none, some (.long y), none, some (.long (x - x / y * y)), none, some (.int (i + (1 : Int32))), some (.long (x - x / y * y)), none]) rfl ?_
        refine g_goto act (gx gp_80 (w := 0x1f07) rfl (by decide) rfl) (n := 31) rfl ?_
        have hz : y.toInt ≠ 0 := by omega
        have hr := l_remA (x := x) hz
        have hn : (x - x / y * y).toInt.natAbs = x.toInt.natAbs % y.toInt.natAbs := by rw [hr]; exact Int.natAbs_tmod _ _
        have hi2 : (i + (1 : Int32)).toInt = i.toInt + 1 := i_add (by show _ ≤ _ + (1 : Int); omega) (by show _ + (1 : Int) < _; omega)
        exact n_forget (d := D_80) (L2 := [some (.long a), none, some (.long b), none, some (.long y), none, some (.long (x - x / y * y)), none, some (.int (i + (1 : Int32))), none, none]) (fun i v hi => by
          match i, hi with
          | 0, hi => exact hi
          | 1, hi => exact hi
          | 2, hi => exact hi
          | 3, hi => exact hi
          | 4, hi => exact hi
          | 5, hi => exact hi
          | 6, hi => exact hi
          | 7, hi => exact hi
          | 8, hi => exact hi
          | 9, hi => cases hi
          | 10, hi => cases hi
          | i + 11, hi => cases hi) (ih _ _ _ (by omega) (by omega) (by rw [hi2]; exact hC.step hz hn))

theorem b_cd {g0 : GG} {bl : Nat} {xs : Nat → Int32} {l : Launch} {hs : List CE} {a b : Int64} : BodyN SSX TBL g0 CLS bl xs l D_80 0 0 0 0 [.long a, .long b] hs (fun k r h2 => k = 0 ∧ hs = h2 ∧ ∃ z : Int64, r = some (.long z) ∧ CDP a b z) := by
  intro wp p e R s m args below meth c Q kc0 ks0 kc ks act hf hl hc hsl hEnd
  show WpN (gp g0 wp) CLS p l e R s m args below meth c Q D_80.2.2.1 kc0 ks0 0 [some (.long a), none, some (.long b), none, none, none, none, none, none, none, none] (hs, kc, ks) []
  refine g_loadL act (gx gp_80 (w := 0x106) rfl (by decide) rfl) (a := 0) (n := 1) rfl rfl rfl ?_
  refine g_constL act (gx gp_80 (w := 0x40000000000000002000000000201) rfl (by decide) rfl) (n := 2) (x := 0) (by decide) rfl ?_
  refine g_lcmp act (gx gp_80 (w := 0x30c) rfl (by decide) rfl) (n := 3) rfl ?_
  refine g_ifGe act (gx gp_80 (w := 0xb000614) rfl (by decide) rfl) (tgt := 11) (n := 6) rfl rfl (fun h4 => ?_) (fun h4 => ?_)
  · simp only [cmpGe, show (0 : Int64).toInt = 0 from by decide] at h4
    refine g_loadL act (gx gp_80 (w := 0xc06) rfl (by decide) rfl) (a := 0) (n := 12) rfl rfl rfl ?_
    refine g_storeL act (gx gp_80 (w := 0x4000e0b) rfl (by decide) rfl) (a := 4) (n := 14) rfl rfl (L2 := [some (.long a), none, some (.long b), none, some (.long a), none, none, none, none, none, none]) rfl ?_
    refine g_loadL act (gx gp_80 (w := 0x2000f06) rfl (by decide) rfl) (a := 2) (n := 15) rfl rfl rfl ?_
    refine g_constL act (gx gp_80 (w := 0x40000000000000002000000001001) rfl (by decide) rfl) (n := 16) (x := 0) (by decide) rfl ?_
    refine g_lcmp act (gx gp_80 (w := 0x110c) rfl (by decide) rfl) (n := 17) rfl ?_
    refine g_ifGe act (gx gp_80 (w := 0x19001414) rfl (by decide) rfl) (tgt := 25) (n := 20) rfl rfl (fun h10 => ?_) (fun h10 => ?_)
    · simp only [cmpGe, show (0 : Int64).toInt = 0 from by decide] at h10
      refine g_loadL act (gx gp_80 (w := 0x2001a06) rfl (by decide) rfl) (a := 2) (n := 26) rfl rfl rfl ?_
      refine g_storeL act (gx gp_80 (w := 0x6001c0b) rfl (by decide) rfl) (a := 6) (n := 28) rfl rfl (L2 := [some (.long a), none, some (.long b), none, some (.long a), none, some (.long b), none, none, none, none]) rfl ?_
      refine g_constI act (gx gp_80 (w := 0x40000000400000001000000001d01) rfl (by decide) rfl) (n := 29) (x := (0 : Int32)) (by decide) rfl ?_
      refine g_storeI act (gx gp_80 (w := 0x8001f10) rfl (by decide) rfl) (a := 8) (n := 31) rfl rfl (L2 := [some (.long a), none, some (.long b), none, some (.long a), none, some (.long b), none, some (.int (0 : Int32)), none, none]) rfl ?_
      have lb := l_rng b
      exact cd_loop act hEnd (by omega) (by omega) 100 0 a b (by decide) (by decide) (Or.inl ⟨rfl, rfl, rfl, fun q => (by omega)⟩)
    · simp only [cmpGe, show (0 : Int64).toInt = 0 from by decide] at h10
      refine g_loadL act (gx gp_80 (w := 0x2001506) rfl (by decide) rfl) (a := 2) (n := 21) rfl rfl rfl ?_
      refine g_lneg act (gx gp_80 (w := 0x1625) rfl (by decide) rfl) (n := 22) rfl ?_
      refine g_goto act (gx gp_80 (w := 0x1a07) rfl (by decide) rfl) (n := 26) rfl ?_
      refine g_storeL act (gx gp_80 (w := 0x6001c0b) rfl (by decide) rfl) (a := 6) (n := 28) rfl rfl (L2 := [some (.long a), none, some (.long b), none, some (.long a), none, some (.long (-b)), none, none, none, none]) rfl ?_
      refine g_constI act (gx gp_80 (w := 0x40000000400000001000000001d01) rfl (by decide) rfl) (n := 29) (x := (0 : Int32)) (by decide) rfl ?_
      refine g_storeI act (gx gp_80 (w := 0x8001f10) rfl (by decide) rfl) (a := 8) (n := 31) rfl rfl (L2 := [some (.long a), none, some (.long b), none, some (.long a), none, some (.long (-b)), none, some (.int (0 : Int32)), none, none]) rfl ?_
      have lb := l_rng b
      exact cd_loop act hEnd (by omega) (by omega) 100 0 a (-b) (by decide) (by decide) (Or.inl ⟨rfl, rfl, l_negA b, fun q => (by rw [l_neg (by omega)]; omega)⟩)
  · simp only [cmpGe, show (0 : Int64).toInt = 0 from by decide] at h4
    refine g_loadL act (gx gp_80 (w := 0x706) rfl (by decide) rfl) (a := 0) (n := 7) rfl rfl rfl ?_
    refine g_lneg act (gx gp_80 (w := 0x825) rfl (by decide) rfl) (n := 8) rfl ?_
    refine g_goto act (gx gp_80 (w := 0xc07) rfl (by decide) rfl) (n := 12) rfl ?_
    refine g_storeL act (gx gp_80 (w := 0x4000e0b) rfl (by decide) rfl) (a := 4) (n := 14) rfl rfl (L2 := [some (.long a), none, some (.long b), none, some (.long (-a)), none, none, none, none, none, none]) rfl ?_
    refine g_loadL act (gx gp_80 (w := 0x2000f06) rfl (by decide) rfl) (a := 2) (n := 15) rfl rfl rfl ?_
    refine g_constL act (gx gp_80 (w := 0x40000000000000002000000001001) rfl (by decide) rfl) (n := 16) (x := 0) (by decide) rfl ?_
    refine g_lcmp act (gx gp_80 (w := 0x110c) rfl (by decide) rfl) (n := 17) rfl ?_
    refine g_ifGe act (gx gp_80 (w := 0x19001414) rfl (by decide) rfl) (tgt := 25) (n := 20) rfl rfl (fun h28 => ?_) (fun h28 => ?_)
    · simp only [cmpGe, show (0 : Int64).toInt = 0 from by decide] at h28
      refine g_loadL act (gx gp_80 (w := 0x2001a06) rfl (by decide) rfl) (a := 2) (n := 26) rfl rfl rfl ?_
      refine g_storeL act (gx gp_80 (w := 0x6001c0b) rfl (by decide) rfl) (a := 6) (n := 28) rfl rfl (L2 := [some (.long a), none, some (.long b), none, some (.long (-a)), none, some (.long b), none, none, none, none]) rfl ?_
      refine g_constI act (gx gp_80 (w := 0x40000000400000001000000001d01) rfl (by decide) rfl) (n := 29) (x := (0 : Int32)) (by decide) rfl ?_
      refine g_storeI act (gx gp_80 (w := 0x8001f10) rfl (by decide) rfl) (a := 8) (n := 31) rfl rfl (L2 := [some (.long a), none, some (.long b), none, some (.long (-a)), none, some (.long b), none, some (.int (0 : Int32)), none, none]) rfl ?_
      have lb := l_rng b
      exact cd_loop act hEnd (by omega) (by omega) 100 0 (-a) b (by decide) (by decide) (Or.inl ⟨rfl, l_negA a, rfl, fun q => (by omega)⟩)
    · simp only [cmpGe, show (0 : Int64).toInt = 0 from by decide] at h28
      refine g_loadL act (gx gp_80 (w := 0x2001506) rfl (by decide) rfl) (a := 2) (n := 21) rfl rfl rfl ?_
      refine g_lneg act (gx gp_80 (w := 0x1625) rfl (by decide) rfl) (n := 22) rfl ?_
      refine g_goto act (gx gp_80 (w := 0x1a07) rfl (by decide) rfl) (n := 26) rfl ?_
      refine g_storeL act (gx gp_80 (w := 0x6001c0b) rfl (by decide) rfl) (a := 6) (n := 28) rfl rfl (L2 := [some (.long a), none, some (.long b), none, some (.long (-a)), none, some (.long (-b)), none, none, none, none]) rfl ?_
      refine g_constI act (gx gp_80 (w := 0x40000000400000001000000001d01) rfl (by decide) rfl) (n := 29) (x := (0 : Int32)) (by decide) rfl ?_
      refine g_storeI act (gx gp_80 (w := 0x8001f10) rfl (by decide) rfl) (a := 8) (n := 31) rfl rfl (L2 := [some (.long a), none, some (.long b), none, some (.long (-a)), none, some (.long (-b)), none, some (.int (0 : Int32)), none, none]) rfl ?_
      have lb := l_rng b
      exact cd_loop act hEnd (by omega) (by omega) 100 0 (-a) (-b) (by decide) (by decide) (Or.inl ⟨rfl, l_negA a, l_negA b, fun q => (by rw [l_neg (by omega)]; omega)⟩)

theorem b_frI {g0 : GG} {bl : Nat} {xs : Nat → Int32} {l : Launch} {hs : List CE} {k : Nat} {n9 d9 : Int64} (hk : shp hs k = some (2, 2)) : BodyN SSX TBL g0 CLS bl xs l D_78 1 12 0 0 [.ref k, .long n9, .long d9] hs (fun kd r h2 => kd = 0 ∧ h2 = wr (wr hs k 0 (.long n9)) k 1 (.long d9)) := by
  intro wp p e R s m args below meth c Q kc0 ks0 kc ks act hf hl hc hsl hEnd
  show WpN (gp g0 wp) CLS p l e R s m args below meth c Q D_78.2.2.1 kc0 ks0 0 [some (.ref k), some (.long n9), none, some (.long d9), none] (hs, kc, ks) []
  refine g_loadA act (gx gp_78 (w := 0x103) rfl (by decide) rfl) (a := 0) (n := 1) rfl rfl rfl ?_
  refine n_objinit act (gx gp_78 (w := 0x429) rfl (by decide) rfl) (by omega) (by show (0 : Nat) + 12 ≤ R.locals; omega) rfl ?_
  refine g_loadA act (gx gp_78 (w := 0x503) rfl (by decide) rfl) (a := 0) (n := 5) rfl rfl rfl ?_
  refine g_loadL act (gx gp_78 (w := 0x1000606) rfl (by decide) rfl) (a := 1) (n := 6) rfl rfl rfl ?_
  refine r_putf act (gx gp_78 (w := 0x2000002000913) rfl (by decide) rfl) (n := 9) (ci := 2) (j := 0) (N := 2) rfl rfl rfl hk (by decide) (Or.inr (Or.inr (Or.inl ⟨rfl, _, rfl⟩))) ?_
  refine g_loadA act (gx gp_78 (w := 0xa03) rfl (by decide) rfl) (a := 0) (n := 10) rfl rfl rfl ?_
  refine g_loadL act (gx gp_78 (w := 0x3000b06) rfl (by decide) rfl) (a := 3) (n := 11) rfl rfl rfl ?_
  refine r_putf act (gx gp_78 (w := 0x2000042000e13) rfl (by decide) rfl) (n := 14) (ci := 2) (j := 1) (N := 2) rfl rfl rfl ((shp_wr _ _ _ _ _).trans hk) (by decide) (Or.inr (Or.inr (Or.inl ⟨rfl, _, rfl⟩))) ?_
  exact g_retV hEnd (gx gp_78 (w := 0x18) rfl (by decide) rfl) ⟨rfl, rfl⟩ (by show kc ≤ kc + _; omega) (by show ks ≤ ks + _; omega)


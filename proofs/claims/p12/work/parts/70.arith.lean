/-! The reference's arithmetic. -/
theorem l_rem {x y : Int64} (hx : 0 ≤ x.toInt) (hy : 0 < y.toInt) : (x - x / y * y).toInt = x.toInt % y.toInt := by
  have h1 := l_div (x := x) hy
  rw [Int.tdiv_eq_ediv_of_nonneg hx] at h1
  have h2 := Int.mul_ediv_self_le (x := x.toInt) (k := y.toInt) (by omega)
  have h3 : 0 ≤ y.toInt * (x.toInt / y.toInt) := Int.mul_nonneg (by omega) (Int.ediv_nonneg hx (by omega))
  have hr := l_rng x
  have h4 : (x / y * y).toInt = y.toInt * (x.toInt / y.toInt) := by
    rw [l_mul (by rw [h1, Int.mul_comm]; omega) (by rw [h1, Int.mul_comm]; omega), h1, Int.mul_comm]
  rw [l_sub (by rw [h4]; omega) (by rw [h4]; omega), h4, Int.emod_def]
theorem gcd_step {x y : Int} (hx : 0 ≤ x) (hy : 0 < y) : Int.gcd y (x % y) = Int.gcd x y := by
  obtain ⟨X, rfl⟩ := Int.eq_ofNat_of_zero_le hx
  obtain ⟨Y, rfl⟩ := Int.eq_ofNat_of_zero_le (Int.le_of_lt hy)
  show Nat.gcd Y ((X : Int) % (Y : Int)).natAbs = Nat.gcd X Y
  rw [show ((X : Int) % (Y : Int)).natAbs = X % Y by rw [← Int.natCast_emod]; rfl, Nat.gcd_comm X Y, Nat.gcd_rec Y X, Nat.gcd_comm]
theorem common_loop {g0 : GG} {bl : Nat} {xs : Nat → Int32} {l : Launch} {wp : va_W} {p : Program} {e : Env} {R : Room} {s : State} {m : MethodId} {args : Array Value} {below : List Frame} {meth : Method} {c : Code} {Q : State → Prop} {kc0 ks0 kc ks f lam KC KS : Nat} {hs : List CE} {a b : Int64} {G : Nat} (act : Act SSX TBL (gp g0 wp) CLS bl xs D_191 p l s m args meth c) (hEnd : EndN SSX TBL (gp g0 wp) CLS D_191 p l e R s m args below meth c Q kc0 ks0 f lam KC KS (fun k r h2 => k = 0 ∧ hs = h2 ∧ ∃ z : Int64, r = some (.long z) ∧ z.toInt = ((G : Nat) : Int))) (hk1 : kc ≤ KC) (hk2 : ks ≤ KS) : ∀ (n : Nat) (x y : Int64), 0 ≤ x.toInt → 0 ≤ y.toInt → y.toInt ≤ (n : Int) → Int.gcd x.toInt y.toInt = G → WpN (gp g0 wp) CLS p l e R s m args below meth c Q D_191.2.2.1 kc0 ks0 28 [some (.long a), none, some (.long b), none, some (.long x), none, some (.long y), none, none, none] (hs, kc, ks) [] := by
  intro n
  induction n using Nat.strongRecOn with
  | ind n ih =>
  intro x y h0 h1 h2 h3
  refine g_loadL act (gx gp_191 (w := 0x6001e06) rfl (by decide) rfl) (a := 6) (n := 30) rfl rfl rfl ?_
  refine g_constL act (gx gp_191 (w := 0x40000000000000002000000001f01) rfl (by decide) rfl) (n := 31) (x := 0) (by decide) rfl ?_
  refine g_lcmp act (gx gp_191 (w := 0x200c) rfl (by decide) rfl) (n := 32) rfl ?_
  refine g_ifEq act (gx gp_191 (w := 0x3500230e) rfl (by decide) rfl) (tgt := 53) (n := 35) rfl rfl (fun h4 => ?_) (fun h4 => ?_)
  · simp only [cmpEq, show (0 : Int64).toInt = 0 from by decide] at h4
    refine g_loadL act (gx gp_191 (w := 0x4003706) rfl (by decide) rfl) (a := 4) (n := 55) rfl rfl rfl ?_
    exact g_retL hEnd (gx gp_191 (w := 0x19) rfl (by decide) rfl) ⟨rfl, rfl, x, rfl, by
      have hz : y.toInt = 0 := h4
      rw [hz] at h3
      rw [← h3, Int.gcd_zero_right]
      omega⟩ hk1 hk2
  · simp only [cmpEq, show (0 : Int64).toInt = 0 from by decide] at h4
    refine g_loadL act (gx gp_191 (w := 0x4002506) rfl (by decide) rfl) (a := 4) (n := 37) rfl rfl rfl ?_
    refine g_loadL act (gx gp_191 (w := 0x6002706) rfl (by decide) rfl) (a := 6) (n := 39) rfl rfl rfl ?_
    refine g_lrem act (gx gp_191 (w := 0x281b) rfl (by decide) rfl) (n := 40) (fun q => h4 (by rw [q]; decide)) rfl ?_
    refine g_storeL act (gx gp_191 (w := 0x8002a0b) rfl (by decide) rfl) (a := 8) (n := 42) rfl rfl (L2 := [some (.long a), none, some (.long b), none, some (.long x), none, some (.long y), none, some (.long (x - x / y * y)), none]) rfl ?_
    refine g_loadL act (gx gp_191 (w := 0x6002c06) rfl (by decide) rfl) (a := 6) (n := 44) rfl rfl rfl ?_
    refine g_storeL act (gx gp_191 (w := 0x4002e0b) rfl (by decide) rfl) (a := 4) (n := 46) rfl rfl (L2 := [some (.long a), none, some (.long b), none, some (.long y), none, some (.long y), none, some (.long (x - x / y * y)), none]) rfl ?_
    refine g_loadL act (gx gp_191 (w := 0x8003006) rfl (by decide) rfl) (a := 8) (n := 48) rfl rfl rfl ?_
    refine g_storeL act (gx gp_191 (w := 0x600320b) rfl (by decide) rfl) (a := 6) (n := 50) rfl rfl (L2 := [some (.long a), none, some (.long b), none, some (.long y), none, some (.long (x - x / y * y)), none, some (.long (x - x / y * y)), none]) rfl ?_
    refine g_goto act (gx gp_191 (w := 0x1c07) rfl (by decide) rfl) (n := 28) rfl ?_
    have hz : y.toInt ≠ 0 := h4
    have hr := l_rem h0 (show 0 < y.toInt by omega)
    have he := Int.emod_lt_of_pos x.toInt (show 0 < y.toInt by omega)
    have he0 := Int.emod_nonneg x.toInt (show y.toInt ≠ 0 from hz)
    match n, h2, ih with
    | 0, h2, _ => exact absurd h2 (by omega)
    | n + 1, h2, ih =>
      exact n_forget (d := D_191) (L2 := [some (.long a), none, some (.long b), none, some (.long y), none, some (.long (x - x / y * y)), none, none, none]) (fun i v hi => by
        match i, hi with
        | 0, hi => exact hi
        | 1, hi => exact hi
        | 2, hi => exact hi
        | 3, hi => exact hi
        | 4, hi => exact hi
        | 5, hi => exact hi
        | 6, hi => exact hi
        | 7, hi => exact hi
        | 8, hi => cases hi
        | 9, hi => cases hi
        | i + 10, hi => cases hi) (ih n (by omega) _ _ (by omega) (by rw [hr]; omega) (by rw [hr]; omega) (by rw [hr, gcd_step h0 (by omega)]; exact h3))
theorem b_common {g0 : GG} {bl : Nat} {xs : Nat → Int32} {l : Launch} {hs : List CE} {a b : Int64} (ha : -9223372036854775808 < a.toInt) (hb : -9223372036854775808 < b.toInt) : BodyN SSX TBL g0 CLS bl xs l D_191 0 0 0 0 [.long a, .long b] hs (fun k r h2 => k = 0 ∧ hs = h2 ∧ ∃ z : Int64, r = some (.long z) ∧ z.toInt = (Int.gcd a.toInt b.toInt : Nat)) := by
  intro wp p e R s m args below meth c Q kc0 ks0 kc ks act hf hl hc hsl hEnd
  have na := l_neg ha
  have nb := l_neg hb
  have ea := (l_cmp (x := a) (y := 0)).2.2.1
  have eb := (l_cmp (x := b) (y := 0)).2.2.1
  rw [l0] at ea eb
  show WpN (gp g0 wp) CLS p l e R s m args below meth c Q D_191.2.2.1 kc0 ks0 0 [some (.long a), none, some (.long b), none, none, none, none, none, none, none] (hs, kc, ks) []
  refine g_loadL act (gx gp_191 (w := 0x106) rfl (by decide) rfl) (a := 0) (n := 1) rfl rfl rfl ?_
  refine g_constL act (gx gp_191 (w := 0x40000000000000002000000000201) rfl (by decide) rfl) (n := 2) (x := 0) (by decide) rfl ?_
  refine g_lcmp act (gx gp_191 (w := 0x30c) rfl (by decide) rfl) (n := 3) rfl ?_
  refine g_ifGe act (gx gp_191 (w := 0xb000614) rfl (by decide) rfl) (tgt := 11) (n := 6) rfl rfl (fun h4 => ?_) (fun h4 => ?_)
  · simp only [cmpGe, show (0 : Int64).toInt = 0 from by decide] at h4
    refine g_loadL act (gx gp_191 (w := 0xc06) rfl (by decide) rfl) (a := 0) (n := 12) rfl rfl rfl ?_
    refine g_storeL act (gx gp_191 (w := 0x4000e0b) rfl (by decide) rfl) (a := 4) (n := 14) rfl rfl (L2 := [some (.long a), none, some (.long b), none, some (.long a), none, none, none, none, none]) rfl ?_
    refine g_loadL act (gx gp_191 (w := 0x2000f06) rfl (by decide) rfl) (a := 2) (n := 15) rfl rfl rfl ?_
    refine g_constL act (gx gp_191 (w := 0x40000000000000002000000001001) rfl (by decide) rfl) (n := 16) (x := 0) (by decide) rfl ?_
    refine g_lcmp act (gx gp_191 (w := 0x110c) rfl (by decide) rfl) (n := 17) rfl ?_
    refine g_ifGe act (gx gp_191 (w := 0x19001414) rfl (by decide) rfl) (tgt := 25) (n := 20) rfl rfl (fun h10 => ?_) (fun h10 => ?_)
    · simp only [cmpGe, show (0 : Int64).toInt = 0 from by decide] at h10
      refine g_loadL act (gx gp_191 (w := 0x2001a06) rfl (by decide) rfl) (a := 2) (n := 26) rfl rfl rfl ?_
      refine g_storeL act (gx gp_191 (w := 0x6001c0b) rfl (by decide) rfl) (a := 6) (n := 28) rfl rfl (L2 := [some (.long a), none, some (.long b), none, some (.long a), none, some (.long b), none, none, none]) rfl ?_
      exact common_loop act hEnd (by omega) (by omega) _ _ _ (by omega) (by omega) (show _ ≤ ((Int64.toInt b).toNat : Int) by omega) (by first | rfl | (rw [na, nb, Int.neg_gcd, Int.gcd_neg]) | (rw [na, Int.neg_gcd]) | (rw [nb, Int.gcd_neg]))
    · simp only [cmpGe, show (0 : Int64).toInt = 0 from by decide] at h10
      refine g_loadL act (gx gp_191 (w := 0x2001506) rfl (by decide) rfl) (a := 2) (n := 21) rfl rfl rfl ?_
      refine g_lneg act (gx gp_191 (w := 0x1625) rfl (by decide) rfl) (n := 22) rfl ?_
      refine g_goto act (gx gp_191 (w := 0x1a07) rfl (by decide) rfl) (n := 26) rfl ?_
      refine g_storeL act (gx gp_191 (w := 0x6001c0b) rfl (by decide) rfl) (a := 6) (n := 28) rfl rfl (L2 := [some (.long a), none, some (.long b), none, some (.long a), none, some (.long (-b)), none, none, none]) rfl ?_
      exact common_loop act hEnd (by omega) (by omega) _ _ _ (by omega) (by omega) (show _ ≤ ((Int64.toInt (-b)).toNat : Int) by omega) (by first | rfl | (rw [na, nb, Int.neg_gcd, Int.gcd_neg]) | (rw [na, Int.neg_gcd]) | (rw [nb, Int.gcd_neg]))
  · simp only [cmpGe, show (0 : Int64).toInt = 0 from by decide] at h4
    refine g_loadL act (gx gp_191 (w := 0x706) rfl (by decide) rfl) (a := 0) (n := 7) rfl rfl rfl ?_
    refine g_lneg act (gx gp_191 (w := 0x825) rfl (by decide) rfl) (n := 8) rfl ?_
    refine g_goto act (gx gp_191 (w := 0xc07) rfl (by decide) rfl) (n := 12) rfl ?_
    refine g_storeL act (gx gp_191 (w := 0x4000e0b) rfl (by decide) rfl) (a := 4) (n := 14) rfl rfl (L2 := [some (.long a), none, some (.long b), none, some (.long (-a)), none, none, none, none, none]) rfl ?_
    refine g_loadL act (gx gp_191 (w := 0x2000f06) rfl (by decide) rfl) (a := 2) (n := 15) rfl rfl rfl ?_
    refine g_constL act (gx gp_191 (w := 0x40000000000000002000000001001) rfl (by decide) rfl) (n := 16) (x := 0) (by decide) rfl ?_
    refine g_lcmp act (gx gp_191 (w := 0x110c) rfl (by decide) rfl) (n := 17) rfl ?_
    refine g_ifGe act (gx gp_191 (w := 0x19001414) rfl (by decide) rfl) (tgt := 25) (n := 20) rfl rfl (fun h24 => ?_) (fun h24 => ?_)
    · simp only [cmpGe, show (0 : Int64).toInt = 0 from by decide] at h24
      refine g_loadL act (gx gp_191 (w := 0x2001a06) rfl (by decide) rfl) (a := 2) (n := 26) rfl rfl rfl ?_
      refine g_storeL act (gx gp_191 (w := 0x6001c0b) rfl (by decide) rfl) (a := 6) (n := 28) rfl rfl (L2 := [some (.long a), none, some (.long b), none, some (.long (-a)), none, some (.long b), none, none, none]) rfl ?_
      exact common_loop act hEnd (by omega) (by omega) _ _ _ (by omega) (by omega) (show _ ≤ ((Int64.toInt b).toNat : Int) by omega) (by first | rfl | (rw [na, nb, Int.neg_gcd, Int.gcd_neg]) | (rw [na, Int.neg_gcd]) | (rw [nb, Int.gcd_neg]))
    · simp only [cmpGe, show (0 : Int64).toInt = 0 from by decide] at h24
      refine g_loadL act (gx gp_191 (w := 0x2001506) rfl (by decide) rfl) (a := 2) (n := 21) rfl rfl rfl ?_
      refine g_lneg act (gx gp_191 (w := 0x1625) rfl (by decide) rfl) (n := 22) rfl ?_
      refine g_goto act (gx gp_191 (w := 0x1a07) rfl (by decide) rfl) (n := 26) rfl ?_
      refine g_storeL act (gx gp_191 (w := 0x6001c0b) rfl (by decide) rfl) (a := 6) (n := 28) rfl rfl (L2 := [some (.long a), none, some (.long b), none, some (.long (-a)), none, some (.long (-b)), none, none, none]) rfl ?_
      exact common_loop act hEnd (by omega) (by omega) _ _ _ (by omega) (by omega) (show _ ≤ ((Int64.toInt (-b)).toNat : Int) by omega) (by first | rfl | (rw [na, nb, Int.neg_gcd, Int.gcd_neg]) | (rw [na, Int.neg_gcd]) | (rw [nb, Int.gcd_neg]))
theorem l_divg {x y : Int64} (hx : -9223372036854775808 < x.toInt) : (x / y).toInt = x.toInt.tdiv y.toInt := Int64.toInt_div_of_ne_left x y (fun q => by rw [q] at hx; exact absurd hx (by decide))
/-- a fraction, told by two longs in lowest terms -/
def FR (t w : Int64) (q : Rat) : Prop := t.toInt = q.num ∧ w.toInt = (q.den : Int)
theorem FR.pos {t w : Int64} {q : Rat} (h : FR t w q) : 0 < w.toInt := by rw [h.2]; have := q.den_pos; omega
theorem fr_is {n d : Int} (hd : d ≠ 0) : (d < 0 → n.tdiv (-(Int.gcd n d : Int)) = ((Rat.divInt n d)).num ∧ d.tdiv (-(Int.gcd n d : Int)) = (((Rat.divInt n d)).den : Int)) ∧ (¬ d < 0 → n.tdiv (Int.gcd n d : Int) = ((Rat.divInt n d)).num ∧ d.tdiv (Int.gcd n d : Int) = (((Rat.divInt n d)).den : Int)) := by
  have hg : 0 < Int.gcd n d := Int.gcd_pos_of_ne_zero_right _ hd
  obtain ⟨n', hn'⟩ := Int.gcd_dvd_left n d
  obtain ⟨d', hd'⟩ := Int.gcd_dvd_right n d
  generalize hG : Int.gcd n d = g at hg hn' hd'
  have hgi : (g : Int) ≠ 0 := by omega
  have hg1 : Int.gcd n' d' = 1 := by
    have h2 : Int.gcd ((g : Int) * n') ((g : Int) * d') = g := by rw [← hn', ← hd']; exact hG
    rw [Int.gcd_mul_left, Int.natAbs_natCast] at h2
    exact Nat.eq_of_mul_eq_mul_left hg (by omega)
  have hd0 : d' ≠ 0 := fun q => hd (by rw [hd', q, Int.mul_zero])
  have e : (Rat.divInt n d) = (Rat.divInt n' d') := by rw [hn', hd']; exact Rat.divInt_mul_left hgi
  have num : ((Rat.divInt n d)).num = d'.sign * n' := by rw [e, Rat.num_divInt, Int.gcd_comm, hg1]; simp
  have den : (((Rat.divInt n d)).den : Int) = (d'.natAbs : Int) := by rw [e, Rat.den_divInt, if_neg hd0, Int.gcd_comm, hg1]; simp
  have t1 : n.tdiv (g : Int) = n' := by rw [hn']; exact Int.mul_tdiv_cancel_left _ hgi
  have t2 : d.tdiv (g : Int) = d' := by rw [hd']; exact Int.mul_tdiv_cancel_left _ hgi
  have hs : d < 0 ↔ d' < 0 := by
    rw [hd']
    constructor
    · intro q
      rcases Int.lt_or_le d' 0 with h | h
      · exact h
      · have := Int.mul_nonneg (show (0 : Int) ≤ g by omega) h
        omega
    · intro q
      exact Int.mul_neg_of_pos_of_neg (by omega) q
  rw [hs, num, den]
  refine ⟨fun q => ⟨?_, ?_⟩, fun q => ⟨?_, ?_⟩⟩
  · rw [Int.tdiv_neg, t1, Int.sign_eq_neg_one_of_neg q]; omega
  · rw [Int.tdiv_neg, t2]; omega
  · rw [t1, Int.sign_eq_one_of_pos (by omega)]; omega
  · rw [t2]; omega
theorem b_is {g0 : GG} {bl : Nat} {xs : Nat → Int32} {l : Launch} {hs : List CE} {k : Nat} {n d : Int64} (hk : shp hs k = some (9, 39)) (hn0 : -9223372036854775808 < n.toInt) (hd0 : -9223372036854775808 < d.toInt) (hdz : d.toInt ≠ 0) : BodyN SSX TBL g0 CLS bl xs l D_218 1 29 0 0 [.ref k, .long n, .long d] hs (fun kd r h2 => kd = 0 ∧ ∃ t w : Int64, h2 = wr (wr hs k 7 (.long t)) k 8 (.long w) ∧ FR t w ((Rat.divInt n.toInt d.toInt))) := by
  intro wp p e R s m args below meth c Q kc0 ks0 kc ks act hf hl hc hsl hEnd
  show WpN (gp g0 wp) CLS p l e R s m args below meth c Q D_218.2.2.1 kc0 ks0 0 [some (.ref k), some (.long n), none, some (.long d), none, none, none] (hs, kc, ks) []
  refine g_loadL act (gx gp_218 (w := 0x1000106) rfl (by decide) rfl) (a := 1) (n := 1) rfl rfl rfl ?_
  refine g_loadL act (gx gp_218 (w := 0x3000206) rfl (by decide) rfl) (a := 3) (n := 2) rfl rfl rfl ?_
  refine n_call tb_pres act hEnd (gx (P := G_call) gp_218 (w := 0x428420000bf00050f) rfl (by decide) rfl) (d' := D_191) rfl (as := [.long n, .long d]) (rest := []) (b_common hn0 hd0) (show (2 : Nat) = fb 0x428420000bf00050f % 16 by decide) (by show (4 : Nat) ≤ 10; decide) (fun q => absurd q (by decide)) (by omega) (by show 8 + (10 + 11) + 0 ≤ R.locals; omega) (by show (0 : Nat) ≤ 8; decide) (by show kc + 0 ≤ _; omega) (by show ks + 0 ≤ _; omega) (fun r9 hs9 hpo hr9 => ?_) (fun x9 hs9 hx9 hpo => ?_)
  · obtain ⟨-, rfl, z, rfl, hz⟩ := hpo
    have gp9 : 0 < z.toInt := by rw [hz]; have := Int.gcd_pos_of_ne_zero_right n.toInt hdz; omega
    have nz9 := l_neg (x := z) (by omega)
    show WpN (gp g0 wp) CLS p l e R s m args below meth c Q D_218.2.2.1 kc0 ks0 5 [some (.ref k), some (.long n), none, some (.long d), none, none, none] (hs, kc, ks) [.long z]
    refine g_storeL act (gx gp_218 (w := 0x500070b) rfl (by decide) rfl) (a := 5) (n := 7) rfl rfl (L2 := [some (.ref k), some (.long n), none, some (.long d), none, some (.long z), none]) rfl ?_
    refine g_loadL act (gx gp_218 (w := 0x3000806) rfl (by decide) rfl) (a := 3) (n := 8) rfl rfl rfl ?_
    refine g_constL act (gx gp_218 (w := 0x40000000000000002000000000901) rfl (by decide) rfl) (n := 9) (x := 0) (by decide) rfl ?_
    refine g_lcmp act (gx gp_218 (w := 0xa0c) rfl (by decide) rfl) (n := 10) rfl ?_
    refine g_ifGe act (gx gp_218 (w := 0x13000d14) rfl (by decide) rfl) (tgt := 19) (n := 13) rfl rfl (fun h7 => ?_) (fun h7 => ?_)
    · simp only [cmpGe, show (0 : Int64).toInt = 0 from by decide] at h7
      refine g_loadL act (gx gp_218 (w := 0x5001506) rfl (by decide) rfl) (a := 5) (n := 21) rfl rfl rfl ?_
      refine g_storeL act (gx gp_218 (w := 0x500170b) rfl (by decide) rfl) (a := 5) (n := 23) rfl rfl (L2 := [some (.ref k), some (.long n), none, some (.long d), none, some (.long z), none]) rfl ?_
      refine g_loadA act (gx gp_218 (w := 0x1803) rfl (by decide) rfl) (a := 0) (n := 24) rfl rfl rfl ?_
      refine g_loadL act (gx gp_218 (w := 0x1001906) rfl (by decide) rfl) (a := 1) (n := 25) rfl rfl rfl ?_
      refine g_loadL act (gx gp_218 (w := 0x5001b06) rfl (by decide) rfl) (a := 5) (n := 27) rfl rfl rfl ?_
      refine g_ldiv act (gx gp_218 (w := 0x1c16) rfl (by decide) rfl) (n := 28) (fun q => by have q2 := congrArg Int64.toInt q; rw [l0] at q2; omega) rfl ?_
      refine r_putf act (gx gp_218 (w := 0x20001c9001f13) rfl (by decide) rfl) (n := 31) (ci := 9) (j := 7) (N := 39) rfl rfl rfl hk (by decide) (Or.inr (Or.inr (Or.inl ⟨rfl, _, rfl⟩))) ?_
      refine g_loadA act (gx gp_218 (w := 0x2003) rfl (by decide) rfl) (a := 0) (n := 32) rfl rfl rfl ?_
      refine g_loadL act (gx gp_218 (w := 0x3002106) rfl (by decide) rfl) (a := 3) (n := 33) rfl rfl rfl ?_
      refine g_loadL act (gx gp_218 (w := 0x5002306) rfl (by decide) rfl) (a := 5) (n := 35) rfl rfl rfl ?_
      refine g_ldiv act (gx gp_218 (w := 0x2416) rfl (by decide) rfl) (n := 36) (fun q => by have q2 := congrArg Int64.toInt q; rw [l0] at q2; omega) rfl ?_
      refine r_putf act (gx gp_218 (w := 0x2000209002713) rfl (by decide) rfl) (n := 39) (ci := 9) (j := 8) (N := 39) rfl rfl rfl (by rw [shp_wr]; exact hk) (by decide) (Or.inr (Or.inr (Or.inl ⟨rfl, _, rfl⟩))) ?_
      exact g_retV hEnd (gx gp_218 (w := 0x18) rfl (by decide) rfl) ⟨rfl, _, _, rfl, ⟨by rw [l_divg hn0, hz]; exact ((fr_is (n := n.toInt) hdz).2 (by omega)).1, by rw [l_divg hd0, hz]; exact ((fr_is (n := n.toInt) hdz).2 (by omega)).2⟩⟩ (by show kc ≤ kc + 0; omega) (by show ks ≤ ks + 0; omega)
    · simp only [cmpGe, show (0 : Int64).toInt = 0 from by decide] at h7
      refine g_loadL act (gx gp_218 (w := 0x5000f06) rfl (by decide) rfl) (a := 5) (n := 15) rfl rfl rfl ?_
      refine g_lneg act (gx gp_218 (w := 0x1025) rfl (by decide) rfl) (n := 16) rfl ?_
      refine g_goto act (gx gp_218 (w := 0x1507) rfl (by decide) rfl) (n := 21) rfl ?_
      refine g_storeL act (gx gp_218 (w := 0x500170b) rfl (by decide) rfl) (a := 5) (n := 23) rfl rfl (L2 := [some (.ref k), some (.long n), none, some (.long d), none, some (.long (-z)), none]) rfl ?_
      refine g_loadA act (gx gp_218 (w := 0x1803) rfl (by decide) rfl) (a := 0) (n := 24) rfl rfl rfl ?_
      refine g_loadL act (gx gp_218 (w := 0x1001906) rfl (by decide) rfl) (a := 1) (n := 25) rfl rfl rfl ?_
      refine g_loadL act (gx gp_218 (w := 0x5001b06) rfl (by decide) rfl) (a := 5) (n := 27) rfl rfl rfl ?_
      refine g_ldiv act (gx gp_218 (w := 0x1c16) rfl (by decide) rfl) (n := 28) (fun q => by have q2 := congrArg Int64.toInt q; rw [l0] at q2; omega) rfl ?_
      refine r_putf act (gx gp_218 (w := 0x20001c9001f13) rfl (by decide) rfl) (n := 31) (ci := 9) (j := 7) (N := 39) rfl rfl rfl hk (by decide) (Or.inr (Or.inr (Or.inl ⟨rfl, _, rfl⟩))) ?_
      refine g_loadA act (gx gp_218 (w := 0x2003) rfl (by decide) rfl) (a := 0) (n := 32) rfl rfl rfl ?_
      refine g_loadL act (gx gp_218 (w := 0x3002106) rfl (by decide) rfl) (a := 3) (n := 33) rfl rfl rfl ?_
      refine g_loadL act (gx gp_218 (w := 0x5002306) rfl (by decide) rfl) (a := 5) (n := 35) rfl rfl rfl ?_
      refine g_ldiv act (gx gp_218 (w := 0x2416) rfl (by decide) rfl) (n := 36) (fun q => by have q2 := congrArg Int64.toInt q; rw [l0] at q2; omega) rfl ?_
      refine r_putf act (gx gp_218 (w := 0x2000209002713) rfl (by decide) rfl) (n := 39) (ci := 9) (j := 8) (N := 39) rfl rfl rfl (by rw [shp_wr]; exact hk) (by decide) (Or.inr (Or.inr (Or.inl ⟨rfl, _, rfl⟩))) ?_
      exact g_retV hEnd (gx gp_218 (w := 0x18) rfl (by decide) rfl) ⟨rfl, _, _, rfl, ⟨by rw [l_divg hn0, nz9, hz]; exact ((fr_is (n := n.toInt) hdz).1 (by omega)).1, by rw [l_divg hd0, nz9, hz]; exact ((fr_is (n := n.toInt) hdz).1 (by omega)).2⟩⟩ (by show kc ≤ kc + 0; omega) (by show ks ≤ ks + 0; omega)
  · exact absurd hpo.1 (by omega)
theorem fr_q {t w : Int64} {q : Rat} (h : FR t w q) : (Rat.divInt t.toInt w.toInt) = q := by rw [h.1, h.2]; exact Rat.num_divInt_den q
theorem gd {b g : Int} (hg : 0 < g) (hd : g ∣ b) : b.tdiv g * g = b := Int.tdiv_mul_cancel hd
theorem gd_le {b g : Int} (hb : 0 < b) (hg : 0 < g) (hd : g ∣ b) : 0 < b.tdiv g ∧ b.tdiv g ≤ b := by
  have h := gd hg hd
  have h1 : b.tdiv g ≤ b := Int.tdiv_le_self _ (by omega)
  refine ⟨?_, h1⟩
  rcases Int.lt_or_le 0 (b.tdiv g) with q | q
  · exact q
  · have := Int.mul_nonneg (show 0 ≤ -(b.tdiv g) by omega) (show 0 ≤ g by omega)
    rw [Int.neg_mul, h] at this
    omega
theorem fr_plus {a b c d g : Int} (hb : 0 < b) (hd : 0 < d) (hg : 0 < g) (h1 : g ∣ b) (h2 : g ∣ d) : (Rat.divInt (a * d.tdiv g + c * b.tdiv g) (b.tdiv g * d)) = (Rat.divInt a b) + (Rat.divInt c d) := by
  rw [Rat.divInt_add_divInt _ _ (by omega) (by omega), ← Rat.divInt_mul_left (a := g) (by omega)]
  have e1 := gd hg h1
  have e2 := gd hg h2
  congr 1
  · rw [Int.mul_add]
    rw [show g * (a * d.tdiv g) = a * (d.tdiv g * g) by rw [Int.mul_comm g, Int.mul_assoc], show g * (c * b.tdiv g) = c * (b.tdiv g * g) by rw [Int.mul_comm g, Int.mul_assoc], e1, e2]
  · rw [← Int.mul_assoc, Int.mul_comm g, e1]
theorem mul_le (a : Int) {x y : Int} (h0 : 0 ≤ x) (h1 : x ≤ y) : a * x ≤ a.natAbs * y ∧ -(a.natAbs * y) ≤ a * x := by
  have h2 : (a.natAbs : Int) * x ≤ a.natAbs * y := Int.mul_le_mul_of_nonneg_left h1 (by omega)
  rcases Int.le_total 0 a with q | q
  · have e : (a.natAbs : Int) = a := by omega
    rw [e] at h2 ⊢
    have := Int.mul_nonneg q h0
    omega
  · have e : (a.natAbs : Int) = -a := by omega
    rw [e] at h2 ⊢
    have := Int.mul_nonneg (show 0 ≤ -a by omega) h0
    simp only [Int.neg_mul] at this h2 ⊢
    omega
theorem b_plus {g0 : GG} {bl : Nat} {xs : Nat → Int32} {l : Launch} {hs : List CE} {k : Nat} {a b c1 d : Int64} {q1 q2 : Rat} (hk : shp hs k = some (9, 39)) (h1 : FR a b q1) (h2 : FR c1 d q2) (hB1 : (a.toInt.natAbs : Int) * d.toInt + (c1.toInt.natAbs : Int) * b.toInt < 9223372036854775808) (hB2 : (d.toInt.natAbs : Int) * b.toInt < 9223372036854775808) : BodyN SSX TBL g0 CLS bl xs l D_252 2 55 0 0 [.ref k, .long a, .long b, .long c1, .long d] hs (fun kd r h2 => kd = 0 ∧ ∃ t w : Int64, h2 = wr (wr hs k 7 (.long t)) k 8 (.long w) ∧ FR t w (q1 + q2)) := by
  intro wp p e R s m args below meth c Q kc0 ks0 kc ks act hf hl hc hsl hEnd
  have hb0 := h1.pos
  have hd0 := h2.pos
  have n1 := Int.mul_nonneg (show (0 : Int) ≤ a.toInt.natAbs by omega) (show 0 ≤ d.toInt by omega)
  have n2 := Int.mul_nonneg (show (0 : Int) ≤ c1.toInt.natAbs by omega) (show 0 ≤ b.toInt by omega)
  show WpN (gp g0 wp) CLS p l e R s m args below meth c Q D_252.2.2.1 kc0 ks0 0 [some (.ref k), some (.long a), none, some (.long b), none, some (.long c1), none, some (.long d), none, none, none] (hs, kc, ks) []
  refine g_loadL act (gx gp_252 (w := 0x3000106) rfl (by decide) rfl) (a := 3) (n := 1) rfl rfl rfl ?_
  refine g_loadL act (gx gp_252 (w := 0x7000306) rfl (by decide) rfl) (a := 7) (n := 3) rfl rfl rfl ?_
  refine n_call tb_pres act hEnd (gx (P := G_call) gp_252 (w := 0x428420000bf00060f) rfl (by decide) rfl) (d' := D_191) rfl (as := [.long b, .long d]) (rest := []) (b_common (by omega) (by omega)) (show (2 : Nat) = fb 0x428420000bf00060f % 16 by decide) (by show (4 : Nat) ≤ 10; decide) (fun q => absurd q (by decide)) (by omega) (by show 8 + (10 + 11) + 0 ≤ R.locals; omega) (by show (0 : Nat) ≤ 8; decide) (by show kc + 0 ≤ _; omega) (by show ks + 0 ≤ _; omega) (fun r9 hs9 hpo hr9 => ?_) (fun x9 hs9 hx9 hpo => ?_)
  · obtain ⟨-, rfl, z, rfl, hz⟩ := hpo
    have gp9 : 0 < z.toInt := by rw [hz]; have := Int.gcd_pos_of_ne_zero_right b.toInt (show d.toInt ≠ 0 by omega); omega
    have dv1 : z.toInt ∣ b.toInt := by rw [hz]; exact Int.gcd_dvd_left ..
    have dv2 : z.toInt ∣ d.toInt := by rw [hz]; exact Int.gcd_dvd_right ..
    have k1 := gd_le hb0 gp9 dv1
    have k2 := gd_le hd0 gp9 dv2
    have e1 := l_divg (x := b) (y := z) (by omega)
    have e2 := l_divg (x := d) (y := z) (by omega)
    have m1 := mul_le a.toInt (show 0 ≤ d.toInt.tdiv z.toInt by omega) k2.2
    have m2 := mul_le c1.toInt (show 0 ≤ b.toInt.tdiv z.toInt by omega) k1.2
    have m3 := mul_le d.toInt (show 0 ≤ b.toInt.tdiv z.toInt by omega) k1.2
    have f1 : (a * (d / z)).toInt = a.toInt * d.toInt.tdiv z.toInt := by rw [l_mul (by rw [e2]; omega) (by rw [e2]; omega), e2]
    have f2 : (c1 * (b / z)).toInt = c1.toInt * b.toInt.tdiv z.toInt := by rw [l_mul (by rw [e1]; omega) (by rw [e1]; omega), e1]
    have f3 : (b / z * d).toInt = b.toInt.tdiv z.toInt * d.toInt := by rw [l_mul (by rw [e1, Int.mul_comm]; omega) (by rw [e1, Int.mul_comm]; omega), e1]
    have f4 : (a * (d / z) + c1 * (b / z)).toInt = a.toInt * d.toInt.tdiv z.toInt + c1.toInt * b.toInt.tdiv z.toInt := by rw [l_add (by rw [f1, f2]; omega) (by rw [f1, f2]; omega), f1, f2]
    have f5 : 0 < b.toInt.tdiv z.toInt * d.toInt := Int.mul_pos k1.1 hd0
    show WpN (gp g0 wp) CLS p l e R s m args below meth c Q D_252.2.2.1 kc0 ks0 6 [some (.ref k), some (.long a), none, some (.long b), none, some (.long c1), none, some (.long d), none, none, none] (hs, kc, ks) [.long z]
    refine g_storeL act (gx gp_252 (w := 0x900080b) rfl (by decide) rfl) (a := 9) (n := 8) rfl rfl (L2 := [some (.ref k), some (.long a), none, some (.long b), none, some (.long c1), none, some (.long d), none, some (.long z), none]) rfl ?_
    refine g_loadA act (gx gp_252 (w := 0x903) rfl (by decide) rfl) (a := 0) (n := 9) rfl rfl rfl ?_
    refine g_loadL act (gx gp_252 (w := 0x1000a06) rfl (by decide) rfl) (a := 1) (n := 10) rfl rfl rfl ?_
    refine g_loadL act (gx gp_252 (w := 0x7000c06) rfl (by decide) rfl) (a := 7) (n := 12) rfl rfl rfl ?_
    refine g_loadL act (gx gp_252 (w := 0x9000e06) rfl (by decide) rfl) (a := 9) (n := 14) rfl rfl rfl ?_
    refine g_ldiv act (gx gp_252 (w := 0xf16) rfl (by decide) rfl) (n := 15) (fun q => by have q2 := congrArg Int64.toInt q; rw [l0] at q2; omega) rfl ?_
    refine g_lmul act (gx gp_252 (w := 0x1015) rfl (by decide) rfl) (n := 16) rfl ?_
    refine g_loadL act (gx gp_252 (w := 0x5001206) rfl (by decide) rfl) (a := 5) (n := 18) rfl rfl rfl ?_
    refine g_loadL act (gx gp_252 (w := 0x3001306) rfl (by decide) rfl) (a := 3) (n := 19) rfl rfl rfl ?_
    refine g_loadL act (gx gp_252 (w := 0x9001506) rfl (by decide) rfl) (a := 9) (n := 21) rfl rfl rfl ?_
    refine g_ldiv act (gx gp_252 (w := 0x1616) rfl (by decide) rfl) (n := 22) (fun q => by have q2 := congrArg Int64.toInt q; rw [l0] at q2; omega) rfl ?_
    refine g_lmul act (gx gp_252 (w := 0x1715) rfl (by decide) rfl) (n := 23) rfl ?_
    refine g_ladd act (gx gp_252 (w := 0x181f) rfl (by decide) rfl) (n := 24) rfl ?_
    refine g_loadL act (gx gp_252 (w := 0x3001906) rfl (by decide) rfl) (a := 3) (n := 25) rfl rfl rfl ?_
    refine g_loadL act (gx gp_252 (w := 0x9001b06) rfl (by decide) rfl) (a := 9) (n := 27) rfl rfl rfl ?_
    refine g_ldiv act (gx gp_252 (w := 0x1c16) rfl (by decide) rfl) (n := 28) (fun q => by have q2 := congrArg Int64.toInt q; rw [l0] at q2; omega) rfl ?_
    refine g_loadL act (gx gp_252 (w := 0x7001e06) rfl (by decide) rfl) (a := 7) (n := 30) rfl rfl rfl ?_
    refine g_lmul act (gx gp_252 (w := 0x1f15) rfl (by decide) rfl) (n := 31) rfl ?_
    refine n_call tb_pres act hEnd (gx (P := G_call) gp_252 (w := 0xa00000000000081c530000da00220f) rfl (by decide) rfl) (d' := D_218) rfl (as := [.ref k, .long ((a * (d / z)) + (c1 * (b / z))), .long ((b / z) * d)]) (rest := []) (b_is hk (by rw [f4]; omega) (by rw [f3]; omega) (by rw [f3]; omega)) (show (3 : Nat) = fb 0xa00000000000081c530000da00220f % 16 by decide) (by show (5 : Nat) ≤ 7; decide) (fun _ => ⟨_, _, rfl, _, shp_at hk, Or.inr (show fb 0xa00000000000081c530000da00220f >>> 68 = 10 by decide)⟩) (by omega) (by show 8 + (7 + 11) + 29 ≤ R.locals; omega) (by show (0 : Nat) ≤ 8; decide) (by show kc + 0 ≤ _; omega) (by show ks + 0 ≤ _; omega) (fun r9 hs9 hpo hr9 => ?_) (fun x9 hs9 hx9 hpo => ?_)
    · obtain rfl : r9 = none := hr9.elim (fun q => q.2) (fun q => absurd rfl q.1)
      obtain ⟨-, t, w2, rfl, hf9⟩ := hpo
      rw [f4, f3, fr_plus hb0 hd0 gp9 dv1 dv2, fr_q h1, fr_q h2] at hf9
      show WpN (gp g0 wp) CLS p l e R s m args below meth c Q D_252.2.2.1 kc0 ks0 34 [some (.ref k), some (.long a), none, some (.long b), none, some (.long c1), none, some (.long d), none, some (.long z), none] ((wr (wr hs k 7 (.long t)) k 8 (.long w2)), kc, ks) []
      exact g_retV hEnd (gx gp_252 (w := 0x18) rfl (by decide) rfl) ⟨rfl, t, w2, rfl, hf9⟩ (by show kc ≤ kc + 0; omega) (by show ks ≤ ks + 0; omega)
    · exact absurd hpo.1 (by omega)
  · exact absurd hpo.1 (by omega)
theorem tdiv_abs (x : Int) {g : Int} (hg : 0 < g) : (x.tdiv g).natAbs ≤ x.natAbs := by
  rw [Int.natAbs_tdiv]
  exact Nat.div_le_self _ _
theorem mul_abs {x y : Int} {a b : Nat} (h1 : x.natAbs ≤ a) (h2 : y.natAbs ≤ b) : x * y ≤ (a : Int) * b ∧ -((a : Int) * b) ≤ x * y := by
  have h := Nat.mul_le_mul h1 h2
  rw [← Int.natAbs_mul] at h
  have e : ((a * b : Nat) : Int) = (a : Int) * b := by rw [Int.natCast_mul]
  rw [← e]
  omega
theorem fr_times {a b c d g1 g2 : Int} (hb : b ≠ 0) (hd : d ≠ 0) (k1 : 0 < g1) (k2 : 0 < g2) (h1 : g1 ∣ a) (h2 : g1 ∣ d) (h3 : g2 ∣ c) (h4 : g2 ∣ b) : (Rat.divInt (a.tdiv g1 * c.tdiv g2) (b.tdiv g2 * d.tdiv g1)) = (Rat.divInt a b) * ((Rat.divInt c d)) := by
  rw [Rat.divInt_mul_divInt, ← Rat.divInt_mul_left (a := g1 * g2) (Int.mul_ne_zero (by omega) (by omega))]
  have e1 := gd k1 h1
  have e2 := gd k1 h2
  have e3 := gd k2 h3
  have e4 := gd k2 h4
  congr 1
  · rw [show g1 * g2 * (a.tdiv g1 * c.tdiv g2) = (a.tdiv g1 * g1) * (c.tdiv g2 * g2) by grind, e1, e3]
  · rw [show g1 * g2 * (b.tdiv g2 * d.tdiv g1) = (b.tdiv g2 * g2) * (d.tdiv g1 * g1) by grind, e4, e2]
theorem b_times {g0 : GG} {bl : Nat} {xs : Nat → Int32} {l : Launch} {hs : List CE} {k : Nat} {a b c1 d : Int64} {q1 : Rat} (hk : shp hs k = some (9, 39)) (h1 : FR a b q1) (hdz : d.toInt ≠ 0) (hc9 : -9223372036854775808 < c1.toInt) (hd9 : -9223372036854775808 < d.toInt) (hB1 : (a.toInt.natAbs : Int) * (c1.toInt.natAbs : Int) < 9223372036854775808) (hB2 : (b.toInt.natAbs : Int) * (d.toInt.natAbs : Int) < 9223372036854775808) (ha9 : -9223372036854775808 < a.toInt) : BodyN SSX TBL g0 CLS bl xs l D_282 2 55 0 0 [.ref k, .long a, .long b, .long c1, .long d] hs (fun kd r h2 => kd = 0 ∧ ∃ t w : Int64, h2 = wr (wr hs k 7 (.long t)) k 8 (.long w) ∧ FR t w (q1 * ((Rat.divInt c1.toInt d.toInt)))) := by
  intro wp p e R s m args below meth c Q kc0 ks0 kc ks act hf hl hc hsl hEnd
  have hb0 := h1.pos
  show WpN (gp g0 wp) CLS p l e R s m args below meth c Q D_282.2.2.1 kc0 ks0 0 [some (.ref k), some (.long a), none, some (.long b), none, some (.long c1), none, some (.long d), none, none, none, none, none] (hs, kc, ks) []
  refine g_loadL act (gx gp_282 (w := 0x1000106) rfl (by decide) rfl) (a := 1) (n := 1) rfl rfl rfl ?_
  refine g_loadL act (gx gp_282 (w := 0x7000306) rfl (by decide) rfl) (a := 7) (n := 3) rfl rfl rfl ?_
  refine n_call tb_pres act hEnd (gx (P := G_call) gp_282 (w := 0x428420000bf00060f) rfl (by decide) rfl) (d' := D_191) rfl (as := [.long a, .long d]) (rest := []) (b_common ha9 hd9) (show (2 : Nat) = fb 0x428420000bf00060f % 16 by decide) (by show (4 : Nat) ≤ 10; decide) (fun q => absurd q (by decide)) (by omega) (by show 8 + (10 + 11) + 0 ≤ R.locals; omega) (by show (0 : Nat) ≤ 8; decide) (by show kc + 0 ≤ _; omega) (by show ks + 0 ≤ _; omega) (fun r9 hs9 hpo hr9 => ?_) (fun x9 hs9 hx9 hpo => ?_)
  · obtain ⟨-, rfl, z1, rfl, hz1⟩ := hpo
    have gp1 : 0 < z1.toInt := by rw [hz1]; have := Int.gcd_pos_of_ne_zero_right a.toInt hdz; omega
    have dv1 : z1.toInt ∣ a.toInt := by rw [hz1]; exact Int.gcd_dvd_left ..
    have dv2 : z1.toInt ∣ d.toInt := by rw [hz1]; exact Int.gcd_dvd_right ..
    show WpN (gp g0 wp) CLS p l e R s m args below meth c Q D_282.2.2.1 kc0 ks0 6 [some (.ref k), some (.long a), none, some (.long b), none, some (.long c1), none, some (.long d), none, none, none, none, none] (hs, kc, ks) [.long z1]
    refine g_storeL act (gx gp_282 (w := 0x900080b) rfl (by decide) rfl) (a := 9) (n := 8) rfl rfl (L2 := [some (.ref k), some (.long a), none, some (.long b), none, some (.long c1), none, some (.long d), none, some (.long z1), none, none, none]) rfl ?_
    refine g_loadL act (gx gp_282 (w := 0x5000a06) rfl (by decide) rfl) (a := 5) (n := 10) rfl rfl rfl ?_
    refine g_loadL act (gx gp_282 (w := 0x3000b06) rfl (by decide) rfl) (a := 3) (n := 11) rfl rfl rfl ?_
    refine n_call tb_pres act hEnd (gx (P := G_call) gp_282 (w := 0x428420000bf000e0f) rfl (by decide) rfl) (d' := D_191) rfl (as := [.long c1, .long b]) (rest := []) (b_common hc9 (by omega)) (show (2 : Nat) = fb 0x428420000bf000e0f % 16 by decide) (by show (4 : Nat) ≤ 10; decide) (fun q => absurd q (by decide)) (by omega) (by show 8 + (10 + 11) + 0 ≤ R.locals; omega) (by show (0 : Nat) ≤ 8; decide) (by show kc + 0 ≤ _; omega) (by show ks + 0 ≤ _; omega) (fun r9 hs9 hpo hr9 => ?_) (fun x9 hs9 hx9 hpo => ?_)
    · obtain ⟨-, rfl, z2, rfl, hz2⟩ := hpo
      have gp2 : 0 < z2.toInt := by rw [hz2]; have := Int.gcd_pos_of_ne_zero_right c1.toInt (show b.toInt ≠ 0 by omega); omega
      have dv3 : z2.toInt ∣ c1.toInt := by rw [hz2]; exact Int.gcd_dvd_left ..
      have dv4 : z2.toInt ∣ b.toInt := by rw [hz2]; exact Int.gcd_dvd_right ..
      have e1 := l_divg (x := a) (y := z1) ha9
      have e2 := l_divg (x := c1) (y := z2) hc9
      have e3 := l_divg (x := b) (y := z2) (by omega)
      have e4 := l_divg (x := d) (y := z1) hd9
      have a1 := tdiv_abs a.toInt gp1
      have a2 := tdiv_abs c1.toInt gp2
      have a3 := tdiv_abs b.toInt gp2
      have a4 := tdiv_abs d.toInt gp1
      have m1 := mul_abs a1 a2
      have m2 := mul_abs a3 a4
      have f1 : (a / z1 * (c1 / z2)).toInt = a.toInt.tdiv z1.toInt * c1.toInt.tdiv z2.toInt := by rw [l_mul (by rw [e1, e2]; omega) (by rw [e1, e2]; omega), e1, e2]
      have f2 : (b / z2 * (d / z1)).toInt = b.toInt.tdiv z2.toInt * d.toInt.tdiv z1.toInt := by rw [l_mul (by rw [e3, e4]; omega) (by rw [e3, e4]; omega), e3, e4]
      have f3 : b.toInt.tdiv z2.toInt * d.toInt.tdiv z1.toInt ≠ 0 := by
        have g1 := gd gp2 dv4
        have g2 := gd gp1 dv2
        intro q
        rcases Int.mul_eq_zero.mp q with q | q
        · rw [q, Int.zero_mul] at g1; omega
        · rw [q, Int.zero_mul] at g2; omega
      show WpN (gp g0 wp) CLS p l e R s m args below meth c Q D_282.2.2.1 kc0 ks0 14 [some (.ref k), some (.long a), none, some (.long b), none, some (.long c1), none, some (.long d), none, some (.long z1), none, none, none] (hs, kc, ks) [.long z2]
      refine g_storeL act (gx gp_282 (w := 0xb00100b) rfl (by decide) rfl) (a := 11) (n := 16) rfl rfl (L2 := [some (.ref k), some (.long a), none, some (.long b), none, some (.long c1), none, some (.long d), none, some (.long z1), none, some (.long z2), none]) rfl ?_
      refine g_loadL act (gx gp_282 (w := 0x9001206) rfl (by decide) rfl) (a := 9) (n := 18) rfl rfl rfl ?_
      refine g_constL act (gx gp_282 (w := 0x40000000000000002000000001301) rfl (by decide) rfl) (n := 19) (x := 0) (by decide) rfl ?_
      refine g_lcmp act (gx gp_282 (w := 0x140c) rfl (by decide) rfl) (n := 20) rfl ?_
      refine g_ifNe act (gx gp_282 (w := 0x1b00171d) rfl (by decide) rfl) (tgt := 27) (n := 23) rfl rfl (fun h10 => ?_) (fun h10 => ?_)
      · simp only [cmpEq, show (0 : Int64).toInt = 0 from by decide] at h10
        refine g_loadL act (gx gp_282 (w := 0x9001d06) rfl (by decide) rfl) (a := 9) (n := 29) rfl rfl rfl ?_
        refine g_storeL act (gx gp_282 (w := 0x9001f0b) rfl (by decide) rfl) (a := 9) (n := 31) rfl rfl (L2 := [some (.ref k), some (.long a), none, some (.long b), none, some (.long c1), none, some (.long d), none, some (.long z1), none, some (.long z2), none]) rfl ?_
        refine g_loadL act (gx gp_282 (w := 0xb002106) rfl (by decide) rfl) (a := 11) (n := 33) rfl rfl rfl ?_
        refine g_constL act (gx gp_282 (w := 0x40000000000000002000000002201) rfl (by decide) rfl) (n := 34) (x := 0) (by decide) rfl ?_
        refine g_lcmp act (gx gp_282 (w := 0x230c) rfl (by decide) rfl) (n := 35) rfl ?_
        refine g_ifNe act (gx gp_282 (w := 0x2a00261d) rfl (by decide) rfl) (tgt := 42) (n := 38) rfl rfl (fun h16 => ?_) (fun h16 => ?_)
        · simp only [cmpEq, show (0 : Int64).toInt = 0 from by decide] at h16
          refine g_loadL act (gx gp_282 (w := 0xb002c06) rfl (by decide) rfl) (a := 11) (n := 44) rfl rfl rfl ?_
          refine g_storeL act (gx gp_282 (w := 0xb002e0b) rfl (by decide) rfl) (a := 11) (n := 46) rfl rfl (L2 := [some (.ref k), some (.long a), none, some (.long b), none, some (.long c1), none, some (.long d), none, some (.long z1), none, some (.long z2), none]) rfl ?_
          refine g_loadA act (gx gp_282 (w := 0x2f03) rfl (by decide) rfl) (a := 0) (n := 47) rfl rfl rfl ?_
          refine g_loadL act (gx gp_282 (w := 0x1003006) rfl (by decide) rfl) (a := 1) (n := 48) rfl rfl rfl ?_
          refine g_loadL act (gx gp_282 (w := 0x9003206) rfl (by decide) rfl) (a := 9) (n := 50) rfl rfl rfl ?_
          refine g_ldiv act (gx gp_282 (w := 0x3316) rfl (by decide) rfl) (n := 51) (fun q => by have q2 := congrArg Int64.toInt q; rw [l0] at q2; omega) rfl ?_
          refine g_loadL act (gx gp_282 (w := 0x5003506) rfl (by decide) rfl) (a := 5) (n := 53) rfl rfl rfl ?_
          refine g_loadL act (gx gp_282 (w := 0xb003706) rfl (by decide) rfl) (a := 11) (n := 55) rfl rfl rfl ?_
          refine g_ldiv act (gx gp_282 (w := 0x3816) rfl (by decide) rfl) (n := 56) (fun q => by have q2 := congrArg Int64.toInt q; rw [l0] at q2; omega) rfl ?_
          refine g_lmul act (gx gp_282 (w := 0x3915) rfl (by decide) rfl) (n := 57) rfl ?_
          refine g_loadL act (gx gp_282 (w := 0x3003a06) rfl (by decide) rfl) (a := 3) (n := 58) rfl rfl rfl ?_
          refine g_loadL act (gx gp_282 (w := 0xb003c06) rfl (by decide) rfl) (a := 11) (n := 60) rfl rfl rfl ?_
          refine g_ldiv act (gx gp_282 (w := 0x3d16) rfl (by decide) rfl) (n := 61) (fun q => by have q2 := congrArg Int64.toInt q; rw [l0] at q2; omega) rfl ?_
          refine g_loadL act (gx gp_282 (w := 0x7003f06) rfl (by decide) rfl) (a := 7) (n := 63) rfl rfl rfl ?_
          refine g_loadL act (gx gp_282 (w := 0x9004106) rfl (by decide) rfl) (a := 9) (n := 65) rfl rfl rfl ?_
          refine g_ldiv act (gx gp_282 (w := 0x4216) rfl (by decide) rfl) (n := 66) (fun q => by have q2 := congrArg Int64.toInt q; rw [l0] at q2; omega) rfl ?_
          refine g_lmul act (gx gp_282 (w := 0x4315) rfl (by decide) rfl) (n := 67) rfl ?_
          refine n_call tb_pres act hEnd (gx (P := G_call) gp_282 (w := 0xa00000000000081c530000da00460f) rfl (by decide) rfl) (d' := D_218) rfl (as := [.ref k, .long ((a / z1) * (c1 / z2)), .long ((b / z2) * (d / z1))]) (rest := []) (b_is hk (by rw [f1]; omega) (by rw [f2]; omega) (by rw [f2]; exact f3)) (show (3 : Nat) = fb 0xa00000000000081c530000da00460f % 16 by decide) (by show (5 : Nat) ≤ 7; decide) (fun _ => ⟨_, _, rfl, _, shp_at hk, Or.inr (show fb 0xa00000000000081c530000da00460f >>> 68 = 10 by decide)⟩) (by omega) (by show 8 + (7 + 11) + 29 ≤ R.locals; omega) (by show (0 : Nat) ≤ 8; decide) (by show kc + 0 ≤ _; omega) (by show ks + 0 ≤ _; omega) (fun r9 hs9 hpo hr9 => ?_) (fun x9 hs9 hx9 hpo => ?_)
          · obtain rfl : r9 = none := hr9.elim (fun q => q.2) (fun q => absurd rfl q.1)
            obtain ⟨-, t, w2, rfl, hf9⟩ := hpo
            rw [f1, f2, fr_times (by omega) hdz gp1 gp2 dv1 dv2 dv3 dv4, fr_q h1] at hf9
            show WpN (gp g0 wp) CLS p l e R s m args below meth c Q D_282.2.2.1 kc0 ks0 70 [some (.ref k), some (.long a), none, some (.long b), none, some (.long c1), none, some (.long d), none, some (.long z1), none, some (.long z2), none] ((wr (wr hs k 7 (.long t)) k 8 (.long w2)), kc, ks) []
            exact g_retV hEnd (gx gp_282 (w := 0x18) rfl (by decide) rfl) ⟨rfl, t, w2, rfl, hf9⟩ (by show kc ≤ kc + 0; omega) (by show ks ≤ ks + 0; omega)
          · exact absurd hpo.1 (by omega)
        · simp only [cmpEq, show (0 : Int64).toInt = 0 from by decide] at h16
          omega
      · simp only [cmpEq, show (0 : Int64).toInt = 0 from by decide] at h10
        omega
    · exact absurd hpo.1 (by omega)
  · exact absurd hpo.1 (by omega)
theorem fr_less {a b c d g : Int} (hb : 0 < b) (hd : 0 < d) (hg : 0 < g) (h1 : g ∣ b) (h2 : g ∣ d) : a * d.tdiv g < c * b.tdiv g ↔ (Rat.divInt a b) < (Rat.divInt c d) := by
  have e1 := gd hg h1
  have e2 := gd hg h2
  have k1 := gd_le hb hg h1
  have k2 := gd_le hd hg h2
  have hd' : (0 : Rat) < (d : Rat) := Rat.intCast_pos.mpr hd
  rw [Rat.divInt_eq_div, Rat.divInt_eq_div, Rat.div_lt_iff (Rat.intCast_pos.mpr hb), show (c : Rat) / (d : Rat) * (b : Rat) = (c : Rat) * (b : Rat) / (d : Rat) by grind, Rat.lt_div_iff hd', ← Rat.intCast_mul, ← Rat.intCast_mul, Rat.intCast_lt_intCast]
  rw [show a * d = (a * d.tdiv g) * g by rw [Int.mul_assoc, e2], show c * b = (c * b.tdiv g) * g by rw [Int.mul_assoc, e1]]
  exact (Int.mul_lt_mul_right hg).symm
theorem b_isLess {g0 : GG} {bl : Nat} {xs : Nat → Int32} {l : Launch} {hs : List CE} {a b c1 d : Int64} {q1 q2 : Rat} (h1 : FR a b q1) (h2 : FR c1 d q2) (hB1 : (a.toInt.natAbs : Int) * d.toInt + (c1.toInt.natAbs : Int) * b.toInt < 9223372036854775808) : BodyN SSX TBL g0 CLS bl xs l D_225 1 29 0 0 [.long a, .long b, .long c1, .long d] hs (fun kd r h2 => kd = 0 ∧ hs = h2 ∧ ((r = some (.int 1) ∧ q1 < q2) ∨ (r = some (.int 0) ∧ ¬ q1 < q2))) := by
  intro wp p e R s m args below meth c Q kc0 ks0 kc ks act hf hl hc hsl hEnd
  have hb0 := h1.pos
  have hd0 := h2.pos
  have n1 := Int.mul_nonneg (show (0 : Int) ≤ a.toInt.natAbs by omega) (show 0 ≤ d.toInt by omega)
  have n2 := Int.mul_nonneg (show (0 : Int) ≤ c1.toInt.natAbs by omega) (show 0 ≤ b.toInt by omega)
  show WpN (gp g0 wp) CLS p l e R s m args below meth c Q D_225.2.2.1 kc0 ks0 0 [some (.long a), none, some (.long b), none, some (.long c1), none, some (.long d), none, none, none] (hs, kc, ks) []
  refine g_loadL act (gx gp_225 (w := 0x2000106) rfl (by decide) rfl) (a := 2) (n := 1) rfl rfl rfl ?_
  refine g_loadL act (gx gp_225 (w := 0x6000306) rfl (by decide) rfl) (a := 6) (n := 3) rfl rfl rfl ?_
  refine n_call tb_pres act hEnd (gx (P := G_call) gp_225 (w := 0x428420000bf00060f) rfl (by decide) rfl) (d' := D_191) rfl (as := [.long b, .long d]) (rest := []) (b_common (by omega) (by omega)) (show (2 : Nat) = fb 0x428420000bf00060f % 16 by decide) (by show (4 : Nat) ≤ 10; decide) (fun q => absurd q (by decide)) (by omega) (by show 8 + (10 + 11) + 0 ≤ R.locals; omega) (by show (0 : Nat) ≤ 8; decide) (by show kc + 0 ≤ _; omega) (by show ks + 0 ≤ _; omega) (fun r9 hs9 hpo hr9 => ?_) (fun x9 hs9 hx9 hpo => ?_)
  · obtain ⟨-, rfl, z, rfl, hz⟩ := hpo
    have gp9 : 0 < z.toInt := by rw [hz]; have := Int.gcd_pos_of_ne_zero_right b.toInt (show d.toInt ≠ 0 by omega); omega
    have dv1 : z.toInt ∣ b.toInt := by rw [hz]; exact Int.gcd_dvd_left ..
    have dv2 : z.toInt ∣ d.toInt := by rw [hz]; exact Int.gcd_dvd_right ..
    have k1 := gd_le hb0 gp9 dv1
    have k2 := gd_le hd0 gp9 dv2
    have e1 := l_divg (x := b) (y := z) (by omega)
    have e2 := l_divg (x := d) (y := z) (by omega)
    have m1 := mul_le a.toInt (show 0 ≤ d.toInt.tdiv z.toInt by omega) k2.2
    have m2 := mul_le c1.toInt (show 0 ≤ b.toInt.tdiv z.toInt by omega) k1.2
    have f1 : (a * (d / z)).toInt = a.toInt * d.toInt.tdiv z.toInt := by rw [l_mul (by rw [e2]; omega) (by rw [e2]; omega), e2]
    have f2 : (c1 * (b / z)).toInt = c1.toInt * b.toInt.tdiv z.toInt := by rw [l_mul (by rw [e1]; omega) (by rw [e1]; omega), e1]
    have f5 := fr_less (a := a.toInt) (c := c1.toInt) hb0 hd0 gp9 dv1 dv2
    rw [fr_q h1, fr_q h2, ← f1, ← f2] at f5
    show WpN (gp g0 wp) CLS p l e R s m args below meth c Q D_225.2.2.1 kc0 ks0 6 [some (.long a), none, some (.long b), none, some (.long c1), none, some (.long d), none, none, none] (hs, kc, ks) [.long z]
    refine g_storeL act (gx gp_225 (w := 0x800080b) rfl (by decide) rfl) (a := 8) (n := 8) rfl rfl (L2 := [some (.long a), none, some (.long b), none, some (.long c1), none, some (.long d), none, some (.long z), none]) rfl ?_
    refine g_loadL act (gx gp_225 (w := 0x906) rfl (by decide) rfl) (a := 0) (n := 9) rfl rfl rfl ?_
    refine g_loadL act (gx gp_225 (w := 0x6000b06) rfl (by decide) rfl) (a := 6) (n := 11) rfl rfl rfl ?_
    refine g_loadL act (gx gp_225 (w := 0x8000d06) rfl (by decide) rfl) (a := 8) (n := 13) rfl rfl rfl ?_
    refine g_ldiv act (gx gp_225 (w := 0xe16) rfl (by decide) rfl) (n := 14) (fun q => by have q2 := congrArg Int64.toInt q; rw [l0] at q2; omega) rfl ?_
    refine g_lmul act (gx gp_225 (w := 0xf15) rfl (by decide) rfl) (n := 15) rfl ?_
    refine g_loadL act (gx gp_225 (w := 0x4001106) rfl (by decide) rfl) (a := 4) (n := 17) rfl rfl rfl ?_
    refine g_loadL act (gx gp_225 (w := 0x2001206) rfl (by decide) rfl) (a := 2) (n := 18) rfl rfl rfl ?_
    refine g_loadL act (gx gp_225 (w := 0x8001406) rfl (by decide) rfl) (a := 8) (n := 20) rfl rfl rfl ?_
    refine g_ldiv act (gx gp_225 (w := 0x1516) rfl (by decide) rfl) (n := 21) (fun q => by have q2 := congrArg Int64.toInt q; rw [l0] at q2; omega) rfl ?_
    refine g_lmul act (gx gp_225 (w := 0x1615) rfl (by decide) rfl) (n := 22) rfl ?_
    refine g_lcmp act (gx gp_225 (w := 0x170c) rfl (by decide) rfl) (n := 23) rfl ?_
    refine g_ifGe act (gx gp_225 (w := 0x1e001a14) rfl (by decide) rfl) (tgt := 30) (n := 26) rfl rfl (fun h15 => ?_) (fun h15 => ?_)
    · simp only [cmpGe] at h15
      refine g_constI act (gx gp_225 (w := 0x40000000400000001000000001f01) rfl (by decide) rfl) (n := 31) (x := (0 : Int32)) (by decide) rfl ?_
      exact g_retZ hEnd (gx gp_225 (w := 0x23) rfl (by decide) rfl) (by decide) ⟨rfl, rfl, Or.inr ⟨rfl, fun q => absurd (f5.mpr q) (by omega)⟩⟩ (by show kc ≤ kc + 0; omega) (by show ks ≤ ks + 0; omega)
    · simp only [cmpGe] at h15
      refine g_constI act (gx gp_225 (w := 0x40000000c00000009000000001b01) rfl (by decide) rfl) (n := 27) (x := (1 : Int32)) (by decide) rfl ?_
      refine g_goto act (gx gp_225 (w := 0x1f07) rfl (by decide) rfl) (n := 31) rfl ?_
      exact g_retZ hEnd (gx gp_225 (w := 0x23) rfl (by decide) rfl) (by decide) ⟨rfl, rfl, Or.inl ⟨rfl, f5.mp (by omega)⟩⟩ (by show kc ≤ kc + 0; omega) (by show ks ≤ ks + 0; omega)
  · exact absurd hpo.1 (by omega)

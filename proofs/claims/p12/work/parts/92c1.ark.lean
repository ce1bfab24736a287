/-! The reference's arithmetic over any longs: what stands below is never 0. -/
theorem two_split {x y : Nat} : ∀ n : Nat, 2 ^ n ∣ x * y → ∃ i j, i + j = n ∧ 2 ^ i ∣ x ∧ 2 ^ j ∣ y
  | 0, _ => ⟨0, 0, rfl, Nat.one_dvd _, Nat.one_dvd _⟩
  | n + 1, h => by
    obtain ⟨i, j, e, ⟨x', hx⟩, ⟨y', hy⟩⟩ := two_split n (Nat.dvd_trans ⟨2, Nat.pow_succ ..⟩ h)
    have h2 : 2 ∣ x' * y' := by
      obtain ⟨c, hc⟩ := h
      refine ⟨c, ?_⟩
      have : 2 ^ n * (x' * y') = 2 ^ n * (2 * c) := by
        have e1 : 2 ^ n * (x' * y') = x * y := by rw [hx, hy, Nat.mul_mul_mul_comm, ← Nat.pow_add, e]
        rw [e1, hc, Nat.pow_succ, Nat.mul_assoc]
      exact Nat.eq_of_mul_eq_mul_left (Nat.two_pow_pos n) this
    have h3 : 2 ∣ x' ∨ 2 ∣ y' := by
      have := Nat.mul_mod x' y' 2
      have h0 := Nat.mod_eq_zero_of_dvd h2
      rcases Nat.mod_two_eq_zero_or_one x' with q | q
      · exact Or.inl (Nat.dvd_of_mod_eq_zero q)
      · rcases Nat.mod_two_eq_zero_or_one y' with r | r
        · exact Or.inr (Nat.dvd_of_mod_eq_zero r)
        · rw [q, r, h0] at this
          exact absurd this (by decide)
    rcases h3 with ⟨c, hc⟩ | ⟨c, hc⟩
    · exact ⟨i + 1, j, by omega, ⟨c, by rw [hx, hc, Nat.pow_succ, Nat.mul_assoc]⟩, ⟨y', hy⟩⟩
    · exact ⟨i, j + 1, by omega, ⟨x', hx⟩, ⟨c, by rw [hy, hc, Nat.pow_succ, Nat.mul_assoc]⟩⟩
theorem k_mul {a b x y : Nat} (ha : 1 ≤ a) (hb : 1 ≤ b) (hx : ¬ 2 ^ a ∣ x) (hy : ¬ 2 ^ b ∣ y) : ¬ 2 ^ (a + b - 1) ∣ x * y := fun h => by
  obtain ⟨i, j, e, h1, h2⟩ := two_split _ h
  rcases Nat.lt_or_ge i a with q | q
  · exact hy (Nat.dvd_trans (Nat.pow_dvd_pow 2 (by omega)) h2)
  · exact hx (Nat.dvd_trans (Nat.pow_dvd_pow 2 q) h1)
theorem odd_cop {x : Nat} (h : x % 2 = 1) (k : Nat) : Nat.Coprime (2 ^ k) x := by
  apply Nat.Coprime.pow_left
  show Nat.gcd 2 x = 1
  rw [Nat.gcd_rec, h]
  rfl
theorem k_lcm {k b d : Nat} (hb : ¬ 2 ^ k ∣ b) (hd : ¬ 2 ^ k ∣ d) : ¬ 2 ^ k ∣ (b / Nat.gcd b d) * d := fun h => by
  have hb0 : 0 < b := by
    rcases Nat.eq_zero_or_pos b with q | q
    · exact absurd (by rw [q]; exact Nat.dvd_zero _) hb
    · exact q
  have hg : 0 < Nat.gcd b d := Nat.gcd_pos_of_pos_left _ hb0
  have hc := Nat.coprime_div_gcd_div_gcd hg
  obtain ⟨b', eb⟩ := Nat.gcd_dvd_left b d
  obtain ⟨d', ed⟩ := Nat.gcd_dvd_right b d
  have e1 : b / Nat.gcd b d = b' := Nat.div_eq_of_eq_mul_right hg eb
  have e2 : d / Nat.gcd b d = d' := Nat.div_eq_of_eq_mul_right hg ed
  rw [e1, e2] at hc
  rw [e1] at h
  generalize Nat.gcd b d = g at *
  rcases Nat.mod_two_eq_zero_or_one b' with q | q
  · rcases Nat.mod_two_eq_zero_or_one d' with r | r
    · have h2 : 2 ∣ Nat.gcd b' d' := Nat.dvd_gcd (Nat.dvd_of_mod_eq_zero q) (Nat.dvd_of_mod_eq_zero r)
      rw [show Nat.gcd b' d' = 1 from hc] at h2
      exact absurd h2 (by decide)
    · have h3 : 2 ^ k ∣ b * d' := by
        rw [show b * d' = b' * d by rw [eb, ed, Nat.mul_assoc, Nat.mul_left_comm]]
        exact h
      exact hb ((odd_cop r k).dvd_of_dvd_mul_right h3)
  · exact hd ((odd_cop q k).dvd_of_dvd_mul_left h)
theorem bm_abs {z : Int} (h : z.natAbs ≤ 9223372036854775808) : (z.bmod (2 ^ 64)).natAbs = z.natAbs := by
  by_cases q : z < 9223372036854775808
  · rw [l_bm (by omega) q]
  · have : z = 9223372036854775808 := by omega
    rw [this]
    decide
theorem k_wrap {k : Nat} (hk : k ≤ 64) {z : Int} (h : 2 ^ k ∣ (z.bmod (2 ^ 64)).natAbs) : 2 ^ k ∣ z.natAbs := by
  have e := Int.bmod_add_bdiv z (2 ^ 64)
  have h1 : ((2 ^ k : Nat) : Int) ∣ z.bmod (2 ^ 64) := Int.natAbs_dvd_natAbs.mp (by rw [Int.natAbs_natCast]; exact h)
  have h2 : ((2 ^ k : Nat) : Int) ∣ ((2 ^ 64 : Nat) : Int) * z.bdiv (2 ^ 64) := Int.dvd_trans (Int.natAbs_dvd_natAbs.mp (by rw [Int.natAbs_natCast, Int.natAbs_natCast]; exact Nat.pow_dvd_pow 2 hk)) (Int.dvd_mul_right _ _)
  have h3 := Int.dvd_add h1 h2
  rw [e] at h3
  have := Int.natAbs_dvd_natAbs.mpr h3
  rwa [Int.natAbs_natCast] at this
/-- no multiple of 2 ^ b -/
def K2 (b : Nat) (x : Int64) : Prop := ¬ 2 ^ b ∣ x.toInt.natAbs
theorem K2.ne {b : Nat} {x : Int64} (h : K2 b x) : x.toInt ≠ 0 := fun q => h (by rw [q]; exact Nat.dvd_zero _)
theorem K2.mono {a b : Nat} {x : Int64} (h : K2 a x) (hab : a ≤ b) : K2 b x := fun q => h (Nat.dvd_trans (Nat.pow_dvd_pow 2 hab) q)
theorem K2.iv {b : Nat} {x : Int64} (h1 : 0 < x.toInt) (h2 : x.toInt < ((2 ^ b : Nat) : Int)) : K2 b x := fun q => by
  have := Nat.le_of_dvd (by omega) q
  omega
theorem K2.neg {b : Nat} {x : Int64} (h : K2 b x) : K2 b (-x) := by unfold K2 at *; rw [l_negA]; exact h
theorem divA {x y : Int64} : (x / y).toInt.natAbs = x.toInt.natAbs / y.toInt.natAbs := by
  rw [Int64.toInt_div]
  have h : (x.toInt.tdiv y.toInt).natAbs = x.toInt.natAbs / y.toInt.natAbs := Int.natAbs_tdiv ..
  have hr := l_rng x
  have : x.toInt.natAbs / y.toInt.natAbs ≤ x.toInt.natAbs := Nat.div_le_self _ _
  rw [bm_abs (by omega), h]
theorem K2.div {b : Nat} {x y : Int64} (h : K2 b x) (hd : y.toInt.natAbs ∣ x.toInt.natAbs) : K2 b (x / y) := fun q => by
  rw [divA] at q
  obtain ⟨c, hc⟩ := hd
  have hy : 0 < y.toInt.natAbs := by
    rcases Nat.eq_zero_or_pos y.toInt.natAbs with z | z
    · rw [z, Nat.zero_mul] at hc
      exact absurd hc (by have := h.ne; omega)
    · exact z
  rw [hc, Nat.mul_div_cancel_left _ hy] at q
  exact h (by rw [hc]; exact Nat.dvd_trans q (Nat.dvd_mul_left _ _))
theorem K2.mul {a b : Nat} {x y : Int64} (hx : K2 a x) (hy : K2 b y) (ha : 1 ≤ a) (hb : 1 ≤ b) (hk : a + b - 1 ≤ 64) : K2 (a + b - 1) (x * y) := fun q => by
  rw [Int64.toInt_mul] at q
  have := k_wrap hk q
  rw [Int.natAbs_mul] at this
  exact k_mul ha hb hx hy this
theorem K2.lcm {k : Nat} {b d z : Int64} (hb : K2 k b) (hd : K2 k d) (hk : k ≤ 64) (hz : z.toInt.natAbs = Nat.gcd b.toInt.natAbs d.toInt.natAbs) : K2 k (b / z * d) := fun q => by
  rw [Int64.toInt_mul] at q
  have := k_wrap hk q
  rw [Int.natAbs_mul, divA, hz] at this
  exact k_lcm hb hd this
theorem K2.pos1 {b : Nat} {x : Int64} (h : K2 b x) : 1 ≤ b := by
  rcases Nat.eq_zero_or_pos b with q | q
  · exact absurd (by rw [q]; exact Nat.one_dvd _) h
  · exact q
def POK (hs : List CE) (b : Nat) : Nat → Option Value → List CE → Prop := fun kd _ h2 => kd = 0 ∧ ∃ t w : Int64, rd h2 124 7 = .long t ∧ rd h2 124 8 = .long w ∧ K2 b w ∧ FrS W0 hs h2
theorem pok_of {hs h2 : List CE} {t w : Int64} {b : Nat} (hk : shp hs 124 = some (9, 39)) (h : h2 = wr (wr hs 124 7 (.long t)) 124 8 (.long w)) (hF : K2 b w) : ∃ t w : Int64, rd h2 124 7 = .long t ∧ rd h2 124 8 = .long w ∧ K2 b w ∧ FrS W0 hs h2 := by
  refine ⟨t, w, ?_, ?_, hF, ?_⟩
  · rw [h, rd_ne _ _ (Or.inr (by decide))]; exact rd_same hk
  · rw [h]; exact rd_same (by rw [shp_wr]; exact hk)
  · rw [h]; exact ((FrS.rf W0 hs).wr (k := 124) (j := 7) _ ⟨rfl, Or.inl rfl⟩).wr (k := 124) (j := 8) _ ⟨rfl, Or.inr rfl⟩
theorem nz64 {x : Int64} (h : x.toInt ≠ 0) : x ≠ 0 := fun q => h (by rw [q]; rfl)
theorem gcd_nz {a b z : Int64} (hz : z.toInt.natAbs = Nat.gcd a.toInt.natAbs b.toInt.natAbs) (h : b.toInt ≠ 0) : z.toInt ≠ 0 := fun q => by
  have := Nat.gcd_pos_of_pos_right a.toInt.natAbs (show 0 < b.toInt.natAbs by omega)
  rw [← hz, q] at this
  exact absurd this (by decide)
theorem gcd_nz2 {a b z : Int64} (hz : z.toInt.natAbs = Nat.gcd a.toInt.natAbs b.toInt.natAbs) (h : a.toInt ≠ 0) : z.toInt ≠ 0 := fun q => by
  have := Nat.gcd_pos_of_pos_left b.toInt.natAbs (show 0 < a.toInt.natAbs by omega)
  rw [← hz, q] at this
  exact absurd this (by decide)
section ARK
variable {g0 : GG} {bl : Nat} {xs : Nat → Int32} {l : Launch} {hs : List CE} {a b c1 d n : Int64} {k k1 k2 : Nat}

theorem b_isK (hk : shp hs 124 = some (9, 39)) (hd : K2 k d) : BodyN SSX TBL g0 CLS bl xs l D_218 1 29 0 0 [.ref 124, .long n, .long d] hs (POK hs k) := by
  intro wp p e R s m args below meth c Q kc0 ks0 kc ks act hf hl hc hsl hEnd
  show WpN (gp g0 wp) CLS p l e R s m args below meth c Q D_218.2.2.1 kc0 ks0 0 [some (.ref 124), some (.long n), none, some (.long d), none, none, none] (hs, kc, ks) []
  refine g_loadL act (gx gp_218 (w := 0x1000106) rfl (by decide) rfl) (a := 1) (n := 1) rfl rfl rfl ?_
  refine g_loadL act (gx gp_218 (w := 0x3000206) rfl (by decide) rfl) (a := 3) (n := 2) rfl rfl rfl ?_
  refine n_call tb_pres act hEnd (gx (P := G_call) gp_218 (w := 0x428420000bf00050f) rfl (by decide) rfl) (d' := D_191) rfl (as := [.long n, .long d]) (rest := []) b_commonA (show (2 : Nat) = fb 0x428420000bf00050f % 16 by decide) (by show (4 : Nat) ≤ 10; decide) (fun q => absurd q (by decide)) (by omega) (by show 8 + (10 + 11) + 0 ≤ R.locals; omega) (by show (0 : Nat) ≤ 8; decide) (by show kc + 0 ≤ _; omega) (by show ks + 0 ≤ _; omega) (fun r9 hs9 hpo hr9 => ?_) (fun x9 hs9 hx9 hpo => ?_)
  · obtain ⟨-, rfl, z, rfl, hz⟩ := hpo
    have zn := gcd_nz hz hd.ne
    have zn2 : (-z).toInt ≠ 0 := fun q => zn (by have := l_negA z; omega)
    have dv : z.toInt.natAbs ∣ d.toInt.natAbs := by rw [hz]; exact Nat.gcd_dvd_right _ _
    have dv2 : (-z).toInt.natAbs ∣ d.toInt.natAbs := by rw [l_negA]; exact dv
    show WpN (gp g0 wp) CLS p l e R s m args below meth c Q D_218.2.2.1 kc0 ks0 5 [some (.ref 124), some (.long n), none, some (.long d), none, none, none] (hs, kc, ks) [.long z]
    refine g_storeL act (gx gp_218 (w := 0x500070b) rfl (by decide) rfl) (a := 5) (n := 7) rfl rfl (L2 := [some (.ref 124), some (.long n), none, some (.long d), none, some (.long z), none]) rfl ?_
    refine g_loadL act (gx gp_218 (w := 0x3000806) rfl (by decide) rfl) (a := 3) (n := 8) rfl rfl rfl ?_
    refine g_constL act (gx gp_218 (w := 0x40000000000000002000000000901) rfl (by decide) rfl) (n := 9) (x := 0) (by decide) rfl ?_
    refine g_lcmp act (gx gp_218 (w := 0xa0c) rfl (by decide) rfl) (n := 10) rfl ?_
    refine g_ifGe act (gx gp_218 (w := 0x13000d14) rfl (by decide) rfl) (tgt := 19) (n := 13) rfl rfl (fun h7 => ?_) (fun h7 => ?_)
    · simp only [cmpGe, show (0 : Int64).toInt = 0 from by decide] at h7
      refine g_loadL act (gx gp_218 (w := 0x5001506) rfl (by decide) rfl) (a := 5) (n := 21) rfl rfl rfl ?_
      refine g_storeL act (gx gp_218 (w := 0x500170b) rfl (by decide) rfl) (a := 5) (n := 23) rfl rfl (L2 := [some (.ref 124), some (.long n), none, some (.long d), none, some (.long z), none]) rfl ?_
      refine g_loadA act (gx gp_218 (w := 0x1803) rfl (by decide) rfl) (a := 0) (n := 24) rfl rfl rfl ?_
      refine g_loadL act (gx gp_218 (w := 0x1001906) rfl (by decide) rfl) (a := 1) (n := 25) rfl rfl rfl ?_
      refine g_loadL act (gx gp_218 (w := 0x5001b06) rfl (by decide) rfl) (a := 5) (n := 27) rfl rfl rfl ?_
      refine g_ldiv act (gx gp_218 (w := 0x1c16) rfl (by decide) rfl) (n := 28) (nz64 zn) rfl ?_
      refine r_putf act (gx gp_218 (w := 0x20001c9001f13) rfl (by decide) rfl) (n := 31) (ci := 9) (j := 7) (N := 39) rfl rfl rfl hk (by decide) (Or.inr (Or.inr (Or.inl ⟨rfl, _, rfl⟩))) ?_
      refine g_loadA act (gx gp_218 (w := 0x2003) rfl (by decide) rfl) (a := 0) (n := 32) rfl rfl rfl ?_
      refine g_loadL act (gx gp_218 (w := 0x3002106) rfl (by decide) rfl) (a := 3) (n := 33) rfl rfl rfl ?_
      refine g_loadL act (gx gp_218 (w := 0x5002306) rfl (by decide) rfl) (a := 5) (n := 35) rfl rfl rfl ?_
      refine g_ldiv act (gx gp_218 (w := 0x2416) rfl (by decide) rfl) (n := 36) (nz64 zn) rfl ?_
      refine r_putf act (gx gp_218 (w := 0x2000209002713) rfl (by decide) rfl) (n := 39) (ci := 9) (j := 8) (N := 39) rfl rfl rfl (by rw [shp_wr]; exact hk) (by decide) (Or.inr (Or.inr (Or.inl ⟨rfl, _, rfl⟩))) ?_
      exact g_retV hEnd (gx gp_218 (w := 0x18) rfl (by decide) rfl) ⟨rfl, pok_of hk rfl (hd.div dv)⟩ (by show kc ≤ kc + 0; omega) (by show ks ≤ ks + 0; omega)
    · simp only [cmpGe, show (0 : Int64).toInt = 0 from by decide] at h7
      refine g_loadL act (gx gp_218 (w := 0x5000f06) rfl (by decide) rfl) (a := 5) (n := 15) rfl rfl rfl ?_
      refine g_lneg act (gx gp_218 (w := 0x1025) rfl (by decide) rfl) (n := 16) rfl ?_
      refine g_goto act (gx gp_218 (w := 0x1507) rfl (by decide) rfl) (n := 21) rfl ?_
      refine g_storeL act (gx gp_218 (w := 0x500170b) rfl (by decide) rfl) (a := 5) (n := 23) rfl rfl (L2 := [some (.ref 124), some (.long n), none, some (.long d), none, some (.long (-z)), none]) rfl ?_
      refine g_loadA act (gx gp_218 (w := 0x1803) rfl (by decide) rfl) (a := 0) (n := 24) rfl rfl rfl ?_
      refine g_loadL act (gx gp_218 (w := 0x1001906) rfl (by decide) rfl) (a := 1) (n := 25) rfl rfl rfl ?_
      refine g_loadL act (gx gp_218 (w := 0x5001b06) rfl (by decide) rfl) (a := 5) (n := 27) rfl rfl rfl ?_
      refine g_ldiv act (gx gp_218 (w := 0x1c16) rfl (by decide) rfl) (n := 28) (nz64 zn2) rfl ?_
      refine r_putf act (gx gp_218 (w := 0x20001c9001f13) rfl (by decide) rfl) (n := 31) (ci := 9) (j := 7) (N := 39) rfl rfl rfl hk (by decide) (Or.inr (Or.inr (Or.inl ⟨rfl, _, rfl⟩))) ?_
      refine g_loadA act (gx gp_218 (w := 0x2003) rfl (by decide) rfl) (a := 0) (n := 32) rfl rfl rfl ?_
      refine g_loadL act (gx gp_218 (w := 0x3002106) rfl (by decide) rfl) (a := 3) (n := 33) rfl rfl rfl ?_
      refine g_loadL act (gx gp_218 (w := 0x5002306) rfl (by decide) rfl) (a := 5) (n := 35) rfl rfl rfl ?_
      refine g_ldiv act (gx gp_218 (w := 0x2416) rfl (by decide) rfl) (n := 36) (nz64 zn2) rfl ?_
      refine r_putf act (gx gp_218 (w := 0x2000209002713) rfl (by decide) rfl) (n := 39) (ci := 9) (j := 8) (N := 39) rfl rfl rfl (by rw [shp_wr]; exact hk) (by decide) (Or.inr (Or.inr (Or.inl ⟨rfl, _, rfl⟩))) ?_
      exact g_retV hEnd (gx gp_218 (w := 0x18) rfl (by decide) rfl) ⟨rfl, pok_of hk rfl (hd.div dv2)⟩ (by show kc ≤ kc + 0; omega) (by show ks ≤ ks + 0; omega)
  · exact absurd hpo.1 (by omega)
theorem b_plusK (hk : shp hs 124 = some (9, 39)) (hb : K2 k b) (hd : K2 k d) (h64 : k ≤ 64) : BodyN SSX TBL g0 CLS bl xs l D_252 2 55 0 0 [.ref 124, .long a, .long b, .long c1, .long d] hs (POK hs k) := by
  intro wp p e R s m args below meth c Q kc0 ks0 kc ks act hf hl hc hsl hEnd
  show WpN (gp g0 wp) CLS p l e R s m args below meth c Q D_252.2.2.1 kc0 ks0 0 [some (.ref 124), some (.long a), none, some (.long b), none, some (.long c1), none, some (.long d), none, none, none] (hs, kc, ks) []
  refine g_loadL act (gx gp_252 (w := 0x3000106) rfl (by decide) rfl) (a := 3) (n := 1) rfl rfl rfl ?_
  refine g_loadL act (gx gp_252 (w := 0x7000306) rfl (by decide) rfl) (a := 7) (n := 3) rfl rfl rfl ?_
  refine n_call tb_pres act hEnd (gx (P := G_call) gp_252 (w := 0x428420000bf00060f) rfl (by decide) rfl) (d' := D_191) rfl (as := [.long b, .long d]) (rest := []) b_commonA (show (2 : Nat) = fb 0x428420000bf00060f % 16 by decide) (by show (4 : Nat) ≤ 10; decide) (fun q => absurd q (by decide)) (by omega) (by show 8 + (10 + 11) + 0 ≤ R.locals; omega) (by show (0 : Nat) ≤ 8; decide) (by show kc + 0 ≤ _; omega) (by show ks + 0 ≤ _; omega) (fun r9 hs9 hpo hr9 => ?_) (fun x9 hs9 hx9 hpo => ?_)
  · obtain ⟨-, rfl, z, rfl, hz⟩ := hpo
    have zn := gcd_nz hz hd.ne
    show WpN (gp g0 wp) CLS p l e R s m args below meth c Q D_252.2.2.1 kc0 ks0 6 [some (.ref 124), some (.long a), none, some (.long b), none, some (.long c1), none, some (.long d), none, none, none] (hs, kc, ks) [.long z]
    refine g_storeL act (gx gp_252 (w := 0x900080b) rfl (by decide) rfl) (a := 9) (n := 8) rfl rfl (L2 := [some (.ref 124), some (.long a), none, some (.long b), none, some (.long c1), none, some (.long d), none, some (.long z), none]) rfl ?_
    refine g_loadA act (gx gp_252 (w := 0x903) rfl (by decide) rfl) (a := 0) (n := 9) rfl rfl rfl ?_
    refine g_loadL act (gx gp_252 (w := 0x1000a06) rfl (by decide) rfl) (a := 1) (n := 10) rfl rfl rfl ?_
    refine g_loadL act (gx gp_252 (w := 0x7000c06) rfl (by decide) rfl) (a := 7) (n := 12) rfl rfl rfl ?_
    refine g_loadL act (gx gp_252 (w := 0x9000e06) rfl (by decide) rfl) (a := 9) (n := 14) rfl rfl rfl ?_
    refine g_ldiv act (gx gp_252 (w := 0xf16) rfl (by decide) rfl) (n := 15) (nz64 zn) rfl ?_
    refine g_lmul act (gx gp_252 (w := 0x1015) rfl (by decide) rfl) (n := 16) rfl ?_
    refine g_loadL act (gx gp_252 (w := 0x5001206) rfl (by decide) rfl) (a := 5) (n := 18) rfl rfl rfl ?_
    refine g_loadL act (gx gp_252 (w := 0x3001306) rfl (by decide) rfl) (a := 3) (n := 19) rfl rfl rfl ?_
    refine g_loadL act (gx gp_252 (w := 0x9001506) rfl (by decide) rfl) (a := 9) (n := 21) rfl rfl rfl ?_
    refine g_ldiv act (gx gp_252 (w := 0x1616) rfl (by decide) rfl) (n := 22) (nz64 zn) rfl ?_
    refine g_lmul act (gx gp_252 (w := 0x1715) rfl (by decide) rfl) (n := 23) rfl ?_
    refine g_ladd act (gx gp_252 (w := 0x181f) rfl (by decide) rfl) (n := 24) rfl ?_
    refine g_loadL act (gx gp_252 (w := 0x3001906) rfl (by decide) rfl) (a := 3) (n := 25) rfl rfl rfl ?_
    refine g_loadL act (gx gp_252 (w := 0x9001b06) rfl (by decide) rfl) (a := 9) (n := 27) rfl rfl rfl ?_
    refine g_ldiv act (gx gp_252 (w := 0x1c16) rfl (by decide) rfl) (n := 28) (nz64 zn) rfl ?_
    refine g_loadL act (gx gp_252 (w := 0x7001e06) rfl (by decide) rfl) (a := 7) (n := 30) rfl rfl rfl ?_
    refine g_lmul act (gx gp_252 (w := 0x1f15) rfl (by decide) rfl) (n := 31) rfl ?_
    refine n_call tb_pres act hEnd (gx (P := G_call) gp_252 (w := 0xa00000000000081c530000da00220f) rfl (by decide) rfl) (d' := D_218) rfl (as := [.ref 124, .long ((a * (d / z)) + (c1 * (b / z))), .long ((b / z) * d)]) (rest := []) (b_isK hk (hb.lcm hd h64 hz)) (show (3 : Nat) = fb 0xa00000000000081c530000da00220f % 16 by decide) (by show (5 : Nat) ≤ 7; decide) (fun _ => ⟨_, _, rfl, _, shp_at hk, Or.inr (show fb 0xa00000000000081c530000da00220f >>> 68 = 10 by decide)⟩) (by omega) (by show 8 + (7 + 11) + 29 ≤ R.locals; omega) (by show (0 : Nat) ≤ 8; decide) (by show kc + 0 ≤ _; omega) (by show ks + 0 ≤ _; omega) (fun r9 h9 hpo hr9 => ?_) (fun x9 hs9 hx9 hpo => ?_)
    · obtain rfl : r9 = none := hr9.elim (fun q => q.2) (fun q => absurd rfl q.1)
      have hpo9 := hpo
      show WpN (gp g0 wp) CLS p l e R s m args below meth c Q D_252.2.2.1 kc0 ks0 34 [some (.ref 124), some (.long a), none, some (.long b), none, some (.long c1), none, some (.long d), none, some (.long z), none] (h9, kc, ks) []
      exact g_retV hEnd (gx gp_252 (w := 0x18) rfl (by decide) rfl) hpo9 (by show kc ≤ kc + 0; omega) (by show ks ≤ ks + 0; omega)
    · exact absurd hpo.1 (by omega)
  · exact absurd hpo.1 (by omega)
theorem b_timesK (hk : shp hs 124 = some (9, 39)) (hb : K2 k1 b) (hd : K2 k2 d) (h64 : k1 + k2 - 1 ≤ 64) : BodyN SSX TBL g0 CLS bl xs l D_282 2 55 0 0 [.ref 124, .long a, .long b, .long c1, .long d] hs (POK hs (k1 + k2 - 1)) := by
  intro wp p e R s m args below meth c Q kc0 ks0 kc ks act hf hl hc hsl hEnd
  show WpN (gp g0 wp) CLS p l e R s m args below meth c Q D_282.2.2.1 kc0 ks0 0 [some (.ref 124), some (.long a), none, some (.long b), none, some (.long c1), none, some (.long d), none, none, none, none, none] (hs, kc, ks) []
  refine g_loadL act (gx gp_282 (w := 0x1000106) rfl (by decide) rfl) (a := 1) (n := 1) rfl rfl rfl ?_
  refine g_loadL act (gx gp_282 (w := 0x7000306) rfl (by decide) rfl) (a := 7) (n := 3) rfl rfl rfl ?_
  refine n_call tb_pres act hEnd (gx (P := G_call) gp_282 (w := 0x428420000bf00060f) rfl (by decide) rfl) (d' := D_191) rfl (as := [.long a, .long d]) (rest := []) b_commonA (show (2 : Nat) = fb 0x428420000bf00060f % 16 by decide) (by show (4 : Nat) ≤ 10; decide) (fun q => absurd q (by decide)) (by omega) (by show 8 + (10 + 11) + 0 ≤ R.locals; omega) (by show (0 : Nat) ≤ 8; decide) (by show kc + 0 ≤ _; omega) (by show ks + 0 ≤ _; omega) (fun r9 hs9 hpo hr9 => ?_) (fun x9 hs9 hx9 hpo => ?_)
  · obtain ⟨-, rfl, z1, rfl, hz1⟩ := hpo
    have zn1 := gcd_nz hz1 hd.ne
    have dv1 : z1.toInt.natAbs ∣ d.toInt.natAbs := by rw [hz1]; exact Nat.gcd_dvd_right _ _
    show WpN (gp g0 wp) CLS p l e R s m args below meth c Q D_282.2.2.1 kc0 ks0 6 [some (.ref 124), some (.long a), none, some (.long b), none, some (.long c1), none, some (.long d), none, none, none, none, none] (hs, kc, ks) [.long z1]
    refine g_storeL act (gx gp_282 (w := 0x900080b) rfl (by decide) rfl) (a := 9) (n := 8) rfl rfl (L2 := [some (.ref 124), some (.long a), none, some (.long b), none, some (.long c1), none, some (.long d), none, some (.long z1), none, none, none]) rfl ?_
    refine g_loadL act (gx gp_282 (w := 0x5000a06) rfl (by decide) rfl) (a := 5) (n := 10) rfl rfl rfl ?_
    refine g_loadL act (gx gp_282 (w := 0x3000b06) rfl (by decide) rfl) (a := 3) (n := 11) rfl rfl rfl ?_
    refine n_call tb_pres act hEnd (gx (P := G_call) gp_282 (w := 0x428420000bf000e0f) rfl (by decide) rfl) (d' := D_191) rfl (as := [.long c1, .long b]) (rest := []) b_commonA (show (2 : Nat) = fb 0x428420000bf000e0f % 16 by decide) (by show (4 : Nat) ≤ 10; decide) (fun q => absurd q (by decide)) (by omega) (by show 8 + (10 + 11) + 0 ≤ R.locals; omega) (by show (0 : Nat) ≤ 8; decide) (by show kc + 0 ≤ _; omega) (by show ks + 0 ≤ _; omega) (fun r9 hs9 hpo hr9 => ?_) (fun x9 hs9 hx9 hpo => ?_)
    · obtain ⟨-, rfl, z2, rfl, hz2⟩ := hpo
      have zn2 := gcd_nz hz2 hb.ne
      have dv2 : z2.toInt.natAbs ∣ b.toInt.natAbs := by rw [hz2]; exact Nat.gcd_dvd_right _ _
      show WpN (gp g0 wp) CLS p l e R s m args below meth c Q D_282.2.2.1 kc0 ks0 14 [some (.ref 124), some (.long a), none, some (.long b), none, some (.long c1), none, some (.long d), none, some (.long z1), none, none, none] (hs, kc, ks) [.long z2]
      refine g_storeL act (gx gp_282 (w := 0xb00100b) rfl (by decide) rfl) (a := 11) (n := 16) rfl rfl (L2 := [some (.ref 124), some (.long a), none, some (.long b), none, some (.long c1), none, some (.long d), none, some (.long z1), none, some (.long z2), none]) rfl ?_
      refine g_loadL act (gx gp_282 (w := 0x9001206) rfl (by decide) rfl) (a := 9) (n := 18) rfl rfl rfl ?_
      refine g_constL act (gx gp_282 (w := 0x40000000000000002000000001301) rfl (by decide) rfl) (n := 19) (x := 0) (by decide) rfl ?_
      refine g_lcmp act (gx gp_282 (w := 0x140c) rfl (by decide) rfl) (n := 20) rfl ?_
      refine g_ifNe act (gx gp_282 (w := 0x1b00171d) rfl (by decide) rfl) (tgt := 27) (n := 23) rfl rfl (fun h10 => ?_) (fun h10 => ?_)
      · simp only [cmpEq, show (0 : Int64).toInt = 0 from by decide] at h10
        refine g_loadL act (gx gp_282 (w := 0x9001d06) rfl (by decide) rfl) (a := 9) (n := 29) rfl rfl rfl ?_
        refine g_storeL act (gx gp_282 (w := 0x9001f0b) rfl (by decide) rfl) (a := 9) (n := 31) rfl rfl (L2 := [some (.ref 124), some (.long a), none, some (.long b), none, some (.long c1), none, some (.long d), none, some (.long z1), none, some (.long z2), none]) rfl ?_
        refine g_loadL act (gx gp_282 (w := 0xb002106) rfl (by decide) rfl) (a := 11) (n := 33) rfl rfl rfl ?_
        refine g_constL act (gx gp_282 (w := 0x40000000000000002000000002201) rfl (by decide) rfl) (n := 34) (x := 0) (by decide) rfl ?_
        refine g_lcmp act (gx gp_282 (w := 0x230c) rfl (by decide) rfl) (n := 35) rfl ?_
        refine g_ifNe act (gx gp_282 (w := 0x2a00261d) rfl (by decide) rfl) (tgt := 42) (n := 38) rfl rfl (fun h16 => ?_) (fun h16 => ?_)
        · simp only [cmpEq, show (0 : Int64).toInt = 0 from by decide] at h16
          refine g_loadL act (gx gp_282 (w := 0xb002c06) rfl (by decide) rfl) (a := 11) (n := 44) rfl rfl rfl ?_
          refine g_storeL act (gx gp_282 (w := 0xb002e0b) rfl (by decide) rfl) (a := 11) (n := 46) rfl rfl (L2 := [some (.ref 124), some (.long a), none, some (.long b), none, some (.long c1), none, some (.long d), none, some (.long z1), none, some (.long z2), none]) rfl ?_
          refine g_loadA act (gx gp_282 (w := 0x2f03) rfl (by decide) rfl) (a := 0) (n := 47) rfl rfl rfl ?_
          refine g_loadL act (gx gp_282 (w := 0x1003006) rfl (by decide) rfl) (a := 1) (n := 48) rfl rfl rfl ?_
          refine g_loadL act (gx gp_282 (w := 0x9003206) rfl (by decide) rfl) (a := 9) (n := 50) rfl rfl rfl ?_
          refine g_ldiv act (gx gp_282 (w := 0x3316) rfl (by decide) rfl) (n := 51) (nz64 zn1) rfl ?_
          refine g_loadL act (gx gp_282 (w := 0x5003506) rfl (by decide) rfl) (a := 5) (n := 53) rfl rfl rfl ?_
          refine g_loadL act (gx gp_282 (w := 0xb003706) rfl (by decide) rfl) (a := 11) (n := 55) rfl rfl rfl ?_
          refine g_ldiv act (gx gp_282 (w := 0x3816) rfl (by decide) rfl) (n := 56) (nz64 zn2) rfl ?_
          refine g_lmul act (gx gp_282 (w := 0x3915) rfl (by decide) rfl) (n := 57) rfl ?_
          refine g_loadL act (gx gp_282 (w := 0x3003a06) rfl (by decide) rfl) (a := 3) (n := 58) rfl rfl rfl ?_
          refine g_loadL act (gx gp_282 (w := 0xb003c06) rfl (by decide) rfl) (a := 11) (n := 60) rfl rfl rfl ?_
          refine g_ldiv act (gx gp_282 (w := 0x3d16) rfl (by decide) rfl) (n := 61) (nz64 zn2) rfl ?_
          refine g_loadL act (gx gp_282 (w := 0x7003f06) rfl (by decide) rfl) (a := 7) (n := 63) rfl rfl rfl ?_
          refine g_loadL act (gx gp_282 (w := 0x9004106) rfl (by decide) rfl) (a := 9) (n := 65) rfl rfl rfl ?_
          refine g_ldiv act (gx gp_282 (w := 0x4216) rfl (by decide) rfl) (n := 66) (nz64 zn1) rfl ?_
          refine g_lmul act (gx gp_282 (w := 0x4315) rfl (by decide) rfl) (n := 67) rfl ?_
          refine n_call tb_pres act hEnd (gx (P := G_call) gp_282 (w := 0xa00000000000081c530000da00460f) rfl (by decide) rfl) (d' := D_218) rfl (as := [.ref 124, .long ((a / z1) * (c1 / z2)), .long ((b / z2) * (d / z1))]) (rest := []) (b_isK hk ((hb.div dv2).mul (hd.div dv1) hb.pos1 hd.pos1 h64)) (show (3 : Nat) = fb 0xa00000000000081c530000da00460f % 16 by decide) (by show (5 : Nat) ≤ 7; decide) (fun _ => ⟨_, _, rfl, _, shp_at hk, Or.inr (show fb 0xa00000000000081c530000da00460f >>> 68 = 10 by decide)⟩) (by omega) (by show 8 + (7 + 11) + 29 ≤ R.locals; omega) (by show (0 : Nat) ≤ 8; decide) (by show kc + 0 ≤ _; omega) (by show ks + 0 ≤ _; omega) (fun r9 h9 hpo hr9 => ?_) (fun x9 hs9 hx9 hpo => ?_)
          · obtain rfl : r9 = none := hr9.elim (fun q => q.2) (fun q => absurd rfl q.1)
            have hpo9 := hpo
            show WpN (gp g0 wp) CLS p l e R s m args below meth c Q D_282.2.2.1 kc0 ks0 70 [some (.ref 124), some (.long a), none, some (.long b), none, some (.long c1), none, some (.long d), none, some (.long z1), none, some (.long z2), none] (h9, kc, ks) []
            exact g_retV hEnd (gx gp_282 (w := 0x18) rfl (by decide) rfl) hpo9 (by show kc ≤ kc + 0; omega) (by show ks ≤ ks + 0; omega)
          · exact absurd hpo.1 (by omega)
        · simp only [cmpEq, show (0 : Int64).toInt = 0 from by decide] at h16
          exfalso; omega
      · simp only [cmpEq, show (0 : Int64).toInt = 0 from by decide] at h10
        exfalso; omega
    · exact absurd hpo.1 (by omega)
  · exact absurd hpo.1 (by omega)
theorem b_lessK (hd : K2 k d) : BodyN SSX TBL g0 CLS bl xs l D_225 1 29 0 0 [.long a, .long b, .long c1, .long d] hs (fun kd r h2 => kd = 0 ∧ hs = h2 ∧ (r = some (.int 0) ∨ r = some (.int 1))) := by
  intro wp p e R s m args below meth c Q kc0 ks0 kc ks act hf hl hc hsl hEnd
  show WpN (gp g0 wp) CLS p l e R s m args below meth c Q D_225.2.2.1 kc0 ks0 0 [some (.long a), none, some (.long b), none, some (.long c1), none, some (.long d), none, none, none] (hs, kc, ks) []
  refine g_loadL act (gx gp_225 (w := 0x2000106) rfl (by decide) rfl) (a := 2) (n := 1) rfl rfl rfl ?_
  refine g_loadL act (gx gp_225 (w := 0x6000306) rfl (by decide) rfl) (a := 6) (n := 3) rfl rfl rfl ?_
  refine n_call tb_pres act hEnd (gx (P := G_call) gp_225 (w := 0x428420000bf00060f) rfl (by decide) rfl) (d' := D_191) rfl (as := [.long b, .long d]) (rest := []) b_commonA (show (2 : Nat) = fb 0x428420000bf00060f % 16 by decide) (by show (4 : Nat) ≤ 10; decide) (fun q => absurd q (by decide)) (by omega) (by show 8 + (10 + 11) + 0 ≤ R.locals; omega) (by show (0 : Nat) ≤ 8; decide) (by show kc + 0 ≤ _; omega) (by show ks + 0 ≤ _; omega) (fun r9 hs9 hpo hr9 => ?_) (fun x9 hs9 hx9 hpo => ?_)
  · obtain ⟨-, rfl, z, rfl, hz⟩ := hpo
    have zn := gcd_nz hz hd.ne
    show WpN (gp g0 wp) CLS p l e R s m args below meth c Q D_225.2.2.1 kc0 ks0 6 [some (.long a), none, some (.long b), none, some (.long c1), none, some (.long d), none, none, none] (hs, kc, ks) [.long z]
    refine g_storeL act (gx gp_225 (w := 0x800080b) rfl (by decide) rfl) (a := 8) (n := 8) rfl rfl (L2 := [some (.long a), none, some (.long b), none, some (.long c1), none, some (.long d), none, some (.long z), none]) rfl ?_
    refine g_loadL act (gx gp_225 (w := 0x906) rfl (by decide) rfl) (a := 0) (n := 9) rfl rfl rfl ?_
    refine g_loadL act (gx gp_225 (w := 0x6000b06) rfl (by decide) rfl) (a := 6) (n := 11) rfl rfl rfl ?_
    refine g_loadL act (gx gp_225 (w := 0x8000d06) rfl (by decide) rfl) (a := 8) (n := 13) rfl rfl rfl ?_
    refine g_ldiv act (gx gp_225 (w := 0xe16) rfl (by decide) rfl) (n := 14) (nz64 zn) rfl ?_
    refine g_lmul act (gx gp_225 (w := 0xf15) rfl (by decide) rfl) (n := 15) rfl ?_
    refine g_loadL act (gx gp_225 (w := 0x4001106) rfl (by decide) rfl) (a := 4) (n := 17) rfl rfl rfl ?_
    refine g_loadL act (gx gp_225 (w := 0x2001206) rfl (by decide) rfl) (a := 2) (n := 18) rfl rfl rfl ?_
    refine g_loadL act (gx gp_225 (w := 0x8001406) rfl (by decide) rfl) (a := 8) (n := 20) rfl rfl rfl ?_
    refine g_ldiv act (gx gp_225 (w := 0x1516) rfl (by decide) rfl) (n := 21) (nz64 zn) rfl ?_
    refine g_lmul act (gx gp_225 (w := 0x1615) rfl (by decide) rfl) (n := 22) rfl ?_
    refine g_lcmp act (gx gp_225 (w := 0x170c) rfl (by decide) rfl) (n := 23) rfl ?_
    refine g_ifGe act (gx gp_225 (w := 0x1e001a14) rfl (by decide) rfl) (tgt := 30) (n := 26) rfl rfl (fun h15 => ?_) (fun h15 => ?_)
    · simp only [cmpGe] at h15
      refine g_constI act (gx gp_225 (w := 0x40000000400000001000000001f01) rfl (by decide) rfl) (n := 31) (x := (0 : Int32)) (by decide) rfl ?_
      exact g_retZ hEnd (gx gp_225 (w := 0x23) rfl (by decide) rfl) (by decide) ⟨rfl, rfl, Or.inl rfl⟩ (by show kc ≤ kc + 0; omega) (by show ks ≤ ks + 0; omega)
    · simp only [cmpGe] at h15
      refine g_constI act (gx gp_225 (w := 0x40000000c00000009000000001b01) rfl (by decide) rfl) (n := 27) (x := (1 : Int32)) (by decide) rfl ?_
      refine g_goto act (gx gp_225 (w := 0x1f07) rfl (by decide) rfl) (n := 31) rfl ?_
      exact g_retZ hEnd (gx gp_225 (w := 0x23) rfl (by decide) rfl) (by decide) ⟨rfl, rfl, Or.inr rfl⟩ (by show kc ≤ kc + 0; omega) (by show ks ≤ ks + 0; omega)
  · exact absurd hpo.1 (by omega)
end ARK

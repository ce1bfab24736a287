/-! of, times, over of the class on plain states. -/
theorem r_new {g : GG} {bl : Nat} {xs : Nat → Int32} {d : MD} {p : Program} {l : Launch} {e : Env} {R : Room} {s : State} {m : MethodId} {args : Array Value} {below : List Frame} {meth : Method} {c : Code} {Q : State → Prop} {kc0 ks0 pc n w : Nat} {L : LN} {hs : List CE} {kc ks : Nat} {S : List Value} (act : Act SSX TBL g CLS bl xs d p l s m args meth c) (hG : G_new SSX TBL CLS ftX mdx d pc w) {ci N : Nat} (hci : fa w = ci) (hN : fb w = N) (hsz : hs.length < 7000000000000) (hc : kc + 1 ≤ R.cells + kc0) (hks : ks + N ≤ R.slots + ks0) (hn : pc + 3 = n) (K : WpN g CLS p l e R s m args below meth c Q d.2.2.1 kc0 ks0 n L (hs ++ [(ci, N, fun j => dv (ftX ci j))], kc + 1, ks + N) (.ref hs.length :: S)) : WpN g CLS p l e R s m args below meth c Q d.2.2.1 kc0 ks0 pc L (hs, kc, ks) S := by
  subst hci
  subst hN
  exact n_new act hG hsz hc hks hn K
/-- a new fraction at the heap's end -/
def NWF (hs h2 : List CE) (n d : Int64) : Prop := h2.length = hs.length + 1 ∧ (∀ k : Nat, k < hs.length → h2[k]? = hs[k]?) ∧ shp h2 hs.length = some (2, 2) ∧ rd h2 hs.length 0 = .long n ∧ rd h2 hs.length 1 = .long d
theorem nf_of {hs : List CE} {f : Nat → Value} {n d : Int64} : NWF hs (wr (wr (hs ++ [((2, 2, f) : CE)]) hs.length 0 (.long n)) hs.length 1 (.long d)) n d := by
  have hk : shp (hs ++ [((2, 2, f) : CE)]) hs.length = some (2, 2) := shp_of (app_at _ _)
  refine ⟨by rw [wr_len, wr_len, List.length_append]; rfl, fun k h => ?_, by rw [shp_wr, shp_wr]; exact hk, ?_, ?_⟩
  · rw [wr_ne (by omega), wr_ne (by omega), List.getElem?_append_left h]
  · rw [rd_ne _ _ (Or.inr (by decide))]; exact rd_same hk
  · exact rd_same (by rw [shp_wr]; exact hk)
theorem nwf_shp {hs h2 : List CE} {n d : Int64} (h : NWF hs h2 n d) {k c N : Nat} (hk : shp hs k = some (c, N)) : shp h2 k = some (c, N) := by
  have := h.2.1 k (shp_lt hk)
  unfold shp at hk ⊢
  rw [this]
  exact hk
theorem nwf_rd {hs h2 : List CE} {n d : Int64} (h : NWF hs h2 n d) {k j : Nat} (hk : k < hs.length) : rd h2 k j = rd hs k j := by
  unfold rd
  rw [h.2.1 k hk]
def OFP (a b n d : Int64) : Prop := (b.toInt = 0 ∧ n.toInt = 0 ∧ d.toInt = 1) ∨ (b.toInt ≠ 0 ∧ ∃ g : Int64, CDP a b g ∧ n.toInt.natAbs = a.toInt.natAbs / g.toInt.natAbs ∧ d.toInt.natAbs = b.toInt.natAbs / g.toInt.natAbs)
theorem OFP.nz {a b n d : Int64} (h : OFP a b n d) : d.toInt ≠ 0 := by
  rcases h with ⟨-, -, h⟩ | ⟨hb, g, hg, -, h⟩
  · omega
  · have h1 := hg.2.1 hb
    have h2 := hg.1
    have := Nat.div_pos h1 (by omega)
    omega
theorem mul1 {x y : Int64} (h : y.toInt.natAbs = 1) : (x * y).toInt.natAbs = x.toInt.natAbs := by
  have : y.toInt = 1 ∨ y.toInt = -1 := by omega
  have hr := l_rng x
  rcases this with q | q
  · rw [Int64.toInt_mul, q, Int.mul_one, l_bm (by omega) (by omega)]
  · rw [← l_negA x, Int64.toInt_mul, q, Int64.toInt_neg, Int.mul_neg, Int.mul_one]
theorem over_nz {a b n1 d1 g1 g2 od on n d : Int64} (hO : OFP od on n1 d1) (h1 : od.toInt = 1) (h2 : on.toInt ≠ -9223372036854775808) (hb : b.toInt ≠ 0) (c1 : CDP a d1 g1) (c2 : CDP n1 b g2) (hn : n = (a / g1) * (n1 / g2)) (hd : d = (b / g2) * (d1 / g1)) : n.toInt ≠ 0 ∨ d.toInt ≠ 0 := by
  have hd1 := hO.nz
  have p1 := c1.1
  have p2 := c2.1
  have q1 := c1.2.1 hd1
  have q2 := c2.2.1 hb
  have b2 : (b / g2).toInt.natAbs ≠ 0 := by
    rw [divA]
    have := Nat.div_pos q2 (by omega)
    omega
  have lo := l_rng on
  rcases hO with ⟨e1, e2, e3⟩ | ⟨e1, g, e2, e3, e4⟩
  · have e5 : (d1 / g1).toInt.natAbs = 1 := by
      rw [divA, e3]
      rw [e3] at q1
      have : g1.toInt.natAbs = 1 := by omega
      rw [this]
      rfl
    right
    rw [hd]
    have := mul1 (x := b / g2) e5
    omega
  · have f1 := e2.1
    have f2 := e2.2.2.1 (by omega)
    have f3 : g.toInt.natAbs = 1 := by omega
    rw [f3, Nat.div_one] at e3 e4
    have f4 : n1.toInt.natAbs = 1 := by omega
    have f5 := c2.2.2.1 (by omega)
    have f6 : (n1 / g2).toInt.natAbs = 1 := by
      rw [divA, f4]
      have : g2.toInt.natAbs = 1 := by omega
      rw [this]
    by_cases ha : a.toInt = 0
    · have f7 := c1.2.2.2 ha hd1 (by omega)
      have f8 : (d1 / g1).toInt.natAbs = 1 := by
        rw [divA, f7]
        exact Nat.div_self (by omega)
      right
      rw [hd]
      have := mul1 (x := b / g2) f8
      omega
    · have f7 := c1.2.2.1 ha
      have f8 : (a / g1).toInt.natAbs ≠ 0 := by
        rw [divA]
        have := Nat.div_pos f7 (by omega)
        omega
      left
      rw [hn]
      have := mul1 (x := a / g1) f6
      omega
section OFY
variable {g0 : GG} {bl : Nat} {xs : Nat → Int32} {l : Launch} {hs : List CE} {a b c1 d1 od on : Int64} {k k2 : Nat}

theorem b_ofX (hlen : hs.length + 1 ≤ 6999999999999) : BodyN SSX TBL g0 CLS bl xs l D_84 2 40 1 11 [.long a, .long b] hs (fun kd r h2 => kd = 0 ∧ r = some (.ref hs.length) ∧ ∃ n d : Int64, NWF hs h2 n d ∧ OFP a b n d) := by
  intro wp p e R s m args below meth c Q kc0 ks0 kc ks act hf hl hc hsl hEnd
  show WpN (gp g0 wp) CLS p l e R s m args below meth c Q D_84.2.2.1 kc0 ks0 0 [some (.long a), none, some (.long b), none, none, none, none, none] (hs, kc, ks) []
  refine g_loadL act (gx gp_84 (w := 0x2000106) rfl (by decide) rfl) (a := 2) (n := 1) rfl rfl rfl ?_
  refine g_constL act (gx gp_84 (w := 0x40000000000000002000000000201) rfl (by decide) rfl) (n := 2) (x := 0) (by decide) rfl ?_
  refine g_lcmp act (gx gp_84 (w := 0x30c) rfl (by decide) rfl) (n := 3) rfl ?_
  refine g_ifNe act (gx gp_84 (w := 0x1000061d) rfl (by decide) rfl) (tgt := 16) (n := 6) rfl rfl (fun h4 => ?_) (fun h4 => ?_)
  · simp only [cmpEq, show (0 : Int64).toInt = 0 from by decide] at h4
    refine g_loadL act (gx gp_84 (w := 0x1106) rfl (by decide) rfl) (a := 0) (n := 17) rfl rfl rfl ?_
    refine g_loadL act (gx gp_84 (w := 0x2001206) rfl (by decide) rfl) (a := 2) (n := 18) rfl rfl rfl ?_
    refine n_call tb_pres act hEnd (gx (P := G_call) gp_84 (w := 0x42c4200005000150f) rfl (by decide) rfl) (d' := D_80) rfl (as := [.long a, .long b]) (rest := []) b_cd (show (2 : Nat) = fb 0x42c4200005000150f % 16 by decide) (by show (4 : Nat) ≤ 11; decide) (fun q => absurd q (by decide)) (by omega) (by show 8 + (11 + 11) + 0 ≤ R.locals; omega) (by show (0 : Nat) ≤ 8; decide) (by show kc + 0 ≤ _; omega) (by show ks + 0 ≤ _; omega) (fun r9 hs9 hpo hr9 => ?_) (fun x9 hs9 hx9 hpo => ?_)
    · obtain ⟨-, rfl, z, rfl, hz⟩ := hpo
      have zn : z.toInt ≠ 0 := by have := hz.1; omega
      have zn2 : (-z).toInt ≠ 0 := fun q => zn (by have := l_negA z; omega)
      show WpN (gp g0 wp) CLS p l e R s m args below meth c Q D_84.2.2.1 kc0 ks0 21 [some (.long a), none, some (.long b), none, none, none, none, none] (hs, kc, ks) [.long z]
      refine g_storeL act (gx gp_84 (w := 0x400170b) rfl (by decide) rfl) (a := 4) (n := 23) rfl rfl (L2 := [some (.long a), none, some (.long b), none, some (.long z), none, none, none]) rfl ?_
      refine g_loadL act (gx gp_84 (w := 0x2001806) rfl (by decide) rfl) (a := 2) (n := 24) rfl rfl rfl ?_
      refine g_constL act (gx gp_84 (w := 0x40000000000000002000000001901) rfl (by decide) rfl) (n := 25) (x := 0) (by decide) rfl ?_
      refine g_lcmp act (gx gp_84 (w := 0x1a0c) rfl (by decide) rfl) (n := 26) rfl ?_
      refine g_ifGe act (gx gp_84 (w := 0x23001d14) rfl (by decide) rfl) (tgt := 35) (n := 29) rfl rfl (fun h11 => ?_) (fun h11 => ?_)
      · simp only [cmpGe, show (0 : Int64).toInt = 0 from by decide] at h11
        refine g_loadL act (gx gp_84 (w := 0x4002506) rfl (by decide) rfl) (a := 4) (n := 37) rfl rfl rfl ?_
        refine g_storeL act (gx gp_84 (w := 0x600270b) rfl (by decide) rfl) (a := 6) (n := 39) rfl rfl (L2 := [some (.long a), none, some (.long b), none, some (.long z), none, some (.long z), none]) rfl ?_
        refine r_new act (gx gp_84 (w := 0x2000002002a28) rfl (by decide) rfl) (n := 42) (ci := 2) (N := 2) (by decide) (by decide) (by omega) (by omega) (by omega) rfl ?_
        refine g_dup act (gx gp_84 (w := 0x2b22) rfl (by decide) rfl) (n := 43) rfl rfl ?_
        refine g_loadL act (gx gp_84 (w := 0x2c06) rfl (by decide) rfl) (a := 0) (n := 44) rfl rfl rfl ?_
        refine g_loadL act (gx gp_84 (w := 0x6002e06) rfl (by decide) rfl) (a := 6) (n := 46) rfl rfl rfl ?_
        refine g_ldiv act (gx gp_84 (w := 0x2f16) rfl (by decide) rfl) (n := 47) (nz64 zn) rfl ?_
        refine g_loadL act (gx gp_84 (w := 0x2003006) rfl (by decide) rfl) (a := 2) (n := 48) rfl rfl rfl ?_
        refine g_loadL act (gx gp_84 (w := 0x6003206) rfl (by decide) rfl) (a := 6) (n := 50) rfl rfl rfl ?_
        refine g_ldiv act (gx gp_84 (w := 0x3316) rfl (by decide) rfl) (n := 51) (nz64 zn) rfl ?_
        refine n_call tb_pres act hEnd (gx (P := G_call) gp_84 (w := 0x8145300004e00360f) rfl (by decide) rfl) (d' := D_78) rfl (as := [.ref hs.length, .long (a / z), .long (b / z)]) (rest := [.ref hs.length]) (b_frI (shp_of (app_at _ _))) (show (3 : Nat) = fb 0x8145300004e00360f % 16 by decide) (by show (5 : Nat) ≤ 5; decide) (fun _ => ⟨_, _, rfl, _, app_at _ _, Or.inl (show fb 0x8145300004e00360f >>> 68 = 0 by decide)⟩) (by omega) (by show 8 + (5 + 11) + 12 ≤ R.locals; omega) (by show (1 : Nat) ≤ 8; decide) (by show kc + 1 + 0 ≤ _; omega) (by show ks + 2 + 0 ≤ _; omega) (fun r9 hs9 hpo hr9 => ?_) (fun x9 hs9 hx9 hpo => ?_)
        · obtain rfl : r9 = none := hr9.elim (fun q => q.2) (fun q => absurd rfl q.1)
          obtain ⟨-, rfl⟩ := hpo
          show WpN (gp g0 wp) CLS p l e R s m args below meth c Q D_84.2.2.1 kc0 ks0 54 [some (.long a), none, some (.long b), none, some (.long z), none, some (.long z), none] ((wr (wr (hs ++ [((2, 2, fun j => dv (ftX 2 j)) : CE)]) hs.length 0 (.long (a / z))) hs.length 1 (.long (b / z))), kc + 1, ks + 2) [.ref hs.length]
          exact g_retA hEnd (gx gp_84 (w := 0x31) rfl (by decide) rfl) (Or.inr ⟨_, rfl⟩) ⟨rfl, rfl, _, _, nf_of, Or.inr ⟨by omega, z, hz, divA, divA⟩⟩ (by show kc + 1 ≤ kc + 1; omega) (by show ks + 2 ≤ ks + 11; omega)
        · exact absurd hpo.1 (by omega)
      · simp only [cmpGe, show (0 : Int64).toInt = 0 from by decide] at h11
        refine g_loadL act (gx gp_84 (w := 0x4001f06) rfl (by decide) rfl) (a := 4) (n := 31) rfl rfl rfl ?_
        refine g_lneg act (gx gp_84 (w := 0x2025) rfl (by decide) rfl) (n := 32) rfl ?_
        refine g_goto act (gx gp_84 (w := 0x2507) rfl (by decide) rfl) (n := 37) rfl ?_
        refine g_storeL act (gx gp_84 (w := 0x600270b) rfl (by decide) rfl) (a := 6) (n := 39) rfl rfl (L2 := [some (.long a), none, some (.long b), none, some (.long z), none, some (.long (-z)), none]) rfl ?_
        refine r_new act (gx gp_84 (w := 0x2000002002a28) rfl (by decide) rfl) (n := 42) (ci := 2) (N := 2) (by decide) (by decide) (by omega) (by omega) (by omega) rfl ?_
        refine g_dup act (gx gp_84 (w := 0x2b22) rfl (by decide) rfl) (n := 43) rfl rfl ?_
        refine g_loadL act (gx gp_84 (w := 0x2c06) rfl (by decide) rfl) (a := 0) (n := 44) rfl rfl rfl ?_
        refine g_loadL act (gx gp_84 (w := 0x6002e06) rfl (by decide) rfl) (a := 6) (n := 46) rfl rfl rfl ?_
        refine g_ldiv act (gx gp_84 (w := 0x2f16) rfl (by decide) rfl) (n := 47) (nz64 zn2) rfl ?_
        refine g_loadL act (gx gp_84 (w := 0x2003006) rfl (by decide) rfl) (a := 2) (n := 48) rfl rfl rfl ?_
        refine g_loadL act (gx gp_84 (w := 0x6003206) rfl (by decide) rfl) (a := 6) (n := 50) rfl rfl rfl ?_
        refine g_ldiv act (gx gp_84 (w := 0x3316) rfl (by decide) rfl) (n := 51) (nz64 zn2) rfl ?_
        refine n_call tb_pres act hEnd (gx (P := G_call) gp_84 (w := 0x8145300004e00360f) rfl (by decide) rfl) (d' := D_78) rfl (as := [.ref hs.length, .long (a / (-z)), .long (b / (-z))]) (rest := [.ref hs.length]) (b_frI (shp_of (app_at _ _))) (show (3 : Nat) = fb 0x8145300004e00360f % 16 by decide) (by show (5 : Nat) ≤ 5; decide) (fun _ => ⟨_, _, rfl, _, app_at _ _, Or.inl (show fb 0x8145300004e00360f >>> 68 = 0 by decide)⟩) (by omega) (by show 8 + (5 + 11) + 12 ≤ R.locals; omega) (by show (1 : Nat) ≤ 8; decide) (by show kc + 1 + 0 ≤ _; omega) (by show ks + 2 + 0 ≤ _; omega) (fun r9 hs9 hpo hr9 => ?_) (fun x9 hs9 hx9 hpo => ?_)
        · obtain rfl : r9 = none := hr9.elim (fun q => q.2) (fun q => absurd rfl q.1)
          obtain ⟨-, rfl⟩ := hpo
          show WpN (gp g0 wp) CLS p l e R s m args below meth c Q D_84.2.2.1 kc0 ks0 54 [some (.long a), none, some (.long b), none, some (.long z), none, some (.long (-z)), none] ((wr (wr (hs ++ [((2, 2, fun j => dv (ftX 2 j)) : CE)]) hs.length 0 (.long (a / (-z)))) hs.length 1 (.long (b / (-z)))), kc + 1, ks + 2) [.ref hs.length]
          exact g_retA hEnd (gx gp_84 (w := 0x31) rfl (by decide) rfl) (Or.inr ⟨_, rfl⟩) ⟨rfl, rfl, _, _, nf_of, Or.inr ⟨by omega, z, hz, divA.trans (by rw [l_negA]), divA.trans (by rw [l_negA])⟩⟩ (by show kc + 1 ≤ kc + 1; omega) (by show ks + 2 ≤ ks + 11; omega)
        · exact absurd hpo.1 (by omega)
    · exact absurd hpo.1 (by omega)
  · simp only [cmpEq, show (0 : Int64).toInt = 0 from by decide] at h4
    refine r_new act (gx gp_84 (w := 0x2000002000928) rfl (by decide) rfl) (n := 9) (ci := 2) (N := 2) (by decide) (by decide) (by omega) (by omega) (by omega) rfl ?_
    refine g_dup act (gx gp_84 (w := 0xa22) rfl (by decide) rfl) (n := 10) rfl rfl ?_
    refine g_constL act (gx gp_84 (w := 0x40000000000000002000000000b01) rfl (by decide) rfl) (n := 11) (x := 0) (by decide) rfl ?_
    refine g_constL act (gx gp_84 (w := 0x4000000000000000a000000000c01) rfl (by decide) rfl) (n := 12) (x := 1) (by decide) rfl ?_
    refine n_call tb_pres act hEnd (gx (P := G_call) gp_84 (w := 0x8145300004e000f0f) rfl (by decide) rfl) (d' := D_78) rfl (as := [.ref hs.length, .long (0 : Int64), .long (1 : Int64)]) (rest := [.ref hs.length]) (b_frI (shp_of (app_at _ _))) (show (3 : Nat) = fb 0x8145300004e000f0f % 16 by decide) (by show (5 : Nat) ≤ 5; decide) (fun _ => ⟨_, _, rfl, _, app_at _ _, Or.inl (show fb 0x8145300004e000f0f >>> 68 = 0 by decide)⟩) (by omega) (by show 8 + (5 + 11) + 12 ≤ R.locals; omega) (by show (1 : Nat) ≤ 8; decide) (by show kc + 1 + 0 ≤ _; omega) (by show ks + 2 + 0 ≤ _; omega) (fun r9 hs9 hpo hr9 => ?_) (fun x9 hs9 hx9 hpo => ?_)
    · obtain rfl : r9 = none := hr9.elim (fun q => q.2) (fun q => absurd rfl q.1)
      obtain ⟨-, rfl⟩ := hpo
      show WpN (gp g0 wp) CLS p l e R s m args below meth c Q D_84.2.2.1 kc0 ks0 15 [some (.long a), none, some (.long b), none, none, none, none, none] ((wr (wr (hs ++ [((2, 2, fun j => dv (ftX 2 j)) : CE)]) hs.length 0 (.long (0 : Int64))) hs.length 1 (.long (1 : Int64))), kc + 1, ks + 2) [.ref hs.length]
      exact g_retA hEnd (gx gp_84 (w := 0x31) rfl (by decide) rfl) (Or.inr ⟨_, rfl⟩) ⟨rfl, rfl, _, _, nf_of, Or.inl ⟨by omega, by decide, by decide⟩⟩ (by show kc + 1 ≤ kc + 1; omega) (by show ks + 2 ≤ ks + 11; omega)
    · exact absurd hpo.1 (by omega)
theorem b_timesX (hlen : hs.length + 1 ≤ 6999999999999) (hk : shp hs k = some (2, 2)) (h0 : rd hs k 0 = .long a) (h1 : rd hs k 1 = .long b) (hk2 : shp hs k2 = some (2, 2)) (q0 : rd hs k2 0 = .long c1) (q1 : rd hs k2 1 = .long d1) : BodyN SSX TBL g0 CLS bl xs l D_91 2 40 1 11 [.ref k, .ref k2] hs (fun kd r h2 => kd = 0 ∧ r = some (.ref hs.length) ∧ ∃ n d : Int64, NWF hs h2 n d ∧ ∃ g1 g2 : Int64, CDP a d1 g1 ∧ CDP c1 b g2 ∧ n = (a / g1) * (c1 / g2) ∧ d = (b / g2) * (d1 / g1)) := by
  intro wp p e R s m args below meth c Q kc0 ks0 kc ks act hf hl hc hsl hEnd
  show WpN (gp g0 wp) CLS p l e R s m args below meth c Q D_91.2.2.1 kc0 ks0 0 [some (.ref k), some (.ref k2), none, none, none, none] (hs, kc, ks) []
  refine g_loadA act (gx gp_91 (w := 0x103) rfl (by decide) rfl) (a := 0) (n := 1) rfl rfl rfl ?_
  refine r_getf act (gx gp_91 (w := 0x2000002000404) rfl (by decide) rfl) (n := 4) (ci := 2) (j := 0) (N := 2) rfl rfl rfl hk (by decide) (v := .long a) h0 ?_
  refine g_loadA act (gx gp_91 (w := 0x1000503) rfl (by decide) rfl) (a := 1) (n := 5) rfl rfl rfl ?_
  refine r_getf act (gx gp_91 (w := 0x2000042000804) rfl (by decide) rfl) (n := 8) (ci := 2) (j := 1) (N := 2) rfl rfl rfl hk2 (by decide) (v := .long d1) q1 ?_
  refine n_call tb_pres act hEnd (gx (P := G_call) gp_91 (w := 0x42c42000050000b0f) rfl (by decide) rfl) (d' := D_80) rfl (as := [.long a, .long d1]) (rest := []) b_cd (show (2 : Nat) = fb 0x42c42000050000b0f % 16 by decide) (by show (4 : Nat) ≤ 11; decide) (fun q => absurd q (by decide)) (by omega) (by show 8 + (11 + 11) + 0 ≤ R.locals; omega) (by show (0 : Nat) ≤ 8; decide) (by show kc + 0 ≤ _; omega) (by show ks + 0 ≤ _; omega) (fun r9 hs9 hpo hr9 => ?_) (fun x9 hs9 hx9 hpo => ?_)
  · obtain ⟨-, rfl, z1, rfl, hz1⟩ := hpo
    have zn1 : z1.toInt ≠ 0 := by have := hz1.1; omega
    show WpN (gp g0 wp) CLS p l e R s m args below meth c Q D_91.2.2.1 kc0 ks0 11 [some (.ref k), some (.ref k2), none, none, none, none] (hs, kc, ks) [.long z1]
    refine g_storeL act (gx gp_91 (w := 0x2000c0b) rfl (by decide) rfl) (a := 2) (n := 12) rfl rfl (L2 := [some (.ref k), some (.ref k2), some (.long z1), none, none, none]) rfl ?_
    refine g_loadA act (gx gp_91 (w := 0x1000d03) rfl (by decide) rfl) (a := 1) (n := 13) rfl rfl rfl ?_
    refine r_getf act (gx gp_91 (w := 0x2000002001004) rfl (by decide) rfl) (n := 16) (ci := 2) (j := 0) (N := 2) rfl rfl rfl hk2 (by decide) (v := .long c1) q0 ?_
    refine g_loadA act (gx gp_91 (w := 0x1103) rfl (by decide) rfl) (a := 0) (n := 17) rfl rfl rfl ?_
    refine r_getf act (gx gp_91 (w := 0x2000042001404) rfl (by decide) rfl) (n := 20) (ci := 2) (j := 1) (N := 2) rfl rfl rfl hk (by decide) (v := .long b) h1 ?_
    refine n_call tb_pres act hEnd (gx (P := G_call) gp_91 (w := 0x42c4200005000170f) rfl (by decide) rfl) (d' := D_80) rfl (as := [.long c1, .long b]) (rest := []) b_cd (show (2 : Nat) = fb 0x42c4200005000170f % 16 by decide) (by show (4 : Nat) ≤ 11; decide) (fun q => absurd q (by decide)) (by omega) (by show 8 + (11 + 11) + 0 ≤ R.locals; omega) (by show (0 : Nat) ≤ 8; decide) (by show kc + 0 ≤ _; omega) (by show ks + 0 ≤ _; omega) (fun r9 hs9 hpo hr9 => ?_) (fun x9 hs9 hx9 hpo => ?_)
    · obtain ⟨-, rfl, z2, rfl, hz2⟩ := hpo
      have zn2 : z2.toInt ≠ 0 := by have := hz2.1; omega
      show WpN (gp g0 wp) CLS p l e R s m args below meth c Q D_91.2.2.1 kc0 ks0 23 [some (.ref k), some (.ref k2), some (.long z1), none, none, none] (hs, kc, ks) [.long z2]
      refine g_storeL act (gx gp_91 (w := 0x400190b) rfl (by decide) rfl) (a := 4) (n := 25) rfl rfl (L2 := [some (.ref k), some (.ref k2), some (.long z1), none, some (.long z2), none]) rfl ?_
      refine r_new act (gx gp_91 (w := 0x2000002001c28) rfl (by decide) rfl) (n := 28) (ci := 2) (N := 2) (by decide) (by decide) (by omega) (by omega) (by omega) rfl ?_
      refine g_dup act (gx gp_91 (w := 0x1d22) rfl (by decide) rfl) (n := 29) rfl rfl ?_
      refine g_loadA act (gx gp_91 (w := 0x1e03) rfl (by decide) rfl) (a := 0) (n := 30) rfl rfl rfl ?_
      refine r_getf act (gx gp_91 (w := 0x2000002002104) rfl (by decide) rfl) (n := 33) (ci := 2) (j := 0) (N := 2) rfl rfl rfl (by rw [shp_app (shp_lt hk)]; exact hk) (by decide) (v := .long a) (by rw [rd_app (shp_lt hk)]; exact h0) ?_
      refine g_loadL act (gx gp_91 (w := 0x2002206) rfl (by decide) rfl) (a := 2) (n := 34) rfl rfl rfl ?_
      refine g_ldiv act (gx gp_91 (w := 0x2316) rfl (by decide) rfl) (n := 35) (nz64 zn1) rfl ?_
      refine g_loadA act (gx gp_91 (w := 0x1002403) rfl (by decide) rfl) (a := 1) (n := 36) rfl rfl rfl ?_
      refine r_getf act (gx gp_91 (w := 0x2000002002704) rfl (by decide) rfl) (n := 39) (ci := 2) (j := 0) (N := 2) rfl rfl rfl (by rw [shp_app (shp_lt hk2)]; exact hk2) (by decide) (v := .long c1) (by rw [rd_app (shp_lt hk2)]; exact q0) ?_
      refine g_loadL act (gx gp_91 (w := 0x4002906) rfl (by decide) rfl) (a := 4) (n := 41) rfl rfl rfl ?_
      refine g_ldiv act (gx gp_91 (w := 0x2a16) rfl (by decide) rfl) (n := 42) (nz64 zn2) rfl ?_
      refine g_lmul act (gx gp_91 (w := 0x2b15) rfl (by decide) rfl) (n := 43) rfl ?_
      refine g_loadA act (gx gp_91 (w := 0x2c03) rfl (by decide) rfl) (a := 0) (n := 44) rfl rfl rfl ?_
      refine r_getf act (gx gp_91 (w := 0x2000042002f04) rfl (by decide) rfl) (n := 47) (ci := 2) (j := 1) (N := 2) rfl rfl rfl (by rw [shp_app (shp_lt hk)]; exact hk) (by decide) (v := .long b) (by rw [rd_app (shp_lt hk)]; exact h1) ?_
      refine g_loadL act (gx gp_91 (w := 0x4003106) rfl (by decide) rfl) (a := 4) (n := 49) rfl rfl rfl ?_
      refine g_ldiv act (gx gp_91 (w := 0x3216) rfl (by decide) rfl) (n := 50) (nz64 zn2) rfl ?_
      refine g_loadA act (gx gp_91 (w := 0x1003303) rfl (by decide) rfl) (a := 1) (n := 51) rfl rfl rfl ?_
      refine r_getf act (gx gp_91 (w := 0x2000042003604) rfl (by decide) rfl) (n := 54) (ci := 2) (j := 1) (N := 2) rfl rfl rfl (by rw [shp_app (shp_lt hk2)]; exact hk2) (by decide) (v := .long d1) (by rw [rd_app (shp_lt hk2)]; exact q1) ?_
      refine g_loadL act (gx gp_91 (w := 0x2003706) rfl (by decide) rfl) (a := 2) (n := 55) rfl rfl rfl ?_
      refine g_ldiv act (gx gp_91 (w := 0x3816) rfl (by decide) rfl) (n := 56) (nz64 zn1) rfl ?_
      refine g_lmul act (gx gp_91 (w := 0x3915) rfl (by decide) rfl) (n := 57) rfl ?_
      refine n_call tb_pres act hEnd (gx (P := G_call) gp_91 (w := 0x8145300004e003c0f) rfl (by decide) rfl) (d' := D_78) rfl (as := [.ref hs.length, .long ((a / z1) * (c1 / z2)), .long ((b / z2) * (d1 / z1))]) (rest := [.ref hs.length]) (b_frI (shp_of (app_at _ _))) (show (3 : Nat) = fb 0x8145300004e003c0f % 16 by decide) (by show (5 : Nat) ≤ 5; decide) (fun _ => ⟨_, _, rfl, _, app_at _ _, Or.inl (show fb 0x8145300004e003c0f >>> 68 = 0 by decide)⟩) (by omega) (by show 8 + (5 + 11) + 12 ≤ R.locals; omega) (by show (1 : Nat) ≤ 8; decide) (by show kc + 1 + 0 ≤ _; omega) (by show ks + 2 + 0 ≤ _; omega) (fun r9 hs9 hpo hr9 => ?_) (fun x9 hs9 hx9 hpo => ?_)
      · obtain rfl : r9 = none := hr9.elim (fun q => q.2) (fun q => absurd rfl q.1)
        obtain ⟨-, rfl⟩ := hpo
        show WpN (gp g0 wp) CLS p l e R s m args below meth c Q D_91.2.2.1 kc0 ks0 60 [some (.ref k), some (.ref k2), some (.long z1), none, some (.long z2), none] ((wr (wr (hs ++ [((2, 2, fun j => dv (ftX 2 j)) : CE)]) hs.length 0 (.long ((a / z1) * (c1 / z2)))) hs.length 1 (.long ((b / z2) * (d1 / z1)))), kc + 1, ks + 2) [.ref hs.length]
        exact g_retA hEnd (gx gp_91 (w := 0x31) rfl (by decide) rfl) (Or.inr ⟨_, rfl⟩) ⟨rfl, rfl, _, _, nf_of, z1, z2, hz1, hz2, rfl, rfl⟩ (by show kc + 1 ≤ kc + 1; omega) (by show ks + 2 ≤ ks + 11; omega)
      · exact absurd hpo.1 (by omega)
    · exact absurd hpo.1 (by omega)
  · exact absurd hpo.1 (by omega)
theorem b_overX (hlen : hs.length + 2 ≤ 6999999999999) (hk : shp hs k = some (2, 2)) (h0 : rd hs k 0 = .long a) (h1 : rd hs k 1 = .long b) (hk2 : shp hs k2 = some (2, 2)) (q0 : rd hs k2 0 = .long on) (q1 : rd hs k2 1 = .long od) (hod : od.toInt = 1) (hon : on.toInt ≠ -9223372036854775808) (hb : b.toInt ≠ 0) : BodyN SSX TBL g0 CLS bl xs l D_85 3 70 2 22 [.ref k, .ref k2] hs (fun kd r h2 => kd = 0 ∧ r = some (.ref (hs.length + 1)) ∧ ∃ (hm : List CE) (n1 m1 n d : Int64), NWF hs hm n1 m1 ∧ NWF hm h2 n d ∧ (n.toInt ≠ 0 ∨ d.toInt ≠ 0)) := by
  intro wp p e R s m args below meth c Q kc0 ks0 kc ks act hf hl hc hsl hEnd
  show WpN (gp g0 wp) CLS p l e R s m args below meth c Q D_85.2.2.1 kc0 ks0 0 [some (.ref k), some (.ref k2)] (hs, kc, ks) []
  refine g_loadA act (gx gp_85 (w := 0x103) rfl (by decide) rfl) (a := 0) (n := 1) rfl rfl rfl ?_
  refine g_loadA act (gx gp_85 (w := 0x1000203) rfl (by decide) rfl) (a := 1) (n := 2) rfl rfl rfl ?_
  refine r_getf act (gx gp_85 (w := 0x2000042000504) rfl (by decide) rfl) (n := 5) (ci := 2) (j := 1) (N := 2) rfl rfl rfl hk2 (by decide) (v := .long od) q1 ?_
  refine g_loadA act (gx gp_85 (w := 0x1000603) rfl (by decide) rfl) (a := 1) (n := 6) rfl rfl rfl ?_
  refine r_getf act (gx gp_85 (w := 0x2000002000904) rfl (by decide) rfl) (n := 9) (ci := 2) (j := 0) (N := 2) rfl rfl rfl hk2 (by decide) (v := .long on) q0 ?_
  refine n_call tb_pres act hEnd (gx (P := G_call) gp_85 (w := 0x42042000054000c0f) rfl (by decide) rfl) (d' := D_84) rfl (as := [.long od, .long on]) (rest := [.ref k]) (b_ofX (a := od) (b := on) (hs := hs) (by omega)) (show (2 : Nat) = fb 0x42042000054000c0f % 16 by decide) (by show (4 : Nat) ≤ 8; decide) (fun q => absurd q (by decide)) (by omega) (by show 8 + (8 + 11) + 40 ≤ R.locals; omega) (by show (1 : Nat) ≤ 8; decide) (by show kc + 1 ≤ _; omega) (by show ks + 11 ≤ _; omega) (fun r9 hm hpo hr9 => ?_) (fun x9 hs9 hx9 hpo => ?_)
  · obtain ⟨-, rfl, n1, m1, hN, hO⟩ := hpo
    show WpN (gp g0 wp) CLS p l e R s m args below meth c Q D_85.2.2.1 kc0 ks0 12 [some (.ref k), some (.ref k2)] (hm, kc + 1, ks + 11) [.ref hs.length, .ref k]
    refine n_call tb_pres act hEnd (gx (P := G_call) gp_85 (w := 0x3000000000000c182200005b000f0f) rfl (by decide) rfl) (d' := D_91) rfl (as := [.ref k, .ref hs.length]) (rest := []) (b_timesX (a := a) (b := b) (c1 := n1) (d1 := m1) (by rw [hN.1]; omega) (nwf_shp hN hk) ((nwf_rd hN (shp_lt hk)).trans h0) ((nwf_rd hN (shp_lt hk)).trans h1) hN.2.2.1 hN.2.2.2.1 hN.2.2.2.2) (show (2 : Nat) = fb 0x3000000000000c182200005b000f0f % 16 by decide) (by show (2 : Nat) ≤ 6; decide) (fun _ => ⟨_, _, rfl, _, shp_at (nwf_shp hN hk), Or.inr (show fb 0x3000000000000c182200005b000f0f >>> 68 = 3 by decide)⟩) (by omega) (by show 8 + (6 + 11) + 40 ≤ R.locals; omega) (by show (0 : Nat) ≤ 8; decide) (by show kc + 1 + 1 ≤ _; omega) (by show ks + 11 + 11 ≤ _; omega) (fun r9 h9 hpo hr9 => ?_) (fun x9 hs9 hx9 hpo => ?_)
    · obtain ⟨-, rfl, n, d, hM, g1, g2, c1, c2, hn, hd⟩ := hpo
      rw [show hm.length = hs.length + 1 from hN.1]
      show WpN (gp g0 wp) CLS p l e R s m args below meth c Q D_85.2.2.1 kc0 ks0 15 [some (.ref k), some (.ref k2)] (h9, kc + 1 + 1, ks + 11 + 11) [.ref (hs.length + 1)]
      exact g_retA hEnd (gx gp_85 (w := 0x31) rfl (by decide) rfl) (Or.inr ⟨_, rfl⟩) ⟨rfl, rfl, hm, n1, m1, n, d, hN, hM, over_nz hO hod hon hb c1 c2 hn hd⟩ (by show kc + 1 + 1 ≤ kc + 2; omega) (by show ks + 11 + 11 ≤ ks + 22; omega)
    · exact absurd hpo.1 (by omega)
  · exact absurd hpo.1 (by omega)
end OFY

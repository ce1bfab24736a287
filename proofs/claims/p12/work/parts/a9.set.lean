/-! setLimit. -/
theorem po_int {K : KX} {Inv : List Nat → List CE → Prop} {c : CT9} {R R' : List Nat} {hs h2 : List CE} {σ : Nat → Int} {x : Int32} (hm : ((0, [(-2147483648, 2147483647, false)], [(1, c.2.1.1.length, 0, 0)], c.2.1.2.2, c.2.1.1) : PS9) ∈ c.2.2.1) (hn : noRaw c.2.1.2.2 = true) (hX : HX K Inv R hs R' h2) (hl : h2.length ≤ hs.length + c.2.2.2.2.2.1) (hE : EM c.2.1.1 σ) (hRg : RgM K hs R c.2.1.1.length σ c.2.1.2.2) (hrg : ∀ q ∈ K.2.2, rd h2 q.2.1 q.2.2 = rd hs q.2.1 q.2.2) : PO9 K Inv c R hs σ 0 (some (.int x)) h2 := by
  have hr := i_rng x
  refine ⟨R', upS σ c.2.1.1.length x.toInt, _, hm, rfl, hX, hl, fun s h => upS_lt σ _ h, rfl, ?_, ⟨.int x, [], rfl, Or.inr (Or.inl ⟨rfl, x, rfl, ?_, ?_⟩), rfl⟩, fun i q a hi ha => ?_⟩
  · exact hE.ext hr.1 (by show x.toInt ≤ (2147483647 : Int); omega) (fun h => by cases h)
  · show c.2.1.1.length < (c.2.1.1 ++ [((-2147483648, 2147483647, false) : EV)]).length
    rw [List.length_append]
    exact Nat.lt_succ_self _
  · show x.toInt = upS σ _ _ _ + (0 : Int)
    rw [upS_same, Int.add_zero]
  · rw [hrg q (List.mem_of_getElem? hi)]
    refine (hRg i q a hi ha).mono2 (noRaw_t hn ha) ?_ (fun s h => upS_lt σ _ h) (fun k r h _ => hX.2.1 k r h)
    show _ ≤ (c.2.1.1 ++ [((-2147483648, 2147483647, false) : EV)]).length
    rw [List.length_append]
    exact Nat.le_succ _
theorem vm_same {K : KX} {n0 n0' n n' : Nat} {hs hs' : List CE} {R R' : List Nat} {σ σ' : Nat → Int} {a a' : AV} {v v' : Value} (h : VM K n0 hs R n σ a v) (h' : VM K n0' hs' R' n' σ' a' v') (ht : a.1 = 1 ∨ a.1 = 2) (e1 : a'.1 = a.1) (e2 : a'.2.2.2 = a.2.2.2) (e3 : σ' a'.2.1 = σ a.2.1) : v' = v := by
  rcases ht with ht | ht
  · obtain ⟨x, rfl, -, hx⟩ := h.int ht
    obtain ⟨y, rfl, -, hy⟩ := h'.int (e1.trans ht)
    rw [show y = x from Int32.toInt_inj.mp (by omega)]
  · obtain ⟨x, rfl, -, hx⟩ := h.lng ht
    obtain ⟨y, rfl, -, hy⟩ := h'.lng (e1.trans ht)
    rw [show y = x from Int64.toInt_inj.mp (by omega)]
theorem vm_sh {K : KX} {n0 n0' n n' : Nat} {hs hs2 : List CE} {R R2 : List Nat} {σ σ' : Nat → Int} {t s s' : Nat} {v : Value} (h : VM K n0 hs R n σ (t, s, 0, 0) v) (ht : t = 1 ∨ t = 2) (hs' : s' < n') (e : σ' s' = σ s) : VM K n0' hs2 R2 n' σ' (t, s', 0, 0) v := by
  rcases ht with rfl | rfl
  · obtain ⟨x, rfl, -, hx⟩ := h.int rfl
    exact Or.inr (Or.inl ⟨rfl, x, rfl, hs', by show x.toInt = σ' s' + 0; rw [e]; exact hx⟩)
  · obtain ⟨x, rfl, -, hx⟩ := h.lng rfl
    exact Or.inr (Or.inr (Or.inl ⟨rfl, x, rfl, hs', by show x.toInt = σ' s'; rw [e]; exact hx⟩))
section SETX
variable {g0 : GG} {bl : Nat} {xs : Nat → Int32} {l : Launch} {hs : List CE} {a b lo hi i n9 : Int32} {kp kg : Nat}

theorem b_chkI  : BodyN SSX TBL g0 CLS bl xs l D_8 8 120 1 11 [.int a, .int b] hs (fun kd r h2 => hs = h2 ∧ ((kd = 0 ∧ 0 ≤ a.toInt ∧ a.toInt < b.toInt) ∨ kd = 2)) := by
  intro wp p e R s m args below meth c Q kc0 ks0 kc ks act hf hl hc hsl hEnd
  have hf : 8 ≤ R.frames := hf
  have hl : 120 ≤ R.locals := hl
  show WpN (gp g0 wp) CLS p l e R s m args below meth c Q D_8.2.2.1 kc0 ks0 0 [some (.int a), some (.int b)] (hs, kc, ks) []
  refine g_loadI act (gx gp_8 (w := 0x102) rfl (by decide) rfl) (a := 0) (n := 1) rfl rfl rfl ?_
  refine g_ifLt act (gx gp_8 (w := 0x900042a) rfl (by decide) rfl) (tgt := 9) (n := 4) rfl rfl (fun h2 => ?_) (fun h2 => ?_)
  · simp only [i_lt, i0] at h2
    exact g_throw hEnd (gx gp_8 (w := 0x1000038) rfl (by decide) rfl) (x := 1) rfl ⟨rfl, Or.inr rfl⟩ (by show kc + 1 ≤ kc + 1; omega) (by show ks + 6 ≤ ks + 11; omega) (by decide) (by decide)
  · simp only [i_lt, i0] at h2
    refine g_loadI act (gx gp_8 (w := 0x502) rfl (by decide) rfl) (a := 0) (n := 5) rfl rfl rfl ?_
    refine g_loadI act (gx gp_8 (w := 0x1000602) rfl (by decide) rfl) (a := 1) (n := 6) rfl rfl rfl ?_
    refine g_icmpLt act (gx gp_8 (w := 0x14000920) rfl (by decide) rfl) (tgt := 20) (n := 9) rfl rfl (fun h5 => ?_) (fun h5 => ?_)
    · simp only [i_lt] at h5
      exact g_retV hEnd (gx gp_8 (w := 0x18) rfl (by decide) rfl) ⟨rfl, Or.inl ⟨rfl, by omega, by omega⟩⟩ (by show kc ≤ kc + 1; omega) (by show ks ≤ ks + 11; omega)
    · simp only [i_lt] at h5
      exact g_throw hEnd (gx gp_8 (w := 0x1000038) rfl (by decide) rfl) (x := 1) rfl ⟨rfl, Or.inr rfl⟩ (by show kc + 1 ≤ kc + 1; omega) (by show ks + 6 ≤ ks + 11; omega) (by decide) (by decide)

theorem b_chkR  : BodyN SSX TBL g0 CLS bl xs l D_14 8 120 1 11 [.int a, .int lo, .int hi] hs (fun kd r h2 => hs = h2 ∧ ((kd = 0 ∧ lo.toInt ≤ a.toInt ∧ a.toInt ≤ hi.toInt) ∨ kd = 3)) := by
  intro wp p e R s m args below meth c Q kc0 ks0 kc ks act hf hl hc hsl hEnd
  have hf : 8 ≤ R.frames := hf
  have hl : 120 ≤ R.locals := hl
  show WpN (gp g0 wp) CLS p l e R s m args below meth c Q D_14.2.2.1 kc0 ks0 0 [some (.int a), some (.int lo), some (.int hi)] (hs, kc, ks) []
  refine g_loadI act (gx gp_14 (w := 0x102) rfl (by decide) rfl) (a := 0) (n := 1) rfl rfl rfl ?_
  refine g_loadI act (gx gp_14 (w := 0x1000202) rfl (by decide) rfl) (a := 1) (n := 2) rfl rfl rfl ?_
  refine g_icmpLt act (gx gp_14 (w := 0xa000520) rfl (by decide) rfl) (tgt := 10) (n := 5) rfl rfl (fun h3 => ?_) (fun h3 => ?_)
  · simp only [i_lt] at h3
    exact g_throw hEnd (gx gp_14 (w := 0x2000038) rfl (by decide) rfl) (x := 2) rfl ⟨rfl, Or.inr rfl⟩ (by show kc + 1 ≤ kc + 1; omega) (by show ks + 6 ≤ ks + 11; omega) (by decide) (by decide)
  · simp only [i_lt] at h3
    refine g_loadI act (gx gp_14 (w := 0x602) rfl (by decide) rfl) (a := 0) (n := 6) rfl rfl rfl ?_
    refine g_loadI act (gx gp_14 (w := 0x2000702) rfl (by decide) rfl) (a := 2) (n := 7) rfl rfl rfl ?_
    refine g_icmpLe act (gx gp_14 (w := 0x15000a3c) rfl (by decide) rfl) (tgt := 21) (n := 10) rfl rfl (fun h6 => ?_) (fun h6 => ?_)
    · simp only [i_le] at h6
      exact g_retV hEnd (gx gp_14 (w := 0x18) rfl (by decide) rfl) ⟨rfl, Or.inl ⟨rfl, by omega, by omega⟩⟩ (by show kc ≤ kc + 1; omega) (by show ks ≤ ks + 11; omega)
    · simp only [i_le] at h6
      exact g_throw hEnd (gx gp_14 (w := 0x2000038) rfl (by decide) rfl) (x := 2) rfl ⟨rfl, Or.inr rfl⟩ (by show kc + 1 ≤ kc + 1; omega) (by show ks + 6 ≤ ks + 11; omega) (by decide) (by decide)

theorem b_chkL (hk : shp hs kp = some (0, 7)) (e1 : rd hs kp 6 = .ref kg) (hk2 : shp hs kg = some (4, 18)) (e2 : rd hs kg 2 = .int n9) : BodyN SSX TBL g0 CLS bl xs l D_10 9 141 1 11 [.ref kp, .int i] hs (fun kd r h2 => hs = h2 ∧ ((kd = 0 ∧ 0 ≤ i.toInt ∧ i.toInt < n9.toInt) ∨ kd = 2)) := by
  intro wp p e R s m args below meth c Q kc0 ks0 kc ks act hf hl hc hsl hEnd
  have hf : 9 ≤ R.frames := hf
  have hl : 141 ≤ R.locals := hl
  show WpN (gp g0 wp) CLS p l e R s m args below meth c Q D_10.2.2.1 kc0 ks0 0 [some (.ref kp), some (.int i)] (hs, kc, ks) []
  refine g_loadI act (gx gp_10 (w := 0x1000102) rfl (by decide) rfl) (a := 1) (n := 1) rfl rfl rfl ?_
  refine g_loadA act (gx gp_10 (w := 0x203) rfl (by decide) rfl) (a := 0) (n := 2) rfl rfl rfl ?_
  refine r_getf act (gx gp_10 (w := 0x3000180000504) rfl (by decide) rfl) (n := 5) (ci := 0) (j := 6) (N := 7) rfl rfl rfl hk (by decide) (v := .ref kg) e1 ?_
  refine r_getf act (gx gp_10 (w := 0x84000804) rfl (by decide) rfl) (n := 8) (ci := 4) (j := 2) (N := 18) rfl rfl rfl hk2 (by decide) (v := .int n9) e2 ?_
  refine n_call tb_pres act hEnd (gx (P := G_call) gp_10 (w := 0x822000008000b0f) rfl (by decide) rfl) (d' := D_8) rfl (as := [.int i, .int n9]) (rest := []) b_chkI (show (2 : Nat) = fb 0x822000008000b0f % 16 by decide) (by show (2 : Nat) ≤ 2; decide) (fun q => absurd q (by decide)) (by omega) (by show 8 + (2 + 11) + 120 ≤ R.locals; omega) (by show (0 : Nat) ≤ 8; decide) (by show kc + 1 ≤ _; omega) (by show ks + 11 ≤ _; omega) (fun r9 hs9 hpo hr9 => ?_) (fun x9 hs9 hx9 hpo => ?_)
  · obtain rfl : r9 = none := hr9.elim (fun q => q.2) (fun q => absurd rfl q.1)
    obtain ⟨rfl, hq⟩ := hpo
    obtain ⟨-, q1, q2⟩ := hq.resolve_right (by decide)
    show WpN (gp g0 wp) CLS p l e R s m args below meth c Q D_10.2.2.1 kc0 ks0 11 [some (.ref kp), some (.int i)] (hs, kc + 1, ks + 11) []
    exact g_retV hEnd (gx gp_10 (w := 0x18) rfl (by decide) rfl) ⟨rfl, Or.inl ⟨rfl, q1, q2⟩⟩ (by show kc + 1 ≤ kc + 1; omega) (by show ks + 11 ≤ ks + 11; omega)
  · obtain ⟨rfl, hq⟩ := hpo
    refine Or.inr ⟨rfl, ⟨rfl, Or.inr (by omega)⟩, by show kc + 1 ≤ kc + 1; omega, by show ks + 11 ≤ ks + 11; omega⟩

end SETX
theorem sh_59 (H51 : SemC KC InvC ch_51) : SemC KC InvC ch_59 := by
  refine ⟨D_59, rfl, rfl, fun g0 bl xs l hs R0 σ as hTY hT hInv hlen hE hA hRg => ?_⟩
  obtain ⟨v0, S0, rfl, m0, v1, S1, rfl, m1, v2, S2, rfl, m2, hz⟩ := hA
  have hz : S2 = [] := hz
  subst hz
  have hI := invC_KC
  obtain ⟨kp, rfl, hkp, -⟩ := (m0.rf3 rfl).one rfl
  have hkp : R0[kp]? = some 1 := hkp
  obtain ⟨i, rfl, -, ei⟩ := m1.int rfl
  obtain ⟨v, rfl, -, ev⟩ := m2.int rfl
  obtain ⟨d6, hd6, -, -, -, hb6⟩ := si_6 hI
  obtain rfl : D_69 = d6 := Option.some.inj ((show mdx 69 = some D_69 from rfl).symm.trans hd6)
  obtain ⟨d5, hd5, -, hb51⟩ := H51
  obtain rfl : D_51 = d5 := Option.some.inj ((show mdx 51 = some D_51 from rfl).symm.trans hd5)
  obtain ⟨kg, e_kg, r_kg⟩ := ty_ref (r2 := 5) (j := 6) hT hkp (by decide) (by decide) (Or.inl rfl) rfl (by decide)
  obtain ⟨n9, kl, en, el, rkl, n6, hge⟩ := hInv.1 kg r_kg
  have hlen : hs.length + 6 ≤ 6999999999999 := hlen
  have X0 : HX KC InvC R0 hs R0 hs := ⟨hT, fun _ _ h => h, fun _ _ _ _ => rfl, hInv⟩
  intro wp p e R s m args below meth c Q kc0 ks0 kc ks act hf hl hc hsl hEnd
  have hf : 10 ≤ R.frames := hf
  have hl : 300 ≤ R.locals := hl
  have hc : kc + 6 ≤ R.cells + kc0 := hc
  have hsl : ks + 11 * 6 ≤ R.slots + ks0 := hsl
  have hTY : TYg (gp g0 wp) := hTY
  show WpN (gp g0 wp) CLS p l e R s m args below meth c Q D_59.2.2.1 kc0 ks0 0 [some (.ref kp), some (.int i), some (.int v), none] (hs, kc, ks) []
  refine g_loadA act (gx gp_59 (w := 0x103) rfl (by decide) rfl) (a := 0) (n := 1) rfl rfl rfl ?_
  refine g_loadI act (gx gp_59 (w := 0x1000202) rfl (by decide) rfl) (a := 1) (n := 2) rfl rfl rfl ?_
  refine n_call tb_pres act hEnd (gx (P := G_call) gp_59 (w := 0x10000000000008082200000a00050f) rfl (by decide) rfl) (d' := D_10) rfl (as := [.ref kp, .int i]) (rest := []) (b_chkL (kg := kg) (n9 := n9) (ty_shp hT hkp (by decide) rfl rfl) e_kg (ty_shp hT r_kg (by decide) rfl rfl) en) (show (2 : Nat) = fb 0x10000000000008082200000a00050f % 16 by decide) (by show (2 : Nat) ≤ 2; decide) (fun _ => ⟨_, _, rfl, _, shp_at (ty_shp hT hkp (by decide) (a := 0) (b := 7) rfl rfl), Or.inr (show fb 0x10000000000008082200000a00050f >>> 68 = 1 by decide)⟩) (by omega) (by show 8 + (2 + 11) + 141 ≤ R.locals; omega) (by show (0 : Nat) ≤ 8; decide) (by show kc + 1 ≤ _; omega) (by show ks + 11 ≤ _; omega) (fun r9 hs9 hpo hr9 => ?_) (fun x9 hs9 hx9 hpo => ?_)
  · obtain rfl : r9 = none := hr9.elim (fun q => q.2) (fun q => absurd rfl q.1)
    obtain ⟨rfl, hq⟩ := hpo
    obtain ⟨-, q1, q2⟩ := hq.resolve_right (by decide)
    show WpN (gp g0 wp) CLS p l e R s m args below meth c Q D_59.2.2.1 kc0 ks0 5 [some (.ref kp), some (.int i), some (.int v), none] (hs, kc + 1, ks + 11) []
    refine g_loadI act (gx gp_59 (w := 0x2000602) rfl (by decide) rfl) (a := 2) (n := 6) rfl rfl rfl ?_
    refine g_constI act (gx gp_59 (w := 0x40000000c00000009000000000701) rfl (by decide) rfl) (n := 7) (x := (1 : Int32)) (by decide) rfl ?_
    refine g_constI act (gx gp_59 (w := 0x40000064400000641000000000a01) rfl (by decide) rfl) (n := 10) (x := (200 : Int32)) (by decide) rfl ?_
    refine n_call tb_pres act hEnd (gx (P := G_call) gp_59 (w := 0xc3300000e000d0f) rfl (by decide) rfl) (d' := D_14) rfl (as := [.int v, .int (1 : Int32), .int (200 : Int32)]) (rest := []) b_chkR (show (3 : Nat) = fb 0xc3300000e000d0f % 16 by decide) (by show (3 : Nat) ≤ 3; decide) (fun q => absurd q (by decide)) (by omega) (by show 8 + (3 + 11) + 120 ≤ R.locals; omega) (by show (0 : Nat) ≤ 8; decide) (by show kc + 1 + 1 ≤ _; omega) (by show ks + 11 + 11 ≤ _; omega) (fun r9 hs9 hpo hr9 => ?_) (fun x9 hs9 hx9 hpo => ?_)
    · obtain rfl : r9 = none := hr9.elim (fun q => q.2) (fun q => absurd rfl q.1)
      obtain ⟨rfl, hq⟩ := hpo
      obtain ⟨-, q3, q4⟩ := hq.resolve_right (by decide)
      have q3 : 1 ≤ v.toInt := q3
      have q4 : v.toInt ≤ 200 := q4
      show WpN (gp g0 wp) CLS p l e R s m args below meth c Q D_59.2.2.1 kc0 ks0 13 [some (.ref kp), some (.int i), some (.int v), none] (hs, kc + 1 + 1, ks + 11 + 11) []
      refine g_loadA act (gx gp_59 (w := 0xe03) rfl (by decide) rfl) (a := 0) (n := 14) rfl rfl rfl ?_
      refine r_getf act (gx gp_59 (w := 0x3000180001104) rfl (by decide) rfl) (n := 17) (ci := 0) (j := 6) (N := 7) rfl rfl rfl (ty_shp hT hkp (by decide) rfl rfl) (by decide) (v := .ref kg) e_kg ?_
      refine r_getf act (gx gp_59 (w := 0x3000204001404) rfl (by decide) rfl) (n := 20) (ci := 4) (j := 8) (N := 18) rfl rfl rfl (ty_shp hT r_kg (by decide) rfl rfl) (by decide) (v := .ref kl) el ?_
      refine g_loadI act (gx gp_59 (w := 0x1001502) rfl (by decide) rfl) (a := 1) (n := 21) rfl rfl rfl ?_
      obtain ⟨x9, ex, x1⟩ := hge i.toInt.toNat (by omega)
      obtain ⟨y9, ey, -, y1⟩ := ty_int (lo := 0) (hi := 200) (j := i.toInt.toNat) hT rkl (by decide) (by show _ < 6; omega) (Or.inr (Or.inr rfl)) rfl
      rw [ex] at ey
      cases ey
      refine r_iald act (gx gp_59 (w := 0x161a) rfl (by decide) rfl) (n := 22) (N := 6) rfl (ty_shp hT rkl (by decide) rfl rfl) (j := i.toInt.toNat) (by omega) (by omega) (v := .int x9) ex ?_
      refine g_storeI act (gx gp_59 (w := 0x3001710) rfl (by decide) rfl) (a := 3) (n := 23) rfl rfl (L2 := [some (.ref kp), some (.int i), some (.int v), some (.int x9)]) rfl ?_
      refine g_loadA act (gx gp_59 (w := 0x1803) rfl (by decide) rfl) (a := 0) (n := 24) rfl rfl rfl ?_
      have X1 := HX.app0 hI X0 ((8, 5, fun j => dv (ftX 8 j)) : CE)
      have rl1 : (R0 ++ [0])[hs.length]? = some 0 := by rw [← hT.1]; exact app_role
      have hkp1 := X1.2.1 kp 1 hkp
      refine r_new act (gx gp_59 (w := 0x5000008001b28) rfl (by decide) rfl) (n := 27) (ci := 8) (N := 5) (by decide) (by decide) (by omega) (by omega) (by omega) rfl ?_
      refine g_dup act (gx gp_59 (w := 0x1c22) rfl (by decide) rfl) (n := 28) rfl rfl ?_
      refine g_constI act (gx gp_59 (w := 0x40000000400000001000000001d01) rfl (by decide) rfl) (n := 29) (x := (0 : Int32)) (by decide) rfl ?_
      refine g_loadI act (gx gp_59 (w := 0x1001e02) rfl (by decide) rfl) (a := 1) (n := 30) rfl rfl rfl ?_
      refine g_constI act (gx gp_59 (w := 0x3fffffffbfffffff9000000001f01) rfl (by decide) rfl) (n := 31) (x := (-1 : Int32)) (by decide) rfl ?_
      refine g_loadI act (gx gp_59 (w := 0x3002002) rfl (by decide) rfl) (a := 3) (n := 32) rfl rfl rfl ?_
      refine g_loadA act (gx gp_59 (w := 0x2103) rfl (by decide) rfl) (a := 0) (n := 33) rfl rfl rfl ?_
      obtain ⟨x33, e_x33, r_x33⟩ := ty_ref (r2 := 5) (j := 6) X1.1 hkp1 (by decide) (by decide) (Or.inl rfl) rfl (by decide)
      refine r_getf act (gx gp_59 (w := 0x3000180002404) rfl (by decide) rfl) (n := 36) (ci := 0) (j := 6) (N := 7) rfl rfl rfl (ty_shp X1.1 hkp1 (by decide) rfl rfl) (by decide) (v := .ref x33) e_x33 ?_
      obtain ⟨x36, e_x36, r_x36⟩ := ty_ref (r2 := 41) (j := 9) X1.1 r_x33 (by decide) (by decide) (Or.inl rfl) rfl (by decide)
      refine r_getf act (gx gp_59 (w := 0x3000244002704) rfl (by decide) rfl) (n := 39) (ci := 4) (j := 9) (N := 18) rfl rfl rfl (ty_shp X1.1 r_x33 (by decide) rfl rfl) (by decide) (v := .ref x36) e_x36 ?_
      refine g_loadI act (gx gp_59 (w := 0x1002802) rfl (by decide) rfl) (a := 1) (n := 40) rfl rfl rfl ?_
      obtain ⟨x40, e_x40, lo_x40, hi_x40⟩ := ty_int (lo := -2147483648) (hi := 2147483647) (j := i.toInt.toNat) X1.1 r_x36 (by decide) (by show _ < 6; omega) (Or.inl rfl) rfl
      refine r_iald act (gx gp_59 (w := 0x291a) rfl (by decide) rfl) (n := 41) (N := 6) rfl (ty_shp X1.1 r_x36 (by decide) rfl rfl) (j := i.toInt.toNat) (by omega) (by omega) (v := .int x40) e_x40 ?_
      refine n_call tb_pres act hEnd (gx (P := G_call) gp_59 (w := 0x81866000045002c0f) rfl (by decide) rfl) (d' := D_69) rfl (f' := 1) (lam' := 12) (mc := 0) (ms := 0) (as := [.ref hs.length, .int (0 : Int32), .int i, .int (-1 : Int32), .int x9, .int x40]) (rest := [.ref hs.length, .ref kp]) (hb6 (gp g0 wp) bl xs l (hs ++ [((8, 5, fun j => dv (ftX 8 j)) : CE)]) (R0 ++ [0]) (fun s => match s with | 0 => 0 | 1 => i.toInt | 2 => -1 | 3 => x9.toInt | _ => x40.toInt) [.int 0, .int i, .int (-1), .int x9, .int x40] hs.length hTY X1.1 X1.2.2.2 (by show (hs ++ [((8, 5, fun j => dv (ftX 8 j)) : CE)]).length + 0 ≤ _; rw [List.length_append]; show hs.length + 1 + 0 ≤ _; omega) rl1 (app_at _ _) (fun s hs6 => by
        have r4 := i_rng x40
        match s, hs6 with
        | 0, _ => exact ⟨Int.le_refl _, Int.le_refl _, fun h => by cases h⟩
        | 1, _ => exact ⟨q1, by show i.toInt ≤ (5 : Int); omega, fun h => by cases h⟩
        | 2, _ => exact ⟨by show (-2147483648 : Int) ≤ -1; decide, by show (-1 : Int) ≤ 2147483647; decide, fun h => by cases h⟩
        | 3, _ => exact ⟨x1, y1, fun h => by cases h⟩
        | 4, _ => exact ⟨r4.1, by show x40.toInt ≤ (2147483647 : Int); omega, fun h => by cases h⟩
        | s + 5, h => exact absurd h (by show ¬ (s + 5 < 5); omega)) ⟨_, _, rfl, Or.inr (Or.inl ⟨rfl, _, rfl, by decide, by show (0 : Int32).toInt = (0 : Int) + 0; decide⟩), _, _, rfl, Or.inr (Or.inl ⟨rfl, _, rfl, by decide, (Int.add_zero _).symm⟩), _, _, rfl, Or.inr (Or.inl ⟨rfl, _, rfl, by decide, by show (-1 : Int32).toInt = (-1 : Int) + 0; decide⟩), _, _, rfl, Or.inr (Or.inl ⟨rfl, _, rfl, by decide, (Int.add_zero _).symm⟩), _, _, rfl, Or.inr (Or.inl ⟨rfl, _, rfl, by decide, (Int.add_zero _).symm⟩), rfl⟩) (show (6 : Nat) = fb 0x81866000045002c0f % 16 by decide) (by show (6 : Nat) ≤ 6; decide) (fun _ => ⟨_, _, rfl, _, app_at _ _, Or.inl (show fb 0x81866000045002c0f >>> 68 = 0 by decide)⟩) (by omega) (by show 8 + (6 + 11) + 12 ≤ R.locals; omega) (by show (2 : Nat) ≤ 8; decide) (by show kc + 1 + 1 + 1 + 0 ≤ _; omega) (by show ks + 11 + 11 + 5 + 0 ≤ _; omega) (fun r9 h2 hpo hr9 => ?_) (fun x9 hs9 hx9 hpo => ?_)
      · obtain rfl : r9 = none := hr9.elim (fun q => q.2) (fun q => absurd rfl q.1)
        obtain ⟨-, -, R2, p1, p2, p3, p4, p5, p6, p7⟩ := hpo
        have hlt0 : ∀ k r : Nat, R0[k]? = some r → k < hs.length := fun k r h => by rw [← hT.1]; exact (List.getElem?_eq_some_iff.mp h).1
        have X2 : HX KC InvC R0 hs R2 h2 := ⟨p3, fun k r h => p2 k r (X1.2.1 k r h) (by have := hlt0 k r h; omega), fun k r h h9 => (p5 k r (X1.2.1 k r h) h9 (by have := hlt0 k r h; omega)).trans (X1.2.2.1 k r h h9), p4⟩
        have ln2 : h2.length ≤ hs.length + 1 := by have := p6; rw [List.length_append] at this; exact this
        have rg2 : ∀ q ∈ KC.2.2, rd h2 q.2.1 q.2.2 = rd hs q.2.1 q.2.2 := fun q hq => (p7 q hq).trans (rd_app (reg_lt hT hq))
        have hkp2 := X2.2.1 kp 1 hkp
        show WpN (gp g0 wp) CLS p l e R s m args below meth c Q D_59.2.2.1 kc0 ks0 44 [some (.ref kp), some (.int i), some (.int v), some (.int x9)] (h2, kc + 1 + 1 + 1, ks + 11 + 11 + 5) [.ref hs.length, .ref kp]
        have hRg2 : RgM KC hs R2 9 σ ch_59.2.1.2.2 := fun i q a hi ha => (hRg i q a hi ha).mono2 (noRaw_t (by decide) ha) (Nat.le_refl _) (fun _ _ => rfl) (fun k r h _ => X2.2.1 k r h)
        have hRg3 : RgM KC h2 R2 7 (fun s => σ (s + 2)) ch_51.2.1.2.2 := fun i q a hi ha => by
          match i, hi, ha with
          | 0, hi, ha => cases hi; cases ha; rw [rg2 _ (List.mem_of_getElem? (i := 0) rfl)]; exact vm_sh (hRg2 0 _ _ rfl rfl) (Or.inl rfl) (by decide) rfl
          | 1, hi, ha => cases hi; cases ha; rw [rg2 _ (List.mem_of_getElem? (i := 1) rfl)]; exact vm_sh (hRg2 1 _ _ rfl rfl) (Or.inl rfl) (by decide) rfl
          | 2, hi, ha => cases hi; cases ha; rw [rg2 _ (List.mem_of_getElem? (i := 2) rfl)]; exact vm_sh (hRg2 2 _ _ rfl rfl) (Or.inl rfl) (by decide) rfl
          | 3, hi, ha => cases hi; cases ha; rw [rg2 _ (List.mem_of_getElem? (i := 3) rfl)]; exact vm_sh (hRg2 3 _ _ rfl rfl) (Or.inl rfl) (by decide) rfl
          | 4, hi, ha => cases hi; cases ha; rw [rg2 _ (List.mem_of_getElem? (i := 4) rfl)]; exact vm_sh (hRg2 4 _ _ rfl rfl) (Or.inr rfl) (by decide) rfl
          | 5, hi, ha => cases hi; cases ha; rw [rg2 _ (List.mem_of_getElem? (i := 5) rfl)]; exact vm_sh (hRg2 5 _ _ rfl rfl) (Or.inl rfl) (by decide) rfl
          | 6, hi, ha => cases hi; cases ha; rw [rg2 _ (List.mem_of_getElem? (i := 6) rfl)]; exact vm_sh (hRg2 6 _ _ rfl rfl) (Or.inl rfl) (by decide) rfl
          | i + 7, hi, _ => cases hi
        refine n_call tb_pres act hEnd (gx (P := G_call) gp_59 (w := 0x100000000000080822000033002f0f) rfl (by decide) rfl) (d' := D_51) rfl (f' := 5) (lam' := 120) (mc := 3) (ms := 33) (as := [.ref kp, .ref hs.length]) (rest := []) (hb51 (gp g0 wp) bl xs l h2 R2 (fun s => σ (s + 2)) [.ref kp, .ref hs.length] hTY X2.1 X2.2.2.2 (by show h2.length + 3 ≤ _; omega) (fun s h => hE (s + 2) (by have h : s < 7 := h; show s + 2 < 9; omega)) ⟨_, _, rfl, Or.inr (Or.inr (Or.inr (Or.inl ⟨rfl, kp, 1, rfl, hkp2, by decide, by decide⟩))), _, _, rfl, Or.inr (Or.inr (Or.inr (Or.inl ⟨rfl, hs.length, 20, rfl, p1, by decide, by decide⟩))), rfl⟩ hRg3) (show (2 : Nat) = fb 0x100000000000080822000033002f0f % 16 by decide) (by show (2 : Nat) ≤ 2; decide) (fun _ => ⟨_, _, rfl, _, shp_at (ty_shp X2.1 hkp2 (by decide) (a := 0) (b := 7) rfl rfl), Or.inr (show fb 0x100000000000080822000033002f0f >>> 68 = 1 by decide)⟩) (by omega) (by show 8 + (2 + 11) + 120 ≤ R.locals; omega) (by show (0 : Nat) ≤ 8; decide) (by show kc + 1 + 1 + 1 + 3 ≤ _; omega) (by show ks + 11 + 11 + 5 + 33 ≤ _; omega) (fun r9 h3 hpo hr9 => ?_) (fun x9 hs9 hx9 hpo => ?_)
        · obtain rfl : r9 = none := hr9.elim (fun q => q.2) (fun q => absurd rfl q.1)
          obtain ⟨R3, σ3, pt, t1, t2, t3, t5, t4, t6, t7, t9, t8⟩ := hpo
          obtain rfl : pt = _ := List.mem_singleton.mp t1
          have X3 : HX KC InvC R0 hs R3 h3 := X2.tr t3
          have ln3 : h3.length ≤ h2.length + 3 := t5
          have rg3 : ∀ q ∈ KC.2.2, rd h3 q.2.1 q.2.2 = rd hs q.2.1 q.2.2 := fun q hq => by
            rw [← rg2 q hq]
            obtain ⟨i, hi⟩ := List.getElem?_of_mem hq
            match i, hi with
            | 0, hi => exact vm_same (hRg3 0 q _ hi rfl) (t8 0 q _ hi rfl) (Or.inl rfl) rfl rfl (t4 0 (by decide))
            | 1, hi => exact vm_same (hRg3 1 q _ hi rfl) (t8 1 q _ hi rfl) (Or.inl rfl) rfl rfl (t4 1 (by decide))
            | 2, hi => exact vm_same (hRg3 2 q _ hi rfl) (t8 2 q _ hi rfl) (Or.inl rfl) rfl rfl (t4 2 (by decide))
            | 3, hi => exact vm_same (hRg3 3 q _ hi rfl) (t8 3 q _ hi rfl) (Or.inl rfl) rfl rfl (t4 3 (by decide))
            | 4, hi => exact vm_same (hRg3 4 q _ hi rfl) (t8 4 q _ hi rfl) (Or.inr rfl) rfl rfl (t4 4 (by decide))
            | 5, hi => exact vm_same (hRg3 5 q _ hi rfl) (t8 5 q _ hi rfl) (Or.inl rfl) rfl rfl (t4 5 (by decide))
            | 6, hi => exact vm_same (hRg3 6 q _ hi rfl) (t8 6 q _ hi rfl) (Or.inl rfl) rfl rfl (t4 6 (by decide))
            | i + 7, hi => cases hi
          have hkp3 := X3.2.1 kp 1 hkp
          show WpN (gp g0 wp) CLS p l e R s m args below meth c Q D_59.2.2.1 kc0 ks0 47 [some (.ref kp), some (.int i), some (.int v), some (.int x9)] (h3, kc + 1 + 1 + 1 + 3, ks + 11 + 11 + 5 + 33) []
          refine g_loadA act (gx gp_59 (w := 0x3003) rfl (by decide) rfl) (a := 0) (n := 48) rfl rfl rfl ?_
          obtain ⟨x48, e_x48, r_x48⟩ := ty_ref (r2 := 5) (j := 6) X3.1 hkp3 (by decide) (by decide) (Or.inl rfl) rfl (by decide)
          refine r_getf act (gx gp_59 (w := 0x3000180003304) rfl (by decide) rfl) (n := 51) (ci := 0) (j := 6) (N := 7) rfl rfl rfl (ty_shp X3.1 hkp3 (by decide) rfl rfl) (by decide) (v := .ref x48) e_x48 ?_
          obtain ⟨x51, e_x51, r_x51⟩ := ty_ref (r2 := 46) (j := 8) X3.1 r_x48 (by decide) (by decide) (Or.inr rfl) rfl (by decide)
          refine r_getf act (gx gp_59 (w := 0x3000204003604) rfl (by decide) rfl) (n := 54) (ci := 4) (j := 8) (N := 18) rfl rfl rfl (ty_shp X3.1 r_x48 (by decide) rfl rfl) (by decide) (v := .ref x51) e_x51 ?_
          refine g_loadI act (gx gp_59 (w := 0x1003702) rfl (by decide) rfl) (a := 1) (n := 55) rfl rfl rfl ?_
          refine g_loadI act (gx gp_59 (w := 0x2003802) rfl (by decide) rfl) (a := 2) (n := 56) rfl rfl rfl ?_
          refine r_iast act (gx gp_59 (w := 0x3924) rfl (by decide) rfl) (n := 57) (j := i.toInt.toNat) rfl (N := 6) (ty_shp X3.1 r_x51 (by decide) rfl rfl) (by omega) (by omega) ?_
          have X4 := HX.wr hI X3 (j := i.toInt.toNat) (v := .int v) r_x51 (by decide) (by decide) (show VW KC R3 (8, 0, 0, 200) _ from ⟨Or.inr (Or.inr (Or.inr (Or.inr (Or.inr (Or.inl ⟨Or.inr rfl, _, rfl, by show (0 : Int) ≤ _; omega, by show _ ≤ (200 : Int); omega⟩))))), Or.inr ⟨rfl, _, rfl, by omega⟩⟩)
          have rg4 : ∀ q ∈ KC.2.2, rd (wr h3 x51 i.toInt.toNat (.int v)) q.2.1 q.2.2 = rd hs q.2.1 q.2.2 := fun q hq => (rd_ne _ _ (Or.inl (reg_ne X3.1 hq r_x51 (by decide)))).trans (rg3 q hq)
          have ln4 : (wr h3 x51 i.toInt.toNat (.int v)).length ≤ h2.length + 3 := by rw [wr_len]; exact ln3
          generalize (wr h3 x51 i.toInt.toNat (.int v)) = h4 at *
          refine g_loadA act (gx gp_59 (w := 0x3a03) rfl (by decide) rfl) (a := 0) (n := 58) rfl rfl rfl ?_
          obtain ⟨x58, e_x58, r_x58⟩ := ty_ref (r2 := 5) (j := 6) X4.1 hkp3 (by decide) (by decide) (Or.inl rfl) rfl (by decide)
          refine r_getf act (gx gp_59 (w := 0x3000180003d04) rfl (by decide) rfl) (n := 61) (ci := 0) (j := 6) (N := 7) rfl rfl rfl (ty_shp X4.1 hkp3 (by decide) rfl rfl) (by decide) (v := .ref x58) e_x58 ?_
          obtain ⟨x61, e_x61, r_x61⟩ := ty_ref (r2 := 41) (j := 9) X4.1 r_x58 (by decide) (by decide) (Or.inl rfl) rfl (by decide)
          refine r_getf act (gx gp_59 (w := 0x3000244004004) rfl (by decide) rfl) (n := 64) (ci := 4) (j := 9) (N := 18) rfl rfl rfl (ty_shp X4.1 r_x58 (by decide) rfl rfl) (by decide) (v := .ref x61) e_x61 ?_
          refine g_loadI act (gx gp_59 (w := 0x1004102) rfl (by decide) rfl) (a := 1) (n := 65) rfl rfl rfl ?_
          refine g_loadA act (gx gp_59 (w := 0x4203) rfl (by decide) rfl) (a := 0) (n := 66) rfl rfl rfl ?_
          obtain ⟨x66, e_x66, r_x66⟩ := ty_ref (r2 := 5) (j := 6) X4.1 hkp3 (by decide) (by decide) (Or.inl rfl) rfl (by decide)
          refine r_getf act (gx gp_59 (w := 0x3000180004504) rfl (by decide) rfl) (n := 69) (ci := 0) (j := 6) (N := 7) rfl rfl rfl (ty_shp X4.1 hkp3 (by decide) rfl rfl) (by decide) (v := .ref x66) e_x66 ?_
          obtain ⟨x69, e_x69, r_x69⟩ := ty_ref (r2 := 41) (j := 9) X4.1 r_x66 (by decide) (by decide) (Or.inl rfl) rfl (by decide)
          refine r_getf act (gx gp_59 (w := 0x3000244004804) rfl (by decide) rfl) (n := 72) (ci := 4) (j := 9) (N := 18) rfl rfl rfl (ty_shp X4.1 r_x66 (by decide) rfl rfl) (by decide) (v := .ref x69) e_x69 ?_
          refine g_loadI act (gx gp_59 (w := 0x1004902) rfl (by decide) rfl) (a := 1) (n := 73) rfl rfl rfl ?_
          obtain ⟨x73, e_x73, lo_x73, hi_x73⟩ := ty_int (lo := -2147483648) (hi := 2147483647) (j := i.toInt.toNat) X4.1 r_x69 (by decide) (by show _ < 6; omega) (Or.inl rfl) rfl
          refine r_iald act (gx gp_59 (w := 0x4a1a) rfl (by decide) rfl) (n := 74) (N := 6) rfl (ty_shp X4.1 r_x69 (by decide) rfl rfl) (j := i.toInt.toNat) (by omega) (by omega) (v := .int x73) e_x73 ?_
          refine g_loadI act (gx gp_59 (w := 0x2004b02) rfl (by decide) rfl) (a := 2) (n := 75) rfl rfl rfl ?_
          refine n_mmax act (gx gp_59 (w := 0x4e4a) rfl (by decide) rfl) (by omega) (by omega) (by show (2 : Nat) ≤ 8; decide) (by show kc + 1 + 1 + 1 + 3 ≤ _; omega) (by show ks + 11 + 11 + 5 + 33 ≤ _; omega) rfl ?_
          refine r_iast act (gx gp_59 (w := 0x4f24) rfl (by decide) rfl) (n := 79) (j := i.toInt.toNat) rfl (N := 6) (ty_shp X4.1 r_x61 (by decide) rfl rfl) (by omega) (by omega) ?_
          have X5 := HX.wr hI X4 (j := i.toInt.toNat) (v := .int (if x73 < v then v else x73)) r_x61 (by decide) (by decide) (show VW KC R3 (1, 0, -2147483648, 2147483647) _ from vw_of (vt_int rfl (i_rng _).1 (by have := (i_rng (if x73 < v then v else x73)).2; show _ ≤ (2147483647 : Int); omega)) (by decide))
          have rg5 : ∀ q ∈ KC.2.2, rd (wr h4 x61 i.toInt.toNat (.int (if x73 < v then v else x73))) q.2.1 q.2.2 = rd hs q.2.1 q.2.2 := fun q hq => (rd_ne _ _ (Or.inl (reg_ne X4.1 hq r_x61 (by decide)))).trans (rg4 q hq)
          have ln5 : (wr h4 x61 i.toInt.toNat (.int (if x73 < v then v else x73))).length ≤ h2.length + 3 := by rw [wr_len]; exact ln4
          generalize (wr h4 x61 i.toInt.toNat (.int (if x73 < v then v else x73))) = h5 at *
          refine g_loadI act (gx gp_59 (w := 0x3005002) rfl (by decide) rfl) (a := 3) (n := 80) rfl rfl rfl ?_
          exact g_retI hEnd (gx gp_59 (w := 0x2f) rfl (by decide) rfl) (po_int (x := x9) (by decide) (by decide) X5 (by show h5.length ≤ hs.length + 6; omega) hE hRg rg5) (by show kc + 1 + 1 + 1 + 3 ≤ kc + 6; omega) (by show ks + 11 + 11 + 5 + 33 ≤ ks + 11 * 6; omega)
        · obtain ⟨R3, σ3, pt, t1, t2, -⟩ := hpo
          obtain rfl : pt = _ := List.mem_singleton.mp t1
          exact absurd t2 (by show ¬ (0 = 1 + x9); omega)
      · exact absurd hpo.1 (by omega)
    · obtain ⟨rfl, hq⟩ := hpo
      obtain rfl : x9 = 2 := by omega
      refine Or.inr ⟨rfl, po_void (kd := 1 + 2) (by decide) (by decide) X0 (Nat.le_add_right _ _) hE hRg (fun _ _ => rfl), by show kc + 2 ≤ kc + 6; omega, by show ks + 22 ≤ ks + 11 * 6; omega⟩
  · obtain ⟨rfl, hq⟩ := hpo
    obtain rfl : x9 = 1 := by omega
    refine Or.inr ⟨rfl, po_void (kd := 1 + 1) (by decide) (by decide) X0 (Nat.le_add_right _ _) hE hRg (fun _ _ => rfl), by show kc + 1 ≤ kc + 6; omega, by show ks + 11 ≤ ks + 11 * 6; omega⟩


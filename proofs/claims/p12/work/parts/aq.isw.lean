/-! isWord. -/
theorem tw_647b : Cond.methodLink D_123.1.cls 175 Lib.Str.length.name ∈ TBL := tw_647
theorem tw_657b : Cond.methodLink D_123.1.cls 179 Lib.Str.charAt.name ∈ TBL := tw_657
theorem po_rng {K : KX} {Inv : List Nat → List CE → Prop} {c : CT9} {R R' : List Nat} {hs h2 : List CE} {σ : Nat → Int} {x : Int32} {lo hi : Int} (hm : ((0, [(lo, hi, false)], [(1, c.2.1.1.length, 0, 0)], c.2.1.2.2, c.2.1.1) : PS9) ∈ c.2.2.1) (hn : noRaw c.2.1.2.2 = true) (h1 : lo ≤ x.toInt) (h2x : x.toInt ≤ hi) (hX : HX K Inv R hs R' h2) (hl : h2.length ≤ hs.length + c.2.2.2.2.2.1) (hE : EM c.2.1.1 σ) (hRg : RgM K hs R c.2.1.1.length σ c.2.1.2.2) (hrg : ∀ q ∈ K.2.2, rd h2 q.2.1 q.2.2 = rd hs q.2.1 q.2.2) : PO9 K Inv c R hs σ 0 (some (.int x)) h2 := by
  refine ⟨R', upS σ c.2.1.1.length x.toInt, _, hm, rfl, hX, hl, fun s h => upS_lt σ _ h, rfl, ?_, ⟨.int x, [], rfl, Or.inr (Or.inl ⟨rfl, x, rfl, ?_, ?_⟩), rfl⟩, fun i q a hi9 ha => ?_⟩
  · exact hE.ext h1 h2x (fun h => by cases h)
  · show c.2.1.1.length < (c.2.1.1 ++ [((lo, hi, false) : EV)]).length
    rw [List.length_append]
    exact Nat.lt_succ_self _
  · show x.toInt = upS σ _ _ _ + (0 : Int)
    rw [upS_same, Int.add_zero]
  · rw [hrg q (List.mem_of_getElem? hi9)]
    refine (hRg i q a hi9 ha).mono2 (noRaw_t hn ha) ?_ (fun s h => upS_lt σ _ h) (fun k r h _ => hX.2.1 k r h)
    show _ ≤ (c.2.1.1 ++ [((lo, hi, false) : EV)]).length
    rw [List.length_append]
    exact Nat.le_succ _
theorem lbt_len : ∀ i : Nat, i < 21 → (LBT.getD i []).length ≤ 100 := by decide
section ISW
variable {g0 : GG} {bl : Nat} {xs : Nat → Int32} {l : Launch} {hs : List CE} {R0 : List Nat} {i : Nat}

theorem b_isw (hT : HTy KC R0 hs) (hi : i < 21) : BodyN SSX TBL g0 CLS bl xs l D_123 4 100 0 0 [.ref 54, .ref (litK i)] hs (fun kd r h2 => kd = 0 ∧ hs = h2 ∧ ∃ x : Int32, r = some (.int x) ∧ 0 ≤ x.toInt ∧ x.toInt ≤ 1 ∧ ((∃ y : Int32, rd hs 54 7 = .int y ∧ 1 ≤ y.toInt) → x.toInt = 0)) := by
  intro wp p e R s m args below meth c Q kc0 ks0 kc ks act hf hl hc hsl hEnd
  have hf : 4 ≤ R.frames := hf
  have hl : 100 ≤ R.locals := hl
  obtain ⟨y0, y1, y2, y3, y4, y5, y6, ⟨e0, a0, b0⟩, ⟨e1, a1, b1⟩, ⟨e2, a2, b2⟩, ⟨e3, a3, b3⟩, ⟨e4, a4, b4⟩, ⟨e5, a5, b5⟩, ⟨e6, a6, b6⟩⟩ := rg7 hT
  obtain ⟨-, hk54, -⟩ := hT.2.2 (6, 54, 7) (by decide)
  have hk : shp hs 54 = some (5, 11) := ty_shp hT hk54 (by decide) rfl rfl
  obtain ⟨kt, ekt, rkt⟩ := ty_ref (r2 := 50) (j := 3) hT hk54 (by decide) (by decide) (Or.inl rfl) rfl (by decide)
  have hq : SSX.1[i]? = some (SSX.1[i]'hi) := List.getElem?_eq_getElem hi
  have hN := lbt_len i hi
  have eN : (Int32.ofNat (LBT.getD i []).length).toInt = ((LBT.getD i []).length : Int) := Int32.toInt_ofNat_of_lt (by omega)
  show WpN (gp g0 wp) CLS p l e R s m args below meth c Q D_123.2.2.1 kc0 ks0 0 [some (.ref 54), some (.ref (litK i)), none] (hs, kc, ks) []
  refine g_loadA act (gx gp_123 (w := 0x103) rfl (by decide) rfl) (a := 0) (n := 1) rfl rfl rfl ?_
  refine r_getf act (gx gp_123 (w := 0x1c5000404) rfl (by decide) rfl) (n := 4) (ci := 5) (j := 7) (N := 11) rfl rfl rfl hk (by decide) (v := .int y6) e6 ?_
  refine g_ifNe act (gx gp_123 (w := 0x1700071d) rfl (by decide) rfl) (tgt := 23) (n := 7) rfl rfl (fun h2 => ?_) (fun h2 => ?_)
  · simp only [i_eq, i0] at h2
    refine g_constI act (gx gp_123 (w := 0x40000000400000001000000001801) rfl (by decide) rfl) (n := 24) (x := (0 : Int32)) (by decide) rfl ?_
    exact g_retZ hEnd (gx gp_123 (w := 0x23) rfl (by decide) rfl) (Or.inl rfl) ⟨rfl, rfl, _, rfl, by decide, by decide, fun _ => rfl⟩ (by show kc ≤ kc + 0; omega) (by show ks ≤ ks + 0; omega)
  · simp only [i_eq, i0] at h2
    refine g_loadA act (gx gp_123 (w := 0x803) rfl (by decide) rfl) (a := 0) (n := 8) rfl rfl rfl ?_
    refine r_getf act (gx gp_123 (w := 0x245000b04) rfl (by decide) rfl) (n := 11) (ci := 5) (j := 9) (N := 11) rfl rfl rfl hk (by decide) (v := .int y3) e3 ?_
    refine g_loadA act (gx gp_123 (w := 0xc03) rfl (by decide) rfl) (a := 0) (n := 12) rfl rfl rfl ?_
    refine r_getf act (gx gp_123 (w := 0x205000f04) rfl (by decide) rfl) (n := 15) (ci := 5) (j := 8) (N := 11) rfl rfl rfl hk (by decide) (v := .int y2) e2 ?_
    refine g_isub act (gx gp_123 (w := 0x1026) rfl (by decide) rfl) (n := 16) rfl ?_
    refine g_loadA act (gx gp_123 (w := 0x1001103) rfl (by decide) rfl) (a := 1) (n := 17) rfl rfl rfl ?_
    refine n_strlen act (ix := 175) (i := i) hq (by decide +kernel) tw_647b (by omega) (by omega) (by show (1 : Nat) ≤ 8; decide) (by show kc ≤ _; omega) (by show ks ≤ _; omega) (n := 20) rfl ?_
    refine g_icmpEq act (gx gp_123 (w := 0x1900172e) rfl (by decide) rfl) (tgt := 25) (n := 23) rfl rfl (fun h8 => ?_) (fun h8 => ?_)
    · simp only [i_eq] at h8
      refine g_constI act (gx gp_123 (w := 0x40000000400000001000000001a01) rfl (by decide) rfl) (n := 26) (x := (0 : Int32)) (by decide) rfl ?_
      refine g_storeI act (gx gp_123 (w := 0x2001b10) rfl (by decide) rfl) (a := 2) (n := 27) rfl rfl (L2 := [some (.ref 54), some (.ref (litK i)), some (.int (0 : Int32))]) rfl ?_
      have kz : ¬ ∃ y : Int32, rd hs 54 7 = .int y ∧ 1 ≤ y.toInt := by
        rintro ⟨y, q1, q2⟩
        rw [e6] at q1
        cases q1
        omega
      simp only [eN] at h8
      have es : (y3 - y2).toInt = y3.toInt - y2.toInt := i_sub (by omega) (by omega)
      have loop : ∀ j : Int32, 0 ≤ j.toInt → j.toInt ≤ ((LBT.getD i []).length : Int) → WpN (gp g0 wp) CLS p l e R s m args below meth c Q D_123.2.2.1 kc0 ks0 27 [some (.ref 54), some (.ref (litK i)), some (.int j)] (hs, kc, ks) [] := by
          intro j h0 h1
          generalize hm : (((LBT.getD i []).length : Int) - j.toInt).toNat = m
          induction m using Nat.strongRecOn generalizing j with
          | _ m ih =>
          subst hm
          refine g_loadI act (gx gp_123 (w := 0x2001c02) rfl (by decide) rfl) (a := 2) (n := 28) rfl rfl rfl ?_
          refine g_loadA act (gx gp_123 (w := 0x1001d03) rfl (by decide) rfl) (a := 1) (n := 29) rfl rfl rfl ?_
          refine n_strlen act (ix := 175) (i := i) hq (by decide +kernel) tw_647b (by omega) (by omega) (by show (1 : Nat) ≤ 8; decide) (by show kc ≤ _; omega) (by show ks ≤ _; omega) (n := 32) rfl ?_
          refine g_icmpGe act (gx gp_123 (w := 0x3e002308) rfl (by decide) rfl) (tgt := 62) (n := 35) rfl rfl (fun h3 => ?_) (fun h3 => ?_)
          · simp only [i_le] at h3
            refine g_constI act (gx gp_123 (w := 0x40000000c00000009000000003f01) rfl (by decide) rfl) (n := 63) (x := (1 : Int32)) (by decide) rfl ?_
            exact g_retZ hEnd (gx gp_123 (w := 0x23) rfl (by decide) rfl) (Or.inr rfl) ⟨rfl, rfl, _, rfl, by decide, by decide, fun q => absurd q kz⟩ (by show kc ≤ kc + 0; omega) (by show ks ≤ ks + 0; omega)
          · simp only [i_le] at h3
            refine g_loadA act (gx gp_123 (w := 0x2403) rfl (by decide) rfl) (a := 0) (n := 36) rfl rfl rfl ?_
            refine r_getf act (gx gp_123 (w := 0x30000c5002704) rfl (by decide) rfl) (n := 39) (ci := 5) (j := 3) (N := 11) rfl rfl rfl hk (by decide) (v := .ref kt) ekt ?_
            refine g_loadA act (gx gp_123 (w := 0x2803) rfl (by decide) rfl) (a := 0) (n := 40) rfl rfl rfl ?_
            refine r_getf act (gx gp_123 (w := 0x205002b04) rfl (by decide) rfl) (n := 43) (ci := 5) (j := 8) (N := 11) rfl rfl rfl hk (by decide) (v := .int y2) e2 ?_
            refine g_loadI act (gx gp_123 (w := 0x2002c02) rfl (by decide) rfl) (a := 2) (n := 44) rfl rfl rfl ?_
            refine g_iadd act (gx gp_123 (w := 0x2d0a) rfl (by decide) rfl) (n := 45) rfl ?_
            simp only [eN] at h3
            have ea : (y2 + j).toInt = y2.toInt + j.toInt := i_add (by omega) (by omega)
            obtain ⟨cx, ecx, -⟩ := ty_int (lo := -128) (hi := 127) (j := (y2 + j).toInt.toNat) hT rkt (by decide) (by show (y2 + j).toInt.toNat < 700; omega) (Or.inl rfl) rfl
            refine r_bald act (gx gp_123 (w := 0x2e40) rfl (by decide) rfl) (n := 46) (N := 700) (j := (y2 + j).toInt.toNat) rfl (ty_shp hT rkt (by decide) rfl rfl) (by omega) (by omega) ecx ?_
            refine g_loadA act (gx gp_123 (w := 0x1002f03) rfl (by decide) rfl) (a := 1) (n := 47) rfl rfl rfl ?_
            refine g_loadI act (gx gp_123 (w := 0x2003002) rfl (by decide) rfl) (a := 2) (n := 48) rfl rfl rfl ?_
            refine n_strchr act (ix := 179) (i := i) (k := j.toInt.toNat) hq (by omega) (by omega) (by omega) (by decide +kernel) tw_657b (by omega) (by omega) (by show (1 : Nat) ≤ 8; decide) (by show kc ≤ _; omega) (by show ks ≤ _; omega) (n := 51) rfl ?_
            refine g_icmpEq act (gx gp_123 (w := 0x3800362e) rfl (by decide) rfl) (tgt := 56) (n := 54) rfl rfl (fun h10 => ?_) (fun h10 => ?_)
            · simp only [i_eq] at h10
              have ej : (j + (1 : Int32)).toInt = j.toInt + 1 := by
                rw [i_add (by show _ ≤ _ + (1 : Int); omega) (by show _ + (1 : Int) < _; omega)]
                rfl
              refine g_iinc act (gx gp_123 (w := 0x80000001000002003b09) rfl (by decide) rfl) (a := 2) (i := (1 : Int32)) (n := 59) rfl (by decide) rfl rfl (L2 := [some (.ref 54), some (.ref (litK i)), some (.int (j + (1 : Int32)))]) rfl ?_
              refine g_goto act (gx gp_123 (w := 0x1b07) rfl (by decide) rfl) (n := 27) rfl ?_
              exact ih _ (by omega) _ (by omega) (by omega) rfl
            · simp only [i_eq] at h10
              refine g_constI act (gx gp_123 (w := 0x40000000400000001000000003701) rfl (by decide) rfl) (n := 55) (x := (0 : Int32)) (by decide) rfl ?_
              exact g_retZ hEnd (gx gp_123 (w := 0x23) rfl (by decide) rfl) (Or.inl rfl) ⟨rfl, rfl, _, rfl, by decide, by decide, fun _ => rfl⟩ (by show kc ≤ kc + 0; omega) (by show ks ≤ ks + 0; omega)
      exact loop (0 : Int32) (by decide) (by show (0 : Int) ≤ _; omega)
    · simp only [i_eq] at h8
      refine g_constI act (gx gp_123 (w := 0x40000000400000001000000001801) rfl (by decide) rfl) (n := 24) (x := (0 : Int32)) (by decide) rfl ?_
      exact g_retZ hEnd (gx gp_123 (w := 0x23) rfl (by decide) rfl) (Or.inl rfl) ⟨rfl, rfl, _, rfl, by decide, by decide, fun _ => rfl⟩ (by show kc ≤ kc + 0; omega) (by show ks ≤ ks + 0; omega)

end ISW
theorem sh_123b : SemC KC InvC ch_123b := by
  refine ⟨D_123, rfl, rfl, fun g0 bl xs l hs R0 σ as hTY hT hInv hlen hE hA hRg => ?_⟩
  obtain ⟨v0, S0, rfl, m0, v1, S1, rfl, m1, hz⟩ := hA
  have hz : S1 = [] := hz
  subst hz
  obtain ⟨kr, rfl, hkr, -⟩ := (m0.rf3 rfl).one rfl
  have hkr : R0[kr]? = some 6 := hkr
  obtain rfl := (hT.2.2 (6, 54, 7) (by decide)).2.2 kr hkr
  obtain ⟨k, rfl, hkk⟩ := m1.opq rfl
  obtain ⟨i, hi, rfl⟩ := hkk rfl
  have X0 : HX KC InvC R0 hs R0 hs := ⟨hT, fun _ _ h => h, fun _ _ _ _ => rfl, hInv⟩
  refine (b_isw hT hi).imp ?_
  rintro kd r h2 ⟨rfl, rfl, x, rfl, x0, x1, -⟩
  exact po_rng (lo := 0) (hi := 1) (by decide) (by decide) x0 x1 X0 (Nat.le_refl _) hE hRg (fun _ _ => rfl)
theorem sh_123 : SemC KC InvC ch_123 := by
  refine ⟨D_123, rfl, rfl, fun g0 bl xs l hs R0 σ as hTY hT hInv hlen hE hA hRg => ?_⟩
  obtain ⟨v0, S0, rfl, m0, v1, S1, rfl, m1, hz⟩ := hA
  have hz : S1 = [] := hz
  subst hz
  obtain ⟨kr, rfl, hkr, -⟩ := (m0.rf3 rfl).one rfl
  have hkr : R0[kr]? = some 6 := hkr
  obtain rfl := (hT.2.2 (6, 54, 7) (by decide)).2.2 kr hkr
  obtain ⟨k, rfl, hkk⟩ := m1.opq rfl
  obtain ⟨i, hi, rfl⟩ := hkk rfl
  have X0 : HX KC InvC R0 hs R0 hs := ⟨hT, fun _ _ h => h, fun _ _ _ _ => rfl, hInv⟩
  obtain ⟨y, ey, -, y9⟩ := (hRg 6 (6, 54, 7) (1, 6, 0, 0) rfl rfl).int rfl
  have y9 : y.toInt = σ 6 + (0 : Int) := y9
  have h6 := (hE 6 (by decide)).1
  have h6 : (1 : Int) ≤ σ 6 := h6
  refine (b_isw hT hi).imp ?_
  rintro kd r h2 ⟨rfl, rfl, x, rfl, x0, x1, x2⟩
  have x2 := x2 ⟨y, ey, by omega⟩
  exact po_rng (lo := 0) (hi := 0) (by decide) (by decide) (by omega) (by omega) X0 (Nat.le_refl _) hE hRg (fun _ _ => rfl)
theorem handsC_KC : HandsC KC InvC := handsC remP sh_123 sh_123b

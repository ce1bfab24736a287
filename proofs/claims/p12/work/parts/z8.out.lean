/-! outputsFound. -/
theorem ty_refQ {K : KX} {R : List Nat} {hs : List CE} (hT : HTy K R hs) {k r j r2 : Nat} (hk : R[k]? = some r) (hr : r ≠ 0) (hj : j < lnK K r) (h1 : (ftK K r j).1 = 3 ∨ (ftK K r j).1 = 7) (h2 : (ftK K r j).2.1 = r2) (h3 : Nat.blt r2 1000 = true) : ∃ y : Nat, rd hs k j = .ref y ∧ R[y]? = some r2 := by
  subst h2
  obtain ⟨y, e, h, -⟩ := vt_r ((hT.2.1 k r hk hr).2 j hj) h1 h3
  exact ⟨y, e, h⟩
theorem ty_intQ {K : KX} {R : List Nat} {hs : List CE} (hT : HTy K R hs) {k r j : Nat} {lo hi : Int} (hk : R[k]? = some r) (hr : r ≠ 0) (hj : j < lnK K r) (h1 : (ftK K r j).1 = 1 ∨ (ftK K r j).1 = 6 ∨ (ftK K r j).1 = 8) (h2 : (ftK K r j).2.2 = (lo, hi)) : ∃ y : Int32, rd hs k j = .int y ∧ lo ≤ y.toInt ∧ y.toInt ≤ hi := by
  have e1 : (ftK K r j).2.2.1 = lo := by rw [h2]
  have e2 : (ftK K r j).2.2.2 = hi := by rw [h2]
  subst e1
  subst e2
  rcases h1 with h1 | h1
  · exact vt_i ((hT.2.1 k r hk hr).2 j hj) h1
  · exact vt_i6 ((hT.2.1 k r hk hr).2 j hj) h1
theorem ty_lngQ {K : KX} {R : List Nat} {hs : List CE} (hT : HTy K R hs) {k r j : Nat} (hk : R[k]? = some r) (hr : r ≠ 0) (hj : j < lnK K r) (h1 : (ftK K r j).1 = 2) : ∃ y : Int64, rd hs k j = .long y := by
  obtain ⟨y, e, -⟩ := vt_lQ ((hT.2.1 k r hk hr).2 j hj) h1
  exact ⟨y, e⟩
theorem ty_shpQ {K : KX} {R : List Nat} {hs : List CE} (hT : HTy K R hs) {k r : Nat} (hk : R[k]? = some r) (hr : r ≠ 0) {a b : Nat} (h1 : kdK K r = a) (h2 : lnK K r = b) : shp hs k = some (a, b) := by
  subst h1
  subst h2
  exact (hT.2.1 k r hk hr).1
theorem hty_wr0Q {K : KX} {R : List Nat} {hs : List CE} (h : HTy K R hs) {k j : Nat} {v : Value} (hk : R[k]? = some 0) : HTy K R (wr hs k j v) := by
  have hne : ∀ k' r' : Nat, R[k']? = some r' → r' ≠ 0 → k' ≠ k := fun k' r' h1 h2 q => by subst q; rw [hk] at h1; cases h1; exact h2 rfl
  refine ⟨by rw [wr_len]; exact h.1, fun k' r' hk' hr' => ?_, h.2.2⟩
  obtain ⟨q1, q2⟩ := h.2.1 k' r' hk' hr'
  refine ⟨by rw [shp_wr]; exact q1, fun j' hj' => ?_⟩
  rw [rd_ne _ _ (Or.inl (hne k' r' hk' hr'))]
  exact q2 j' hj'
theorem hx_wr0Q {K : KX} {Inv : List Nat → List CE → Prop} {R0 : List Nat} {hs0 : List CE} {R : List Nat} {hs : List CE} (hI : StI K Inv) (h : HX K Inv R0 hs0 R hs) {k j : Nat} {v : Value} (hk : R[k]? = some 0) (hk0 : R0.length ≤ k) : HX K Inv R0 hs0 R (wr hs k j v) := by
  obtain ⟨q1, q2, q3, q4⟩ := h
  have hne : ∀ k' r' : Nat, R[k']? = some r' → r' ≠ 0 → k' ≠ k := fun k' r' h1 h2 q => by subst q; rw [hk] at h1; cases h1; exact h2 rfl
  refine ⟨hty_wr0Q q1 hk, q2, fun k' r' h1 h2 => ?_, hI R hs R _ q4 (fun _ _ h _ => h) (fun k' r' h1 h2 => wr_ne (fun z => hne k' r' h1 (by omega) z.symm)) (fun _ _ _ h => h) (fun k' r' j' h1 h2 h5 h6 => Or.inl (rd_ne _ _ (Or.inl (hne k' r' h1 h2))))⟩
  have := (List.getElem?_eq_some_iff.mp h1).1
  rw [wr_ne (by omega)]
  exact q3 k' r' h1 h2
theorem hx_set0Q {K : KX} {Inv : List Nat → List CE → Prop} {R0 : List Nat} {hs0 : List CE} {R : List Nat} {hs : List CE} (hI : StI K Inv) (h : HX K Inv R0 hs0 R hs) {k r : Nat} (hk : R[k]? = some 0) (hk0 : R0.length ≤ k) (hn : noR K r = true) (h5 : r ≠ 5 ∧ r < 400) (hsh : shp hs k = some (kdK K r, lnK K r)) (hty : ∀ j, j < lnK K r → VT K (R.set k r) (ftK K r j) (rd hs k j)) : HX K Inv R0 hs0 (R.set k r) hs := by
  obtain ⟨q1, q2, q3, q4⟩ := h
  have ha : ∀ k' r' : Nat, R[k']? = some r' → r' ≠ 0 → (R.set k r)[k']? = some r' := fun k' r' h1 h2 => by
    rw [List.getElem?_set_ne (fun z => by subst z; rw [hk] at h1; cases h1; exact h2 rfl)]; exact h1
  refine ⟨q1.setR hk hn rfl (fun _ _ => rfl) hsh hty, fun k' r' h1 => ?_, q3, hI R hs _ hs q4 ha (fun _ _ _ _ => rfl) (fun k' r9 hr9 h => ?_) (fun _ _ _ _ _ _ _ => Or.inl rfl)⟩
  · have := (List.getElem?_eq_some_iff.mp h1).1
    rw [List.getElem?_set_ne (by omega)]
    exact q2 k' r' h1
  · by_cases z : k' = k
    · subst z
      rw [List.getElem?_set_self (List.getElem?_eq_some_iff.mp hk).1] at h
      have := Option.some.inj h
      omega
    · rwa [List.getElem?_set_ne (fun y => z y.symm)] at h
/-- the loop's state: the array is raw, its first entries are fractions -/
def OFIQ (K : KX) (Inv : List Nat → List CE → Prop) (R0 : List Nat) (hs0 : List CE) (R : List Nat) (hs : List CE) (ka : Nat) (i : Int) : Prop :=
  HX K Inv R0 hs0 R hs ∧ R0.length ≤ ka ∧ R[ka]? = some 0 ∧ shp hs ka = some (41, 5) ∧ (∀ j : Nat, (j : Int) < i → ∃ kf : Nat, rd hs ka j = .ref kf ∧ R[kf]? = some 9) ∧ (hs.length : Int) ≤ hs0.length + 1 + i ∧ ∀ q ∈ K.2.2, rd hs q.2.1 q.2.2 = rd hs0 q.2.1 q.2.2

theorem of_loopQ {Inv : List Nat → List CE → Prop} (hI : StI KCQ Inv) {g0 : GG} {bl : Nat} {xs : Nat → Int32} {l : Launch} {wp : va_W} {p : Program} {e : Env} {R9 : Room} {s : State} {m : MethodId} {args : Array Value} {below : List Frame} {meth : Method} {c : Code} {Q : State → Prop} {kc0 ks0 KC9 KS9 : Nat}  {R0 : List Nat} {hs0 : List CE} {σ : Nat → Int} {kp ka : Nat} (act : Act SSX TBL (gp g0 wp) CLS bl xs D_104 p l s m args meth c) (hEnd : EndN SSX TBL (gp g0 wp) CLS D_104 p l e R9 s m args below meth c Q kc0 ks0 4 120 KC9 KS9 (PO9 KCQ Inv ch_104Q R0 hs0 σ)) (hfr : 4 ≤ R9.frames) (hlo : 120 ≤ R9.locals) (hC1 : KC9 ≤ R9.cells + kc0) (hC2 : KS9 ≤ R9.slots + ks0) (hT0 : HTy KCQ R0 hs0) (hlen : hs0.length + 8 ≤ 6999999999999) (hkp0 : R0[kp]? = some 7) (hE : EM ch_104Q.2.1.1 σ) (hRg : RgM KCQ hs0 R0 ch_104Q.2.1.1.length σ ch_104Q.2.1.2.2) : ∀ (n : Nat) (i : Int32) (R : List Nat) (hs : List CE) (kc ks : Nat), 0 ≤ i.toInt → i.toInt + (n : Int) = 5 → OFIQ KCQ Inv R0 hs0 R hs ka i.toInt → kc + n ≤ KC9 → ks + 11 * n ≤ KS9 → WpN (gp g0 wp) CLS p l e R9 s m args below meth c Q D_104.2.2.1 kc0 ks0 7 [some (.ref kp), some (.ref ka), some (.int i), none, none] (hs, kc, ks) [] := by
  intro n
  induction n with
  | zero =>
    intro i R hs kc ks hi0 hi hO9 hk1 hk2
    obtain ⟨hX, hka, hR, hsh, hf, hln, hrg⟩ := hO9
    have hT := hX.1
    refine g_loadI act (gx gp_104 (w := 0x2000802) rfl (by decide) rfl) (a := 2) (n := 8) rfl rfl rfl ?_
    refine g_constI act (gx gp_104 (w := 0x40000002c00000029000000000901) rfl (by decide) rfl) (n := 9) (x := (5 : Int32)) (by decide) rfl ?_
    refine g_icmpGe act (gx gp_104 (w := 0x3d000c08) rfl (by decide) rfl) (tgt := 61) (n := 12) rfl rfl (fun h3 => ?_) (fun h3 => ?_)
    · simp only [i_le, show (5 : Int32).toInt = 5 from by decide] at h3
      refine g_loadA act (gx gp_104 (w := 0x1003e03) rfl (by decide) rfl) (a := 1) (n := 62) rfl rfl rfl ?_
      exact g_retA hEnd (gx gp_104 (w := 0x31) rfl (by decide) rfl) (Or.inr ⟨_, rfl⟩) (po_refQ (r := 52) (by decide) (by decide) (hx_set0Q (r := 52) hI hX hR hka (by decide) (by decide) hsh (fun j hj => by
        have hj : j < 5 := hj
        obtain ⟨kf, z1, z2⟩ := hf j (by omega)
        rw [z1]
        show VT KCQ _ (3, 9, 0, 0) _
        exact Or.inr (Or.inr (Or.inr (Or.inl ⟨rfl, kf, 9, rfl, by rw [List.getElem?_set_ne (fun y => by rw [← y, hR] at z2; exact absurd z2 (by decide))]; exact z2, by decide, by decide⟩))))) (by show hs.length ≤ hs0.length + 8; omega) hE hRg hrg (List.getElem?_set_self (List.getElem?_eq_some_iff.mp hR).1) (by decide) (by decide)) (by show kc ≤ _; omega) (by show ks ≤ _; omega)
    · simp only [i_le, show (5 : Int32).toInt = 5 from by decide] at h3
      exfalso; omega
  | succ n ih =>
    intro i R hs kc ks hi0 hi hO9 hk1 hk2
    obtain ⟨hX, hka, hR, hsh, hf, hln, hrg⟩ := hO9
    have hT := hX.1
    have hkp := hX.2.1 kp 7 hkp0
    have hl0 : R0.length = hs0.length := hT0.1
    have hle : hs0.length ≤ hs.length := by
      rw [← hT0.1, ← hT.1]
      by_cases z : R0.length = 0
      · omega
      · obtain ⟨v, hv⟩ : ∃ v, R0[R0.length - 1]? = some v := ⟨_, List.getElem?_eq_getElem (by omega)⟩
        have := (List.getElem?_eq_some_iff.mp (hX.2.1 _ _ hv)).1
        omega
    have tail : ∀ v : Int64, WpN (gp g0 wp) CLS p l e R9 s m args below meth c Q D_104.2.2.1 kc0 ks0 40 [some (.ref kp), some (.ref ka), some (.int i), none, none] (hs, kc, ks) [.long v] := by
      intro v
      refine g_storeL act (gx gp_104 (w := 0x300290b) rfl (by decide) rfl) (a := 3) (n := 41) rfl rfl (L2 := [some (.ref kp), some (.ref ka), some (.int i), some (.long v), none]) rfl ?_
      refine g_loadA act (gx gp_104 (w := 0x1002a03) rfl (by decide) rfl) (a := 1) (n := 42) rfl rfl rfl ?_
      refine g_loadI act (gx gp_104 (w := 0x2002b02) rfl (by decide) rfl) (a := 2) (n := 43) rfl rfl rfl ?_
      refine g_loadL act (gx gp_104 (w := 0x3002c06) rfl (by decide) rfl) (a := 3) (n := 44) rfl rfl rfl ?_
      refine g_loadA act (gx gp_104 (w := 0x2d03) rfl (by decide) rfl) (a := 0) (n := 45) rfl rfl rfl ?_
      obtain ⟨kr45, e_kr45, r_kr45⟩ := ty_refQ (r2 := 8) (j := 8) hT hkp (by decide) (by decide) (Or.inl rfl) rfl (by decide)
      refine r_getf act (gx gp_104 (w := 0x3000206003004) rfl (by decide) rfl) (n := 48) (ci := 6) (j := 8) (N := 10) rfl rfl rfl (ty_shpQ hT hkp (by decide) rfl rfl) (by decide) (v := .ref kr45) e_kr45 ?_
      obtain ⟨dn, e_dn⟩ := ty_lngQ (j := 1) hT r_kr45 (by decide) (by decide) rfl
      refine r_getf act (gx gp_104 (w := 0x2000047003304) rfl (by decide) rfl) (n := 51) (ci := 7) (j := 1) (N := 6) rfl rfl rfl (ty_shpQ hT r_kr45 (by decide) rfl rfl) (by decide) (v := .long dn) e_dn ?_
      refine n_call tb_pres act hEnd (gx (P := G_call) gp_104 (w := 0x4204200005400360f) rfl (by decide) rfl) (d' := D_84) rfl (as := [.long v, .long dn]) (rest := [.int i, .ref ka]) (b_ofXQ (a := v) (b := dn) (hs := hs) (by omega)) (show (2 : Nat) = fb 0x4204200005400360f % 16 by decide) (by show (4 : Nat) ≤ 8; decide) (fun q => absurd q (by decide)) (by omega) (by show 8 + (8 + 11) + 40 ≤ R9.locals; omega) (by show (2 : Nat) ≤ 8; decide) (by show kc + 1 ≤ _; omega) (by show ks + 11 ≤ _; omega) (fun r9 h2 hpo hr9 => ?_) (fun x9 hs9 hx9 hpo => ?_)
      · obtain ⟨-, rfl, n9, d9, hN, hO⟩ := hpo
        show WpN (gp g0 wp) CLS p l e R9 s m args below meth c Q D_104.2.2.1 kc0 ks0 54 [some (.ref kp), some (.ref ka), some (.int i), some (.long v), none] (h2, kc + 1, ks + 11) [.ref hs.length, .int i, .ref ka]
        refine r_aastR act (gx gp_104 (w := 0x3735) rfl (by decide) rfl) (n := 55) (N := 5) (j := i.toInt.toNat) (c9 := 41) (c2 := 2) (N2 := 2) rfl (nwf_shpQ hN hsh) hN.2.2.1 (Or.inr (Or.inr ⟨rfl, rfl⟩)) (by omega) (by omega) ?_
        refine g_iinc act (gx gp_104 (w := 0x80000001000002003a09) rfl (by decide) rfl) (a := 2) (i := (1 : Int32)) (n := 58) rfl (by decide) rfl rfl (L2 := [some (.ref kp), some (.ref ka), some (.int (i + (1 : Int32))), some (.long v), none]) rfl ?_
        refine g_goto act (gx gp_104 (w := 0x707) rfl (by decide) rfl) (n := 7) rfl ?_
        have hl9 : (R ++ [9])[R.length]? = some 9 := app_roleQ
        have hX2 := nwf_hxQ (r := 9) hI hX hN (by decide) (by decide) rfl rfl (vt_lLQ rfl rfl rfl (fun h => by cases h)) (vt_lLQ rfl rfl rfl (fun _ => hO.nz)) hl0
        have ex : ∀ k r : Nat, R[k]? = some r → (R ++ [9])[k]? = some r := fun k r h => by
          rw [List.getElem?_append_left (List.getElem?_eq_some_iff.mp h).1]; exact h
        have klt := shp_lt hsh
        have en : (i + (1 : Int32)).toInt = i.toInt + 1 := i_add (by show _ ≤ _ + (1 : Int); omega) (by show _ + (1 : Int) < _; omega)
        exact n_forget (d := D_104) (L2 := [some (.ref kp), some (.ref ka), some (.int (i + (1 : Int32))), none, none]) (fun i v hi => by
          match i, hi with
          | 0, hi => exact hi
          | 1, hi => exact hi
          | 2, hi => exact hi
          | 3, hi => cases hi
          | 4, hi => cases hi
          | i + 5, hi => cases hi) (ih (i + (1 : Int32)) (R ++ [9]) (wr h2 ka i.toInt.toNat (.ref hs.length)) _ _ (by omega) (by omega) ⟨hx_wr0Q hI hX2 (ex _ _ hR) hka, hka, ex _ _ hR, by rw [shp_wr]; exact nwf_shpQ hN hsh, fun j hj => by
            by_cases z : j = i.toInt.toNat
            · subst z
              exact ⟨hs.length, rd_same (nwf_shpQ hN hsh), by rw [← hX.1.1]; exact hl9⟩
            · obtain ⟨kf, z1, z2⟩ := hf j (by omega)
              exact ⟨kf, by rw [rd_ne _ _ (Or.inr z), nwf_rdQ hN klt]; exact z1, ex _ _ z2⟩, by rw [wr_len, hN.1]; push_cast; omega, fun q hq => by
            rw [rd_ne _ _ (Or.inl (fun y => by
              obtain ⟨w1, w2, -⟩ := hT0.2.2 q hq
              have := (List.getElem?_eq_some_iff.mp w2).1
              omega)), nwf_rdQ hN (Nat.lt_of_lt_of_le (reg_ltQ hT0 hq) hle)]
            exact hrg q hq⟩ (by omega) (by omega))
      · exact absurd hpo.1 (by omega)
    refine g_loadI act (gx gp_104 (w := 0x2000802) rfl (by decide) rfl) (a := 2) (n := 8) rfl rfl rfl ?_
    refine g_constI act (gx gp_104 (w := 0x40000002c00000029000000000901) rfl (by decide) rfl) (n := 9) (x := (5 : Int32)) (by decide) rfl ?_
    refine g_icmpGe act (gx gp_104 (w := 0x3d000c08) rfl (by decide) rfl) (tgt := 61) (n := 12) rfl rfl (fun h3 => ?_) (fun h3 => ?_)
    · simp only [i_le, show (5 : Int32).toInt = 5 from by decide] at h3
      exfalso; omega
    · simp only [i_le, show (5 : Int32).toInt = 5 from by decide] at h3
      refine g_loadI act (gx gp_104 (w := 0x2000d02) rfl (by decide) rfl) (a := 2) (n := 13) rfl rfl rfl ?_
      refine g_loadA act (gx gp_104 (w := 0xe03) rfl (by decide) rfl) (a := 0) (n := 14) rfl rfl rfl ?_
      obtain ⟨kg, e_kg, r_kg⟩ := ty_refQ (r2 := 505) (j := 5) hT hkp (by decide) (by decide) (Or.inl rfl) rfl (by decide)
      refine r_getf act (gx gp_104 (w := 0x3000146001104) rfl (by decide) rfl) (n := 17) (ci := 6) (j := 5) (N := 10) rfl rfl rfl (ty_shpQ hT hkp (by decide) rfl rfl) (by decide) (v := .ref kg) e_kg ?_
      obtain ⟨gn, e_gn, lo_gn, hi_gn⟩ := ty_intQ (lo := 0) (hi := 5) (j := 3) hT r_kg (by decide) (by decide) (Or.inl rfl) rfl
      refine r_getf act (gx gp_104 (w := 0xc4001404) rfl (by decide) rfl) (n := 20) (ci := 4) (j := 3) (N := 18) rfl rfl rfl (ty_shpQ hT r_kg (by decide) rfl rfl) (by decide) (v := .int gn) e_gn ?_
      refine g_icmpGe act (gx gp_104 (w := 0x27001708) rfl (by decide) rfl) (tgt := 39) (n := 23) rfl rfl (fun h6 => ?_) (fun h6 => ?_)
      · simp only [i_le] at h6
        refine g_constL act (gx gp_104 (w := 0x40000000000000002000000002801) rfl (by decide) rfl) (n := 40) (x := 0) (by decide) rfl ?_
        exact tail (0 : Int64)
      · simp only [i_le] at h6
        refine g_loadA act (gx gp_104 (w := 0x1803) rfl (by decide) rfl) (a := 0) (n := 24) rfl rfl rfl ?_
        obtain ⟨kr24, e_kr24, r_kr24⟩ := ty_refQ (r2 := 8) (j := 8) hT hkp (by decide) (by decide) (Or.inl rfl) rfl (by decide)
        refine r_getf act (gx gp_104 (w := 0x3000206001b04) rfl (by decide) rfl) (n := 27) (ci := 6) (j := 8) (N := 10) rfl rfl rfl (ty_shpQ hT hkp (by decide) rfl rfl) (by decide) (v := .ref kr24) e_kr24 ?_
        obtain ⟨kt, e_kt, r_kt⟩ := ty_refQ (r2 := 36) (j := 0) hT r_kr24 (by decide) (by decide) (Or.inl rfl) rfl (by decide)
        refine r_getf act (gx gp_104 (w := 0x3000007001e04) rfl (by decide) rfl) (n := 30) (ci := 7) (j := 0) (N := 6) rfl rfl rfl (ty_shpQ hT r_kr24 (by decide) rfl rfl) (by decide) (v := .ref kt) e_kt ?_
        refine g_loadI act (gx gp_104 (w := 0x2001f02) rfl (by decide) rfl) (a := 2) (n := 31) rfl rfl rfl ?_
        refine g_constI act (gx gp_104 (w := 0x40000000c00000009000000002001) rfl (by decide) rfl) (n := 32) (x := (1 : Int32)) (by decide) rfl ?_
        refine g_iadd act (gx gp_104 (w := 0x210a) rfl (by decide) rfl) (n := 33) rfl ?_
        have en : (i + (1 : Int32)).toInt = i.toInt + 1 := i_add (by show _ ≤ _ + (1 : Int); omega) (by show _ + (1 : Int) < _; omega)
        obtain ⟨kw, e_kw, r_kw⟩ := ty_refQ (r2 := 32) (j := (i + (1 : Int32)).toInt.toNat) hT r_kt (by decide) (by show _ < 6; omega) (Or.inl rfl) rfl (by decide)
        refine r_aald act (gx gp_104 (w := 0x2212) rfl (by decide) rfl) (n := 34) (N := 6) rfl (ty_shpQ hT r_kt (by decide) rfl rfl) (by decide) (j := (i + (1 : Int32)).toInt.toNat) (by omega) (by omega) (v := .ref kw) e_kw ?_
        refine g_constI act (gx gp_104 (w := 0x40000000400000001000000002301) rfl (by decide) rfl) (n := 35) (x := (0 : Int32)) (by decide) rfl ?_
        obtain ⟨lv, e_lv⟩ := ty_lngQ (j := 0) hT r_kw (by decide) (by decide) rfl
        refine r_lald act (gx gp_104 (w := 0x240d) rfl (by decide) rfl) (n := 36) (N := 6) rfl (ty_shpQ hT r_kw (by decide) rfl rfl) (j := 0) (by decide) (by decide) (v := .long lv) e_lv ?_
        refine g_goto act (gx gp_104 (w := 0x2807) rfl (by decide) rfl) (n := 40) rfl ?_
        exact tail lv

theorem sh_104Q {Inv : List Nat → List CE → Prop} (hI : StI KCQ Inv) : SemC KCQ Inv ch_104Q := by
  refine ⟨D_104, rfl, rfl, fun g0 bl xs l hs R0 σ as hTY hT hInv hlen hE hA hRg => ?_⟩
  obtain ⟨v0, S0, rfl, m0, hz⟩ := hA
  have hz : S0 = [] := hz
  subst hz
  obtain ⟨kp, rfl, hkp, -⟩ := (m0.rf3 rfl).one rfl
  have hkp : R0[kp]? = some 7 := hkp
  have hlen : hs.length + 8 ≤ 6999999999999 := hlen
  intro wp p e R s m args below meth c Q kc0 ks0 kc ks act hf hl hc hsl hEnd
  have hf : 4 ≤ R.frames := hf
  have hl : 120 ≤ R.locals := hl
  have hc : kc + 8 ≤ R.cells + kc0 := hc
  have hsl : ks + 11 * 8 ≤ R.slots + ks0 := hsl
  have hTY : TYg (gp g0 wp) := hTY
  show WpN (gp g0 wp) CLS p l e R s m args below meth c Q D_104.2.2.1 kc0 ks0 0 [some (.ref kp), none, none, none, none] (hs, kc, ks) []
  refine g_constI act (gx gp_104 (w := 0x40000002c00000029000000000101) rfl (by decide) rfl) (n := 1) (x := (5 : Int32)) (by decide) rfl ?_
  refine r_newaQ act hTY (gx gp_104 (w := 0x2900041c) rfl (by decide) rfl) (n := 4) (N := 5) (kd := 41) (by decide) (by decide) (by decide) (by omega) (by omega) (by omega) rfl ?_
  refine g_storeA act (gx gp_104 (w := 0x100052d) rfl (by decide) rfl) (a := 1) (n := 5) rfl rfl (L2 := [some (.ref kp), some (.ref hs.length), none, none, none]) rfl ?_
  refine g_constI act (gx gp_104 (w := 0x40000000400000001000000000601) rfl (by decide) rfl) (n := 6) (x := (0 : Int32)) (by decide) rfl ?_
  refine g_storeI act (gx gp_104 (w := 0x2000710) rfl (by decide) rfl) (a := 2) (n := 7) rfl rfl (L2 := [some (.ref kp), some (.ref hs.length), some (.int (0 : Int32)), none, none]) rfl ?_
  exact of_loopQ hI act hEnd hf hl (by show kc + 8 ≤ _; omega) (by show ks + 11 * 8 ≤ _; omega) hT hlen hkp hE hRg 5 0 (R0 ++ [0]) _ _ _ (by decide) (by decide) ⟨HX.app0 hI ⟨hT, fun _ _ h => h, fun _ _ _ _ => rfl, hInv⟩ _, by rw [hT.1]; exact Nat.le_refl _, by rw [← hT.1]; exact app_roleQ, shp_ofQ (app_at _ _), fun j hj => absurd hj (by show ¬ ((j : Int) < 0); omega), by rw [List.length_append]; exact Int.le_refl _, fun q hq => rd_app (reg_ltQ hT hq)⟩ (by show kc + 1 + 5 ≤ kc + 8; omega) (by show ks + 5 + 11 * 5 ≤ ks + 11 * 8; omega)

theorem of_loopDQ {Inv : List Nat → List CE → Prop} (hI : StI KDQ Inv) {g0 : GG} {bl : Nat} {xs : Nat → Int32} {l : Launch} {wp : va_W} {p : Program} {e : Env} {R9 : Room} {s : State} {m : MethodId} {args : Array Value} {below : List Frame} {meth : Method} {c : Code} {Q : State → Prop} {kc0 ks0 KC9 KS9 : Nat}  {R0 : List Nat} {hs0 : List CE} {σ : Nat → Int} {kp ka : Nat} (act : Act SSX TBL (gp g0 wp) CLS bl xs D_104 p l s m args meth c) (hEnd : EndN SSX TBL (gp g0 wp) CLS D_104 p l e R9 s m args below meth c Q kc0 ks0 4 120 KC9 KS9 (PO9 KDQ Inv ch_104Q R0 hs0 σ)) (hfr : 4 ≤ R9.frames) (hlo : 120 ≤ R9.locals) (hC1 : KC9 ≤ R9.cells + kc0) (hC2 : KS9 ≤ R9.slots + ks0) (hT0 : HTy KDQ R0 hs0) (hlen : hs0.length + 8 ≤ 6999999999999) (hkp0 : R0[kp]? = some 7) (hE : EM ch_104Q.2.1.1 σ) (hRg : RgM KDQ hs0 R0 ch_104Q.2.1.1.length σ ch_104Q.2.1.2.2) : ∀ (n : Nat) (i : Int32) (R : List Nat) (hs : List CE) (kc ks : Nat), 0 ≤ i.toInt → i.toInt + (n : Int) = 5 → OFIQ KDQ Inv R0 hs0 R hs ka i.toInt → kc + n ≤ KC9 → ks + 11 * n ≤ KS9 → WpN (gp g0 wp) CLS p l e R9 s m args below meth c Q D_104.2.2.1 kc0 ks0 7 [some (.ref kp), some (.ref ka), some (.int i), none, none] (hs, kc, ks) [] := by
  intro n
  induction n with
  | zero =>
    intro i R hs kc ks hi0 hi hO9 hk1 hk2
    obtain ⟨hX, hka, hR, hsh, hf, hln, hrg⟩ := hO9
    have hT := hX.1
    refine g_loadI act (gx gp_104 (w := 0x2000802) rfl (by decide) rfl) (a := 2) (n := 8) rfl rfl rfl ?_
    refine g_constI act (gx gp_104 (w := 0x40000002c00000029000000000901) rfl (by decide) rfl) (n := 9) (x := (5 : Int32)) (by decide) rfl ?_
    refine g_icmpGe act (gx gp_104 (w := 0x3d000c08) rfl (by decide) rfl) (tgt := 61) (n := 12) rfl rfl (fun h3 => ?_) (fun h3 => ?_)
    · simp only [i_le, show (5 : Int32).toInt = 5 from by decide] at h3
      refine g_loadA act (gx gp_104 (w := 0x1003e03) rfl (by decide) rfl) (a := 1) (n := 62) rfl rfl rfl ?_
      exact g_retA hEnd (gx gp_104 (w := 0x31) rfl (by decide) rfl) (Or.inr ⟨_, rfl⟩) (po_refQ (r := 52) (by decide) (by decide) (hx_set0Q (r := 52) hI hX hR hka (by decide) (by decide) hsh (fun j hj => by
        have hj : j < 5 := hj
        obtain ⟨kf, z1, z2⟩ := hf j (by omega)
        rw [z1]
        show VT KDQ _ (3, 9, 0, 0) _
        exact Or.inr (Or.inr (Or.inr (Or.inl ⟨rfl, kf, 9, rfl, by rw [List.getElem?_set_ne (fun y => by rw [← y, hR] at z2; exact absurd z2 (by decide))]; exact z2, by decide, by decide⟩))))) (by show hs.length ≤ hs0.length + 8; omega) hE hRg hrg (List.getElem?_set_self (List.getElem?_eq_some_iff.mp hR).1) (by decide) (by decide)) (by show kc ≤ _; omega) (by show ks ≤ _; omega)
    · simp only [i_le, show (5 : Int32).toInt = 5 from by decide] at h3
      exfalso; omega
  | succ n ih =>
    intro i R hs kc ks hi0 hi hO9 hk1 hk2
    obtain ⟨hX, hka, hR, hsh, hf, hln, hrg⟩ := hO9
    have hT := hX.1
    have hkp := hX.2.1 kp 7 hkp0
    have hl0 : R0.length = hs0.length := hT0.1
    have hle : hs0.length ≤ hs.length := by
      rw [← hT0.1, ← hT.1]
      by_cases z : R0.length = 0
      · omega
      · obtain ⟨v, hv⟩ : ∃ v, R0[R0.length - 1]? = some v := ⟨_, List.getElem?_eq_getElem (by omega)⟩
        have := (List.getElem?_eq_some_iff.mp (hX.2.1 _ _ hv)).1
        omega
    have tail : ∀ v : Int64, WpN (gp g0 wp) CLS p l e R9 s m args below meth c Q D_104.2.2.1 kc0 ks0 40 [some (.ref kp), some (.ref ka), some (.int i), none, none] (hs, kc, ks) [.long v] := by
      intro v
      refine g_storeL act (gx gp_104 (w := 0x300290b) rfl (by decide) rfl) (a := 3) (n := 41) rfl rfl (L2 := [some (.ref kp), some (.ref ka), some (.int i), some (.long v), none]) rfl ?_
      refine g_loadA act (gx gp_104 (w := 0x1002a03) rfl (by decide) rfl) (a := 1) (n := 42) rfl rfl rfl ?_
      refine g_loadI act (gx gp_104 (w := 0x2002b02) rfl (by decide) rfl) (a := 2) (n := 43) rfl rfl rfl ?_
      refine g_loadL act (gx gp_104 (w := 0x3002c06) rfl (by decide) rfl) (a := 3) (n := 44) rfl rfl rfl ?_
      refine g_loadA act (gx gp_104 (w := 0x2d03) rfl (by decide) rfl) (a := 0) (n := 45) rfl rfl rfl ?_
      obtain ⟨kr45, e_kr45, r_kr45⟩ := ty_refQ (r2 := 8) (j := 8) hT hkp (by decide) (by decide) (Or.inl rfl) rfl (by decide)
      refine r_getf act (gx gp_104 (w := 0x3000206003004) rfl (by decide) rfl) (n := 48) (ci := 6) (j := 8) (N := 10) rfl rfl rfl (ty_shpQ hT hkp (by decide) rfl rfl) (by decide) (v := .ref kr45) e_kr45 ?_
      obtain ⟨dn, e_dn⟩ := ty_lngQ (j := 1) hT r_kr45 (by decide) (by decide) rfl
      refine r_getf act (gx gp_104 (w := 0x2000047003304) rfl (by decide) rfl) (n := 51) (ci := 7) (j := 1) (N := 6) rfl rfl rfl (ty_shpQ hT r_kr45 (by decide) rfl rfl) (by decide) (v := .long dn) e_dn ?_
      refine n_call tb_pres act hEnd (gx (P := G_call) gp_104 (w := 0x4204200005400360f) rfl (by decide) rfl) (d' := D_84) rfl (as := [.long v, .long dn]) (rest := [.int i, .ref ka]) (b_ofXQ (a := v) (b := dn) (hs := hs) (by omega)) (show (2 : Nat) = fb 0x4204200005400360f % 16 by decide) (by show (4 : Nat) ≤ 8; decide) (fun q => absurd q (by decide)) (by omega) (by show 8 + (8 + 11) + 40 ≤ R9.locals; omega) (by show (2 : Nat) ≤ 8; decide) (by show kc + 1 ≤ _; omega) (by show ks + 11 ≤ _; omega) (fun r9 h2 hpo hr9 => ?_) (fun x9 hs9 hx9 hpo => ?_)
      · obtain ⟨-, rfl, n9, d9, hN, hO⟩ := hpo
        show WpN (gp g0 wp) CLS p l e R9 s m args below meth c Q D_104.2.2.1 kc0 ks0 54 [some (.ref kp), some (.ref ka), some (.int i), some (.long v), none] (h2, kc + 1, ks + 11) [.ref hs.length, .int i, .ref ka]
        refine r_aastR act (gx gp_104 (w := 0x3735) rfl (by decide) rfl) (n := 55) (N := 5) (j := i.toInt.toNat) (c9 := 41) (c2 := 2) (N2 := 2) rfl (nwf_shpQ hN hsh) hN.2.2.1 (Or.inr (Or.inr ⟨rfl, rfl⟩)) (by omega) (by omega) ?_
        refine g_iinc act (gx gp_104 (w := 0x80000001000002003a09) rfl (by decide) rfl) (a := 2) (i := (1 : Int32)) (n := 58) rfl (by decide) rfl rfl (L2 := [some (.ref kp), some (.ref ka), some (.int (i + (1 : Int32))), some (.long v), none]) rfl ?_
        refine g_goto act (gx gp_104 (w := 0x707) rfl (by decide) rfl) (n := 7) rfl ?_
        have hl9 : (R ++ [9])[R.length]? = some 9 := app_roleQ
        have hX2 := nwf_hxQ (r := 9) hI hX hN (by decide) (by decide) rfl rfl (vt_lLQ rfl rfl rfl (fun h => by cases h)) (vt_lLQ rfl rfl rfl (fun _ => hO.nz)) hl0
        have ex : ∀ k r : Nat, R[k]? = some r → (R ++ [9])[k]? = some r := fun k r h => by
          rw [List.getElem?_append_left (List.getElem?_eq_some_iff.mp h).1]; exact h
        have klt := shp_lt hsh
        have en : (i + (1 : Int32)).toInt = i.toInt + 1 := i_add (by show _ ≤ _ + (1 : Int); omega) (by show _ + (1 : Int) < _; omega)
        exact n_forget (d := D_104) (L2 := [some (.ref kp), some (.ref ka), some (.int (i + (1 : Int32))), none, none]) (fun i v hi => by
          match i, hi with
          | 0, hi => exact hi
          | 1, hi => exact hi
          | 2, hi => exact hi
          | 3, hi => cases hi
          | 4, hi => cases hi
          | i + 5, hi => cases hi) (ih (i + (1 : Int32)) (R ++ [9]) (wr h2 ka i.toInt.toNat (.ref hs.length)) _ _ (by omega) (by omega) ⟨hx_wr0Q hI hX2 (ex _ _ hR) hka, hka, ex _ _ hR, by rw [shp_wr]; exact nwf_shpQ hN hsh, fun j hj => by
            by_cases z : j = i.toInt.toNat
            · subst z
              exact ⟨hs.length, rd_same (nwf_shpQ hN hsh), by rw [← hX.1.1]; exact hl9⟩
            · obtain ⟨kf, z1, z2⟩ := hf j (by omega)
              exact ⟨kf, by rw [rd_ne _ _ (Or.inr z), nwf_rdQ hN klt]; exact z1, ex _ _ z2⟩, by rw [wr_len, hN.1]; push_cast; omega, fun q hq => by
            rw [rd_ne _ _ (Or.inl (fun y => by
              obtain ⟨w1, w2, -⟩ := hT0.2.2 q hq
              have := (List.getElem?_eq_some_iff.mp w2).1
              omega)), nwf_rdQ hN (Nat.lt_of_lt_of_le (reg_ltQ hT0 hq) hle)]
            exact hrg q hq⟩ (by omega) (by omega))
      · exact absurd hpo.1 (by omega)
    refine g_loadI act (gx gp_104 (w := 0x2000802) rfl (by decide) rfl) (a := 2) (n := 8) rfl rfl rfl ?_
    refine g_constI act (gx gp_104 (w := 0x40000002c00000029000000000901) rfl (by decide) rfl) (n := 9) (x := (5 : Int32)) (by decide) rfl ?_
    refine g_icmpGe act (gx gp_104 (w := 0x3d000c08) rfl (by decide) rfl) (tgt := 61) (n := 12) rfl rfl (fun h3 => ?_) (fun h3 => ?_)
    · simp only [i_le, show (5 : Int32).toInt = 5 from by decide] at h3
      exfalso; omega
    · simp only [i_le, show (5 : Int32).toInt = 5 from by decide] at h3
      refine g_loadI act (gx gp_104 (w := 0x2000d02) rfl (by decide) rfl) (a := 2) (n := 13) rfl rfl rfl ?_
      refine g_loadA act (gx gp_104 (w := 0xe03) rfl (by decide) rfl) (a := 0) (n := 14) rfl rfl rfl ?_
      obtain ⟨kg, e_kg, r_kg⟩ := ty_refQ (r2 := 505) (j := 5) hT hkp (by decide) (by decide) (Or.inl rfl) rfl (by decide)
      refine r_getf act (gx gp_104 (w := 0x3000146001104) rfl (by decide) rfl) (n := 17) (ci := 6) (j := 5) (N := 10) rfl rfl rfl (ty_shpQ hT hkp (by decide) rfl rfl) (by decide) (v := .ref kg) e_kg ?_
      obtain ⟨gn, e_gn, lo_gn, hi_gn⟩ := ty_intQ (lo := 0) (hi := 5) (j := 3) hT r_kg (by decide) (by decide) (Or.inl rfl) rfl
      refine r_getf act (gx gp_104 (w := 0xc4001404) rfl (by decide) rfl) (n := 20) (ci := 4) (j := 3) (N := 18) rfl rfl rfl (ty_shpQ hT r_kg (by decide) rfl rfl) (by decide) (v := .int gn) e_gn ?_
      refine g_icmpGe act (gx gp_104 (w := 0x27001708) rfl (by decide) rfl) (tgt := 39) (n := 23) rfl rfl (fun h6 => ?_) (fun h6 => ?_)
      · simp only [i_le] at h6
        refine g_constL act (gx gp_104 (w := 0x40000000000000002000000002801) rfl (by decide) rfl) (n := 40) (x := 0) (by decide) rfl ?_
        exact tail (0 : Int64)
      · simp only [i_le] at h6
        refine g_loadA act (gx gp_104 (w := 0x1803) rfl (by decide) rfl) (a := 0) (n := 24) rfl rfl rfl ?_
        obtain ⟨kr24, e_kr24, r_kr24⟩ := ty_refQ (r2 := 8) (j := 8) hT hkp (by decide) (by decide) (Or.inl rfl) rfl (by decide)
        refine r_getf act (gx gp_104 (w := 0x3000206001b04) rfl (by decide) rfl) (n := 27) (ci := 6) (j := 8) (N := 10) rfl rfl rfl (ty_shpQ hT hkp (by decide) rfl rfl) (by decide) (v := .ref kr24) e_kr24 ?_
        obtain ⟨kt, e_kt, r_kt⟩ := ty_refQ (r2 := 36) (j := 0) hT r_kr24 (by decide) (by decide) (Or.inl rfl) rfl (by decide)
        refine r_getf act (gx gp_104 (w := 0x3000007001e04) rfl (by decide) rfl) (n := 30) (ci := 7) (j := 0) (N := 6) rfl rfl rfl (ty_shpQ hT r_kr24 (by decide) rfl rfl) (by decide) (v := .ref kt) e_kt ?_
        refine g_loadI act (gx gp_104 (w := 0x2001f02) rfl (by decide) rfl) (a := 2) (n := 31) rfl rfl rfl ?_
        refine g_constI act (gx gp_104 (w := 0x40000000c00000009000000002001) rfl (by decide) rfl) (n := 32) (x := (1 : Int32)) (by decide) rfl ?_
        refine g_iadd act (gx gp_104 (w := 0x210a) rfl (by decide) rfl) (n := 33) rfl ?_
        have en : (i + (1 : Int32)).toInt = i.toInt + 1 := i_add (by show _ ≤ _ + (1 : Int); omega) (by show _ + (1 : Int) < _; omega)
        obtain ⟨kw, e_kw, r_kw⟩ := ty_refQ (r2 := 32) (j := (i + (1 : Int32)).toInt.toNat) hT r_kt (by decide) (by show _ < 6; omega) (Or.inl rfl) rfl (by decide)
        refine r_aald act (gx gp_104 (w := 0x2212) rfl (by decide) rfl) (n := 34) (N := 6) rfl (ty_shpQ hT r_kt (by decide) rfl rfl) (by decide) (j := (i + (1 : Int32)).toInt.toNat) (by omega) (by omega) (v := .ref kw) e_kw ?_
        refine g_constI act (gx gp_104 (w := 0x40000000400000001000000002301) rfl (by decide) rfl) (n := 35) (x := (0 : Int32)) (by decide) rfl ?_
        obtain ⟨lv, e_lv⟩ := ty_lngQ (j := 0) hT r_kw (by decide) (by decide) rfl
        refine r_lald act (gx gp_104 (w := 0x240d) rfl (by decide) rfl) (n := 36) (N := 6) rfl (ty_shpQ hT r_kw (by decide) rfl rfl) (j := 0) (by decide) (by decide) (v := .long lv) e_lv ?_
        refine g_goto act (gx gp_104 (w := 0x2807) rfl (by decide) rfl) (n := 40) rfl ?_
        exact tail lv

theorem sk_104Q {Inv : List Nat → List CE → Prop} (hI : StI KDQ Inv) : SemC KDQ Inv ch_104Q := by
  refine ⟨D_104, rfl, rfl, fun g0 bl xs l hs R0 σ as hTY hT hInv hlen hE hA hRg => ?_⟩
  obtain ⟨v0, S0, rfl, m0, hz⟩ := hA
  have hz : S0 = [] := hz
  subst hz
  obtain ⟨kp, rfl, hkp, -⟩ := (m0.rf3 rfl).one rfl
  have hkp : R0[kp]? = some 7 := hkp
  have hlen : hs.length + 8 ≤ 6999999999999 := hlen
  intro wp p e R s m args below meth c Q kc0 ks0 kc ks act hf hl hc hsl hEnd
  have hf : 4 ≤ R.frames := hf
  have hl : 120 ≤ R.locals := hl
  have hc : kc + 8 ≤ R.cells + kc0 := hc
  have hsl : ks + 11 * 8 ≤ R.slots + ks0 := hsl
  have hTY : TYg (gp g0 wp) := hTY
  show WpN (gp g0 wp) CLS p l e R s m args below meth c Q D_104.2.2.1 kc0 ks0 0 [some (.ref kp), none, none, none, none] (hs, kc, ks) []
  refine g_constI act (gx gp_104 (w := 0x40000002c00000029000000000101) rfl (by decide) rfl) (n := 1) (x := (5 : Int32)) (by decide) rfl ?_
  refine r_newaQ act hTY (gx gp_104 (w := 0x2900041c) rfl (by decide) rfl) (n := 4) (N := 5) (kd := 41) (by decide) (by decide) (by decide) (by omega) (by omega) (by omega) rfl ?_
  refine g_storeA act (gx gp_104 (w := 0x100052d) rfl (by decide) rfl) (a := 1) (n := 5) rfl rfl (L2 := [some (.ref kp), some (.ref hs.length), none, none, none]) rfl ?_
  refine g_constI act (gx gp_104 (w := 0x40000000400000001000000000601) rfl (by decide) rfl) (n := 6) (x := (0 : Int32)) (by decide) rfl ?_
  refine g_storeI act (gx gp_104 (w := 0x2000710) rfl (by decide) rfl) (a := 2) (n := 7) rfl rfl (L2 := [some (.ref kp), some (.ref hs.length), some (.int (0 : Int32)), none, none]) rfl ?_
  exact of_loopDQ hI act hEnd hf hl (by show kc + 8 ≤ _; omega) (by show ks + 11 * 8 ≤ _; omega) hT hlen hkp hE hRg 5 0 (R0 ++ [0]) _ _ _ (by decide) (by decide) ⟨HX.app0 hI ⟨hT, fun _ _ h => h, fun _ _ _ _ => rfl, hInv⟩ _, by rw [hT.1]; exact Nat.le_refl _, by rw [← hT.1]; exact app_roleQ, shp_ofQ (app_at _ _), fun j hj => absurd hj (by show ¬ ((j : Int) < 0); omega), by rw [List.length_append]; exact Int.le_refl _, fun q hq => rd_app (reg_ltQ hT hq)⟩ (by show kc + 1 + 5 ≤ kc + 8; omega) (by show ks + 5 + 11 * 5 ≤ ks + 11 * 8; omega)


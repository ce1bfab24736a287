/-! The Laplacian is small: cofactor, computeAngles. -/
theorem i_remA {x y : Int32} (hy : y.toInt ≠ 0) : (x - x / y * y).toInt = x.toInt.tmod y.toInt := by
  rw [Int32.toInt_sub, Int32.toInt_mul, Int32.toInt_div, Int.bmod_mul_bmod, Int.sub_bmod_bmod]
  have h1 := Int.mul_tdiv_add_tmod x.toInt y.toInt
  have h2 : x.toInt - x.toInt.tdiv y.toInt * y.toInt = x.toInt.tmod y.toInt := by rw [Int.mul_comm]; omega
  rw [h2]
  have hr := i_rng x
  have h3 : (x.toInt.tmod y.toInt).natAbs = x.toInt.natAbs % y.toInt.natAbs := Int.natAbs_tmod _ _
  have h4 : x.toInt.natAbs % y.toInt.natAbs < y.toInt.natAbs := Nat.mod_lt _ (by omega)
  have hs := i_rng y
  exact i_bm (by omega) (by omega)
theorem i_rem3 {x : Int32} (h : 0 ≤ x.toInt) : 0 ≤ (x - x / (3 : Int32) * (3 : Int32)).toInt ∧ (x - x / (3 : Int32) * (3 : Int32)).toInt < 3 := by
  rw [i_remA (by decide)]
  exact ⟨Int.tmod_nonneg _ h, Int.tmod_lt_of_pos _ (by decide)⟩
theorem lmB {a b : Int64} {A B : Nat} (ha : a.toInt.natAbs ≤ A) (hb : b.toInt.natAbs ≤ B) (hAB : A * B < 9223372036854775808) : (a * b).toInt.natAbs ≤ A * B := by
  have h1 : (a.toInt * b.toInt).natAbs ≤ A * B := by rw [Int.natAbs_mul]; exact Nat.mul_le_mul ha hb
  rw [l_mul (by omega) (by omega)]
  exact h1
theorem lsB {a b : Int64} {A B : Nat} (ha : a.toInt.natAbs ≤ A) (hb : b.toInt.natAbs ≤ B) (hAB : A + B < 9223372036854775808) : (a - b).toInt.natAbs ≤ A + B := by
  rw [l_sub (by omega) (by omega)]
  omega
theorem laB {a b : Int64} {A B : Nat} (ha : a.toInt.natAbs ≤ A) (hb : b.toInt.natAbs ≤ B) (hAB : A + B < 9223372036854775808) : (a + b).toInt.natAbs ≤ A + B := by
  rw [l_add (by omega) (by omega)]
  omega
def LapB (hs : List CE) (kl B : Nat) : Prop := ∀ j : Nat, j < 3 → ∀ r : Nat, rd hs kl j = .ref r → ∀ c : Nat, c < 3 → ∀ x : Int64, rd hs r c = .long x → x.toInt.natAbs ≤ B
/-- within compute -/
def LST (Inv : List Nat → List CE → Prop) (R0 : List Nat) (hs0 : List CE) (kf kl B : Nat) (hs : List CE) : Prop := HX KC Inv R0 hs0 R0 hs ∧ hs.length = hs0.length ∧ rd hs kf 2 = .ref kl ∧ R0[kf]? = some 2 ∧ R0[kl]? = some 34 ∧ LapB hs kl B ∧ ∀ q ∈ KC.2.2, rd hs q.2.1 q.2.2 = rd hs0 q.2.1 q.2.2
section LAP
variable {Inv : List Nat → List CE → Prop} {R0 : List Nat} {hs0 hs : List CE} {kf kl B : Nat}
theorem lst_mono (h : LST Inv R0 hs0 kf kl B hs) {B' : Nat} (hB : B ≤ B') : LST Inv R0 hs0 kf kl B' hs := by
  obtain ⟨a, b, c, d, e, f, g⟩ := h
  exact ⟨a, b, c, d, e, fun j hj r hr cc hc x hx => Nat.le_trans (f j hj r hr cc hc x hx) hB, g⟩
theorem lst_wr31 (hI : StI KC Inv) (h : LST Inv R0 hs0 kf kl B hs) {r c : Nat} {v : Int64} (hr : R0[r]? = some 31) (hv : v.toInt.natAbs ≤ B) : LST Inv R0 hs0 kf kl B (wr hs r c (.long v)) := by
  obtain ⟨a, b, c1, d, e, f, g⟩ := h
  have hkf : kf ≠ r := role_ne d hr (by decide)
  have hkl : kl ≠ r := role_ne e hr (by decide)
  refine ⟨HX.wr hI a hr (by decide) (by decide) (show VW KC R0 (2, 0, -9223372036854775808, 9223372036854775807) _ from vw_of (vt_lL rfl rfl rfl (fun h => by cases h)) (by decide)), by rw [wr_len]; exact b, by rw [rd_ne _ _ (Or.inl hkf)]; exact c1, d, e, fun j hj r' hr' cc hc x hx => ?_, fun q hq => by rw [rd_ne _ _ (Or.inl (reg_ne a.1 hq hr (by decide)))]; exact g q hq⟩
  rw [rd_ne _ _ (Or.inl hkl)] at hr'
  rw [rd_if (ty_shp a.1 hr (by decide) (a := 33) (b := 3) rfl rfl)] at hx
  split at hx
  · cases hx
    exact hv
  · exact f j hj r' hr' cc hc x hx
theorem lst_wrO (hI : StI KC Inv) (h : LST Inv R0 hs0 kf kl B hs) {r ro c : Nat} {v : Int64} (hr : R0[r]? = some ro) (h0 : ro ≠ 0) (h4 : ro < 400) (n2 : ro ≠ 2) (n31 : ro ≠ 31) (n34 : ro ≠ 34) (hn : noR KC ro = true) (hv : VW KC R0 (ftK KC ro c) (.long v)) : LST Inv R0 hs0 kf kl B (wr hs r c (.long v)) := by
  obtain ⟨a, b, c1, d, e, f, g⟩ := h
  have hkf : kf ≠ r := role_ne d hr (fun z => n2 z.symm)
  have hkl : kl ≠ r := role_ne e hr (fun z => n34 z.symm)
  refine ⟨HX.wr hI a hr h0 h4 hv, by rw [wr_len]; exact b, by rw [rd_ne _ _ (Or.inl hkf)]; exact c1, d, e, fun j hj r' hr' cc hc x hx => ?_, fun q hq => by rw [rd_ne _ _ (Or.inl (reg_ne a.1 hq hr hn))]; exact g q hq⟩
  rw [rd_ne _ _ (Or.inl hkl)] at hr'
  obtain ⟨r9, e9, q9⟩ := ty_ref (r2 := 31) (j := j) a.1 e (by decide) (by show j < 3; exact hj) (Or.inl rfl) rfl (by decide)
  rw [hr'] at e9
  cases e9
  rw [rd_ne _ _ (Or.inl (role_ne q9 hr (fun z => n31 z.symm)))] at hx
  exact f j hj r' hr' cc hc x hx
theorem lst_wr0 (hI : StI KC Inv) (h : LST Inv R0 hs0 kf kl B hs) {v : Int64} (hv : v.toInt ≠ -9223372036854775808) : LST Inv R0 hs0 kf kl B (wr hs kf 0 (.long v)) := by
  obtain ⟨a, b, c1, d, e, f, g⟩ := h
  have hkl : kl ≠ kf := role_ne e d (by decide)
  have lv := l_rng v
  refine ⟨HX.wr hI a d (by decide) (by decide) (show VW KC R0 (2, 0, -9223372036854775807, 9223372036854775807) _ from vw_of (vt_lng rfl (by show (-9223372036854775807 : Int) ≤ _; omega) (by show _ ≤ (9223372036854775807 : Int); omega) (fun h => by cases h)) (by decide)), by rw [wr_len]; exact b, by rw [rd_ne _ _ (Or.inr (by decide))]; exact c1, d, e, fun j hj r' hr' cc hc x hx => ?_, fun q hq => by rw [rd_ne _ _ (Or.inl (reg_ne a.1 hq d (by decide)))]; exact g q hq⟩
  rw [rd_ne _ _ (Or.inl hkl)] at hr'
  obtain ⟨r9, e9, q9⟩ := ty_ref (r2 := 31) (j := j) a.1 e (by decide) (by show j < 3; exact hj) (Or.inl rfl) rfl (by decide)
  rw [hr'] at e9
  cases e9
  rw [rd_ne _ _ (Or.inl (role_ne q9 d (by decide)))] at hx
  exact f j hj r' hr' cc hc x hx
end LAP

theorem b_cof {g0 : GG} {bl : Nat} {xs : Nat → Int32} {l : Launch} {hs : List CE} {R0 : List Nat} {kf kl B : Nat} {a b : Int32} (hT : HTy KC R0 hs) (hkf : R0[kf]? = some 2) (hkl : rd hs kf 2 = .ref kl) (rkl : R0[kl]? = some 34) (hL : LapB hs kl B) (hB : B ≤ 25) (a0 : 0 ≤ a.toInt) (a3 : a.toInt < 3) (b0 : 0 ≤ b.toInt) (b3 : b.toInt < 3) : BodyN SSX TBL g0 CLS bl xs l D_74 0 0 0 0 [.ref kf, .int a, .int b] hs (fun kd r h2 => kd = 0 ∧ hs = h2 ∧ ∃ v : Int64, r = some (.long v) ∧ v.toInt.natAbs ≤ 1250) := by
  intro wp p e R s m args below meth c Q kc0 ks0 kc ks act hf hl hc hsl hEnd
  show WpN (gp g0 wp) CLS p l e R s m args below meth c Q D_74.2.2.1 kc0 ks0 0 [some (.ref kf), some (.int a), some (.int b), none, none, none, none] (hs, kc, ks) []
  refine g_loadI act (gx gp_74 (w := 0x1000102) rfl (by decide) rfl) (a := 1) (n := 1) rfl rfl rfl ?_
  refine g_constI act (gx gp_74 (w := 0x40000000c00000009000000000201) rfl (by decide) rfl) (n := 2) (x := (1 : Int32)) (by decide) rfl ?_
  refine g_iadd act (gx gp_74 (w := 0x30a) rfl (by decide) rfl) (n := 3) rfl ?_
  refine g_constI act (gx gp_74 (w := 0x40000001c00000019000000000401) rfl (by decide) rfl) (n := 4) (x := (3 : Int32)) (by decide) rfl ?_
  have z_m4 := i_rem3 (x := (a + (1 : Int32))) (by rw [i_add (by have := i_rng a; have := i_rng b; show _ ≤ _ + (1 : Int); omega) (by show _ + (1 : Int) < _; omega)]; show 0 ≤ _ + (1 : Int); omega)
  refine g_irem act (gx gp_74 (w := 0x517) rfl (by decide) rfl) (n := 5) (by decide) rfl ?_
  obtain ⟨m4, h_m4⟩ : ∃ z : Int32, z = ((a + (1 : Int32)) - (a + (1 : Int32)) / (3 : Int32) * (3 : Int32)) := ⟨_, rfl⟩
  rw [← h_m4] at z_m4 ⊢
  refine g_storeI act (gx gp_74 (w := 0x3000610) rfl (by decide) rfl) (a := 3) (n := 6) rfl rfl (L2 := [some (.ref kf), some (.int a), some (.int b), some (.int m4), none, none, none]) rfl ?_
  refine g_loadI act (gx gp_74 (w := 0x1000702) rfl (by decide) rfl) (a := 1) (n := 7) rfl rfl rfl ?_
  refine g_constI act (gx gp_74 (w := 0x40000001400000011000000000801) rfl (by decide) rfl) (n := 8) (x := (2 : Int32)) (by decide) rfl ?_
  refine g_iadd act (gx gp_74 (w := 0x90a) rfl (by decide) rfl) (n := 9) rfl ?_
  refine g_constI act (gx gp_74 (w := 0x40000001c00000019000000000a01) rfl (by decide) rfl) (n := 10) (x := (3 : Int32)) (by decide) rfl ?_
  have z_m10 := i_rem3 (x := (a + (2 : Int32))) (by rw [i_add (by have := i_rng a; have := i_rng b; show _ ≤ _ + (2 : Int); omega) (by show _ + (2 : Int) < _; omega)]; show 0 ≤ _ + (2 : Int); omega)
  refine g_irem act (gx gp_74 (w := 0xb17) rfl (by decide) rfl) (n := 11) (by decide) rfl ?_
  obtain ⟨m10, h_m10⟩ : ∃ z : Int32, z = ((a + (2 : Int32)) - (a + (2 : Int32)) / (3 : Int32) * (3 : Int32)) := ⟨_, rfl⟩
  rw [← h_m10] at z_m10 ⊢
  refine g_storeI act (gx gp_74 (w := 0x4000d10) rfl (by decide) rfl) (a := 4) (n := 13) rfl rfl (L2 := [some (.ref kf), some (.int a), some (.int b), some (.int m4), some (.int m10), none, none]) rfl ?_
  refine g_loadI act (gx gp_74 (w := 0x2000e02) rfl (by decide) rfl) (a := 2) (n := 14) rfl rfl rfl ?_
  refine g_constI act (gx gp_74 (w := 0x40000000c00000009000000000f01) rfl (by decide) rfl) (n := 15) (x := (1 : Int32)) (by decide) rfl ?_
  refine g_iadd act (gx gp_74 (w := 0x100a) rfl (by decide) rfl) (n := 16) rfl ?_
  refine g_constI act (gx gp_74 (w := 0x40000001c00000019000000001101) rfl (by decide) rfl) (n := 17) (x := (3 : Int32)) (by decide) rfl ?_
  have z_m17 := i_rem3 (x := (b + (1 : Int32))) (by rw [i_add (by have := i_rng a; have := i_rng b; show _ ≤ _ + (1 : Int); omega) (by show _ + (1 : Int) < _; omega)]; show 0 ≤ _ + (1 : Int); omega)
  refine g_irem act (gx gp_74 (w := 0x1217) rfl (by decide) rfl) (n := 18) (by decide) rfl ?_
  obtain ⟨m17, h_m17⟩ : ∃ z : Int32, z = ((b + (1 : Int32)) - (b + (1 : Int32)) / (3 : Int32) * (3 : Int32)) := ⟨_, rfl⟩
  rw [← h_m17] at z_m17 ⊢
  refine g_storeI act (gx gp_74 (w := 0x5001410) rfl (by decide) rfl) (a := 5) (n := 20) rfl rfl (L2 := [some (.ref kf), some (.int a), some (.int b), some (.int m4), some (.int m10), some (.int m17), none]) rfl ?_
  refine g_loadI act (gx gp_74 (w := 0x2001502) rfl (by decide) rfl) (a := 2) (n := 21) rfl rfl rfl ?_
  refine g_constI act (gx gp_74 (w := 0x40000001400000011000000001601) rfl (by decide) rfl) (n := 22) (x := (2 : Int32)) (by decide) rfl ?_
  refine g_iadd act (gx gp_74 (w := 0x170a) rfl (by decide) rfl) (n := 23) rfl ?_
  refine g_constI act (gx gp_74 (w := 0x40000001c00000019000000001801) rfl (by decide) rfl) (n := 24) (x := (3 : Int32)) (by decide) rfl ?_
  have z_m24 := i_rem3 (x := (b + (2 : Int32))) (by rw [i_add (by have := i_rng a; have := i_rng b; show _ ≤ _ + (2 : Int); omega) (by show _ + (2 : Int) < _; omega)]; show 0 ≤ _ + (2 : Int); omega)
  refine g_irem act (gx gp_74 (w := 0x1917) rfl (by decide) rfl) (n := 25) (by decide) rfl ?_
  obtain ⟨m24, h_m24⟩ : ∃ z : Int32, z = ((b + (2 : Int32)) - (b + (2 : Int32)) / (3 : Int32) * (3 : Int32)) := ⟨_, rfl⟩
  rw [← h_m24] at z_m24 ⊢
  refine g_storeI act (gx gp_74 (w := 0x6001b10) rfl (by decide) rfl) (a := 6) (n := 27) rfl rfl (L2 := [some (.ref kf), some (.int a), some (.int b), some (.int m4), some (.int m10), some (.int m17), some (.int m24)]) rfl ?_
  refine g_loadA act (gx gp_74 (w := 0x1c03) rfl (by decide) rfl) (a := 0) (n := 28) rfl rfl rfl ?_
  refine r_getf act (gx gp_74 (w := 0x3000081001f04) rfl (by decide) rfl) (n := 31) (ci := 1) (j := 2) (N := 4) rfl rfl rfl (ty_shp hT hkf (by decide) rfl rfl) (by decide) (v := .ref kl) hkl ?_
  refine g_loadI act (gx gp_74 (w := 0x3002002) rfl (by decide) rfl) (a := 3) (n := 32) rfl rfl rfl ?_
  obtain ⟨r32, e_r32, q_r32⟩ := ty_ref (r2 := 31) (j := m4.toInt.toNat) hT rkl (by decide) (by show _ < 3; omega) (Or.inl rfl) rfl (by decide)
  refine r_aald act (gx gp_74 (w := 0x2112) rfl (by decide) rfl) (n := 33) (N := 3) rfl (ty_shp hT rkl (by decide) rfl rfl) (by decide) (j := m4.toInt.toNat) (by omega) (by omega) (v := .ref r32) e_r32 ?_
  refine g_loadI act (gx gp_74 (w := 0x5002302) rfl (by decide) rfl) (a := 5) (n := 35) rfl rfl rfl ?_
  obtain ⟨x35, e_x35⟩ := ty_lng (j := m17.toInt.toNat) hT q_r32 (by decide) (by show _ < 3; omega) rfl
  have b_x35 := hL _ (by omega) _ e_r32 _ (by omega) _ e_x35
  refine r_lald act (gx gp_74 (w := 0x240d) rfl (by decide) rfl) (n := 36) (N := 3) rfl (ty_shp hT q_r32 (by decide) rfl rfl) (j := m17.toInt.toNat) (by omega) (by omega) (v := .long x35) e_x35 ?_
  refine g_loadA act (gx gp_74 (w := 0x2503) rfl (by decide) rfl) (a := 0) (n := 37) rfl rfl rfl ?_
  refine r_getf act (gx gp_74 (w := 0x3000081002804) rfl (by decide) rfl) (n := 40) (ci := 1) (j := 2) (N := 4) rfl rfl rfl (ty_shp hT hkf (by decide) rfl rfl) (by decide) (v := .ref kl) hkl ?_
  refine g_loadI act (gx gp_74 (w := 0x4002a02) rfl (by decide) rfl) (a := 4) (n := 42) rfl rfl rfl ?_
  obtain ⟨r42, e_r42, q_r42⟩ := ty_ref (r2 := 31) (j := m10.toInt.toNat) hT rkl (by decide) (by show _ < 3; omega) (Or.inl rfl) rfl (by decide)
  refine r_aald act (gx gp_74 (w := 0x2b12) rfl (by decide) rfl) (n := 43) (N := 3) rfl (ty_shp hT rkl (by decide) rfl rfl) (by decide) (j := m10.toInt.toNat) (by omega) (by omega) (v := .ref r42) e_r42 ?_
  refine g_loadI act (gx gp_74 (w := 0x6002d02) rfl (by decide) rfl) (a := 6) (n := 45) rfl rfl rfl ?_
  obtain ⟨x45, e_x45⟩ := ty_lng (j := m24.toInt.toNat) hT q_r42 (by decide) (by show _ < 3; omega) rfl
  have b_x45 := hL _ (by omega) _ e_r42 _ (by omega) _ e_x45
  refine r_lald act (gx gp_74 (w := 0x2e0d) rfl (by decide) rfl) (n := 46) (N := 3) rfl (ty_shp hT q_r42 (by decide) rfl rfl) (j := m24.toInt.toNat) (by omega) (by omega) (v := .long x45) e_x45 ?_
  refine g_lmul act (gx gp_74 (w := 0x2f15) rfl (by decide) rfl) (n := 47) rfl ?_
  refine g_loadA act (gx gp_74 (w := 0x3003) rfl (by decide) rfl) (a := 0) (n := 48) rfl rfl rfl ?_
  refine r_getf act (gx gp_74 (w := 0x3000081003304) rfl (by decide) rfl) (n := 51) (ci := 1) (j := 2) (N := 4) rfl rfl rfl (ty_shp hT hkf (by decide) rfl rfl) (by decide) (v := .ref kl) hkl ?_
  refine g_loadI act (gx gp_74 (w := 0x3003402) rfl (by decide) rfl) (a := 3) (n := 52) rfl rfl rfl ?_
  obtain ⟨r52, e_r52, q_r52⟩ := ty_ref (r2 := 31) (j := m4.toInt.toNat) hT rkl (by decide) (by show _ < 3; omega) (Or.inl rfl) rfl (by decide)
  refine r_aald act (gx gp_74 (w := 0x3512) rfl (by decide) rfl) (n := 53) (N := 3) rfl (ty_shp hT rkl (by decide) rfl rfl) (by decide) (j := m4.toInt.toNat) (by omega) (by omega) (v := .ref r52) e_r52 ?_
  refine g_loadI act (gx gp_74 (w := 0x6003702) rfl (by decide) rfl) (a := 6) (n := 55) rfl rfl rfl ?_
  obtain ⟨x55, e_x55⟩ := ty_lng (j := m24.toInt.toNat) hT q_r52 (by decide) (by show _ < 3; omega) rfl
  have b_x55 := hL _ (by omega) _ e_r52 _ (by omega) _ e_x55
  refine r_lald act (gx gp_74 (w := 0x380d) rfl (by decide) rfl) (n := 56) (N := 3) rfl (ty_shp hT q_r52 (by decide) rfl rfl) (j := m24.toInt.toNat) (by omega) (by omega) (v := .long x55) e_x55 ?_
  refine g_loadA act (gx gp_74 (w := 0x3903) rfl (by decide) rfl) (a := 0) (n := 57) rfl rfl rfl ?_
  refine r_getf act (gx gp_74 (w := 0x3000081003c04) rfl (by decide) rfl) (n := 60) (ci := 1) (j := 2) (N := 4) rfl rfl rfl (ty_shp hT hkf (by decide) rfl rfl) (by decide) (v := .ref kl) hkl ?_
  refine g_loadI act (gx gp_74 (w := 0x4003e02) rfl (by decide) rfl) (a := 4) (n := 62) rfl rfl rfl ?_
  obtain ⟨r62, e_r62, q_r62⟩ := ty_ref (r2 := 31) (j := m10.toInt.toNat) hT rkl (by decide) (by show _ < 3; omega) (Or.inl rfl) rfl (by decide)
  refine r_aald act (gx gp_74 (w := 0x3f12) rfl (by decide) rfl) (n := 63) (N := 3) rfl (ty_shp hT rkl (by decide) rfl rfl) (by decide) (j := m10.toInt.toNat) (by omega) (by omega) (v := .ref r62) e_r62 ?_
  refine g_loadI act (gx gp_74 (w := 0x5004102) rfl (by decide) rfl) (a := 5) (n := 65) rfl rfl rfl ?_
  obtain ⟨x65, e_x65⟩ := ty_lng (j := m17.toInt.toNat) hT q_r62 (by decide) (by show _ < 3; omega) rfl
  have b_x65 := hL _ (by omega) _ e_r62 _ (by omega) _ e_x65
  refine r_lald act (gx gp_74 (w := 0x420d) rfl (by decide) rfl) (n := 66) (N := 3) rfl (ty_shp hT q_r62 (by decide) rfl rfl) (j := m17.toInt.toNat) (by omega) (by omega) (v := .long x65) e_x65 ?_
  refine g_lmul act (gx gp_74 (w := 0x4315) rfl (by decide) rfl) (n := 67) rfl ?_
  refine g_lsub act (gx gp_74 (w := 0x441e) rfl (by decide) rfl) (n := 68) rfl ?_
  exact g_retL hEnd (gx gp_74 (w := 0x19) rfl (by decide) rfl) ⟨rfl, rfl, _, rfl, lsB (A := 625) (B := 625) (Nat.le_trans (lmB (A := 25) (B := 25) (by omega) (by omega) (by decide)) (by decide)) (Nat.le_trans (lmB (A := 25) (B := 25) (by omega) (by omega) (by decide)) (by decide)) (by decide)⟩ (by show kc ≤ kc + 0; omega) (by show ks ≤ ks + 0; omega)


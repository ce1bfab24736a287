/-! connects: the lines of a row, but one, connect all nodes. -/
/-- what is reached so far lies on one side of every cut that no line crosses -/
def CI (f : Nat → Int) (nl : Nat) (z : Int) (s : Int32) : Prop := 0 ≤ s.toInt ∧ s.toInt ≤ 15 ∧ ∀ U : Nat → Bool, U 0 = true → (∀ l, l < nl → (l : Int) ≠ z → U (f (5 + l)).toNat = U (f (11 + l)).toNat) → ∀ x, x < 4 → (s.toInt.toNat / 2 ^ x) % 2 = 1 → U x = true
theorem cn_dec : ∀ (s : Fin 16) (a b : Fin 4), ((Int32.ofNat s.val &&& (((1 : Int32) <<< (Int32.ofNat a.val &&& 31)) ||| ((1 : Int32) <<< (Int32.ofNat b.val &&& 31)))).toInt ≠ 0 → (s.val / 2 ^ a.val) % 2 = 1 ∨ (s.val / 2 ^ b.val) % 2 = 1) ∧
    0 ≤ (Int32.ofNat s.val ||| (((1 : Int32) <<< (Int32.ofNat a.val &&& 31)) ||| ((1 : Int32) <<< (Int32.ofNat b.val &&& 31)))).toInt ∧ (Int32.ofNat s.val ||| (((1 : Int32) <<< (Int32.ofNat a.val &&& 31)) ||| ((1 : Int32) <<< (Int32.ofNat b.val &&& 31)))).toInt ≤ 15 ∧
    ∀ x : Fin 4, ((Int32.ofNat s.val ||| (((1 : Int32) <<< (Int32.ofNat a.val &&& 31)) ||| ((1 : Int32) <<< (Int32.ofNat b.val &&& 31)))).toInt.toNat / 2 ^ x.val) % 2 = 1 → (s.val / 2 ^ x.val) % 2 = 1 ∨ x = a ∨ x = b := by decide +kernel
theorem i_ofN {x : Int32} {k : Nat} (h : x.toInt = (k : Int)) (hk : k < 2147483648) : x = Int32.ofNat k := Int32.toInt_inj.mp (h.trans (Int32.toInt_ofNat_of_lt hk).symm)
theorem CI.one (f : Nat → Int) (nl : Nat) (z : Int) : CI f nl z (1 : Int32) := by
  refine ⟨by decide, by decide, fun U h0 _ x hx hb => ?_⟩
  rcases (show x = 0 ∨ x = 1 ∨ x = 2 ∨ x = 3 by omega) with rfl | rfl | rfl | rfl
  · exact h0
  all_goals exact absurd hb (by decide)
theorem CI.or0 {f : Nat → Int} {nl : Nat} {z : Int} {s : Int32} (h : CI f nl z s) : CI f nl z (s ||| (0 : Int32)) := by
  rw [Int32.or_zero]
  exact h
theorem CI.step {f : Nat → Int} {nl : Nat} {z : Int} {s : Int32} (h : CI f nl z s) {a b : Int32} {l : Nat} (ha : a.toInt = f (5 + l)) (hb : b.toInt = f (11 + l)) (hl : l < nl) (hz : (l : Int) ≠ z) (ha0 : 0 ≤ f (5 + l)) (ha3 : f (5 + l) ≤ 3) (hb0 : 0 ≤ f (11 + l)) (hb3 : f (11 + l) ≤ 3)
    (hn : ¬ (s &&& (((1 : Int32) <<< (a &&& 31)) ||| ((1 : Int32) <<< (b &&& 31)))).toInt = 0) : CI f nl z (s ||| (((1 : Int32) <<< (a &&& 31)) ||| ((1 : Int32) <<< (b &&& 31)))) := by
  obtain ⟨h1, h2, h3⟩ := h
  obtain ⟨s9, es⟩ := Int.eq_ofNat_of_zero_le h1
  obtain ⟨a9, ea⟩ := Int.eq_ofNat_of_zero_le ha0
  obtain ⟨b9, eb⟩ := Int.eq_ofNat_of_zero_le hb0
  have ha := ha.trans ea
  have hb := hb.trans eb
  obtain rfl := i_ofN es (by omega)
  obtain rfl := i_ofN ha (by omega)
  obtain rfl := i_ofN hb (by omega)
  obtain ⟨d1, d2, d3, d4⟩ := cn_dec ⟨s9, by omega⟩ ⟨a9, by omega⟩ ⟨b9, by omega⟩
  refine ⟨d2, d3, fun U h0 hc x hx hbit => ?_⟩
  have hs : ∀ x, x < 4 → (s9 / 2 ^ x) % 2 = 1 → U x = true := fun x hx q => h3 U h0 hc x hx (by rw [es]; exact q)
  have hab := hc l hl hz
  rw [ea, eb] at hab
  have hab : U a9 = U b9 := hab
  have hua : U a9 = true := by
    rcases d1 hn with q | q
    · exact hs a9 (by omega) q
    · rw [hab]; exact hs b9 (by omega) q
  rcases d4 ⟨x, hx⟩ hbit with q | q | q
  · exact hs x hx q
  · have q : x = a9 := congrArg Fin.val q
    rw [q]; exact hua
  · have q : x = b9 := congrArg Fin.val q
    rw [q, ← hab]; exact hua
theorem cn_end : ∀ n : Fin 3, (((1 : Int32) <<< (Int32.ofNat (n.val + 2) &&& 31)) - (1 : Int32)).toInt = 2 ^ (n.val + 2) - 1 ∧ ∀ x : Fin 4, x.val ≤ n.val + 1 → ((2 ^ (n.val + 2) - 1) / 2 ^ x.val) % 2 = 1 := by decide +kernel
theorem CI.cut {f : Nat → Int} {nl n : Nat} {z : Int} {s N : Int32} (h : CI f nl z s) (hN : N.toInt = f 0) (h0 : f 0 = (n : Int) + 1) (h1 : 1 ≤ n) (h3 : n ≤ 3) (he : s.toInt = (((1 : Int32) <<< (N &&& 31)) - (1 : Int32)).toInt) : CutOK f nl z n := by
  intro U hU hx
  obtain ⟨x, hxn, hxf⟩ := hx
  apply Classical.byContradiction
  intro hno
  have hN : N.toInt = ((n + 1 : Nat) : Int) := by rw [hN, h0]; rfl
  obtain rfl := i_ofN hN (by omega)
  obtain ⟨e1, e2⟩ := cn_end ⟨n - 1, by omega⟩
  have en : n - 1 + 2 = n + 1 := by omega
  simp only [en] at e1 e2
  rw [e1] at he
  have := h.2.2 U hU (fun l hl hz => Classical.byContradiction fun q => hno ⟨l, hl, hz, q⟩) x (by omega) (by
    rw [he]
    have q := e2 ⟨x, by omega⟩ (by show x ≤ n - 1 + 1; omega)
    have e3 : ((2 : Int) ^ (n + 1) - 1).toNat = 2 ^ (n + 1) - 1 := by
      rcases (show n = 1 ∨ n = 2 ∨ n = 3 by omega) with rfl | rfl | rfl <;> rfl
    rw [e3]
    exact q)
  rw [this] at hxf
  cases hxf
section CONN
variable {g0 : GG} {bl : Nat} {xs : Nat → Int32} {l : Launch} {hs : List CE} {fv : Nat → Int} {nl n9 : Nat}

theorem br_con125 {zi : Int32} {z9 : Int} (rw0 : RW hs) (hF : IArr hs 125 46 fv) (hzi : zi.toInt = z9) (hnl : fv 2 = (nl : Int)) (h6 : nl ≤ 6) (hn0 : fv 0 = (n9 : Int) + 1) (hn1 : 1 ≤ n9) (hn3 : n9 ≤ 3) (hR9 : ∀ l, l < nl → 0 ≤ fv (5 + l) ∧ fv (5 + l) ≤ 3 ∧ 0 ≤ fv (11 + l) ∧ fv (11 + l) ≤ 3) : BodyN SSX TBL g0 CLS bl xs l D_193 0 0 0 0 [.ref 125, .int zi] hs (fun kd r h2 => kd = 0 ∧ hs = h2 ∧ ∃ x : Int32, r = some (.int x) ∧ (x.toInt = 0 ∨ (x.toInt = 1 ∧ CutOK fv nl z9 n9))) := by
  intro wp p e R s m args below meth c Q kc0 ks0 kc ks act hf hl hc hsl hEnd
  have hf : 0 ≤ R.frames := hf
  have hl : 0 ≤ R.locals := hl
  have hk1 : kc ≤ kc + 0 := by omega
  have hk2 : ks ≤ ks + 0 := by omega
  have outer : ∀ (sj rj : Int32) (Rj : Nat), rj.toInt = (Rj : Int) → Rj ≤ 4 → CI fv nl z9 sj → WpN (gp g0 wp) CLS p l e R s m args below meth c Q D_193.2.2.1 kc0 ks0 4 [some (.ref 125), some (.int zi), some (.int sj), some (.int rj), none, none] (hs, kc, ks) [] := by
    intro sj rj Rj hR h4 hC
    generalize hm : 4 - Rj = m9
    induction m9 using Nat.strongRecOn generalizing sj rj Rj with
    | _ m9 ih =>
    subst hm
    have inner : Rj < 4 → ∀ (sk lk : Int32) (Lk : Nat), lk.toInt = (Lk : Int) → Lk ≤ nl → CI fv nl z9 sk → WpN (gp g0 wp) CLS p l e R s m args below meth c Q D_193.2.2.1 kc0 ks0 12 [some (.ref 125), some (.int zi), some (.int sk), some (.int rj), some (.int lk), none] (hs, kc, ks) [] := by
      intro hRj sk lk Lk hLk hLn hCk
      generalize hm2 : nl - Lk = m8
      induction m8 using Nat.strongRecOn generalizing sk lk Lk with
      | _ m8 ih2 =>
      subst hm2
      have w9 := hR9 Lk
      refine g_loadI act (gx gp_193 (w := 0x4000e02) rfl (by decide) rfl) (a := 4) (n := 14) rfl rfl rfl ?_
      refine g_loadA act (gx gp_193 (w := 0xf03) rfl (by decide) rfl) (a := 0) (n := 15) rfl rfl rfl ?_
      refine g_constI act (gx gp_193 (w := 0x40000001400000011000000001001) rfl (by decide) rfl) (n := 16) (x := (2 : Int32)) (by decide) rfl ?_
      obtain ⟨x_1, e_2, hx_3⟩ := hF 2 (by omega)
      refine r_iald act (gx gp_193 (w := 0x111a) rfl (by decide) rfl) (n := 17) (j := 2) rfl (rw0.2 (1, 125, 32, 46) (by decide)).2 (show (2 : Int32).toInt = ((2 : Nat) : Int) from by decide) (show 2 < 46 by omega) (v := .int x_1) e_2 ?_
      refine g_icmpGe act (gx gp_193 (w := 0x44001408) rfl (by decide) rfl) (tgt := 68) (n := 20) rfl rfl (fun h4 => ?_) (fun h4 => ?_)
      · simp only [i_le] at h4
        refine g_iinc act (gx gp_193 (w := 0x80000001000003004709) rfl (by decide) rfl) (a := 3) (i := (1 : Int32)) (n := 71) rfl (by decide) rfl rfl (L2 := [some (.ref 125), some (.int zi), some (.int sk), some (.int (rj + (1 : Int32))), some (.int lk), none]) rfl ?_
        have v_4 := iv_addN hR (show (1 : Int32).toInt = ((1 : Nat) : Int) from by decide) (show (Rj + 1) < 2147483648 by omega)
        refine g_goto act (gx gp_193 (w := 0x407) rfl (by decide) rfl) (n := 4) rfl ?_
        exact n_forget (d := D_193) (L2 := [some (.ref 125), some (.int zi), some (.int sk), some (.int (rj + (1 : Int32))), none, none]) (fun i v hi => by
          match i, hi with
          | 0, hi => exact hi
          | 1, hi => exact hi
          | 2, hi => exact hi
          | 3, hi => exact hi
          | 4, hi => cases hi
          | 5, hi => cases hi
          | i + 6, hi => cases hi) (ih _ (by omega) _ _ _ v_4 (by omega) hCk rfl)
      · simp only [i_le] at h4
        refine g_constI act (gx gp_193 (w := 0x40000000c00000009000000001501) rfl (by decide) rfl) (n := 21) (x := (1 : Int32)) (by decide) rfl ?_
        refine g_loadA act (gx gp_193 (w := 0x1603) rfl (by decide) rfl) (a := 0) (n := 22) rfl rfl rfl ?_
        refine g_constI act (gx gp_193 (w := 0x40000002c00000029000000001701) rfl (by decide) rfl) (n := 23) (x := (5 : Int32)) (by decide) rfl ?_
        refine g_loadI act (gx gp_193 (w := 0x4001902) rfl (by decide) rfl) (a := 4) (n := 25) rfl rfl rfl ?_
        refine g_iadd act (gx gp_193 (w := 0x1a0a) rfl (by decide) rfl) (n := 26) rfl ?_
        have v_5 := iv_addN (show (5 : Int32).toInt = ((5 : Nat) : Int) from by decide) hLk (show (5 + Lk) < 2147483648 by omega)
        obtain ⟨x_6, e_7, hx_8⟩ := hF (5 + Lk) (by omega)
        refine r_iald act (gx gp_193 (w := 0x1b1a) rfl (by decide) rfl) (n := 27) (j := (5 + Lk)) rfl (rw0.2 (1, 125, 32, 46) (by decide)).2 v_5 (show (5 + Lk) < 46 by omega) (v := .int x_6) e_7 ?_
        refine g_ishl act (gx gp_193 (w := 0x1c3b) rfl (by decide) rfl) (n := 28) rfl ?_
        refine g_constI act (gx gp_193 (w := 0x40000000c00000009000000001d01) rfl (by decide) rfl) (n := 29) (x := (1 : Int32)) (by decide) rfl ?_
        refine g_loadA act (gx gp_193 (w := 0x1e03) rfl (by decide) rfl) (a := 0) (n := 30) rfl rfl rfl ?_
        refine g_constI act (gx gp_193 (w := 0x40000005c00000059000000002001) rfl (by decide) rfl) (n := 32) (x := (11 : Int32)) (by decide) rfl ?_
        refine g_loadI act (gx gp_193 (w := 0x4002202) rfl (by decide) rfl) (a := 4) (n := 34) rfl rfl rfl ?_
        refine g_iadd act (gx gp_193 (w := 0x230a) rfl (by decide) rfl) (n := 35) rfl ?_
        have v_9 := iv_addN (show (11 : Int32).toInt = ((11 : Nat) : Int) from by decide) hLk (show (11 + Lk) < 2147483648 by omega)
        obtain ⟨x_10, e_11, hx_12⟩ := hF (11 + Lk) (by omega)
        refine r_iald act (gx gp_193 (w := 0x241a) rfl (by decide) rfl) (n := 36) (j := (11 + Lk)) rfl (rw0.2 (1, 125, 32, 46) (by decide)).2 v_9 (show (11 + Lk) < 46 by omega) (v := .int x_10) e_11 ?_
        refine g_ishl act (gx gp_193 (w := 0x253b) rfl (by decide) rfl) (n := 37) rfl ?_
        refine g_ior act (gx gp_193 (w := 0x264b) rfl (by decide) rfl) (n := 38) rfl ?_
        refine g_storeI act (gx gp_193 (w := 0x5002810) rfl (by decide) rfl) (a := 5) (n := 40) rfl rfl (L2 := [some (.ref 125), some (.int zi), some (.int sk), some (.int rj), some (.int lk), some (.int (((1 : Int32) <<< (x_6 &&& 31)) ||| ((1 : Int32) <<< (x_10 &&& 31))))]) rfl ?_
        refine g_loadI act (gx gp_193 (w := 0x2002902) rfl (by decide) rfl) (a := 2) (n := 41) rfl rfl rfl ?_
        refine g_loadI act (gx gp_193 (w := 0x4002b02) rfl (by decide) rfl) (a := 4) (n := 43) rfl rfl rfl ?_
        refine g_loadI act (gx gp_193 (w := 0x1002c02) rfl (by decide) rfl) (a := 1) (n := 44) rfl rfl rfl ?_
        refine g_icmpEq act (gx gp_193 (w := 0x3b002f2e) rfl (by decide) rfl) (tgt := 59) (n := 47) rfl rfl (fun h19 => ?_) (fun h19 => ?_)
        · simp only [i_eq] at h19
          refine g_constI act (gx gp_193 (w := 0x40000000400000001000000003c01) rfl (by decide) rfl) (n := 60) (x := (0 : Int32)) (by decide) rfl ?_
          refine g_ior act (gx gp_193 (w := 0x3d4b) rfl (by decide) rfl) (n := 61) rfl ?_
          refine g_storeI act (gx gp_193 (w := 0x2003e10) rfl (by decide) rfl) (a := 2) (n := 62) rfl rfl (L2 := [some (.ref 125), some (.int zi), some (.int (sk ||| (0 : Int32))), some (.int rj), some (.int lk), some (.int (((1 : Int32) <<< (x_6 &&& 31)) ||| ((1 : Int32) <<< (x_10 &&& 31))))]) rfl ?_
          refine g_iinc act (gx gp_193 (w := 0x80000001000004004109) rfl (by decide) rfl) (a := 4) (i := (1 : Int32)) (n := 65) rfl (by decide) rfl rfl (L2 := [some (.ref 125), some (.int zi), some (.int (sk ||| (0 : Int32))), some (.int rj), some (.int (lk + (1 : Int32))), some (.int (((1 : Int32) <<< (x_6 &&& 31)) ||| ((1 : Int32) <<< (x_10 &&& 31))))]) rfl ?_
          have v_13 := iv_addN hLk (show (1 : Int32).toInt = ((1 : Nat) : Int) from by decide) (show (Lk + 1) < 2147483648 by omega)
          refine g_goto act (gx gp_193 (w := 0xc07) rfl (by decide) rfl) (n := 12) rfl ?_
          exact n_forget (d := D_193) (L2 := [some (.ref 125), some (.int zi), some (.int (sk ||| (0 : Int32))), some (.int rj), some (.int (lk + (1 : Int32))), none]) (fun i v hi => by
            match i, hi with
            | 0, hi => exact hi
            | 1, hi => exact hi
            | 2, hi => exact hi
            | 3, hi => exact hi
            | 4, hi => exact hi
            | 5, hi => cases hi
            | i + 6, hi => cases hi) (ih2 _ (by omega) _ _ _ v_13 (by omega) hCk.or0 rfl)
        · simp only [i_eq] at h19
          refine g_loadI act (gx gp_193 (w := 0x2003002) rfl (by decide) rfl) (a := 2) (n := 48) rfl rfl rfl ?_
          refine g_loadI act (gx gp_193 (w := 0x5003202) rfl (by decide) rfl) (a := 5) (n := 50) rfl rfl rfl ?_
          refine g_iand act (gx gp_193 (w := 0x3333) rfl (by decide) rfl) (n := 51) rfl ?_
          refine g_ifEq act (gx gp_193 (w := 0x3b00360e) rfl (by decide) rfl) (tgt := 59) (n := 54) rfl rfl (fun h27 => ?_) (fun h27 => ?_)
          · simp only [i_eq, show (1 : Int32).toInt = 1 from by decide, i0] at h27
            refine g_constI act (gx gp_193 (w := 0x40000000400000001000000003c01) rfl (by decide) rfl) (n := 60) (x := (0 : Int32)) (by decide) rfl ?_
            refine g_ior act (gx gp_193 (w := 0x3d4b) rfl (by decide) rfl) (n := 61) rfl ?_
            refine g_storeI act (gx gp_193 (w := 0x2003e10) rfl (by decide) rfl) (a := 2) (n := 62) rfl rfl (L2 := [some (.ref 125), some (.int zi), some (.int (sk ||| (0 : Int32))), some (.int rj), some (.int lk), some (.int (((1 : Int32) <<< (x_6 &&& 31)) ||| ((1 : Int32) <<< (x_10 &&& 31))))]) rfl ?_
            refine g_iinc act (gx gp_193 (w := 0x80000001000004004109) rfl (by decide) rfl) (a := 4) (i := (1 : Int32)) (n := 65) rfl (by decide) rfl rfl (L2 := [some (.ref 125), some (.int zi), some (.int (sk ||| (0 : Int32))), some (.int rj), some (.int (lk + (1 : Int32))), some (.int (((1 : Int32) <<< (x_6 &&& 31)) ||| ((1 : Int32) <<< (x_10 &&& 31))))]) rfl ?_
            have v_14 := iv_addN hLk (show (1 : Int32).toInt = ((1 : Nat) : Int) from by decide) (show (Lk + 1) < 2147483648 by omega)
            refine g_goto act (gx gp_193 (w := 0xc07) rfl (by decide) rfl) (n := 12) rfl ?_
            exact n_forget (d := D_193) (L2 := [some (.ref 125), some (.int zi), some (.int (sk ||| (0 : Int32))), some (.int rj), some (.int (lk + (1 : Int32))), none]) (fun i v hi => by
              match i, hi with
              | 0, hi => exact hi
              | 1, hi => exact hi
              | 2, hi => exact hi
              | 3, hi => exact hi
              | 4, hi => exact hi
              | 5, hi => cases hi
              | i + 6, hi => cases hi) (ih2 _ (by omega) _ _ _ v_14 (by omega) hCk.or0 rfl)
          · simp only [i_eq, show (1 : Int32).toInt = 1 from by decide, i0] at h27
            refine g_loadI act (gx gp_193 (w := 0x5003802) rfl (by decide) rfl) (a := 5) (n := 56) rfl rfl rfl ?_
            refine g_goto act (gx gp_193 (w := 0x3c07) rfl (by decide) rfl) (n := 60) rfl ?_
            refine g_ior act (gx gp_193 (w := 0x3d4b) rfl (by decide) rfl) (n := 61) rfl ?_
            refine g_storeI act (gx gp_193 (w := 0x2003e10) rfl (by decide) rfl) (a := 2) (n := 62) rfl rfl (L2 := [some (.ref 125), some (.int zi), some (.int (sk ||| (((1 : Int32) <<< (x_6 &&& 31)) ||| ((1 : Int32) <<< (x_10 &&& 31))))), some (.int rj), some (.int lk), some (.int (((1 : Int32) <<< (x_6 &&& 31)) ||| ((1 : Int32) <<< (x_10 &&& 31))))]) rfl ?_
            refine g_iinc act (gx gp_193 (w := 0x80000001000004004109) rfl (by decide) rfl) (a := 4) (i := (1 : Int32)) (n := 65) rfl (by decide) rfl rfl (L2 := [some (.ref 125), some (.int zi), some (.int (sk ||| (((1 : Int32) <<< (x_6 &&& 31)) ||| ((1 : Int32) <<< (x_10 &&& 31))))), some (.int rj), some (.int (lk + (1 : Int32))), some (.int (((1 : Int32) <<< (x_6 &&& 31)) ||| ((1 : Int32) <<< (x_10 &&& 31))))]) rfl ?_
            have v_15 := iv_addN hLk (show (1 : Int32).toInt = ((1 : Nat) : Int) from by decide) (show (Lk + 1) < 2147483648 by omega)
            refine g_goto act (gx gp_193 (w := 0xc07) rfl (by decide) rfl) (n := 12) rfl ?_
            exact n_forget (d := D_193) (L2 := [some (.ref 125), some (.int zi), some (.int (sk ||| (((1 : Int32) <<< (x_6 &&& 31)) ||| ((1 : Int32) <<< (x_10 &&& 31))))), some (.int rj), some (.int (lk + (1 : Int32))), none]) (fun i v hi => by
              match i, hi with
              | 0, hi => exact hi
              | 1, hi => exact hi
              | 2, hi => exact hi
              | 3, hi => exact hi
              | 4, hi => exact hi
              | 5, hi => cases hi
              | i + 6, hi => cases hi) (ih2 _ (by omega) _ _ _ v_15 (by omega) (hCk.step hx_8 hx_12 (by omega) (by omega) (by omega) (by omega) (by omega) (by omega) (by assumption)) rfl)
    refine g_loadI act (gx gp_193 (w := 0x3000502) rfl (by decide) rfl) (a := 3) (n := 5) rfl rfl rfl ?_
    refine g_constI act (gx gp_193 (w := 0x40000002400000021000000000601) rfl (by decide) rfl) (n := 6) (x := (4 : Int32)) (by decide) rfl ?_
    refine g_icmpGe act (gx gp_193 (w := 0x4a000908) rfl (by decide) rfl) (tgt := 74) (n := 9) rfl rfl (fun h3 => ?_) (fun h3 => ?_)
    · simp only [i_le, show (4 : Int32).toInt = 4 from by decide] at h3
      refine g_loadI act (gx gp_193 (w := 0x2004b02) rfl (by decide) rfl) (a := 2) (n := 75) rfl rfl rfl ?_
      refine g_constI act (gx gp_193 (w := 0x40000000c00000009000000004c01) rfl (by decide) rfl) (n := 76) (x := (1 : Int32)) (by decide) rfl ?_
      refine g_loadA act (gx gp_193 (w := 0x4d03) rfl (by decide) rfl) (a := 0) (n := 77) rfl rfl rfl ?_
      refine g_constI act (gx gp_193 (w := 0x40000000400000001000000004e01) rfl (by decide) rfl) (n := 78) (x := (0 : Int32)) (by decide) rfl ?_
      obtain ⟨x_16, e_17, hx_18⟩ := hF 0 (by omega)
      refine r_iald act (gx gp_193 (w := 0x4f1a) rfl (by decide) rfl) (n := 79) (j := 0) rfl (rw0.2 (1, 125, 32, 46) (by decide)).2 (show (0 : Int32).toInt = ((0 : Nat) : Int) from by decide) (show 0 < 46 by omega) (v := .int x_16) e_17 ?_
      refine g_ishl act (gx gp_193 (w := 0x503b) rfl (by decide) rfl) (n := 80) rfl ?_
      refine g_constI act (gx gp_193 (w := 0x40000000c00000009000000005101) rfl (by decide) rfl) (n := 81) (x := (1 : Int32)) (by decide) rfl ?_
      refine g_isub act (gx gp_193 (w := 0x5226) rfl (by decide) rfl) (n := 82) rfl ?_
      refine g_icmpNe act (gx gp_193 (w := 0x59005521) rfl (by decide) rfl) (tgt := 89) (n := 85) rfl rfl (fun h10 => ?_) (fun h10 => ?_)
      · simp only [i_eq, show (1 : Int32).toInt = 1 from by decide] at h10
        refine g_constI act (gx gp_193 (w := 0x40000000400000001000000005a01) rfl (by decide) rfl) (n := 90) (x := (0 : Int32)) (by decide) rfl ?_
        exact g_retZ hEnd (gx gp_193 (w := 0x23) rfl (by decide) rfl) (Or.inl rfl) ⟨rfl, rfl, _, rfl, Or.inl (by decide)⟩ hk1 hk2
      · simp only [i_eq, show (1 : Int32).toInt = 1 from by decide] at h10
        refine g_constI act (gx gp_193 (w := 0x40000000c00000009000000005601) rfl (by decide) rfl) (n := 86) (x := (1 : Int32)) (by decide) rfl ?_
        refine g_goto act (gx gp_193 (w := 0x5a07) rfl (by decide) rfl) (n := 90) rfl ?_
        exact g_retZ hEnd (gx gp_193 (w := 0x23) rfl (by decide) rfl) (Or.inr rfl) ⟨rfl, rfl, _, rfl, Or.inr ⟨by decide, hC.cut hx_18 hn0 hn1 hn3 (by omega)⟩⟩ hk1 hk2
    · simp only [i_le, show (4 : Int32).toInt = 4 from by decide] at h3
      refine g_constI act (gx gp_193 (w := 0x40000000400000001000000000a01) rfl (by decide) rfl) (n := 10) (x := (0 : Int32)) (by decide) rfl ?_
      refine g_storeI act (gx gp_193 (w := 0x4000c10) rfl (by decide) rfl) (a := 4) (n := 12) rfl rfl (L2 := [some (.ref 125), some (.int zi), some (.int sj), some (.int rj), some (.int (0 : Int32)), none]) rfl ?_
      exact n_forget (d := D_193) (L2 := [some (.ref 125), some (.int zi), some (.int sj), some (.int rj), some (.int (0 : Int32)), none]) (fun i v hi => by
        match i, hi with
        | 0, hi => exact hi
        | 1, hi => exact hi
        | 2, hi => exact hi
        | 3, hi => exact hi
        | 4, hi => exact hi
        | 5, hi => cases hi
        | i + 6, hi => cases hi) (inner (by omega) _ _ 0 (show (0 : Int32).toInt = ((0 : Nat) : Int) from by decide) (Nat.zero_le _) hC)
  show WpN (gp g0 wp) CLS p l e R s m args below meth c Q D_193.2.2.1 kc0 ks0 0 [some (.ref 125), some (.int zi), none, none, none, none] (hs, kc, ks) []
  refine g_constI act (gx gp_193 (w := 0x40000000c00000009000000000101) rfl (by decide) rfl) (n := 1) (x := (1 : Int32)) (by decide) rfl ?_
  refine g_storeI act (gx gp_193 (w := 0x2000210) rfl (by decide) rfl) (a := 2) (n := 2) rfl rfl (L2 := [some (.ref 125), some (.int zi), some (.int (1 : Int32)), none, none, none]) rfl ?_
  refine g_constI act (gx gp_193 (w := 0x40000000400000001000000000301) rfl (by decide) rfl) (n := 3) (x := (0 : Int32)) (by decide) rfl ?_
  refine g_storeI act (gx gp_193 (w := 0x3000410) rfl (by decide) rfl) (a := 3) (n := 4) rfl rfl (L2 := [some (.ref 125), some (.int zi), some (.int (1 : Int32)), some (.int (0 : Int32)), none, none]) rfl ?_
  exact outer _ _ 0 (show (0 : Int32).toInt = ((0 : Nat) : Int) from by decide) (by decide) (CI.one _ _ _)

theorem br_con126 {zi : Int32} {z9 : Int} (rw0 : RW hs) (hF : IArr hs 126 46 fv) (hzi : zi.toInt = z9) (hnl : fv 2 = (nl : Int)) (h6 : nl ≤ 6) (hn0 : fv 0 = (n9 : Int) + 1) (hn1 : 1 ≤ n9) (hn3 : n9 ≤ 3) (hR9 : ∀ l, l < nl → 0 ≤ fv (5 + l) ∧ fv (5 + l) ≤ 3 ∧ 0 ≤ fv (11 + l) ∧ fv (11 + l) ≤ 3) : BodyN SSX TBL g0 CLS bl xs l D_193 0 0 0 0 [.ref 126, .int zi] hs (fun kd r h2 => kd = 0 ∧ hs = h2 ∧ ∃ x : Int32, r = some (.int x) ∧ (x.toInt = 0 ∨ (x.toInt = 1 ∧ CutOK fv nl z9 n9))) := by
  intro wp p e R s m args below meth c Q kc0 ks0 kc ks act hf hl hc hsl hEnd
  have hf : 0 ≤ R.frames := hf
  have hl : 0 ≤ R.locals := hl
  have hk1 : kc ≤ kc + 0 := by omega
  have hk2 : ks ≤ ks + 0 := by omega
  have outer : ∀ (sj rj : Int32) (Rj : Nat), rj.toInt = (Rj : Int) → Rj ≤ 4 → CI fv nl z9 sj → WpN (gp g0 wp) CLS p l e R s m args below meth c Q D_193.2.2.1 kc0 ks0 4 [some (.ref 126), some (.int zi), some (.int sj), some (.int rj), none, none] (hs, kc, ks) [] := by
    intro sj rj Rj hR h4 hC
    generalize hm : 4 - Rj = m9
    induction m9 using Nat.strongRecOn generalizing sj rj Rj with
    | _ m9 ih =>
    subst hm
    have inner : Rj < 4 → ∀ (sk lk : Int32) (Lk : Nat), lk.toInt = (Lk : Int) → Lk ≤ nl → CI fv nl z9 sk → WpN (gp g0 wp) CLS p l e R s m args below meth c Q D_193.2.2.1 kc0 ks0 12 [some (.ref 126), some (.int zi), some (.int sk), some (.int rj), some (.int lk), none] (hs, kc, ks) [] := by
      intro hRj sk lk Lk hLk hLn hCk
      generalize hm2 : nl - Lk = m8
      induction m8 using Nat.strongRecOn generalizing sk lk Lk with
      | _ m8 ih2 =>
      subst hm2
      have w9 := hR9 Lk
      refine g_loadI act (gx gp_193 (w := 0x4000e02) rfl (by decide) rfl) (a := 4) (n := 14) rfl rfl rfl ?_
      refine g_loadA act (gx gp_193 (w := 0xf03) rfl (by decide) rfl) (a := 0) (n := 15) rfl rfl rfl ?_
      refine g_constI act (gx gp_193 (w := 0x40000001400000011000000001001) rfl (by decide) rfl) (n := 16) (x := (2 : Int32)) (by decide) rfl ?_
      obtain ⟨x_1, e_2, hx_3⟩ := hF 2 (by omega)
      refine r_iald act (gx gp_193 (w := 0x111a) rfl (by decide) rfl) (n := 17) (j := 2) rfl (rw0.2 (2, 126, 32, 46) (by decide)).2 (show (2 : Int32).toInt = ((2 : Nat) : Int) from by decide) (show 2 < 46 by omega) (v := .int x_1) e_2 ?_
      refine g_icmpGe act (gx gp_193 (w := 0x44001408) rfl (by decide) rfl) (tgt := 68) (n := 20) rfl rfl (fun h4 => ?_) (fun h4 => ?_)
      · simp only [i_le] at h4
        refine g_iinc act (gx gp_193 (w := 0x80000001000003004709) rfl (by decide) rfl) (a := 3) (i := (1 : Int32)) (n := 71) rfl (by decide) rfl rfl (L2 := [some (.ref 126), some (.int zi), some (.int sk), some (.int (rj + (1 : Int32))), some (.int lk), none]) rfl ?_
        have v_4 := iv_addN hR (show (1 : Int32).toInt = ((1 : Nat) : Int) from by decide) (show (Rj + 1) < 2147483648 by omega)
        refine g_goto act (gx gp_193 (w := 0x407) rfl (by decide) rfl) (n := 4) rfl ?_
        exact n_forget (d := D_193) (L2 := [some (.ref 126), some (.int zi), some (.int sk), some (.int (rj + (1 : Int32))), none, none]) (fun i v hi => by
          match i, hi with
          | 0, hi => exact hi
          | 1, hi => exact hi
          | 2, hi => exact hi
          | 3, hi => exact hi
          | 4, hi => cases hi
          | 5, hi => cases hi
          | i + 6, hi => cases hi) (ih _ (by omega) _ _ _ v_4 (by omega) hCk rfl)
      · simp only [i_le] at h4
        refine g_constI act (gx gp_193 (w := 0x40000000c00000009000000001501) rfl (by decide) rfl) (n := 21) (x := (1 : Int32)) (by decide) rfl ?_
        refine g_loadA act (gx gp_193 (w := 0x1603) rfl (by decide) rfl) (a := 0) (n := 22) rfl rfl rfl ?_
        refine g_constI act (gx gp_193 (w := 0x40000002c00000029000000001701) rfl (by decide) rfl) (n := 23) (x := (5 : Int32)) (by decide) rfl ?_
        refine g_loadI act (gx gp_193 (w := 0x4001902) rfl (by decide) rfl) (a := 4) (n := 25) rfl rfl rfl ?_
        refine g_iadd act (gx gp_193 (w := 0x1a0a) rfl (by decide) rfl) (n := 26) rfl ?_
        have v_5 := iv_addN (show (5 : Int32).toInt = ((5 : Nat) : Int) from by decide) hLk (show (5 + Lk) < 2147483648 by omega)
        obtain ⟨x_6, e_7, hx_8⟩ := hF (5 + Lk) (by omega)
        refine r_iald act (gx gp_193 (w := 0x1b1a) rfl (by decide) rfl) (n := 27) (j := (5 + Lk)) rfl (rw0.2 (2, 126, 32, 46) (by decide)).2 v_5 (show (5 + Lk) < 46 by omega) (v := .int x_6) e_7 ?_
        refine g_ishl act (gx gp_193 (w := 0x1c3b) rfl (by decide) rfl) (n := 28) rfl ?_
        refine g_constI act (gx gp_193 (w := 0x40000000c00000009000000001d01) rfl (by decide) rfl) (n := 29) (x := (1 : Int32)) (by decide) rfl ?_
        refine g_loadA act (gx gp_193 (w := 0x1e03) rfl (by decide) rfl) (a := 0) (n := 30) rfl rfl rfl ?_
        refine g_constI act (gx gp_193 (w := 0x40000005c00000059000000002001) rfl (by decide) rfl) (n := 32) (x := (11 : Int32)) (by decide) rfl ?_
        refine g_loadI act (gx gp_193 (w := 0x4002202) rfl (by decide) rfl) (a := 4) (n := 34) rfl rfl rfl ?_
        refine g_iadd act (gx gp_193 (w := 0x230a) rfl (by decide) rfl) (n := 35) rfl ?_
        have v_9 := iv_addN (show (11 : Int32).toInt = ((11 : Nat) : Int) from by decide) hLk (show (11 + Lk) < 2147483648 by omega)
        obtain ⟨x_10, e_11, hx_12⟩ := hF (11 + Lk) (by omega)
        refine r_iald act (gx gp_193 (w := 0x241a) rfl (by decide) rfl) (n := 36) (j := (11 + Lk)) rfl (rw0.2 (2, 126, 32, 46) (by decide)).2 v_9 (show (11 + Lk) < 46 by omega) (v := .int x_10) e_11 ?_
        refine g_ishl act (gx gp_193 (w := 0x253b) rfl (by decide) rfl) (n := 37) rfl ?_
        refine g_ior act (gx gp_193 (w := 0x264b) rfl (by decide) rfl) (n := 38) rfl ?_
        refine g_storeI act (gx gp_193 (w := 0x5002810) rfl (by decide) rfl) (a := 5) (n := 40) rfl rfl (L2 := [some (.ref 126), some (.int zi), some (.int sk), some (.int rj), some (.int lk), some (.int (((1 : Int32) <<< (x_6 &&& 31)) ||| ((1 : Int32) <<< (x_10 &&& 31))))]) rfl ?_
        refine g_loadI act (gx gp_193 (w := 0x2002902) rfl (by decide) rfl) (a := 2) (n := 41) rfl rfl rfl ?_
        refine g_loadI act (gx gp_193 (w := 0x4002b02) rfl (by decide) rfl) (a := 4) (n := 43) rfl rfl rfl ?_
        refine g_loadI act (gx gp_193 (w := 0x1002c02) rfl (by decide) rfl) (a := 1) (n := 44) rfl rfl rfl ?_
        refine g_icmpEq act (gx gp_193 (w := 0x3b002f2e) rfl (by decide) rfl) (tgt := 59) (n := 47) rfl rfl (fun h19 => ?_) (fun h19 => ?_)
        · simp only [i_eq] at h19
          refine g_constI act (gx gp_193 (w := 0x40000000400000001000000003c01) rfl (by decide) rfl) (n := 60) (x := (0 : Int32)) (by decide) rfl ?_
          refine g_ior act (gx gp_193 (w := 0x3d4b) rfl (by decide) rfl) (n := 61) rfl ?_
          refine g_storeI act (gx gp_193 (w := 0x2003e10) rfl (by decide) rfl) (a := 2) (n := 62) rfl rfl (L2 := [some (.ref 126), some (.int zi), some (.int (sk ||| (0 : Int32))), some (.int rj), some (.int lk), some (.int (((1 : Int32) <<< (x_6 &&& 31)) ||| ((1 : Int32) <<< (x_10 &&& 31))))]) rfl ?_
          refine g_iinc act (gx gp_193 (w := 0x80000001000004004109) rfl (by decide) rfl) (a := 4) (i := (1 : Int32)) (n := 65) rfl (by decide) rfl rfl (L2 := [some (.ref 126), some (.int zi), some (.int (sk ||| (0 : Int32))), some (.int rj), some (.int (lk + (1 : Int32))), some (.int (((1 : Int32) <<< (x_6 &&& 31)) ||| ((1 : Int32) <<< (x_10 &&& 31))))]) rfl ?_
          have v_13 := iv_addN hLk (show (1 : Int32).toInt = ((1 : Nat) : Int) from by decide) (show (Lk + 1) < 2147483648 by omega)
          refine g_goto act (gx gp_193 (w := 0xc07) rfl (by decide) rfl) (n := 12) rfl ?_
          exact n_forget (d := D_193) (L2 := [some (.ref 126), some (.int zi), some (.int (sk ||| (0 : Int32))), some (.int rj), some (.int (lk + (1 : Int32))), none]) (fun i v hi => by
            match i, hi with
            | 0, hi => exact hi
            | 1, hi => exact hi
            | 2, hi => exact hi
            | 3, hi => exact hi
            | 4, hi => exact hi
            | 5, hi => cases hi
            | i + 6, hi => cases hi) (ih2 _ (by omega) _ _ _ v_13 (by omega) hCk.or0 rfl)
        · simp only [i_eq] at h19
          refine g_loadI act (gx gp_193 (w := 0x2003002) rfl (by decide) rfl) (a := 2) (n := 48) rfl rfl rfl ?_
          refine g_loadI act (gx gp_193 (w := 0x5003202) rfl (by decide) rfl) (a := 5) (n := 50) rfl rfl rfl ?_
          refine g_iand act (gx gp_193 (w := 0x3333) rfl (by decide) rfl) (n := 51) rfl ?_
          refine g_ifEq act (gx gp_193 (w := 0x3b00360e) rfl (by decide) rfl) (tgt := 59) (n := 54) rfl rfl (fun h27 => ?_) (fun h27 => ?_)
          · simp only [i_eq, show (1 : Int32).toInt = 1 from by decide, i0] at h27
            refine g_constI act (gx gp_193 (w := 0x40000000400000001000000003c01) rfl (by decide) rfl) (n := 60) (x := (0 : Int32)) (by decide) rfl ?_
            refine g_ior act (gx gp_193 (w := 0x3d4b) rfl (by decide) rfl) (n := 61) rfl ?_
            refine g_storeI act (gx gp_193 (w := 0x2003e10) rfl (by decide) rfl) (a := 2) (n := 62) rfl rfl (L2 := [some (.ref 126), some (.int zi), some (.int (sk ||| (0 : Int32))), some (.int rj), some (.int lk), some (.int (((1 : Int32) <<< (x_6 &&& 31)) ||| ((1 : Int32) <<< (x_10 &&& 31))))]) rfl ?_
            refine g_iinc act (gx gp_193 (w := 0x80000001000004004109) rfl (by decide) rfl) (a := 4) (i := (1 : Int32)) (n := 65) rfl (by decide) rfl rfl (L2 := [some (.ref 126), some (.int zi), some (.int (sk ||| (0 : Int32))), some (.int rj), some (.int (lk + (1 : Int32))), some (.int (((1 : Int32) <<< (x_6 &&& 31)) ||| ((1 : Int32) <<< (x_10 &&& 31))))]) rfl ?_
            have v_14 := iv_addN hLk (show (1 : Int32).toInt = ((1 : Nat) : Int) from by decide) (show (Lk + 1) < 2147483648 by omega)
            refine g_goto act (gx gp_193 (w := 0xc07) rfl (by decide) rfl) (n := 12) rfl ?_
            exact n_forget (d := D_193) (L2 := [some (.ref 126), some (.int zi), some (.int (sk ||| (0 : Int32))), some (.int rj), some (.int (lk + (1 : Int32))), none]) (fun i v hi => by
              match i, hi with
              | 0, hi => exact hi
              | 1, hi => exact hi
              | 2, hi => exact hi
              | 3, hi => exact hi
              | 4, hi => exact hi
              | 5, hi => cases hi
              | i + 6, hi => cases hi) (ih2 _ (by omega) _ _ _ v_14 (by omega) hCk.or0 rfl)
          · simp only [i_eq, show (1 : Int32).toInt = 1 from by decide, i0] at h27
            refine g_loadI act (gx gp_193 (w := 0x5003802) rfl (by decide) rfl) (a := 5) (n := 56) rfl rfl rfl ?_
            refine g_goto act (gx gp_193 (w := 0x3c07) rfl (by decide) rfl) (n := 60) rfl ?_
            refine g_ior act (gx gp_193 (w := 0x3d4b) rfl (by decide) rfl) (n := 61) rfl ?_
            refine g_storeI act (gx gp_193 (w := 0x2003e10) rfl (by decide) rfl) (a := 2) (n := 62) rfl rfl (L2 := [some (.ref 126), some (.int zi), some (.int (sk ||| (((1 : Int32) <<< (x_6 &&& 31)) ||| ((1 : Int32) <<< (x_10 &&& 31))))), some (.int rj), some (.int lk), some (.int (((1 : Int32) <<< (x_6 &&& 31)) ||| ((1 : Int32) <<< (x_10 &&& 31))))]) rfl ?_
            refine g_iinc act (gx gp_193 (w := 0x80000001000004004109) rfl (by decide) rfl) (a := 4) (i := (1 : Int32)) (n := 65) rfl (by decide) rfl rfl (L2 := [some (.ref 126), some (.int zi), some (.int (sk ||| (((1 : Int32) <<< (x_6 &&& 31)) ||| ((1 : Int32) <<< (x_10 &&& 31))))), some (.int rj), some (.int (lk + (1 : Int32))), some (.int (((1 : Int32) <<< (x_6 &&& 31)) ||| ((1 : Int32) <<< (x_10 &&& 31))))]) rfl ?_
            have v_15 := iv_addN hLk (show (1 : Int32).toInt = ((1 : Nat) : Int) from by decide) (show (Lk + 1) < 2147483648 by omega)
            refine g_goto act (gx gp_193 (w := 0xc07) rfl (by decide) rfl) (n := 12) rfl ?_
            exact n_forget (d := D_193) (L2 := [some (.ref 126), some (.int zi), some (.int (sk ||| (((1 : Int32) <<< (x_6 &&& 31)) ||| ((1 : Int32) <<< (x_10 &&& 31))))), some (.int rj), some (.int (lk + (1 : Int32))), none]) (fun i v hi => by
              match i, hi with
              | 0, hi => exact hi
              | 1, hi => exact hi
              | 2, hi => exact hi
              | 3, hi => exact hi
              | 4, hi => exact hi
              | 5, hi => cases hi
              | i + 6, hi => cases hi) (ih2 _ (by omega) _ _ _ v_15 (by omega) (hCk.step hx_8 hx_12 (by omega) (by omega) (by omega) (by omega) (by omega) (by omega) (by assumption)) rfl)
    refine g_loadI act (gx gp_193 (w := 0x3000502) rfl (by decide) rfl) (a := 3) (n := 5) rfl rfl rfl ?_
    refine g_constI act (gx gp_193 (w := 0x40000002400000021000000000601) rfl (by decide) rfl) (n := 6) (x := (4 : Int32)) (by decide) rfl ?_
    refine g_icmpGe act (gx gp_193 (w := 0x4a000908) rfl (by decide) rfl) (tgt := 74) (n := 9) rfl rfl (fun h3 => ?_) (fun h3 => ?_)
    · simp only [i_le, show (4 : Int32).toInt = 4 from by decide] at h3
      refine g_loadI act (gx gp_193 (w := 0x2004b02) rfl (by decide) rfl) (a := 2) (n := 75) rfl rfl rfl ?_
      refine g_constI act (gx gp_193 (w := 0x40000000c00000009000000004c01) rfl (by decide) rfl) (n := 76) (x := (1 : Int32)) (by decide) rfl ?_
      refine g_loadA act (gx gp_193 (w := 0x4d03) rfl (by decide) rfl) (a := 0) (n := 77) rfl rfl rfl ?_
      refine g_constI act (gx gp_193 (w := 0x40000000400000001000000004e01) rfl (by decide) rfl) (n := 78) (x := (0 : Int32)) (by decide) rfl ?_
      obtain ⟨x_16, e_17, hx_18⟩ := hF 0 (by omega)
      refine r_iald act (gx gp_193 (w := 0x4f1a) rfl (by decide) rfl) (n := 79) (j := 0) rfl (rw0.2 (2, 126, 32, 46) (by decide)).2 (show (0 : Int32).toInt = ((0 : Nat) : Int) from by decide) (show 0 < 46 by omega) (v := .int x_16) e_17 ?_
      refine g_ishl act (gx gp_193 (w := 0x503b) rfl (by decide) rfl) (n := 80) rfl ?_
      refine g_constI act (gx gp_193 (w := 0x40000000c00000009000000005101) rfl (by decide) rfl) (n := 81) (x := (1 : Int32)) (by decide) rfl ?_
      refine g_isub act (gx gp_193 (w := 0x5226) rfl (by decide) rfl) (n := 82) rfl ?_
      refine g_icmpNe act (gx gp_193 (w := 0x59005521) rfl (by decide) rfl) (tgt := 89) (n := 85) rfl rfl (fun h10 => ?_) (fun h10 => ?_)
      · simp only [i_eq, show (1 : Int32).toInt = 1 from by decide] at h10
        refine g_constI act (gx gp_193 (w := 0x40000000400000001000000005a01) rfl (by decide) rfl) (n := 90) (x := (0 : Int32)) (by decide) rfl ?_
        exact g_retZ hEnd (gx gp_193 (w := 0x23) rfl (by decide) rfl) (Or.inl rfl) ⟨rfl, rfl, _, rfl, Or.inl (by decide)⟩ hk1 hk2
      · simp only [i_eq, show (1 : Int32).toInt = 1 from by decide] at h10
        refine g_constI act (gx gp_193 (w := 0x40000000c00000009000000005601) rfl (by decide) rfl) (n := 86) (x := (1 : Int32)) (by decide) rfl ?_
        refine g_goto act (gx gp_193 (w := 0x5a07) rfl (by decide) rfl) (n := 90) rfl ?_
        exact g_retZ hEnd (gx gp_193 (w := 0x23) rfl (by decide) rfl) (Or.inr rfl) ⟨rfl, rfl, _, rfl, Or.inr ⟨by decide, hC.cut hx_18 hn0 hn1 hn3 (by omega)⟩⟩ hk1 hk2
    · simp only [i_le, show (4 : Int32).toInt = 4 from by decide] at h3
      refine g_constI act (gx gp_193 (w := 0x40000000400000001000000000a01) rfl (by decide) rfl) (n := 10) (x := (0 : Int32)) (by decide) rfl ?_
      refine g_storeI act (gx gp_193 (w := 0x4000c10) rfl (by decide) rfl) (a := 4) (n := 12) rfl rfl (L2 := [some (.ref 126), some (.int zi), some (.int sj), some (.int rj), some (.int (0 : Int32)), none]) rfl ?_
      exact n_forget (d := D_193) (L2 := [some (.ref 126), some (.int zi), some (.int sj), some (.int rj), some (.int (0 : Int32)), none]) (fun i v hi => by
        match i, hi with
        | 0, hi => exact hi
        | 1, hi => exact hi
        | 2, hi => exact hi
        | 3, hi => exact hi
        | 4, hi => exact hi
        | 5, hi => cases hi
        | i + 6, hi => cases hi) (inner (by omega) _ _ 0 (show (0 : Int32).toInt = ((0 : Nat) : Int) from by decide) (Nat.zero_le _) hC)
  show WpN (gp g0 wp) CLS p l e R s m args below meth c Q D_193.2.2.1 kc0 ks0 0 [some (.ref 126), some (.int zi), none, none, none, none] (hs, kc, ks) []
  refine g_constI act (gx gp_193 (w := 0x40000000c00000009000000000101) rfl (by decide) rfl) (n := 1) (x := (1 : Int32)) (by decide) rfl ?_
  refine g_storeI act (gx gp_193 (w := 0x2000210) rfl (by decide) rfl) (a := 2) (n := 2) rfl rfl (L2 := [some (.ref 126), some (.int zi), some (.int (1 : Int32)), none, none, none]) rfl ?_
  refine g_constI act (gx gp_193 (w := 0x40000000400000001000000000301) rfl (by decide) rfl) (n := 3) (x := (0 : Int32)) (by decide) rfl ?_
  refine g_storeI act (gx gp_193 (w := 0x3000410) rfl (by decide) rfl) (a := 3) (n := 4) rfl rfl (L2 := [some (.ref 126), some (.int zi), some (.int (1 : Int32)), some (.int (0 : Int32)), none, none]) rfl ?_
  exact outer _ _ 0 (show (0 : Int32).toInt = ((0 : Nat) : Int) from by decide) (by decide) (CI.one _ _ _)

end CONN

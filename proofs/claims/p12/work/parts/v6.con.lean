/-! connects, exactly: it answers whether every cut is crossed. -/
def bt4 (s x : Nat) : Nat := (s / 2 ^ x) % 2
def pc4 (s : Nat) : Nat := bt4 s 0 + bt4 s 1 + bt4 s 2 + bt4 s 3
def eb4 (f : Nat → Int) (s : Int32) (l : Nat) : Prop := bt4 s.toInt.toNat (f (5 + l)).toNat = bt4 s.toInt.toNat (f (11 + l)).toNat
def SB4 (n : Nat) (s : Int32) : Prop := 0 ≤ s.toInt ∧ s.toInt < (2 : Int) ^ (n + 1) ∧ bt4 s.toInt.toNat 0 = 1
theorem cx_dec : ∀ (s : Fin 16) (a b : Fin 4), ((Int32.ofNat s.val &&& (((1 : Int32) <<< (Int32.ofNat a.val &&& 31)) ||| ((1 : Int32) <<< (Int32.ofNat b.val &&& 31)))).toInt = 0 ↔ (bt4 s.val a.val = 0 ∧ bt4 s.val b.val = 0)) ∧
    (bt4 s.val a.val = 1 → bt4 s.val b.val = 1 → Int32.ofNat s.val ||| (((1 : Int32) <<< (Int32.ofNat a.val &&& 31)) ||| ((1 : Int32) <<< (Int32.ofNat b.val &&& 31))) = Int32.ofNat s.val) ∧
    pc4 s.val ≤ pc4 (Int32.ofNat s.val ||| (((1 : Int32) <<< (Int32.ofNat a.val &&& 31)) ||| ((1 : Int32) <<< (Int32.ofNat b.val &&& 31)))).toInt.toNat ∧
    (bt4 s.val a.val ≠ bt4 s.val b.val → pc4 s.val < pc4 (Int32.ofNat s.val ||| (((1 : Int32) <<< (Int32.ofNat a.val &&& 31)) ||| ((1 : Int32) <<< (Int32.ofNat b.val &&& 31)))).toInt.toNat) ∧
    (bt4 s.val 0 = 1 → bt4 (Int32.ofNat s.val ||| (((1 : Int32) <<< (Int32.ofNat a.val &&& 31)) ||| ((1 : Int32) <<< (Int32.ofNat b.val &&& 31)))).toInt.toNat 0 = 1) ∧
    0 ≤ (Int32.ofNat s.val ||| (((1 : Int32) <<< (Int32.ofNat a.val &&& 31)) ||| ((1 : Int32) <<< (Int32.ofNat b.val &&& 31)))).toInt ∧
    ∀ n : Fin 3, s.val < 2 ^ (n.val + 2) → a.val ≤ n.val + 1 → b.val ≤ n.val + 1 → (Int32.ofNat s.val ||| (((1 : Int32) <<< (Int32.ofNat a.val &&& 31)) ||| ((1 : Int32) <<< (Int32.ofNat b.val &&& 31)))).toInt < (2 : Int) ^ (n.val + 2) := by decide +kernel
theorem pc4_le (s : Nat) : pc4 s ≤ 4 := by
  unfold pc4 bt4
  omega
theorem bt4_01 (s x : Nat) : bt4 s x = 0 ∨ bt4 s x = 1 := by
  unfold bt4
  omega
theorem cx_no : ∀ (n : Fin 3) (s : Fin 16), s.val < 2 ^ (n.val + 2) → s.val ≠ 2 ^ (n.val + 2) - 1 → ∃ x : Fin 4, x.val ≤ n.val + 1 ∧ bt4 s.val x.val = 0 := by decide +kernel
/-- within a round: nothing new yet, or more than before, and then there was something -/
def CX (f : Nat → Int) (nl n : Nat) (z : Int) (s0 : Int32) (k : Nat) (s : Int32) : Prop := SB4 n s0 ∧ SB4 n s ∧ ((s = s0 ∧ ∀ l, l < k → (l : Int) ≠ z → eb4 f s0 l) ∨ (pc4 s0.toInt.toNat < pc4 s.toInt.toNat ∧ ∃ l, l < nl ∧ (l : Int) ≠ z ∧ ¬ eb4 f s0 l))
/-- between rounds -/
def CJ (f : Nat → Int) (nl n : Nat) (z : Int) (R : Nat) (s : Int32) : Prop := SB4 n s ∧ ((∀ l, l < nl → (l : Int) ≠ z → eb4 f s l) ∨ R + 1 ≤ pc4 s.toInt.toNat)
theorem CJ.one (f : Nat → Int) (nl n : Nat) (z : Int) : CJ f nl n z 0 (1 : Int32) := by
  refine ⟨⟨by decide, ?_, by decide⟩, Or.inr (by decide)⟩
  rw [show (1 : Int32).toInt = 1 from by decide, Int.pow_succ]
  have : (1 : Int) ≤ 2 ^ n := Int.pow_pos (by decide)
  omega
theorem CJ.start {f : Nat → Int} {nl n R : Nat} {z : Int} {s : Int32} (h : CJ f nl n z R s) : CX f nl n z s 0 s := ⟨h.1, h.1, Or.inl ⟨rfl, fun l hl => absurd hl (Nat.not_lt_zero l)⟩⟩
theorem CX.fin {f : Nat → Int} {nl n R k : Nat} {z : Int} {s0 s : Int32} (h0 : CJ f nl n z R s0) (hk : k = nl) (h : CX f nl n z s0 k s) : CJ f nl n z (R + 1) s := by
  obtain ⟨-, h2, h | ⟨h3, l, l1, l2, l3⟩⟩ := h
  · obtain ⟨rfl, h4⟩ := h
    rw [hk] at h4
    exact ⟨h2, Or.inl h4⟩
  · rcases h0.2 with q | q
    · exact absurd (q l l1 l2) l3
    · exact ⟨h2, Or.inr (by omega)⟩
theorem CX.or0z {f : Nat → Int} {nl n k : Nat} {z : Int} {s0 s : Int32} (h : CX f nl n z s0 k s) (hz : (k : Int) = z) : CX f nl n z s0 (k + 1) (s ||| (0 : Int32)) := by
  rw [Int32.or_zero]
  obtain ⟨h1, h2, h | h⟩ := h
  · exact ⟨h1, h2, Or.inl ⟨h.1, fun l hl hlz => h.2 l (by omega) hlz⟩⟩
  · exact ⟨h1, h2, Or.inr h⟩
section CXS
variable {f : Nat → Int} {nl n k : Nat} {z : Int} {s0 s a b : Int32}
theorem sb_fin (hn3 : n ≤ 3) (h : SB4 n s) : ∃ s9 : Fin 16, s = Int32.ofNat s9.val ∧ s.toInt.toNat = s9.val ∧ s9.val < 2 ^ (n + 1) := by
  obtain ⟨h1, h2, -⟩ := h
  obtain ⟨k9, hk⟩ := Int.eq_ofNat_of_zero_le h1
  have h3 : (2 : Int) ^ (n + 1) ≤ 16 := by
    rcases (show n = 0 ∨ n = 1 ∨ n = 2 ∨ n = 3 by omega) with rfl | rfl | rfl | rfl <;> decide
  refine ⟨⟨k9, by omega⟩, i_ofN hk (by omega), by show s.toInt.toNat = k9; omega, ?_⟩
  have : ((k9 : Nat) : Int) < ((2 ^ (n + 1) : Nat) : Int) := by rw [← hk, Int.natCast_pow]; exact h2
  exact Int.ofNat_lt.mp this
theorem CX.or0 (h : CX f nl n z s0 k s) (hn3 : n ≤ 3) (ha : a.toInt = f (5 + k)) (hb : b.toInt = f (11 + k)) (ha0 : 0 ≤ f (5 + k)) (ha3 : f (5 + k) ≤ 3) (hb0 : 0 ≤ f (11 + k)) (hb3 : f (11 + k) ≤ 3) (hn : (s &&& (((1 : Int32) <<< (a &&& 31)) ||| ((1 : Int32) <<< (b &&& 31)))).toInt = 0) : CX f nl n z s0 (k + 1) (s ||| (0 : Int32)) := by
  rw [Int32.or_zero]
  obtain ⟨a9, ea⟩ := Int.eq_ofNat_of_zero_le ha0
  obtain ⟨b9, eb⟩ := Int.eq_ofNat_of_zero_le hb0
  obtain rfl := i_ofN (ha.trans ea) (by omega)
  obtain rfl := i_ofN (hb.trans eb) (by omega)
  obtain ⟨h1, h2, h | h⟩ := h
  · obtain ⟨rfl, h4⟩ := h
    obtain ⟨s9, es, et, -⟩ := sb_fin hn3 h2
    have d := (cx_dec s9 ⟨a9, by omega⟩ ⟨b9, by omega⟩).1.mp (by rw [← es]; exact hn)
    refine ⟨h1, h2, Or.inl ⟨rfl, fun l hl hlz => ?_⟩⟩
    by_cases q : l = k
    · subst q
      unfold eb4
      rw [ea, eb, et]
      exact d.1.trans d.2.symm
    · exact h4 l (by omega) hlz
  · exact ⟨h1, h2, Or.inr h⟩
theorem CX.step (h : CX f nl n z s0 k s) (hn1 : 1 ≤ n) (hn3 : n ≤ 3) (ha : a.toInt = f (5 + k)) (hb : b.toInt = f (11 + k)) (hk : k < nl) (hz : (k : Int) ≠ z) (ha0 : 0 ≤ f (5 + k)) (ha3 : f (5 + k) ≤ (n : Int)) (hb0 : 0 ≤ f (11 + k)) (hb3 : f (11 + k) ≤ (n : Int)) (hn : ¬ (s &&& (((1 : Int32) <<< (a &&& 31)) ||| ((1 : Int32) <<< (b &&& 31)))).toInt = 0) : CX f nl n z s0 (k + 1) (s ||| (((1 : Int32) <<< (a &&& 31)) ||| ((1 : Int32) <<< (b &&& 31)))) := by
  obtain ⟨a9, ea⟩ := Int.eq_ofNat_of_zero_le ha0
  obtain ⟨b9, eb⟩ := Int.eq_ofNat_of_zero_le hb0
  obtain rfl := i_ofN (ha.trans ea) (by omega)
  obtain rfl := i_ofN (hb.trans eb) (by omega)
  obtain ⟨h1, h2, h⟩ := h
  obtain ⟨s9, es, et, elt⟩ := sb_fin hn3 h2
  obtain ⟨d1, d2, d3, d4, d5, d6, d7⟩ := cx_dec s9 ⟨a9, by omega⟩ ⟨b9, by omega⟩
  have d7 := d7 ⟨n - 1, by omega⟩
  simp only [show n - 1 + 2 = n + 1 by omega, show n - 1 + 1 = n by omega] at d7
  rw [← es] at d1 d2 d3 d4 d5 d6 d7
  have hs2 : SB4 n (s ||| (((1 : Int32) <<< (Int32.ofNat a9 &&& 31)) ||| ((1 : Int32) <<< (Int32.ofNat b9 &&& 31)))) := ⟨d6, d7 elt (by show a9 ≤ n; omega) (by show b9 ≤ n; omega), d5 (by rw [← et]; exact h2.2.2)⟩
  refine ⟨h1, hs2, ?_⟩
  rcases h with ⟨rfl, h4⟩ | ⟨h4, h5⟩
  · by_cases q : eb4 f s k
    · have q2 := q
      unfold eb4 at q2
      rw [ea, eb, et] at q2
      have q2 : bt4 s9.val a9 = bt4 s9.val b9 := q2
      rcases bt4_01 s9.val a9 with w | w
      · exact absurd (d1.mpr ⟨w, q2.symm.trans w⟩) hn
      · rw [d2 w (by rw [← q2]; exact w)]
        refine Or.inl ⟨rfl, fun l hl hlz => ?_⟩
        by_cases r : l = k
        · rw [r]; exact q
        · exact h4 l (by omega) hlz
    · refine Or.inr ⟨?_, k, hk, hz, q⟩
      unfold eb4 at q
      rw [ea, eb, et] at q
      rw [et]
      exact d4 q
  · rw [et] at h4
    exact Or.inr ⟨Nat.lt_of_lt_of_le h4 d3, h5⟩
theorem CJ.res (h : CJ f nl n z 4 s) (hn1 : 1 ≤ n) (hn3 : n ≤ 3) {N : Int32} (hN : N.toInt = f 0) (h0 : f 0 = (n : Int) + 1) (hne : ¬ s.toInt = (((1 : Int32) <<< (N &&& 31)) - (1 : Int32)).toInt) : ¬ CutOK f nl z n := by
  have hc : ∀ l, l < nl → (l : Int) ≠ z → eb4 f s l := h.2.elim id (fun q => absurd (pc4_le s.toInt.toNat) (by omega))
  obtain ⟨s9, es, et, elt⟩ := sb_fin hn3 h.1
  have hN : N.toInt = ((n + 1 : Nat) : Int) := by rw [hN, h0]; rfl
  obtain rfl := i_ofN hN (by omega)
  have e1 := (cn_end ⟨n - 1, by omega⟩).1
  simp only [show n - 1 + 2 = n + 1 by omega] at e1
  rw [e1] at hne
  have hs0 := h.1.1
  have hne2 : s9.val ≠ 2 ^ (n + 1) - 1 := fun q => hne (by
    have e3 : ((2 : Int) ^ (n + 1) - 1) = ((2 ^ (n + 1) - 1 : Nat) : Int) := by
      rcases (show n = 1 ∨ n = 2 ∨ n = 3 by omega) with rfl | rfl | rfl <;> rfl
    rw [e3, ← q]
    omega)
  have hx := cx_no ⟨n - 1, by omega⟩ s9
  simp only [show n - 1 + 2 = n + 1 by omega, show n - 1 + 1 = n by omega] at hx
  obtain ⟨x, x1, x2⟩ := hx elt hne2
  intro hcut
  obtain ⟨l, l1, l2, l3⟩ := hcut (fun x => decide (bt4 s.toInt.toNat x = 1)) (decide_eq_true h.1.2.2) ⟨x.val, x1, decide_eq_false (by rw [et, x2]; decide)⟩
  have q := hc l l1 l2
  unfold eb4 at q
  apply l3
  show decide (_ = 1) = decide (_ = 1)
  rw [q]
end CXS
section CONX
variable {g0 : GG} {bl : Nat} {xs : Nat → Int32} {l : Launch} {hs : List CE} {fv : Nat → Int} {nl n9 : Nat}

theorem bx_con125 {zi : Int32} {z9 : Int} (rw0 : RW hs) (hF : IArr hs 125 46 fv) (hzi : zi.toInt = z9) (hnl : fv 2 = (nl : Int)) (h6 : nl ≤ 6) (hn0 : fv 0 = (n9 : Int) + 1) (hn1 : 1 ≤ n9) (hn3 : n9 ≤ 3) (hR9 : ∀ l, l < nl → 0 ≤ fv (5 + l) ∧ fv (5 + l) ≤ (n9 : Int) ∧ 0 ≤ fv (11 + l) ∧ fv (11 + l) ≤ (n9 : Int)) : BodyN SSX TBL g0 CLS bl xs l D_193 0 0 0 0 [.ref 125, .int zi] hs (fun kd r h2 => kd = 0 ∧ hs = h2 ∧ ∃ x : Int32, r = some (.int x) ∧ ((x.toInt = 0 ∧ ¬ CutOK fv nl z9 n9) ∨ (x.toInt = 1 ∧ CutOK fv nl z9 n9))) := by
  intro wp p e R s m args below meth c Q kc0 ks0 kc ks act hf hl hc hsl hEnd
  have hf : 0 ≤ R.frames := hf
  have hl : 0 ≤ R.locals := hl
  have hk1 : kc ≤ kc + 0 := by omega
  have hk2 : ks ≤ ks + 0 := by omega
  have outer : ∀ (sj rj : Int32) (Rj : Nat), rj.toInt = (Rj : Int) → Rj ≤ 4 → CI fv nl z9 sj → CJ fv nl n9 z9 Rj sj → WpN (gp g0 wp) CLS p l e R s m args below meth c Q D_193.2.2.1 kc0 ks0 4 [some (.ref 125), some (.int zi), some (.int sj), some (.int rj), none, none] (hs, kc, ks) [] := by
    intro sj rj Rj hR h4 hC hJ
    generalize hm : 4 - Rj = m9
    induction m9 using Nat.strongRecOn generalizing sj rj Rj with
    | _ m9 ih =>
    subst hm
    have inner : Rj < 4 → ∀ (sk lk : Int32) (Lk : Nat), lk.toInt = (Lk : Int) → Lk ≤ nl → CI fv nl z9 sk → CX fv nl n9 z9 sj Lk sk → WpN (gp g0 wp) CLS p l e R s m args below meth c Q D_193.2.2.1 kc0 ks0 12 [some (.ref 125), some (.int zi), some (.int sk), some (.int rj), some (.int lk), none] (hs, kc, ks) [] := by
      intro hRj sk lk Lk hLk hLn hCk hXk
      generalize hm2 : nl - Lk = m8
      induction m8 using Nat.strongRecOn generalizing sk lk Lk with
      | _ m8 ih2 =>
      subst hm2
      have w9 := hR9 Lk
      refine g_loadI act (gx gp_193 (w := 0x4000e02) rfl (by decide) rfl) (a := 4) (n := 14) rfl rfl rfl ?_
      refine g_loadA act (gx gp_193 (w := 0xf03) rfl (by decide) rfl) (a := 0) (n := 15) rfl rfl rfl ?_
      refine g_constI act (gx gp_193 (w := 0x40000001400000011000000001001) rfl (by decide) rfl) (n := 16) (x := (2 : Int32)) (by decide) rfl ?_
      obtain ⟨x_1, e_2, hx_3⟩ := hF 2 (by omega)
      refine r_iald act (gx gp_193 (w := 0x111a) rfl (by decide) rfl) (n := 17) (j := 2) rfl (rw0.2 (1, 125, 32, 46) (by decide)).2 (show (2 : Int32).toInt = ((2 : Nat) : Int) from by decide) (show 2 < 46 by omega) (v := .int x_1) e_2 ?_
      refine g_icmpGe act (gx gp_193 (w := 0x44001408) rfl (by decide) rfl) (tgt := 68) (n := 20) rfl rfl (fun h4 => ?_) (fun h4 => ?_)
      · simp only [i_le] at h4
        refine g_iinc act (gx gp_193 (w := 0x80000001000003004709) rfl (by decide) rfl) (a := 3) (i := (1 : Int32)) (n := 71) rfl (by decide) rfl rfl (L2 := [some (.ref 125), some (.int zi), some (.int sk), some (.int (rj + (1 : Int32))), some (.int lk), none]) rfl ?_
        have v_4 := iv_addN hR (show (1 : Int32).toInt = ((1 : Nat) : Int) from by decide) (show (Rj + 1) < 2147483648 by omega)
        refine g_goto act (gx gp_193 (w := 0x407) rfl (by decide) rfl) (n := 4) rfl ?_
        exact n_forget (d := D_193) (L2 := [some (.ref 125), some (.int zi), some (.int sk), some (.int (rj + (1 : Int32))), none, none]) (fun i v hi => by
          match i, hi with
          | 0, hi => exact hi
          | 1, hi => exact hi
          | 2, hi => exact hi
          | 3, hi => exact hi
          | 4, hi => cases hi
          | 5, hi => cases hi
          | i + 6, hi => cases hi) (ih _ (by omega) _ _ _ v_4 (by omega) hCk (CX.fin hJ (by omega) hXk) rfl)
      · simp only [i_le] at h4
        refine g_constI act (gx gp_193 (w := 0x40000000c00000009000000001501) rfl (by decide) rfl) (n := 21) (x := (1 : Int32)) (by decide) rfl ?_
        refine g_loadA act (gx gp_193 (w := 0x1603) rfl (by decide) rfl) (a := 0) (n := 22) rfl rfl rfl ?_
        refine g_constI act (gx gp_193 (w := 0x40000002c00000029000000001701) rfl (by decide) rfl) (n := 23) (x := (5 : Int32)) (by decide) rfl ?_
        refine g_loadI act (gx gp_193 (w := 0x4001902) rfl (by decide) rfl) (a := 4) (n := 25) rfl rfl rfl ?_
        refine g_iadd act (gx gp_193 (w := 0x1a0a) rfl (by decide) rfl) (n := 26) rfl ?_
        have v_5 := iv_addN (show (5 : Int32).toInt = ((5 : Nat) : Int) from by decide) hLk (show (5 + Lk) < 2147483648 by omega)
        obtain ⟨x_6, e_7, hx_8⟩ := hF (5 + Lk) (by omega)
        refine r_iald act (gx gp_193 (w := 0x1b1a) rfl (by decide) rfl) (n := 27) (j := (5 + Lk)) rfl (rw0.2 (1, 125, 32, 46) (by decide)).2 v_5 (show (5 + Lk) < 46 by omega) (v := .int x_6) e_7 ?_
        refine g_ishl act (gx gp_193 (w := 0x1c3b) rfl (by decide) rfl) (n := 28) rfl ?_
        refine g_constI act (gx gp_193 (w := 0x40000000c00000009000000001d01) rfl (by decide) rfl) (n := 29) (x := (1 : Int32)) (by decide) rfl ?_
        refine g_loadA act (gx gp_193 (w := 0x1e03) rfl (by decide) rfl) (a := 0) (n := 30) rfl rfl rfl ?_
        refine g_constI act (gx gp_193 (w := 0x40000005c00000059000000002001) rfl (by decide) rfl) (n := 32) (x := (11 : Int32)) (by decide) rfl ?_
        refine g_loadI act (gx gp_193 (w := 0x4002202) rfl (by decide) rfl) (a := 4) (n := 34) rfl rfl rfl ?_
        refine g_iadd act (gx gp_193 (w := 0x230a) rfl (by decide) rfl) (n := 35) rfl ?_
        have v_9 := iv_addN (show (11 : Int32).toInt = ((11 : Nat) : Int) from by decide) hLk (show (11 + Lk) < 2147483648 by omega)
        obtain ⟨x_10, e_11, hx_12⟩ := hF (11 + Lk) (by omega)
        refine r_iald act (gx gp_193 (w := 0x241a) rfl (by decide) rfl) (n := 36) (j := (11 + Lk)) rfl (rw0.2 (1, 125, 32, 46) (by decide)).2 v_9 (show (11 + Lk) < 46 by omega) (v := .int x_10) e_11 ?_
        refine g_ishl act (gx gp_193 (w := 0x253b) rfl (by decide) rfl) (n := 37) rfl ?_
        refine g_ior act (gx gp_193 (w := 0x264b) rfl (by decide) rfl) (n := 38) rfl ?_
        refine g_storeI act (gx gp_193 (w := 0x5002810) rfl (by decide) rfl) (a := 5) (n := 40) rfl rfl (L2 := [some (.ref 125), some (.int zi), some (.int sk), some (.int rj), some (.int lk), some (.int (((1 : Int32) <<< (x_6 &&& 31)) ||| ((1 : Int32) <<< (x_10 &&& 31))))]) rfl ?_
        refine g_loadI act (gx gp_193 (w := 0x2002902) rfl (by decide) rfl) (a := 2) (n := 41) rfl rfl rfl ?_
        refine g_loadI act (gx gp_193 (w := 0x4002b02) rfl (by decide) rfl) (a := 4) (n := 43) rfl rfl rfl ?_
        refine g_loadI act (gx gp_193 (w := 0x1002c02) rfl (by decide) rfl) (a := 1) (n := 44) rfl rfl rfl ?_
        refine g_icmpEq act (gx gp_193 (w := 0x3b002f2e) rfl (by decide) rfl) (tgt := 59) (n := 47) rfl rfl (fun h19 => ?_) (fun h19 => ?_)
        · simp only [i_eq] at h19
          refine g_constI act (gx gp_193 (w := 0x40000000400000001000000003c01) rfl (by decide) rfl) (n := 60) (x := (0 : Int32)) (by decide) rfl ?_
          refine g_ior act (gx gp_193 (w := 0x3d4b) rfl (by decide) rfl) (n := 61) rfl ?_
          refine g_storeI act (gx gp_193 (w := 0x2003e10) rfl (by decide) rfl) (a := 2) (n := 62) rfl rfl (L2 := [some (.ref 125), some (.int zi), some (.int (sk ||| (0 : Int32))), some (.int rj), some (.int lk), some (.int (((1 : Int32) <<< (x_6 &&& 31)) ||| ((1 : Int32) <<< (x_10 &&& 31))))]) rfl ?_
          refine g_iinc act (gx gp_193 (w := 0x80000001000004004109) rfl (by decide) rfl) (a := 4) (i := (1 : Int32)) (n := 65) rfl (by decide) rfl rfl (L2 := [some (.ref 125), some (.int zi), some (.int (sk ||| (0 : Int32))), some (.int rj), some (.int (lk + (1 : Int32))), some (.int (((1 : Int32) <<< (x_6 &&& 31)) ||| ((1 : Int32) <<< (x_10 &&& 31))))]) rfl ?_
          have v_13 := iv_addN hLk (show (1 : Int32).toInt = ((1 : Nat) : Int) from by decide) (show (Lk + 1) < 2147483648 by omega)
          refine g_goto act (gx gp_193 (w := 0xc07) rfl (by decide) rfl) (n := 12) rfl ?_
          have hX9 := (show CX fv nl n9 z9 sj (Lk + 1) (sk ||| (0 : Int32)) from by
            first
            | exact hXk.or0z (by omega)
            | exact hXk.or0 hn3 hx_8 hx_12 (by omega) (by omega) (by omega) (by omega) (by assumption))
          exact n_forget (d := D_193) (L2 := [some (.ref 125), some (.int zi), some (.int (sk ||| (0 : Int32))), some (.int rj), some (.int (lk + (1 : Int32))), none]) (fun i v hi => by
            match i, hi with
            | 0, hi => exact hi
            | 1, hi => exact hi
            | 2, hi => exact hi
            | 3, hi => exact hi
            | 4, hi => exact hi
            | 5, hi => cases hi
            | i + 6, hi => cases hi) (ih2 _ (by omega) _ _ _ v_13 (by omega) hCk.or0 hX9 rfl)
        · simp only [i_eq] at h19
          refine g_loadI act (gx gp_193 (w := 0x2003002) rfl (by decide) rfl) (a := 2) (n := 48) rfl rfl rfl ?_
          refine g_loadI act (gx gp_193 (w := 0x5003202) rfl (by decide) rfl) (a := 5) (n := 50) rfl rfl rfl ?_
          refine g_iand act (gx gp_193 (w := 0x3333) rfl (by decide) rfl) (n := 51) rfl ?_
          refine g_ifEq act (gx gp_193 (w := 0x3b00360e) rfl (by decide) rfl) (tgt := 59) (n := 54) rfl rfl (fun h27 => ?_) (fun h27 => ?_)
          · simp only [i_eq, show (1 : Int32).toInt = 1 from by decide, i0] at h27
            refine g_constI act (gx gp_193 (w := 0x40000000400000001000000003c01) rfl (by decide) rfl) (n := 60) (x := (0 : Int32)) (by decide) rfl ?_
            refine g_ior act (gx gp_193 (w := 0x3d4b) rfl (by decide) rfl) (n := 61) rfl ?_
            refine g_storeI act (gx gp_193 (w := 0x2003e10) rfl (by decide) rfl) (a := 2) (n := 62) rfl rfl (L2 := [some (.ref 125), some (.int zi), some (.int (sk ||| (0 : Int32))), some (.int rj), some (.int lk), some (.int (((1 : Int32) <<< (x_6 &&& 31)) ||| ((1 : Int32) <<< (x_10 &&& 31))))]) rfl ?_
            refine g_iinc act (gx gp_193 (w := 0x80000001000004004109) rfl (by decide) rfl) (a := 4) (i := (1 : Int32)) (n := 65) rfl (by decide) rfl rfl (L2 := [some (.ref 125), some (.int zi), some (.int (sk ||| (0 : Int32))), some (.int rj), some (.int (lk + (1 : Int32))), some (.int (((1 : Int32) <<< (x_6 &&& 31)) ||| ((1 : Int32) <<< (x_10 &&& 31))))]) rfl ?_
            have v_14 := iv_addN hLk (show (1 : Int32).toInt = ((1 : Nat) : Int) from by decide) (show (Lk + 1) < 2147483648 by omega)
            refine g_goto act (gx gp_193 (w := 0xc07) rfl (by decide) rfl) (n := 12) rfl ?_
            have hX9 := (show CX fv nl n9 z9 sj (Lk + 1) (sk ||| (0 : Int32)) from by
              first
              | exact hXk.or0z (by omega)
              | exact hXk.or0 hn3 hx_8 hx_12 (by omega) (by omega) (by omega) (by omega) (by assumption))
            exact n_forget (d := D_193) (L2 := [some (.ref 125), some (.int zi), some (.int (sk ||| (0 : Int32))), some (.int rj), some (.int (lk + (1 : Int32))), none]) (fun i v hi => by
              match i, hi with
              | 0, hi => exact hi
              | 1, hi => exact hi
              | 2, hi => exact hi
              | 3, hi => exact hi
              | 4, hi => exact hi
              | 5, hi => cases hi
              | i + 6, hi => cases hi) (ih2 _ (by omega) _ _ _ v_14 (by omega) hCk.or0 hX9 rfl)
          · simp only [i_eq, show (1 : Int32).toInt = 1 from by decide, i0] at h27
            refine g_loadI act (gx gp_193 (w := 0x5003802) rfl (by decide) rfl) (a := 5) (n := 56) rfl rfl rfl ?_
            refine g_goto act (gx gp_193 (w := 0x3c07) rfl (by decide) rfl) (n := 60) rfl ?_
            refine g_ior act (gx gp_193 (w := 0x3d4b) rfl (by decide) rfl) (n := 61) rfl ?_
            refine g_storeI act (gx gp_193 (w := 0x2003e10) rfl (by decide) rfl) (a := 2) (n := 62) rfl rfl (L2 := [some (.ref 125), some (.int zi), some (.int (sk ||| (((1 : Int32) <<< (x_6 &&& 31)) ||| ((1 : Int32) <<< (x_10 &&& 31))))), some (.int rj), some (.int lk), some (.int (((1 : Int32) <<< (x_6 &&& 31)) ||| ((1 : Int32) <<< (x_10 &&& 31))))]) rfl ?_
            refine g_iinc act (gx gp_193 (w := 0x80000001000004004109) rfl (by decide) rfl) (a := 4) (i := (1 : Int32)) (n := 65) rfl (by decide) rfl rfl (L2 := [some (.ref 125), some (.int zi), some (.int (sk ||| (((1 : Int32) <<< (x_6 &&& 31)) ||| ((1 : Int32) <<< (x_10 &&& 31))))), some (.int rj), some (.int (lk + (1 : Int32))), some (.int (((1 : Int32) <<< (x_6 &&& 31)) ||| ((1 : Int32) <<< (x_10 &&& 31))))]) rfl ?_
            have v_15 := iv_addN hLk (show (1 : Int32).toInt = ((1 : Nat) : Int) from by decide) (show (Lk + 1) < 2147483648 by omega)
            refine g_goto act (gx gp_193 (w := 0xc07) rfl (by decide) rfl) (n := 12) rfl ?_
            have hX9 := (hXk.step hn1 hn3 hx_8 hx_12 (by omega) (by omega) (by omega) (by omega) (by omega) (by omega) (by assumption))
            exact n_forget (d := D_193) (L2 := [some (.ref 125), some (.int zi), some (.int (sk ||| (((1 : Int32) <<< (x_6 &&& 31)) ||| ((1 : Int32) <<< (x_10 &&& 31))))), some (.int rj), some (.int (lk + (1 : Int32))), none]) (fun i v hi => by
              match i, hi with
              | 0, hi => exact hi
              | 1, hi => exact hi
              | 2, hi => exact hi
              | 3, hi => exact hi
              | 4, hi => exact hi
              | 5, hi => cases hi
              | i + 6, hi => cases hi) (ih2 _ (by omega) _ _ _ v_15 (by omega) (hCk.step hx_8 hx_12 (by omega) (by omega) (by omega) (by omega) (by omega) (by omega) (by assumption)) hX9 rfl)
    refine g_loadI act (gx gp_193 (w := 0x3000502) rfl (by decide) rfl) (a := 3) (n := 5) rfl rfl rfl ?_
    refine g_constI act (gx gp_193 (w := 0x40000002400000021000000000601) rfl (by decide) rfl) (n := 6) (x := (4 : Int32)) (by decide) rfl ?_
    refine g_icmpGe act (gx gp_193 (w := 0x4a000908) rfl (by decide) rfl) (tgt := 74) (n := 9) rfl rfl (fun h3 => ?_) (fun h3 => ?_)
    · simp only [i_le, show (4 : Int32).toInt = 4 from by decide] at h3
      refine g_loadI act (gx gp_193 (w := 0x2004b02) rfl (by decide) rfl) (a := 2) (n := 75) rfl rfl rfl ?_
      refine g_constI act (gx gp_193 (w := 0x40000000c00000009000000004c01) rfl (by decide) rfl) (n := 76) (x := (1 : Int32)) (by decide) rfl ?_
      refine g_loadA act (gx gp_193 (w := 0x4d03) rfl (by decide) rfl) (a := 0) (n := 77) rfl rfl rfl ?_
      refine g_constI act (gx gp_193 (w := 0x40000000400000001000000004e01) rfl (by decide) rfl) (n := 78) (x := (0 : Int32)) (by decide) rfl ?_
      obtain ⟨x_16, e_17, hx_18⟩ := hF 0 (by omega)
      refine r_iald act (gx gp_193 (w := 0x4f1a) rfl (by decide) rfl) (n := 79) (j := 0) rfl (rw0.2 (1, 125, 32, 46) (by decide)).2 (show (0 : Int32).toInt = ((0 : Nat) : Int) from by decide) (show 0 < 46 by omega) (v := .int x_16) e_17 ?_
      refine g_ishl act (gx gp_193 (w := 0x503b) rfl (by decide) rfl) (n := 80) rfl ?_
      refine g_constI act (gx gp_193 (w := 0x40000000c00000009000000005101) rfl (by decide) rfl) (n := 81) (x := (1 : Int32)) (by decide) rfl ?_
      refine g_isub act (gx gp_193 (w := 0x5226) rfl (by decide) rfl) (n := 82) rfl ?_
      refine g_icmpNe act (gx gp_193 (w := 0x59005521) rfl (by decide) rfl) (tgt := 89) (n := 85) rfl rfl (fun h10 => ?_) (fun h10 => ?_)
      · simp only [i_eq, show (1 : Int32).toInt = 1 from by decide] at h10
        refine g_constI act (gx gp_193 (w := 0x40000000400000001000000005a01) rfl (by decide) rfl) (n := 90) (x := (0 : Int32)) (by decide) rfl ?_
        exact g_retZ hEnd (gx gp_193 (w := 0x23) rfl (by decide) rfl) (Or.inl rfl) ⟨rfl, rfl, _, rfl, Or.inl ⟨by decide, CJ.res (by rw [show 4 = Rj from by omega]; exact hJ) hn1 hn3 hx_18 hn0 (by omega)⟩⟩ hk1 hk2
      · simp only [i_eq, show (1 : Int32).toInt = 1 from by decide] at h10
        refine g_constI act (gx gp_193 (w := 0x40000000c00000009000000005601) rfl (by decide) rfl) (n := 86) (x := (1 : Int32)) (by decide) rfl ?_
        refine g_goto act (gx gp_193 (w := 0x5a07) rfl (by decide) rfl) (n := 90) rfl ?_
        exact g_retZ hEnd (gx gp_193 (w := 0x23) rfl (by decide) rfl) (Or.inr rfl) ⟨rfl, rfl, _, rfl, Or.inr ⟨by decide, hC.cut hx_18 hn0 hn1 hn3 (by omega)⟩⟩ hk1 hk2
    · simp only [i_le, show (4 : Int32).toInt = 4 from by decide] at h3
      refine g_constI act (gx gp_193 (w := 0x40000000400000001000000000a01) rfl (by decide) rfl) (n := 10) (x := (0 : Int32)) (by decide) rfl ?_
      refine g_storeI act (gx gp_193 (w := 0x4000c10) rfl (by decide) rfl) (a := 4) (n := 12) rfl rfl (L2 := [some (.ref 125), some (.int zi), some (.int sj), some (.int rj), some (.int (0 : Int32)), none]) rfl ?_
      exact n_forget (d := D_193) (L2 := [some (.ref 125), some (.int zi), some (.int sj), some (.int rj), some (.int (0 : Int32)), none]) (fun i v hi => by
        match i, hi with
        | 0, hi => exact hi
        | 1, hi => exact hi
        | 2, hi => exact hi
        | 3, hi => exact hi
        | 4, hi => exact hi
        | 5, hi => cases hi
        | i + 6, hi => cases hi) (inner (by omega) _ _ 0 (show (0 : Int32).toInt = ((0 : Nat) : Int) from by decide) (Nat.zero_le _) hC hJ.start)
  show WpN (gp g0 wp) CLS p l e R s m args below meth c Q D_193.2.2.1 kc0 ks0 0 [some (.ref 125), some (.int zi), none, none, none, none] (hs, kc, ks) []
  refine g_constI act (gx gp_193 (w := 0x40000000c00000009000000000101) rfl (by decide) rfl) (n := 1) (x := (1 : Int32)) (by decide) rfl ?_
  refine g_storeI act (gx gp_193 (w := 0x2000210) rfl (by decide) rfl) (a := 2) (n := 2) rfl rfl (L2 := [some (.ref 125), some (.int zi), some (.int (1 : Int32)), none, none, none]) rfl ?_
  refine g_constI act (gx gp_193 (w := 0x40000000400000001000000000301) rfl (by decide) rfl) (n := 3) (x := (0 : Int32)) (by decide) rfl ?_
  refine g_storeI act (gx gp_193 (w := 0x3000410) rfl (by decide) rfl) (a := 3) (n := 4) rfl rfl (L2 := [some (.ref 125), some (.int zi), some (.int (1 : Int32)), some (.int (0 : Int32)), none, none]) rfl ?_
  exact outer _ _ 0 (show (0 : Int32).toInt = ((0 : Nat) : Int) from by decide) (by decide) (CI.one _ _ _) (CJ.one _ _ _ _)

theorem bx_con126 {zi : Int32} {z9 : Int} (rw0 : RW hs) (hF : IArr hs 126 46 fv) (hzi : zi.toInt = z9) (hnl : fv 2 = (nl : Int)) (h6 : nl ≤ 6) (hn0 : fv 0 = (n9 : Int) + 1) (hn1 : 1 ≤ n9) (hn3 : n9 ≤ 3) (hR9 : ∀ l, l < nl → 0 ≤ fv (5 + l) ∧ fv (5 + l) ≤ (n9 : Int) ∧ 0 ≤ fv (11 + l) ∧ fv (11 + l) ≤ (n9 : Int)) : BodyN SSX TBL g0 CLS bl xs l D_193 0 0 0 0 [.ref 126, .int zi] hs (fun kd r h2 => kd = 0 ∧ hs = h2 ∧ ∃ x : Int32, r = some (.int x) ∧ ((x.toInt = 0 ∧ ¬ CutOK fv nl z9 n9) ∨ (x.toInt = 1 ∧ CutOK fv nl z9 n9))) := by
  intro wp p e R s m args below meth c Q kc0 ks0 kc ks act hf hl hc hsl hEnd
  have hf : 0 ≤ R.frames := hf
  have hl : 0 ≤ R.locals := hl
  have hk1 : kc ≤ kc + 0 := by omega
  have hk2 : ks ≤ ks + 0 := by omega
  have outer : ∀ (sj rj : Int32) (Rj : Nat), rj.toInt = (Rj : Int) → Rj ≤ 4 → CI fv nl z9 sj → CJ fv nl n9 z9 Rj sj → WpN (gp g0 wp) CLS p l e R s m args below meth c Q D_193.2.2.1 kc0 ks0 4 [some (.ref 126), some (.int zi), some (.int sj), some (.int rj), none, none] (hs, kc, ks) [] := by
    intro sj rj Rj hR h4 hC hJ
    generalize hm : 4 - Rj = m9
    induction m9 using Nat.strongRecOn generalizing sj rj Rj with
    | _ m9 ih =>
    subst hm
    have inner : Rj < 4 → ∀ (sk lk : Int32) (Lk : Nat), lk.toInt = (Lk : Int) → Lk ≤ nl → CI fv nl z9 sk → CX fv nl n9 z9 sj Lk sk → WpN (gp g0 wp) CLS p l e R s m args below meth c Q D_193.2.2.1 kc0 ks0 12 [some (.ref 126), some (.int zi), some (.int sk), some (.int rj), some (.int lk), none] (hs, kc, ks) [] := by
      intro hRj sk lk Lk hLk hLn hCk hXk
      generalize hm2 : nl - Lk = m8
      induction m8 using Nat.strongRecOn generalizing sk lk Lk with
      | _ m8 ih2 =>
      subst hm2
      have w9 := hR9 Lk
      refine g_loadI act (gx gp_193 (w := 0x4000e02) rfl (by decide) rfl) (a := 4) (n := 14) rfl rfl rfl ?_
      refine g_loadA act (gx gp_193 (w := 0xf03) rfl (by decide) rfl) (a := 0) (n := 15) rfl rfl rfl ?_
      refine g_constI act (gx gp_193 (w := 0x40000001400000011000000001001) rfl (by decide) rfl) (n := 16) (x := (2 : Int32)) (by decide) rfl ?_
      obtain ⟨x_1, e_2, hx_3⟩ := hF 2 (by omega)
      refine r_iald act (gx gp_193 (w := 0x111a) rfl (by decide) rfl) (n := 17) (j := 2) rfl (rw0.2 (2, 126, 32, 46) (by decide)).2 (show (2 : Int32).toInt = ((2 : Nat) : Int) from by decide) (show 2 < 46 by omega) (v := .int x_1) e_2 ?_
      refine g_icmpGe act (gx gp_193 (w := 0x44001408) rfl (by decide) rfl) (tgt := 68) (n := 20) rfl rfl (fun h4 => ?_) (fun h4 => ?_)
      · simp only [i_le] at h4
        refine g_iinc act (gx gp_193 (w := 0x80000001000003004709) rfl (by decide) rfl) (a := 3) (i := (1 : Int32)) (n := 71) rfl (by decide) rfl rfl (L2 := [some (.ref 126), some (.int zi), some (.int sk), some (.int (rj + (1 : Int32))), some (.int lk), none]) rfl ?_
        have v_4 := iv_addN hR (show (1 : Int32).toInt = ((1 : Nat) : Int) from by decide) (show (Rj + 1) < 2147483648 by omega)
        refine g_goto act (gx gp_193 (w := 0x407) rfl (by decide) rfl) (n := 4) rfl ?_
        exact n_forget (d := D_193) (L2 := [some (.ref 126), some (.int zi), some (.int sk), some (.int (rj + (1 : Int32))), none, none]) (fun i v hi => by
          match i, hi with
          | 0, hi => exact hi
          | 1, hi => exact hi
          | 2, hi => exact hi
          | 3, hi => exact hi
          | 4, hi => cases hi
          | 5, hi => cases hi
          | i + 6, hi => cases hi) (ih _ (by omega) _ _ _ v_4 (by omega) hCk (CX.fin hJ (by omega) hXk) rfl)
      · simp only [i_le] at h4
        refine g_constI act (gx gp_193 (w := 0x40000000c00000009000000001501) rfl (by decide) rfl) (n := 21) (x := (1 : Int32)) (by decide) rfl ?_
        refine g_loadA act (gx gp_193 (w := 0x1603) rfl (by decide) rfl) (a := 0) (n := 22) rfl rfl rfl ?_
        refine g_constI act (gx gp_193 (w := 0x40000002c00000029000000001701) rfl (by decide) rfl) (n := 23) (x := (5 : Int32)) (by decide) rfl ?_
        refine g_loadI act (gx gp_193 (w := 0x4001902) rfl (by decide) rfl) (a := 4) (n := 25) rfl rfl rfl ?_
        refine g_iadd act (gx gp_193 (w := 0x1a0a) rfl (by decide) rfl) (n := 26) rfl ?_
        have v_5 := iv_addN (show (5 : Int32).toInt = ((5 : Nat) : Int) from by decide) hLk (show (5 + Lk) < 2147483648 by omega)
        obtain ⟨x_6, e_7, hx_8⟩ := hF (5 + Lk) (by omega)
        refine r_iald act (gx gp_193 (w := 0x1b1a) rfl (by decide) rfl) (n := 27) (j := (5 + Lk)) rfl (rw0.2 (2, 126, 32, 46) (by decide)).2 v_5 (show (5 + Lk) < 46 by omega) (v := .int x_6) e_7 ?_
        refine g_ishl act (gx gp_193 (w := 0x1c3b) rfl (by decide) rfl) (n := 28) rfl ?_
        refine g_constI act (gx gp_193 (w := 0x40000000c00000009000000001d01) rfl (by decide) rfl) (n := 29) (x := (1 : Int32)) (by decide) rfl ?_
        refine g_loadA act (gx gp_193 (w := 0x1e03) rfl (by decide) rfl) (a := 0) (n := 30) rfl rfl rfl ?_
        refine g_constI act (gx gp_193 (w := 0x40000005c00000059000000002001) rfl (by decide) rfl) (n := 32) (x := (11 : Int32)) (by decide) rfl ?_
        refine g_loadI act (gx gp_193 (w := 0x4002202) rfl (by decide) rfl) (a := 4) (n := 34) rfl rfl rfl ?_
        refine g_iadd act (gx gp_193 (w := 0x230a) rfl (by decide) rfl) (n := 35) rfl ?_
        have v_9 := iv_addN (show (11 : Int32).toInt = ((11 : Nat) : Int) from by decide) hLk (show (11 + Lk) < 2147483648 by omega)
        obtain ⟨x_10, e_11, hx_12⟩ := hF (11 + Lk) (by omega)
        refine r_iald act (gx gp_193 (w := 0x241a) rfl (by decide) rfl) (n := 36) (j := (11 + Lk)) rfl (rw0.2 (2, 126, 32, 46) (by decide)).2 v_9 (show (11 + Lk) < 46 by omega) (v := .int x_10) e_11 ?_
        refine g_ishl act (gx gp_193 (w := 0x253b) rfl (by decide) rfl) (n := 37) rfl ?_
        refine g_ior act (gx gp_193 (w := 0x264b) rfl (by decide) rfl) (n := 38) rfl ?_
        refine g_storeI act (gx gp_193 (w := 0x5002810) rfl (by decide) rfl) (a := 5) (n := 40) rfl rfl (L2 := [some (.ref 126), some (.int zi), some (.int sk), some (.int rj), some (.int lk), some (.int (((1 : Int32) <<< (x_6 &&& 31)) ||| ((1 : Int32) <<< (x_10 &&& 31))))]) rfl ?_
        refine g_loadI act (gx gp_193 (w := 0x2002902) rfl (by decide) rfl) (a := 2) (n := 41) rfl rfl rfl ?_
        refine g_loadI act (gx gp_193 (w := 0x4002b02) rfl (by decide) rfl) (a := 4) (n := 43) rfl rfl rfl ?_
        refine g_loadI act (gx gp_193 (w := 0x1002c02) rfl (by decide) rfl) (a := 1) (n := 44) rfl rfl rfl ?_
        refine g_icmpEq act (gx gp_193 (w := 0x3b002f2e) rfl (by decide) rfl) (tgt := 59) (n := 47) rfl rfl (fun h19 => ?_) (fun h19 => ?_)
        · simp only [i_eq] at h19
          refine g_constI act (gx gp_193 (w := 0x40000000400000001000000003c01) rfl (by decide) rfl) (n := 60) (x := (0 : Int32)) (by decide) rfl ?_
          refine g_ior act (gx gp_193 (w := 0x3d4b) rfl (by decide) rfl) (n := 61) rfl ?_
          refine g_storeI act (gx gp_193 (w := 0x2003e10) rfl (by decide) rfl) (a := 2) (n := 62) rfl rfl (L2 := [some (.ref 126), some (.int zi), some (.int (sk ||| (0 : Int32))), some (.int rj), some (.int lk), some (.int (((1 : Int32) <<< (x_6 &&& 31)) ||| ((1 : Int32) <<< (x_10 &&& 31))))]) rfl ?_
          refine g_iinc act (gx gp_193 (w := 0x80000001000004004109) rfl (by decide) rfl) (a := 4) (i := (1 : Int32)) (n := 65) rfl (by decide) rfl rfl (L2 := [some (.ref 126), some (.int zi), some (.int (sk ||| (0 : Int32))), some (.int rj), some (.int (lk + (1 : Int32))), some (.int (((1 : Int32) <<< (x_6 &&& 31)) ||| ((1 : Int32) <<< (x_10 &&& 31))))]) rfl ?_
          have v_13 := iv_addN hLk (show (1 : Int32).toInt = ((1 : Nat) : Int) from by decide) (show (Lk + 1) < 2147483648 by omega)
          refine g_goto act (gx gp_193 (w := 0xc07) rfl (by decide) rfl) (n := 12) rfl ?_
          have hX9 := (show CX fv nl n9 z9 sj (Lk + 1) (sk ||| (0 : Int32)) from by
            first
            | exact hXk.or0z (by omega)
            | exact hXk.or0 hn3 hx_8 hx_12 (by omega) (by omega) (by omega) (by omega) (by assumption))
          exact n_forget (d := D_193) (L2 := [some (.ref 126), some (.int zi), some (.int (sk ||| (0 : Int32))), some (.int rj), some (.int (lk + (1 : Int32))), none]) (fun i v hi => by
            match i, hi with
            | 0, hi => exact hi
            | 1, hi => exact hi
            | 2, hi => exact hi
            | 3, hi => exact hi
            | 4, hi => exact hi
            | 5, hi => cases hi
            | i + 6, hi => cases hi) (ih2 _ (by omega) _ _ _ v_13 (by omega) hCk.or0 hX9 rfl)
        · simp only [i_eq] at h19
          refine g_loadI act (gx gp_193 (w := 0x2003002) rfl (by decide) rfl) (a := 2) (n := 48) rfl rfl rfl ?_
          refine g_loadI act (gx gp_193 (w := 0x5003202) rfl (by decide) rfl) (a := 5) (n := 50) rfl rfl rfl ?_
          refine g_iand act (gx gp_193 (w := 0x3333) rfl (by decide) rfl) (n := 51) rfl ?_
          refine g_ifEq act (gx gp_193 (w := 0x3b00360e) rfl (by decide) rfl) (tgt := 59) (n := 54) rfl rfl (fun h27 => ?_) (fun h27 => ?_)
          · simp only [i_eq, show (1 : Int32).toInt = 1 from by decide, i0] at h27
            refine g_constI act (gx gp_193 (w := 0x40000000400000001000000003c01) rfl (by decide) rfl) (n := 60) (x := (0 : Int32)) (by decide) rfl ?_
            refine g_ior act (gx gp_193 (w := 0x3d4b) rfl (by decide) rfl) (n := 61) rfl ?_
            refine g_storeI act (gx gp_193 (w := 0x2003e10) rfl (by decide) rfl) (a := 2) (n := 62) rfl rfl (L2 := [some (.ref 126), some (.int zi), some (.int (sk ||| (0 : Int32))), some (.int rj), some (.int lk), some (.int (((1 : Int32) <<< (x_6 &&& 31)) ||| ((1 : Int32) <<< (x_10 &&& 31))))]) rfl ?_
            refine g_iinc act (gx gp_193 (w := 0x80000001000004004109) rfl (by decide) rfl) (a := 4) (i := (1 : Int32)) (n := 65) rfl (by decide) rfl rfl (L2 := [some (.ref 126), some (.int zi), some (.int (sk ||| (0 : Int32))), some (.int rj), some (.int (lk + (1 : Int32))), some (.int (((1 : Int32) <<< (x_6 &&& 31)) ||| ((1 : Int32) <<< (x_10 &&& 31))))]) rfl ?_
            have v_14 := iv_addN hLk (show (1 : Int32).toInt = ((1 : Nat) : Int) from by decide) (show (Lk + 1) < 2147483648 by omega)
            refine g_goto act (gx gp_193 (w := 0xc07) rfl (by decide) rfl) (n := 12) rfl ?_
            have hX9 := (show CX fv nl n9 z9 sj (Lk + 1) (sk ||| (0 : Int32)) from by
              first
              | exact hXk.or0z (by omega)
              | exact hXk.or0 hn3 hx_8 hx_12 (by omega) (by omega) (by omega) (by omega) (by assumption))
            exact n_forget (d := D_193) (L2 := [some (.ref 126), some (.int zi), some (.int (sk ||| (0 : Int32))), some (.int rj), some (.int (lk + (1 : Int32))), none]) (fun i v hi => by
              match i, hi with
              | 0, hi => exact hi
              | 1, hi => exact hi
              | 2, hi => exact hi
              | 3, hi => exact hi
              | 4, hi => exact hi
              | 5, hi => cases hi
              | i + 6, hi => cases hi) (ih2 _ (by omega) _ _ _ v_14 (by omega) hCk.or0 hX9 rfl)
          · simp only [i_eq, show (1 : Int32).toInt = 1 from by decide, i0] at h27
            refine g_loadI act (gx gp_193 (w := 0x5003802) rfl (by decide) rfl) (a := 5) (n := 56) rfl rfl rfl ?_
            refine g_goto act (gx gp_193 (w := 0x3c07) rfl (by decide) rfl) (n := 60) rfl ?_
            refine g_ior act (gx gp_193 (w := 0x3d4b) rfl (by decide) rfl) (n := 61) rfl ?_
            refine g_storeI act (gx gp_193 (w := 0x2003e10) rfl (by decide) rfl) (a := 2) (n := 62) rfl rfl (L2 := [some (.ref 126), some (.int zi), some (.int (sk ||| (((1 : Int32) <<< (x_6 &&& 31)) ||| ((1 : Int32) <<< (x_10 &&& 31))))), some (.int rj), some (.int lk), some (.int (((1 : Int32) <<< (x_6 &&& 31)) ||| ((1 : Int32) <<< (x_10 &&& 31))))]) rfl ?_
            refine g_iinc act (gx gp_193 (w := 0x80000001000004004109) rfl (by decide) rfl) (a := 4) (i := (1 : Int32)) (n := 65) rfl (by decide) rfl rfl (L2 := [some (.ref 126), some (.int zi), some (.int (sk ||| (((1 : Int32) <<< (x_6 &&& 31)) ||| ((1 : Int32) <<< (x_10 &&& 31))))), some (.int rj), some (.int (lk + (1 : Int32))), some (.int (((1 : Int32) <<< (x_6 &&& 31)) ||| ((1 : Int32) <<< (x_10 &&& 31))))]) rfl ?_
            have v_15 := iv_addN hLk (show (1 : Int32).toInt = ((1 : Nat) : Int) from by decide) (show (Lk + 1) < 2147483648 by omega)
            refine g_goto act (gx gp_193 (w := 0xc07) rfl (by decide) rfl) (n := 12) rfl ?_
            have hX9 := (hXk.step hn1 hn3 hx_8 hx_12 (by omega) (by omega) (by omega) (by omega) (by omega) (by omega) (by assumption))
            exact n_forget (d := D_193) (L2 := [some (.ref 126), some (.int zi), some (.int (sk ||| (((1 : Int32) <<< (x_6 &&& 31)) ||| ((1 : Int32) <<< (x_10 &&& 31))))), some (.int rj), some (.int (lk + (1 : Int32))), none]) (fun i v hi => by
              match i, hi with
              | 0, hi => exact hi
              | 1, hi => exact hi
              | 2, hi => exact hi
              | 3, hi => exact hi
              | 4, hi => exact hi
              | 5, hi => cases hi
              | i + 6, hi => cases hi) (ih2 _ (by omega) _ _ _ v_15 (by omega) (hCk.step hx_8 hx_12 (by omega) (by omega) (by omega) (by omega) (by omega) (by omega) (by assumption)) hX9 rfl)
    refine g_loadI act (gx gp_193 (w := 0x3000502) rfl (by decide) rfl) (a := 3) (n := 5) rfl rfl rfl ?_
    refine g_constI act (gx gp_193 (w := 0x40000002400000021000000000601) rfl (by decide) rfl) (n := 6) (x := (4 : Int32)) (by decide) rfl ?_
    refine g_icmpGe act (gx gp_193 (w := 0x4a000908) rfl (by decide) rfl) (tgt := 74) (n := 9) rfl rfl (fun h3 => ?_) (fun h3 => ?_)
    · simp only [i_le, show (4 : Int32).toInt = 4 from by decide] at h3
      refine g_loadI act (gx gp_193 (w := 0x2004b02) rfl (by decide) rfl) (a := 2) (n := 75) rfl rfl rfl ?_
      refine g_constI act (gx gp_193 (w := 0x40000000c00000009000000004c01) rfl (by decide) rfl) (n := 76) (x := (1 : Int32)) (by decide) rfl ?_
      refine g_loadA act (gx gp_193 (w := 0x4d03) rfl (by decide) rfl) (a := 0) (n := 77) rfl rfl rfl ?_
      refine g_constI act (gx gp_193 (w := 0x40000000400000001000000004e01) rfl (by decide) rfl) (n := 78) (x := (0 : Int32)) (by decide) rfl ?_
      obtain ⟨x_16, e_17, hx_18⟩ := hF 0 (by omega)
      refine r_iald act (gx gp_193 (w := 0x4f1a) rfl (by decide) rfl) (n := 79) (j := 0) rfl (rw0.2 (2, 126, 32, 46) (by decide)).2 (show (0 : Int32).toInt = ((0 : Nat) : Int) from by decide) (show 0 < 46 by omega) (v := .int x_16) e_17 ?_
      refine g_ishl act (gx gp_193 (w := 0x503b) rfl (by decide) rfl) (n := 80) rfl ?_
      refine g_constI act (gx gp_193 (w := 0x40000000c00000009000000005101) rfl (by decide) rfl) (n := 81) (x := (1 : Int32)) (by decide) rfl ?_
      refine g_isub act (gx gp_193 (w := 0x5226) rfl (by decide) rfl) (n := 82) rfl ?_
      refine g_icmpNe act (gx gp_193 (w := 0x59005521) rfl (by decide) rfl) (tgt := 89) (n := 85) rfl rfl (fun h10 => ?_) (fun h10 => ?_)
      · simp only [i_eq, show (1 : Int32).toInt = 1 from by decide] at h10
        refine g_constI act (gx gp_193 (w := 0x40000000400000001000000005a01) rfl (by decide) rfl) (n := 90) (x := (0 : Int32)) (by decide) rfl ?_
        exact g_retZ hEnd (gx gp_193 (w := 0x23) rfl (by decide) rfl) (Or.inl rfl) ⟨rfl, rfl, _, rfl, Or.inl ⟨by decide, CJ.res (by rw [show 4 = Rj from by omega]; exact hJ) hn1 hn3 hx_18 hn0 (by omega)⟩⟩ hk1 hk2
      · simp only [i_eq, show (1 : Int32).toInt = 1 from by decide] at h10
        refine g_constI act (gx gp_193 (w := 0x40000000c00000009000000005601) rfl (by decide) rfl) (n := 86) (x := (1 : Int32)) (by decide) rfl ?_
        refine g_goto act (gx gp_193 (w := 0x5a07) rfl (by decide) rfl) (n := 90) rfl ?_
        exact g_retZ hEnd (gx gp_193 (w := 0x23) rfl (by decide) rfl) (Or.inr rfl) ⟨rfl, rfl, _, rfl, Or.inr ⟨by decide, hC.cut hx_18 hn0 hn1 hn3 (by omega)⟩⟩ hk1 hk2
    · simp only [i_le, show (4 : Int32).toInt = 4 from by decide] at h3
      refine g_constI act (gx gp_193 (w := 0x40000000400000001000000000a01) rfl (by decide) rfl) (n := 10) (x := (0 : Int32)) (by decide) rfl ?_
      refine g_storeI act (gx gp_193 (w := 0x4000c10) rfl (by decide) rfl) (a := 4) (n := 12) rfl rfl (L2 := [some (.ref 126), some (.int zi), some (.int sj), some (.int rj), some (.int (0 : Int32)), none]) rfl ?_
      exact n_forget (d := D_193) (L2 := [some (.ref 126), some (.int zi), some (.int sj), some (.int rj), some (.int (0 : Int32)), none]) (fun i v hi => by
        match i, hi with
        | 0, hi => exact hi
        | 1, hi => exact hi
        | 2, hi => exact hi
        | 3, hi => exact hi
        | 4, hi => exact hi
        | 5, hi => cases hi
        | i + 6, hi => cases hi) (inner (by omega) _ _ 0 (show (0 : Int32).toInt = ((0 : Nat) : Int) from by decide) (Nat.zero_le _) hC hJ.start)
  show WpN (gp g0 wp) CLS p l e R s m args below meth c Q D_193.2.2.1 kc0 ks0 0 [some (.ref 126), some (.int zi), none, none, none, none] (hs, kc, ks) []
  refine g_constI act (gx gp_193 (w := 0x40000000c00000009000000000101) rfl (by decide) rfl) (n := 1) (x := (1 : Int32)) (by decide) rfl ?_
  refine g_storeI act (gx gp_193 (w := 0x2000210) rfl (by decide) rfl) (a := 2) (n := 2) rfl rfl (L2 := [some (.ref 126), some (.int zi), some (.int (1 : Int32)), none, none, none]) rfl ?_
  refine g_constI act (gx gp_193 (w := 0x40000000400000001000000000301) rfl (by decide) rfl) (n := 3) (x := (0 : Int32)) (by decide) rfl ?_
  refine g_storeI act (gx gp_193 (w := 0x3000410) rfl (by decide) rfl) (a := 3) (n := 4) rfl rfl (L2 := [some (.ref 126), some (.int zi), some (.int (1 : Int32)), some (.int (0 : Int32)), none, none]) rfl ?_
  exact outer _ _ 0 (show (0 : Int32).toInt = ((0 : Nat) : Int) from by decide) (by decide) (CI.one _ _ _) (CJ.one _ _ _ _)

end CONX

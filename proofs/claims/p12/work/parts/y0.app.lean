/-! append, exactly: the bytes that it writes. -/
theorem and255 (x : Int32) : (x &&& (255 : Int32)).toInt = x.toInt % 256 := by
  have h1 : (x &&& (255 : Int32)).toBitVec.toNat = x.toBitVec.toNat % 256 := by
    rw [Int32.toBitVec_and, BitVec.toNat_and]
    exact Nat.and_two_pow_sub_one_eq_mod x.toBitVec.toNat 8
  have h2 : (x &&& (255 : Int32)).toInt = (x &&& (255 : Int32)).toBitVec.toInt := rfl
  have h3 : x.toInt = x.toBitVec.toInt := rfl
  have h4 := x.toBitVec.isLt
  rw [h2, h3, BitVec.toInt_eq_toNat_cond, BitVec.toInt_eq_toNat_cond, h1]
  split <;> split <;> omega
/-- byte i of v, without a sign -/
def byt (v : Int32) (i : Nat) : Int := ((v >>> (Int32.ofInt (24 - 8 * (i : Int)) &&& 31)) &&& (255 : Int32)).toInt
theorem byt_ok (x : Int32) : -128 ≤ (vp_nar .byte (x.toInt8.toInt32)).toInt ∧ (vp_nar .byte (x.toInt8.toInt32)).toInt ≤ 127 ∧ ((0 ≤ (vp_nar .byte (x.toInt8.toInt32)).toInt ∧ (x &&& (255 : Int32)).toInt = (vp_nar .byte (x.toInt8.toInt32)).toInt) ∨ ((vp_nar .byte (x.toInt8.toInt32)).toInt < 0 ∧ (x &&& (255 : Int32)).toInt = (vp_nar .byte (x.toInt8.toInt32)).toInt + 256)) := by
  have e1 : (vp_nar .byte (x.toInt8.toInt32)).toInt = (x.toInt8.toInt32).toInt8.toInt := by rw [vp_nar_byte]; exact Int8.toInt_toInt32 _
  have e2 : (x.toInt8.toInt32).toInt8.toInt = (x.toInt8.toInt32).toInt.bmod (2 ^ 8) := Int32.toInt_toInt8 _
  have e3 : (x.toInt8.toInt32).toInt = x.toInt8.toInt := Int8.toInt_toInt32 _
  have e4 : x.toInt8.toInt = x.toInt.bmod (2 ^ 8) := Int32.toInt_toInt8 x
  have b : ∀ y : Int, y.bmod (2 ^ 8) = (if y % 256 < 128 then y % 256 else y % 256 - 256) := fun y => rfl
  rw [e1, e2, e3, e4, and255, b (x.toInt.bmod (2 ^ 8)), b x.toInt]
  have h0 := Int.emod_nonneg x.toInt (show (256 : Int) ≠ 0 by decide)
  have h1 := Int.emod_lt_of_pos x.toInt (show (0 : Int) < 256 by decide)
  by_cases q : x.toInt % 256 < 128
  · rw [if_pos q, if_pos (by omega)]
    omega
  · rw [if_neg q, if_neg (by omega)]
    omega
theorem kj_eq : ∀ (i : Nat), i < 4 → ∀ k : Int32, k.toInt = 24 - 8 * (i : Int) → k = Int32.ofInt (24 - 8 * (i : Int)) := by
  intro i hi k h
  refine Int32.toInt_inj.mp (h.trans ?_)
  rcases (show i = 0 ∨ i = 1 ∨ i = 2 ∨ i = 3 by omega) with rfl | rfl | rfl | rfl <;> decide
/-- the text after i bytes of v from L on -/
def wB (tx : Nat → Int) (L : Nat) (v : Int32) : Nat → (Nat → Int)
  | 0 => tx
  | i + 1 => upI (wB tx L v i) (L + i) (byt v i)
def wA (tx : Nat → Int) (L : Nat) (a b c d e : Int32) : Nat → Int := wB (wB (wB (wB (wB tx L a 4) (L + 4) b 4) (L + 8) c 4) (L + 12) d 4) (L + 16) e 4
theorem TXB.put {hs : List CE} {tx : Nat → Int} {j : Nat} {x : Int32} {b : Int} (h : TXB hs tx) (s55 : shp hs 55 = some (34, 700)) (h1 : -128 ≤ x.toInt) (h2 : x.toInt ≤ 127) (h3 : (0 ≤ x.toInt ∧ b = x.toInt) ∨ (x.toInt < 0 ∧ b = x.toInt + 256)) : TXB (wr hs 55 j (.int x)) (upI tx j b) := fun i hi => by
  unfold upI
  by_cases z : i = j
  · rw [if_pos z, z]
    exact ⟨x, rd_same s55, h1, h2, h3⟩
  · rw [if_neg z]
    obtain ⟨y, e, q⟩ := h i hi
    exact ⟨y, (rd_ne _ _ (Or.inr z)).trans e, q⟩
theorem nL1 {L i : Nat} {x : Int} (h : x = ((L + i : Nat) : Int) + 1) : x = ((L + (i + 1) : Nat) : Int) := by omega
theorem kK1 {i : Nat} {x : Int} (h : x = 24 - 8 * (i : Int) + -8) : x = 24 - 8 * ((i + 1 : Nat) : Int) := by omega
/-- what append writes of the reader -/
def WT5 (k j : Nat) : Prop := k = 55 ∨ (k = 54 ∧ j = 0)

section CRDB
variable {g0 : GG} {bl : Nat} {xs : Nat → Int32} {l : Launch} {hs : List CE} {tx : Nat → Int} {L : Nat}

def R54 (hs : List CE) : Prop := shp hs 54 = some (5, 11) ∧ shp hs 55 = some (34, 700) ∧ rd hs 54 3 = .ref 55

theorem cx_bytes {vi L9 : Int32} (rw0 : R54 hs) (hT : TXB hs tx) (e0 : rd hs 54 0 = .int L9) (hL : L9.toInt = (L : Int)) (hL4 : L + 4 ≤ 700) : BodyN SSX TBL g0 CLS bl xs l D_118 0 0 0 0 [.ref 54, .int vi] hs (fun kd r h2 => kd = 0 ∧ r = none ∧ TXB h2 (wB tx L vi 4) ∧ (∃ x : Int32, rd h2 54 0 = .int x ∧ x.toInt = ((L + 4 : Nat) : Int)) ∧ FrS WT5 hs h2) := by
  intro wp p e R sW m args below meth cW Q kc0 ks0 kc ks act hf hl hc hsl hEnd
  have hf : 0 ≤ R.frames := hf
  have hl : 0 ≤ R.locals := hl
  have hk1 : kc ≤ kc + 0 := by omega
  have hk2 : ks ≤ ks + 0 := by omega
  have loop : ∀ (hj : List CE) (tj : Nat → Int) (Lj kj : Int32) (i9 : Nat), R54 hj → TXB hj tj → tj = wB tx L vi i9 → rd hj 54 0 = .int Lj → Lj.toInt = ((L + i9 : Nat) : Int) → kj.toInt = 24 - 8 * (i9 : Int) → i9 ≤ 4 → FrS WT5 hs hj → WpN (gp g0 wp) CLS p l e R sW m args below meth cW Q D_118.2.2.1 kc0 ks0 3 [some (.ref 54), some (.int vi), some (.int kj)] (hj, kc, ks) [] := by
    intro hj tj Lj kj i9 rwj hTj htj e0j hLj hKj hi4 hfr
    generalize hm : 4 - i9 = m9
    induction m9 using Nat.strongRecOn generalizing hj tj Lj kj i9 with
    | _ m9 ih =>
    subst hm
    refine g_loadI act (gx gp_118 (w := 0x2000402) rfl (by decide) rfl) (a := 2) (n := 4) rfl rfl rfl ?_
    refine g_ifLt act (gx gp_118 (w := 0x2e00072a) rfl (by decide) rfl) (tgt := 46) (n := 7) rfl rfl (fun h2 => ?_) (fun h2 => ?_)
    · simp only [i_lt, i0] at h2
      exact g_retV hEnd (gx gp_118 (w := 0x18) rfl (by decide) rfl) ⟨rfl, rfl, by rw [← (show i9 = 4 by omega)]; exact htj ▸ hTj, ⟨_, e0j, by omega⟩, hfr⟩ hk1 hk2
    · simp only [i_lt, i0] at h2
      refine g_loadA act (gx gp_118 (w := 0x803) rfl (by decide) rfl) (a := 0) (n := 8) rfl rfl rfl ?_
      refine r_getf act (gx gp_118 (w := 0x5000b04) rfl (by decide) rfl) (n := 11) (ci := 5) (j := 0) (N := 11) rfl rfl rfl rwj.1 (by decide) (v := .int Lj) e0j ?_
      refine g_constI act (gx gp_118 (w := 0x4000015e4000015e1000000000e01) rfl (by decide) rfl) (n := 14) (x := (700 : Int32)) (by decide) rfl ?_
      refine g_icmpGe act (gx gp_118 (w := 0x28001108) rfl (by decide) rfl) (tgt := 40) (n := 17) rfl rfl (fun h5 => ?_) (fun h5 => ?_)
      · simp only [i_le, show (700 : Int32).toInt = 700 from by decide] at h5
        exfalso; omega
      · simp only [i_le, show (700 : Int32).toInt = 700 from by decide] at h5
        refine g_loadA act (gx gp_118 (w := 0x1203) rfl (by decide) rfl) (a := 0) (n := 18) rfl rfl rfl ?_
        refine r_getf act (gx gp_118 (w := 0x30000c5001504) rfl (by decide) rfl) (n := 21) (ci := 5) (j := 3) (N := 11) rfl rfl rfl rwj.1 (by decide) (v := .ref 55) rwj.2.2 ?_
        refine g_loadA act (gx gp_118 (w := 0x1603) rfl (by decide) rfl) (a := 0) (n := 22) rfl rfl rfl ?_
        refine r_getf act (gx gp_118 (w := 0x5001904) rfl (by decide) rfl) (n := 25) (ci := 5) (j := 0) (N := 11) rfl rfl rfl rwj.1 (by decide) (v := .int Lj) e0j ?_
        refine g_loadI act (gx gp_118 (w := 0x1001a02) rfl (by decide) rfl) (a := 1) (n := 26) rfl rfl rfl ?_
        refine g_loadI act (gx gp_118 (w := 0x2001b02) rfl (by decide) rfl) (a := 2) (n := 27) rfl rfl rfl ?_
        refine g_ishr act (gx gp_118 (w := 0x1c34) rfl (by decide) rfl) (n := 28) rfl ?_
        refine g_i2b act (gx gp_118 (w := 0x1d3a) rfl (by decide) rfl) (n := 29) rfl ?_
        refine r_bast act (gx gp_118 (w := 0x1e39) rfl (by decide) rfl) (n := 30) (N := 700) (j := L + i9) rfl rwj.2.1 (by omega) (by omega) ?_
        obtain ⟨y1, y2, y3⟩ := byt_ok (vi >>> (kj &&& 31))
        have hT2 := hTj.put (j := L + i9) rwj.2.1 y1 y2 y3
        have rw2 : R54 (wr hj 55 (L + i9) (.int (vp_nar .byte ((vi >>> (kj &&& 31)).toInt8.toInt32)))) := ⟨(shp_wr _ _ _ _ _).trans rwj.1, (shp_wr _ _ _ _ _).trans rwj.2.1, (rd_ne _ _ (Or.inl (by decide))).trans rwj.2.2⟩
        have e2 := (rd_ne hj (k := 55) (j := L + i9) (.int (vp_nar .byte ((vi >>> (kj &&& 31)).toInt8.toInt32))) (k2 := 54) (j2 := 0) (Or.inl (by decide))).trans e0j
        have fr2 := hfr.wr (k := 55) (j := L + i9) (.int (vp_nar .byte ((vi >>> (kj &&& 31)).toInt8.toInt32))) (Or.inl rfl)
        generalize (wr hj 55 (L + i9) (.int (vp_nar .byte ((vi >>> (kj &&& 31)).toInt8.toInt32)))) = hk at *
        refine g_loadA act (gx gp_118 (w := 0x1f03) rfl (by decide) rfl) (a := 0) (n := 31) rfl rfl rfl ?_
        refine g_dup act (gx gp_118 (w := 0x2022) rfl (by decide) rfl) (n := 32) rfl rfl ?_
        refine r_getf act (gx gp_118 (w := 0x5002304) rfl (by decide) rfl) (n := 35) (ci := 5) (j := 0) (N := 11) rfl rfl rfl rw2.1 (by decide) (v := .int Lj) e2 ?_
        refine g_constI act (gx gp_118 (w := 0x40000000c00000009000000002401) rfl (by decide) rfl) (n := 36) (x := (1 : Int32)) (by decide) rfl ?_
        refine g_iadd act (gx gp_118 (w := 0x250a) rfl (by decide) rfl) (n := 37) rfl ?_
        have vL := iv_add hLj (show (1 : Int32).toInt = (1 : Int) from by decide) (by omega) (by omega)
        refine r_putf act (gx gp_118 (w := 0x5002813) rfl (by decide) rfl) (n := 40) (ci := 5) (j := 0) (N := 11) rfl rfl rfl rw2.1 (by decide) (Or.inl ⟨rfl, _, rfl⟩) ?_
        have hT3 := hT2.ne (k := 54) (j := 0) (v := .int (Lj + (1 : Int32))) (by decide)
        have rw3 : R54 (wr hk 54 0 (.int (Lj + (1 : Int32)))) := ⟨(shp_wr _ _ _ _ _).trans rw2.1, (shp_wr _ _ _ _ _).trans rw2.2.1, (rd_ne _ _ (Or.inr (by decide))).trans rw2.2.2⟩
        have e3 := rd_same (j := 0) (v := .int (Lj + (1 : Int32))) rw2.1
        have fr3 := fr2.wr (k := 54) (j := 0) (.int (Lj + (1 : Int32))) (Or.inr ⟨rfl, rfl⟩)
        generalize (wr hk 54 0 (.int (Lj + (1 : Int32)))) = hm at *
        refine g_iinc act (gx gp_118 (w := 0x7ffffff8000002002b09) rfl (by decide) rfl) (a := 2) (i := (-8 : Int32)) (n := 43) rfl (by decide) rfl rfl (L2 := [some (.ref 54), some (.int vi), some (.int (kj + (-8 : Int32)))]) rfl ?_
        have vk := iv_add hKj (show (-8 : Int32).toInt = (-8 : Int) from by decide) (by omega) (by omega)
        refine g_goto act (gx gp_118 (w := 0x307) rfl (by decide) rfl) (n := 3) rfl ?_
        clear y1 y2 y3
        have hkj := kj_eq i9 (by omega) kj hKj
        exact ih _ (by omega) _ _ _ _ (i9 + 1) rw3 hT3 (by rw [htj]; show upI _ (L + i9) _ = upI _ (L + i9) _; unfold byt; rw [← hkj]) e3 (nL1 vL) (kK1 vk) (by omega) fr3 rfl
  show WpN (gp g0 wp) CLS p l e R sW m args below meth cW Q D_118.2.2.1 kc0 ks0 0 [some (.ref 54), some (.int vi), none] (hs, kc, ks) []
  refine g_constI act (gx gp_118 (w := 0x4000000c4000000c1000000000201) rfl (by decide) rfl) (n := 2) (x := (24 : Int32)) (by decide) rfl ?_
  refine g_storeI act (gx gp_118 (w := 0x2000310) rfl (by decide) rfl) (a := 2) (n := 3) rfl rfl (L2 := [some (.ref 54), some (.int vi), some (.int (24 : Int32))]) rfl ?_
  exact loop hs tx L9 _ 0 rw0 hT rfl e0 (by omega) (by decide) (by decide) (FrS.rf _ hs)

end CRDB

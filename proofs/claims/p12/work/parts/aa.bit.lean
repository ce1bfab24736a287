/-! The class's bitsOf. -/
theorem bitC_loop {g0 : GG} {bl : Nat} {xs : Nat → Int32} {l : Launch} {wp : va_W} {p : Program} {e : Env} {R : Room} {s : State} {m : MethodId} {args : Array Value} {below : List Frame} {meth : Method} {c : Code} {Q : State → Prop} {kc0 ks0 kc ks f lam KC KS : Nat} {hs : List CE} {v : UInt32} (act : Act SSX TBL (gp g0 wp) CLS bl xs D_5 p l s m args meth c) (hEnd : EndN SSX TBL (gp g0 wp) CLS D_5 p l e R s m args below meth c Q kc0 ks0 f lam KC KS (fun kd r h2 => kd = 0 ∧ hs = h2 ∧ ∃ x : Int32, r = some (.int x))) (hk1 : kc ≤ KC) (hk2 : ks ≤ KS) : ∀ (n : Nat) (x : UInt32) (k i : Int32), FP.Core.val32 x ≠ .nan → 0 ≤ i.toInt → i.toInt + (n : Int) = 126 → WpN (gp g0 wp) CLS p l e R s m args below meth c Q D_5.2.2.1 kc0 ks0 15 [some (.float v), some (.int k), some (.float x), some (.int i)] (hs, kc, ks) [] := by
  intro n
  induction n with
  | zero =>
    intro x k i hx hi0 hi
    refine g_loadI act (gx gp_5 (w := 0x3001002) rfl (by decide) rfl) (a := 3) (n := 16) rfl rfl rfl ?_
    refine g_constI act (gx gp_5 (w := 0x4000003f4000003f1000000001201) rfl (by decide) rfl) (n := 18) (x := (126 : Int32)) (by decide) rfl ?_
    refine g_icmpGe act (gx gp_5 (w := 0x28001508) rfl (by decide) rfl) (tgt := 40) (n := 21) rfl rfl (fun h3 => ?_) (fun h3 => ?_)
    · simp only [i_le, show (126 : Int32).toInt = 126 from by decide] at h3
      refine g_loadI act (gx gp_5 (w := 0x1002902) rfl (by decide) rfl) (a := 1) (n := 41) rfl rfl rfl ?_
      refine g_constI act (gx gp_5 (w := 0x4000000bc000000b9000000002b01) rfl (by decide) rfl) (n := 43) (x := (23 : Int32)) (by decide) rfl ?_
      refine g_ishl act (gx gp_5 (w := 0x2c3b) rfl (by decide) rfl) (n := 44) rfl ?_
      refine g_loadF act (gx gp_5 (w := 0x2002d44) rfl (by decide) rfl) (a := 2) (n := 45) rfl rfl rfl ?_
      refine g_fcon1 act (gx gp_5 (w := 0x1000000002e51) rfl (by decide) rfl) (n := 46) (by decide) rfl ?_
      have z1 := sub1_nn hx
      refine g_fsub act (gx gp_5 (w := 0x2f54) rfl (by decide) rfl) (n := 47) (nn_of z1) rfl ?_
      refine g_fconK act (gx gp_5 (w := 0x258000003000000003251) rfl (by decide) rfl) (n := 50) (x := 1258291200) (by decide) rfl ?_
      have z2 := mulK_nn z1 v_K (by decide)
      refine g_fmul act (gx gp_5 (w := 0x3353) rfl (by decide) rfl) (n := 51) (nn_of z2) rfl ?_
      refine g_f2i act (gx gp_5 (w := 0x3455) rfl (by decide) rfl) (n := 52) rfl ?_
      refine g_iadd act (gx gp_5 (w := 0x350a) rfl (by decide) rfl) (n := 53) rfl ?_
      exact g_retI hEnd (gx gp_5 (w := 0x2f) rfl (by decide) rfl) ⟨rfl, rfl, _, rfl⟩ hk1 hk2
    · simp only [i_le, show (126 : Int32).toInt = 126 from by decide] at h3
      refine g_loadF act (gx gp_5 (w := 0x2001644) rfl (by decide) rfl) (a := 2) (n := 22) rfl rfl rfl ?_
      refine g_fcon1 act (gx gp_5 (w := 0x1000000001751) rfl (by decide) rfl) (n := 23) (by decide) rfl ?_
      refine g_fcmpg act (gx gp_5 (w := 0x1852) rfl (by decide) rfl) (n := 24) rfl ?_
      refine g_ifGe act (gx gp_5 (w := 0x28001b14) rfl (by decide) rfl) (tgt := 40) (n := 27) rfl rfl (fun h9 => ?_) (fun h9 => ?_)
      · simp only [i_le, i0] at h9
        refine g_loadI act (gx gp_5 (w := 0x1002902) rfl (by decide) rfl) (a := 1) (n := 41) rfl rfl rfl ?_
        refine g_constI act (gx gp_5 (w := 0x4000000bc000000b9000000002b01) rfl (by decide) rfl) (n := 43) (x := (23 : Int32)) (by decide) rfl ?_
        refine g_ishl act (gx gp_5 (w := 0x2c3b) rfl (by decide) rfl) (n := 44) rfl ?_
        refine g_loadF act (gx gp_5 (w := 0x2002d44) rfl (by decide) rfl) (a := 2) (n := 45) rfl rfl rfl ?_
        refine g_fcon1 act (gx gp_5 (w := 0x1000000002e51) rfl (by decide) rfl) (n := 46) (by decide) rfl ?_
        have z1 := sub1_nn hx
        refine g_fsub act (gx gp_5 (w := 0x2f54) rfl (by decide) rfl) (n := 47) (nn_of z1) rfl ?_
        refine g_fconK act (gx gp_5 (w := 0x258000003000000003251) rfl (by decide) rfl) (n := 50) (x := 1258291200) (by decide) rfl ?_
        have z2 := mulK_nn z1 v_K (by decide)
        refine g_fmul act (gx gp_5 (w := 0x3353) rfl (by decide) rfl) (n := 51) (nn_of z2) rfl ?_
        refine g_f2i act (gx gp_5 (w := 0x3455) rfl (by decide) rfl) (n := 52) rfl ?_
        refine g_iadd act (gx gp_5 (w := 0x350a) rfl (by decide) rfl) (n := 53) rfl ?_
        exact g_retI hEnd (gx gp_5 (w := 0x2f) rfl (by decide) rfl) ⟨rfl, rfl, _, rfl⟩ hk1 hk2
      · simp only [i_le, i0] at h9
        refine g_loadF act (gx gp_5 (w := 0x2001c44) rfl (by decide) rfl) (a := 2) (n := 28) rfl rfl rfl ?_
        refine g_fcon2 act (gx gp_5 (w := 0x2000000001d51) rfl (by decide) rfl) (n := 29) (by decide) rfl ?_
        have hx2 := mulK_nn hx v_two (by decide)
        refine g_fmul act (gx gp_5 (w := 0x1e53) rfl (by decide) rfl) (n := 30) (nn_of hx2) rfl ?_
        refine g_storeF act (gx gp_5 (w := 0x2001f50) rfl (by decide) rfl) (a := 2) (n := 31) rfl rfl (L2 := [some (.float v), some (.int k), some (.float (FP.fmul x FP.fconst2)), some (.int i)]) rfl ?_
        refine g_iinc act (gx gp_5 (w := 0x7fffffff000001002209) rfl (by decide) rfl) (a := 1) (i := (-1 : Int32)) (n := 34) rfl (by decide) rfl rfl (L2 := [some (.float v), some (.int (k + (-1 : Int32))), some (.float (FP.fmul x FP.fconst2)), some (.int i)]) rfl ?_
        refine g_iinc act (gx gp_5 (w := 0x80000001000003002509) rfl (by decide) rfl) (a := 3) (i := (1 : Int32)) (n := 37) rfl (by decide) rfl rfl (L2 := [some (.float v), some (.int (k + (-1 : Int32))), some (.float (FP.fmul x FP.fconst2)), some (.int (i + (1 : Int32)))]) rfl ?_
        refine g_goto act (gx gp_5 (w := 0xf07) rfl (by decide) rfl) (n := 15) rfl ?_
        exact absurd hi (by omega)
  | succ n ih =>
    intro x k i hx hi0 hi
    refine g_loadI act (gx gp_5 (w := 0x3001002) rfl (by decide) rfl) (a := 3) (n := 16) rfl rfl rfl ?_
    refine g_constI act (gx gp_5 (w := 0x4000003f4000003f1000000001201) rfl (by decide) rfl) (n := 18) (x := (126 : Int32)) (by decide) rfl ?_
    refine g_icmpGe act (gx gp_5 (w := 0x28001508) rfl (by decide) rfl) (tgt := 40) (n := 21) rfl rfl (fun h3 => ?_) (fun h3 => ?_)
    · simp only [i_le, show (126 : Int32).toInt = 126 from by decide] at h3
      refine g_loadI act (gx gp_5 (w := 0x1002902) rfl (by decide) rfl) (a := 1) (n := 41) rfl rfl rfl ?_
      refine g_constI act (gx gp_5 (w := 0x4000000bc000000b9000000002b01) rfl (by decide) rfl) (n := 43) (x := (23 : Int32)) (by decide) rfl ?_
      refine g_ishl act (gx gp_5 (w := 0x2c3b) rfl (by decide) rfl) (n := 44) rfl ?_
      refine g_loadF act (gx gp_5 (w := 0x2002d44) rfl (by decide) rfl) (a := 2) (n := 45) rfl rfl rfl ?_
      refine g_fcon1 act (gx gp_5 (w := 0x1000000002e51) rfl (by decide) rfl) (n := 46) (by decide) rfl ?_
      have z1 := sub1_nn hx
      refine g_fsub act (gx gp_5 (w := 0x2f54) rfl (by decide) rfl) (n := 47) (nn_of z1) rfl ?_
      refine g_fconK act (gx gp_5 (w := 0x258000003000000003251) rfl (by decide) rfl) (n := 50) (x := 1258291200) (by decide) rfl ?_
      have z2 := mulK_nn z1 v_K (by decide)
      refine g_fmul act (gx gp_5 (w := 0x3353) rfl (by decide) rfl) (n := 51) (nn_of z2) rfl ?_
      refine g_f2i act (gx gp_5 (w := 0x3455) rfl (by decide) rfl) (n := 52) rfl ?_
      refine g_iadd act (gx gp_5 (w := 0x350a) rfl (by decide) rfl) (n := 53) rfl ?_
      exact g_retI hEnd (gx gp_5 (w := 0x2f) rfl (by decide) rfl) ⟨rfl, rfl, _, rfl⟩ hk1 hk2
    · simp only [i_le, show (126 : Int32).toInt = 126 from by decide] at h3
      refine g_loadF act (gx gp_5 (w := 0x2001644) rfl (by decide) rfl) (a := 2) (n := 22) rfl rfl rfl ?_
      refine g_fcon1 act (gx gp_5 (w := 0x1000000001751) rfl (by decide) rfl) (n := 23) (by decide) rfl ?_
      refine g_fcmpg act (gx gp_5 (w := 0x1852) rfl (by decide) rfl) (n := 24) rfl ?_
      refine g_ifGe act (gx gp_5 (w := 0x28001b14) rfl (by decide) rfl) (tgt := 40) (n := 27) rfl rfl (fun h9 => ?_) (fun h9 => ?_)
      · simp only [i_le, i0] at h9
        refine g_loadI act (gx gp_5 (w := 0x1002902) rfl (by decide) rfl) (a := 1) (n := 41) rfl rfl rfl ?_
        refine g_constI act (gx gp_5 (w := 0x4000000bc000000b9000000002b01) rfl (by decide) rfl) (n := 43) (x := (23 : Int32)) (by decide) rfl ?_
        refine g_ishl act (gx gp_5 (w := 0x2c3b) rfl (by decide) rfl) (n := 44) rfl ?_
        refine g_loadF act (gx gp_5 (w := 0x2002d44) rfl (by decide) rfl) (a := 2) (n := 45) rfl rfl rfl ?_
        refine g_fcon1 act (gx gp_5 (w := 0x1000000002e51) rfl (by decide) rfl) (n := 46) (by decide) rfl ?_
        have z1 := sub1_nn hx
        refine g_fsub act (gx gp_5 (w := 0x2f54) rfl (by decide) rfl) (n := 47) (nn_of z1) rfl ?_
        refine g_fconK act (gx gp_5 (w := 0x258000003000000003251) rfl (by decide) rfl) (n := 50) (x := 1258291200) (by decide) rfl ?_
        have z2 := mulK_nn z1 v_K (by decide)
        refine g_fmul act (gx gp_5 (w := 0x3353) rfl (by decide) rfl) (n := 51) (nn_of z2) rfl ?_
        refine g_f2i act (gx gp_5 (w := 0x3455) rfl (by decide) rfl) (n := 52) rfl ?_
        refine g_iadd act (gx gp_5 (w := 0x350a) rfl (by decide) rfl) (n := 53) rfl ?_
        exact g_retI hEnd (gx gp_5 (w := 0x2f) rfl (by decide) rfl) ⟨rfl, rfl, _, rfl⟩ hk1 hk2
      · simp only [i_le, i0] at h9
        refine g_loadF act (gx gp_5 (w := 0x2001c44) rfl (by decide) rfl) (a := 2) (n := 28) rfl rfl rfl ?_
        refine g_fcon2 act (gx gp_5 (w := 0x2000000001d51) rfl (by decide) rfl) (n := 29) (by decide) rfl ?_
        have hx2 := mulK_nn hx v_two (by decide)
        refine g_fmul act (gx gp_5 (w := 0x1e53) rfl (by decide) rfl) (n := 30) (nn_of hx2) rfl ?_
        refine g_storeF act (gx gp_5 (w := 0x2001f50) rfl (by decide) rfl) (a := 2) (n := 31) rfl rfl (L2 := [some (.float v), some (.int k), some (.float (FP.fmul x FP.fconst2)), some (.int i)]) rfl ?_
        refine g_iinc act (gx gp_5 (w := 0x7fffffff000001002209) rfl (by decide) rfl) (a := 1) (i := (-1 : Int32)) (n := 34) rfl (by decide) rfl rfl (L2 := [some (.float v), some (.int (k + (-1 : Int32))), some (.float (FP.fmul x FP.fconst2)), some (.int i)]) rfl ?_
        refine g_iinc act (gx gp_5 (w := 0x80000001000003002509) rfl (by decide) rfl) (a := 3) (i := (1 : Int32)) (n := 37) rfl (by decide) rfl rfl (L2 := [some (.float v), some (.int (k + (-1 : Int32))), some (.float (FP.fmul x FP.fconst2)), some (.int (i + (1 : Int32)))]) rfl ?_
        refine g_goto act (gx gp_5 (w := 0xf07) rfl (by decide) rfl) (n := 15) rfl ?_
        have hi2 : (i + (1 : Int32)).toInt = i.toInt + 1 := i_add (by show _ ≤ _ + (1 : Int); omega) (by show _ + (1 : Int) < _; omega)
        exact ih _ _ _ hx2 (by omega) (by omega)

theorem b_bitC {g0 : GG} {bl : Nat} {xs : Nat → Int32} {l : Launch} {hs : List CE} {v : UInt32} (hv : FP.Core.val32 v ≠ .nan) : BodyN SSX TBL g0 CLS bl xs l D_5 0 0 0 0 [.float v] hs (fun kd r h2 => kd = 0 ∧ hs = h2 ∧ ∃ x : Int32, r = some (.int x)) := by
  intro wp p e R s m args below meth c Q kc0 ks0 kc ks act hf hl hc hsl hEnd
  show WpN (gp g0 wp) CLS p l e R s m args below meth c Q D_5.2.2.1 kc0 ks0 0 [some (.float v), none, none, none] (hs, kc, ks) []
  refine g_loadF act (gx gp_5 (w := 0x144) rfl (by decide) rfl) (a := 0) (n := 1) rfl rfl rfl ?_
  refine g_fcon0 act (gx gp_5 (w := 0x5000000000201) rfl (by decide) rfl) (n := 2) (by decide) rfl ?_
  refine g_fcmpl act (gx gp_5 (w := 0x345) rfl (by decide) rfl) (n := 3) rfl ?_
  refine g_ifGt act (gx gp_5 (w := 0x8000643) rfl (by decide) rfl) (tgt := 8) (n := 6) rfl rfl (fun h3 => ?_) (fun h3 => ?_)
  · simp only [i_lt, i0] at h3
    refine g_constI act (gx gp_5 (w := 0x4000003fc000003f9000000000a01) rfl (by decide) rfl) (n := 10) (x := (127 : Int32)) (by decide) rfl ?_
    refine g_storeI act (gx gp_5 (w := 0x1000b10) rfl (by decide) rfl) (a := 1) (n := 11) rfl rfl (L2 := [some (.float v), some (.int (127 : Int32)), none, none]) rfl ?_
    refine g_loadF act (gx gp_5 (w := 0xc44) rfl (by decide) rfl) (a := 0) (n := 12) rfl rfl rfl ?_
    refine g_storeF act (gx gp_5 (w := 0x2000d50) rfl (by decide) rfl) (a := 2) (n := 13) rfl rfl (L2 := [some (.float v), some (.int (127 : Int32)), some (.float v), none]) rfl ?_
    refine g_constI act (gx gp_5 (w := 0x40000000400000001000000000e01) rfl (by decide) rfl) (n := 14) (x := (0 : Int32)) (by decide) rfl ?_
    refine g_storeI act (gx gp_5 (w := 0x3000f10) rfl (by decide) rfl) (a := 3) (n := 15) rfl rfl (L2 := [some (.float v), some (.int (127 : Int32)), some (.float v), some (.int (0 : Int32))]) rfl ?_
    exact bitC_loop act hEnd (by omega) (by omega) 126 v 127 0 hv (by decide) (by decide)
  · simp only [i_lt, i0] at h3
    refine g_constI act (gx gp_5 (w := 0x40000000400000001000000000701) rfl (by decide) rfl) (n := 7) (x := (0 : Int32)) (by decide) rfl ?_
    exact g_retI hEnd (gx gp_5 (w := 0x2f) rfl (by decide) rfl) ⟨rfl, rfl, _, rfl⟩ (by show kc ≤ kc + 0; omega) (by show ks ≤ ks + 0; omega)

/-! The same tables but for the grid's place. -/
theorem rok_ne {r : Nat} (h : r ≠ 1) : roK KD r = roK KC r := by
  have e1 : KD.1 = KD.1.head! :: KD.1.tail := rfl
  have e2 : KC.1 = KC.1.head! :: KC.1.tail := rfl
  have e3 : KD.1.tail = KC.1.tail := rfl
  have n1 : Nat.beq KD.1.head!.1 r = false := by
    show Nat.beq 1 r = false
    cases hb : Nat.beq 1 r with
    | false => rfl
    | true => exact absurd (Nat.eq_of_beq_eq_true hb).symm h
  have n2 : Nat.beq KC.1.head!.1 r = false := by
    show Nat.beq 1 r = false
    cases hb : Nat.beq 1 r with
    | false => rfl
    | true => exact absurd (Nat.eq_of_beq_eq_true hb).symm h
  unfold roK
  rw [e1, e2, List.find?_cons_of_neg (by rw [n1]; decide), List.find?_cons_of_neg (by rw [n2]; decide), e3]

theorem kd_kd (r : Nat) : kdK KD r = kdK KC r := by
  by_cases h : r = 1
  · subst h; rfl
  · unfold kdK; rw [rok_ne h]
theorem kd_ln (r : Nat) : lnK KD r = lnK KC r := by
  by_cases h : r = 1
  · subst h; rfl
  · unfold lnK; rw [rok_ne h]
theorem kd_vt {R : List Nat} {r j : Nat} {v : Value} : VT KD R (ftK KD r j) v ↔ VT KC R (ftK KC r j) v := by
  by_cases h : r = 1
  · subst h
    match j with
    | 0 => exact Iff.rfl
    | 1 => exact Iff.rfl
    | 2 => exact Iff.rfl
    | 3 => exact Iff.rfl
    | 4 => exact Iff.rfl
    | 5 => exact Iff.rfl
    | 6 =>
      show VT KD R (7, 5, 0, 0) v ↔ VT KC R (3, 5, 0, 0) v
      constructor
      · rintro (h | ⟨h, -⟩ | ⟨h, -⟩ | ⟨h, -⟩ | ⟨h, -⟩ | ⟨h, -⟩ | ⟨-, h⟩)
        rotate_right
        · exact Or.inr (Or.inr (Or.inr (Or.inl ⟨rfl, h⟩)))
        all_goals exact absurd h (by decide)
      · rintro (h | ⟨h, -⟩ | ⟨h, -⟩ | ⟨-, h⟩ | ⟨h, -⟩ | ⟨h, -⟩ | ⟨h, -⟩)
        rotate_left 3
        · exact Or.inr (Or.inr (Or.inr (Or.inr (Or.inr (Or.inr ⟨rfl, h⟩)))))
        all_goals exact absurd h (by decide)
    | j + 7 => exact Iff.rfl
  · unfold ftK
    rw [rok_ne h]
    exact Iff.rfl
theorem kd_hty {R : List Nat} {hs : List CE} : HTy KD R hs ↔ HTy KC R hs := by
  constructor
  · rintro ⟨a, b, c⟩
    refine ⟨a, fun k r h1 h2 => ?_, fun q hq => ?_⟩
    · have := b k r h1 h2
      rw [kd_kd, kd_ln] at this
      exact ⟨this.1, fun j hj => kd_vt.mp (this.2 j hj)⟩
    · exact c q hq
  · rintro ⟨a, b, c⟩
    refine ⟨a, fun k r h1 h2 => ?_, fun q hq => ?_⟩
    · have := b k r h1 h2
      rw [kd_kd, kd_ln]
      exact ⟨this.1, fun j hj => kd_vt.mpr (this.2 j hj)⟩
    · exact c q hq
/-- the grid stays -/
def InvF (kp kg : Nat) (n9 : Int32) (R : List Nat) (hs : List CE) : Prop := InvC R hs ∧ R[kp]? = some 1 ∧ R[kg]? = some 5 ∧ rd hs kp 6 = .ref kg ∧ rd hs kg 2 = .int n9
theorem invC_KD : StI KD InvC := invC_st rfl rfl (by decide) (fun j hj => by
  match j, hj with
  | 0, _ => rfl
  | 1, _ => rfl
  | 2, _ => rfl
  | 3, _ => rfl
  | 4, _ => rfl
  | 5, _ => rfl
  | j + 6, hj => exact absurd hj (by omega)) rfl
theorem invF_KD (kp kg : Nat) (n9 : Int32) : StI KD (InvF kp kg n9) := by
  intro R hs R' hs' h hR h4 h5 hp
  obtain ⟨a, b, c, e1, e2⟩ := h
  refine ⟨invC_KD R hs R' hs' a hR h4 h5 hp, hR _ _ b (by decide), hR _ _ c (by decide), ?_, ?_⟩
  · rcases hp kp 1 6 b (by decide) (by decide) (by decide) with q | ⟨q, -⟩
    · rw [q]; exact e1
    · exact absurd q (by decide)
  · rcases hp kg 5 2 c (by decide) (by decide) (by decide) with q | ⟨q, -⟩
    · rw [q]; exact e2
    · exact absurd q (by decide)
theorem handsB_KD {Inv : List Nat → List CE → Prop} (hI : StI KD Inv) : HandsB KD Inv := ⟨hI, sk_104 hI, sk_84 hI, sk_85 hI, sj_0 hI, sj_1 hI, sj_2 hI, sj_3 hI, sj_5 hI⟩

theorem handsB_KC {Inv : List Nat → List CE → Prop} (hI : StI KC Inv) : HandsB KC Inv := ⟨hI, sh_104 hI, sh_84 hI, sh_85 hI, si_0 hI, si_1 hI, si_2 hI, si_3 hI, si_5 hI⟩


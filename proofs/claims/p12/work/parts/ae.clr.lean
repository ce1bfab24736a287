/-! The Laplacian is cleared and filled; compute. -/
def LapP (hs : List CE) (kl : Nat) (i j : Int) : Prop := ∀ a : Nat, a < 3 → ∀ r : Nat, rd hs kl a = .ref r → ∀ c : Nat, c < 3 → ((a : Int) < i ∨ ((a : Int) = i ∧ (c : Int) < j)) → ∀ x : Int64, rd hs r c = .long x → x.toInt.natAbs ≤ 1
theorem lapP_wr {hs : List CE} {R0 : List Nat} {kl r i j : Nat} {v : Int64} (hT : HTy KC R0 hs) (rkl : R0[kl]? = some 34) (hr : R0[r]? = some 31) (e : rd hs kl i = .ref r) (hv : v.toInt.natAbs ≤ 1) (h : LapP hs kl i j) : LapP (wr hs r j (.long v)) kl i ((j : Int) + 1) := by
  intro a ha r' hr' c hc hac x hx
  have hkl : kl ≠ r := role_ne rkl hr (by decide)
  rw [rd_ne _ _ (Or.inl hkl)] at hr'
  rw [rd_if (ty_shp hT hr (by decide) (a := 33) (b := 3) rfl rfl)] at hx
  split at hx
  · cases hx
    exact hv
  · rename_i hne
    by_cases z : a = i ∧ c = j
    · obtain ⟨rfl, rfl⟩ := z
      rw [e] at hr'
      cases hr'
      exact absurd ⟨rfl, rfl⟩ hne
    · exact h a ha r' hr' c hc (by omega) x hx
theorem lapP_next {hs : List CE} {kl : Nat} {i : Int} (h : LapP hs kl i 3) : LapP hs kl (i + 1) 0 := fun a ha r hr c hc hac x hx => h a ha r hr c hc (by omega) x hx
theorem lapP_end {hs : List CE} {kl : Nat} (h : LapP hs kl 3 0) : LapB hs kl 1 := fun a ha r hr c hc x hx => h a ha r hr c hc (by omega) x hx
def BIG : Nat := 9223372036854775808

theorem b_add {g0 : GG} {bl : Nat} {xs : Nat → Int32} {l : Launch} {hs : List CE} {Inv : List Nat → List CE → Prop} (hI : StI KC Inv) {R0 : List Nat} {hs0 : List CE} {kf kl : Nat} {B : Nat} {a b : Int32} (hB : B ≤ 1000) (a0 : -1 ≤ a.toInt) (a3 : a.toInt < 3) (b0 : -1 ≤ b.toInt) (b3 : b.toInt < 3) (hS : LST Inv R0 hs0 kf kl B hs) : BodyN SSX TBL g0 CLS bl xs l D_72 0 0 0 0 [.ref kf, .int a, .int b] hs (fun kd r h2 => kd = 0 ∧ r = none ∧ LST Inv R0 hs0 kf kl (B + 4) h2) := by
  intro wp p e R s m args below meth c Q kc0 ks0 kc ks act hf hl hc hsl hEnd
  have t64 : ∀ hs : List CE, LST Inv R0 hs0 kf kl (B + 4) hs → WpN (gp g0 wp) CLS p l e R s m args below meth c Q D_72.2.2.1 kc0 ks0 64 [some (.ref kf), some (.int a), some (.int b)] (hs, kc, ks) [] := by
    intro hs hS
    obtain ⟨hX, hln, hkl, hkf, rkl, hL, hrg⟩ := id hS
    have hT := hX.1
    exact g_retV hEnd (gx gp_72 (w := 0x18) rfl (by decide) rfl) ⟨rfl, rfl, hS⟩ (by show kc ≤ kc + 0; omega) (by show ks ≤ ks + 0; omega)
  have t32 : ∀ hs : List CE, LST Inv R0 hs0 kf kl (B + 2) hs → WpN (gp g0 wp) CLS p l e R s m args below meth c Q D_72.2.2.1 kc0 ks0 32 [some (.ref kf), some (.int a), some (.int b)] (hs, kc, ks) [] := by
    intro hs hS
    obtain ⟨hX, hln, hkl, hkf, rkl, hL, hrg⟩ := id hS
    have hT := hX.1
    refine g_loadI act (gx gp_72 (w := 0x1002102) rfl (by decide) rfl) (a := 1) (n := 33) rfl rfl rfl ?_
    refine g_ifLt act (gx gp_72 (w := 0x4000242a) rfl (by decide) rfl) (tgt := 64) (n := 36) rfl rfl (fun h2 => ?_) (fun h2 => ?_)
    · simp only [i_lt, i0] at h2
      exact t64 _ (lst_mono hS (by omega))
    · simp only [i_lt, i0] at h2
      refine g_loadI act (gx gp_72 (w := 0x2002502) rfl (by decide) rfl) (a := 2) (n := 37) rfl rfl rfl ?_
      refine g_ifLt act (gx gp_72 (w := 0x4000282a) rfl (by decide) rfl) (tgt := 64) (n := 40) rfl rfl (fun h4 => ?_) (fun h4 => ?_)
      · simp only [i_lt, i0] at h4
        exact t64 _ (lst_mono hS (by omega))
      · simp only [i_lt, i0] at h4
        refine g_loadA act (gx gp_72 (w := 0x2903) rfl (by decide) rfl) (a := 0) (n := 41) rfl rfl rfl ?_
        refine r_getf act (gx gp_72 (w := 0x3000081002c04) rfl (by decide) rfl) (n := 44) (ci := 1) (j := 2) (N := 4) rfl rfl rfl (ty_shp hT hkf (by decide) rfl rfl) (by decide) (v := .ref kl) hkl ?_
        refine g_loadI act (gx gp_72 (w := 0x1002d02) rfl (by decide) rfl) (a := 1) (n := 45) rfl rfl rfl ?_
        obtain ⟨r45, e_r45, q_r45⟩ := ty_ref (r2 := 31) (j := a.toInt.toNat) hT rkl (by decide) (by show _ < 3; omega) (Or.inl rfl) rfl (by decide)
        refine r_aald act (gx gp_72 (w := 0x2e12) rfl (by decide) rfl) (n := 46) (N := 3) rfl (ty_shp hT rkl (by decide) rfl rfl) (by decide) (j := a.toInt.toNat) (by omega) (by omega) (v := .ref r45) e_r45 ?_
        refine g_loadI act (gx gp_72 (w := 0x2002f02) rfl (by decide) rfl) (a := 2) (n := 47) rfl rfl rfl ?_
        refine g_dup2 act (gx gp_72 (w := 0x3030) rfl (by decide) rfl) (n := 48) rfl rfl rfl ?_
        obtain ⟨x48, e_x48⟩ := ty_lng (j := b.toInt.toNat) hT q_r45 (by decide) (by show _ < 3; omega) rfl
        have b_x48 := hL _ (by omega) _ e_r45 _ (by omega) _ e_x48
        refine r_lald act (gx gp_72 (w := 0x310d) rfl (by decide) rfl) (n := 49) (N := 3) rfl (ty_shp hT q_r45 (by decide) rfl rfl) (j := b.toInt.toNat) (by omega) (by omega) (v := .long x48) e_x48 ?_
        refine g_constL act (gx gp_72 (w := 0x4000000000000000a000000003201) rfl (by decide) rfl) (n := 50) (x := 1) (by decide) rfl ?_
        refine g_lsub act (gx gp_72 (w := 0x331e) rfl (by decide) rfl) (n := 51) rfl ?_
        refine r_last act (gx gp_72 (w := 0x3405) rfl (by decide) rfl) (n := 52) (N := 3) rfl (ty_shp hT q_r45 (by decide) rfl rfl) (j := b.toInt.toNat) (by omega) (by omega) ?_
        have hS := lst_wr31 hI (lst_mono hS (show B + 2 ≤ B + 3 by omega)) q_r45 (c := b.toInt.toNat) (v := (x48 - (1 : Int64))) (lsB (A := B + 2) (B := 1) b_x48 (by decide) (by omega))
        generalize (wr hs r45 b.toInt.toNat (.long (x48 - (1 : Int64)))) = hs at hS ⊢
        clear e_x48 e_r45 hX hln hkl hkf rkl hL hrg hT
        obtain ⟨hX, hln, hkl, hkf, rkl, hL, hrg⟩ := id hS
        have hT := hX.1
        refine g_loadA act (gx gp_72 (w := 0x3503) rfl (by decide) rfl) (a := 0) (n := 53) rfl rfl rfl ?_
        refine r_getf act (gx gp_72 (w := 0x3000081003804) rfl (by decide) rfl) (n := 56) (ci := 1) (j := 2) (N := 4) rfl rfl rfl (ty_shp hT hkf (by decide) rfl rfl) (by decide) (v := .ref kl) hkl ?_
        refine g_loadI act (gx gp_72 (w := 0x2003902) rfl (by decide) rfl) (a := 2) (n := 57) rfl rfl rfl ?_
        obtain ⟨r57, e_r57, q_r57⟩ := ty_ref (r2 := 31) (j := b.toInt.toNat) hT rkl (by decide) (by show _ < 3; omega) (Or.inl rfl) rfl (by decide)
        refine r_aald act (gx gp_72 (w := 0x3a12) rfl (by decide) rfl) (n := 58) (N := 3) rfl (ty_shp hT rkl (by decide) rfl rfl) (by decide) (j := b.toInt.toNat) (by omega) (by omega) (v := .ref r57) e_r57 ?_
        refine g_loadI act (gx gp_72 (w := 0x1003b02) rfl (by decide) rfl) (a := 1) (n := 59) rfl rfl rfl ?_
        refine g_dup2 act (gx gp_72 (w := 0x3c30) rfl (by decide) rfl) (n := 60) rfl rfl rfl ?_
        obtain ⟨x60, e_x60⟩ := ty_lng (j := a.toInt.toNat) hT q_r57 (by decide) (by show _ < 3; omega) rfl
        have b_x60 := hL _ (by omega) _ e_r57 _ (by omega) _ e_x60
        refine r_lald act (gx gp_72 (w := 0x3d0d) rfl (by decide) rfl) (n := 61) (N := 3) rfl (ty_shp hT q_r57 (by decide) rfl rfl) (j := a.toInt.toNat) (by omega) (by omega) (v := .long x60) e_x60 ?_
        refine g_constL act (gx gp_72 (w := 0x4000000000000000a000000003e01) rfl (by decide) rfl) (n := 62) (x := 1) (by decide) rfl ?_
        refine g_lsub act (gx gp_72 (w := 0x3f1e) rfl (by decide) rfl) (n := 63) rfl ?_
        refine r_last act (gx gp_72 (w := 0x4005) rfl (by decide) rfl) (n := 64) (N := 3) rfl (ty_shp hT q_r57 (by decide) rfl rfl) (j := a.toInt.toNat) (by omega) (by omega) ?_
        have hS := lst_wr31 hI (lst_mono hS (show B + 3 ≤ B + 4 by omega)) q_r57 (c := a.toInt.toNat) (v := (x60 - (1 : Int64))) (lsB (A := B + 3) (B := 1) b_x60 (by decide) (by omega))
        generalize (wr hs r57 a.toInt.toNat (.long (x60 - (1 : Int64)))) = hs at hS ⊢
        clear e_x60 e_r57 hX hln hkl hkf rkl hL hrg hT
        obtain ⟨hX, hln, hkl, hkf, rkl, hL, hrg⟩ := id hS
        have hT := hX.1
        exact t64 _ (lst_mono hS (by omega))
  have t16 : ∀ hs : List CE, LST Inv R0 hs0 kf kl (B + 1) hs → WpN (gp g0 wp) CLS p l e R s m args below meth c Q D_72.2.2.1 kc0 ks0 16 [some (.ref kf), some (.int a), some (.int b)] (hs, kc, ks) [] := by
    intro hs hS
    obtain ⟨hX, hln, hkl, hkf, rkl, hL, hrg⟩ := id hS
    have hT := hX.1
    refine g_loadI act (gx gp_72 (w := 0x2001102) rfl (by decide) rfl) (a := 2) (n := 17) rfl rfl rfl ?_
    refine g_ifLt act (gx gp_72 (w := 0x2000142a) rfl (by decide) rfl) (tgt := 32) (n := 20) rfl rfl (fun h2 => ?_) (fun h2 => ?_)
    · simp only [i_lt, i0] at h2
      exact t32 _ (lst_mono hS (by omega))
    · simp only [i_lt, i0] at h2
      refine g_loadA act (gx gp_72 (w := 0x1503) rfl (by decide) rfl) (a := 0) (n := 21) rfl rfl rfl ?_
      refine r_getf act (gx gp_72 (w := 0x3000081001804) rfl (by decide) rfl) (n := 24) (ci := 1) (j := 2) (N := 4) rfl rfl rfl (ty_shp hT hkf (by decide) rfl rfl) (by decide) (v := .ref kl) hkl ?_
      refine g_loadI act (gx gp_72 (w := 0x2001902) rfl (by decide) rfl) (a := 2) (n := 25) rfl rfl rfl ?_
      obtain ⟨r25, e_r25, q_r25⟩ := ty_ref (r2 := 31) (j := b.toInt.toNat) hT rkl (by decide) (by show _ < 3; omega) (Or.inl rfl) rfl (by decide)
      refine r_aald act (gx gp_72 (w := 0x1a12) rfl (by decide) rfl) (n := 26) (N := 3) rfl (ty_shp hT rkl (by decide) rfl rfl) (by decide) (j := b.toInt.toNat) (by omega) (by omega) (v := .ref r25) e_r25 ?_
      refine g_loadI act (gx gp_72 (w := 0x2001b02) rfl (by decide) rfl) (a := 2) (n := 27) rfl rfl rfl ?_
      refine g_dup2 act (gx gp_72 (w := 0x1c30) rfl (by decide) rfl) (n := 28) rfl rfl rfl ?_
      obtain ⟨x28, e_x28⟩ := ty_lng (j := b.toInt.toNat) hT q_r25 (by decide) (by show _ < 3; omega) rfl
      have b_x28 := hL _ (by omega) _ e_r25 _ (by omega) _ e_x28
      refine r_lald act (gx gp_72 (w := 0x1d0d) rfl (by decide) rfl) (n := 29) (N := 3) rfl (ty_shp hT q_r25 (by decide) rfl rfl) (j := b.toInt.toNat) (by omega) (by omega) (v := .long x28) e_x28 ?_
      refine g_constL act (gx gp_72 (w := 0x4000000000000000a000000001e01) rfl (by decide) rfl) (n := 30) (x := 1) (by decide) rfl ?_
      refine g_ladd act (gx gp_72 (w := 0x1f1f) rfl (by decide) rfl) (n := 31) rfl ?_
      refine r_last act (gx gp_72 (w := 0x2005) rfl (by decide) rfl) (n := 32) (N := 3) rfl (ty_shp hT q_r25 (by decide) rfl rfl) (j := b.toInt.toNat) (by omega) (by omega) ?_
      have hS := lst_wr31 hI (lst_mono hS (show B + 1 ≤ B + 2 by omega)) q_r25 (c := b.toInt.toNat) (v := (x28 + (1 : Int64))) (laB (A := B + 1) (B := 1) b_x28 (by decide) (by omega))
      generalize (wr hs r25 b.toInt.toNat (.long (x28 + (1 : Int64)))) = hs at hS ⊢
      clear e_x28 e_r25 hX hln hkl hkf rkl hL hrg hT
      obtain ⟨hX, hln, hkl, hkf, rkl, hL, hrg⟩ := id hS
      have hT := hX.1
      exact t32 _ (lst_mono hS (by omega))
  have hS : LST Inv R0 hs0 kf kl (B + 0) hs := hS
  obtain ⟨hX, hln, hkl, hkf, rkl, hL, hrg⟩ := id hS
  have hT := hX.1
  show WpN (gp g0 wp) CLS p l e R s m args below meth c Q D_72.2.2.1 kc0 ks0 0 [some (.ref kf), some (.int a), some (.int b)] (hs, kc, ks) []
  refine g_loadI act (gx gp_72 (w := 0x1000102) rfl (by decide) rfl) (a := 1) (n := 1) rfl rfl rfl ?_
  refine g_ifLt act (gx gp_72 (w := 0x1000042a) rfl (by decide) rfl) (tgt := 16) (n := 4) rfl rfl (fun h2 => ?_) (fun h2 => ?_)
  · simp only [i_lt, i0] at h2
    exact t16 _ (lst_mono hS (by omega))
  · simp only [i_lt, i0] at h2
    refine g_loadA act (gx gp_72 (w := 0x503) rfl (by decide) rfl) (a := 0) (n := 5) rfl rfl rfl ?_
    refine r_getf act (gx gp_72 (w := 0x3000081000804) rfl (by decide) rfl) (n := 8) (ci := 1) (j := 2) (N := 4) rfl rfl rfl (ty_shp hT hkf (by decide) rfl rfl) (by decide) (v := .ref kl) hkl ?_
    refine g_loadI act (gx gp_72 (w := 0x1000902) rfl (by decide) rfl) (a := 1) (n := 9) rfl rfl rfl ?_
    obtain ⟨r9, e_r9, q_r9⟩ := ty_ref (r2 := 31) (j := a.toInt.toNat) hT rkl (by decide) (by show _ < 3; omega) (Or.inl rfl) rfl (by decide)
    refine r_aald act (gx gp_72 (w := 0xa12) rfl (by decide) rfl) (n := 10) (N := 3) rfl (ty_shp hT rkl (by decide) rfl rfl) (by decide) (j := a.toInt.toNat) (by omega) (by omega) (v := .ref r9) e_r9 ?_
    refine g_loadI act (gx gp_72 (w := 0x1000b02) rfl (by decide) rfl) (a := 1) (n := 11) rfl rfl rfl ?_
    refine g_dup2 act (gx gp_72 (w := 0xc30) rfl (by decide) rfl) (n := 12) rfl rfl rfl ?_
    obtain ⟨x12, e_x12⟩ := ty_lng (j := a.toInt.toNat) hT q_r9 (by decide) (by show _ < 3; omega) rfl
    have b_x12 := hL _ (by omega) _ e_r9 _ (by omega) _ e_x12
    refine r_lald act (gx gp_72 (w := 0xd0d) rfl (by decide) rfl) (n := 13) (N := 3) rfl (ty_shp hT q_r9 (by decide) rfl rfl) (j := a.toInt.toNat) (by omega) (by omega) (v := .long x12) e_x12 ?_
    refine g_constL act (gx gp_72 (w := 0x4000000000000000a000000000e01) rfl (by decide) rfl) (n := 14) (x := 1) (by decide) rfl ?_
    refine g_ladd act (gx gp_72 (w := 0xf1f) rfl (by decide) rfl) (n := 15) rfl ?_
    refine r_last act (gx gp_72 (w := 0x1005) rfl (by decide) rfl) (n := 16) (N := 3) rfl (ty_shp hT q_r9 (by decide) rfl rfl) (j := a.toInt.toNat) (by omega) (by omega) ?_
    have hS := lst_wr31 hI (lst_mono hS (show B + 0 ≤ B + 1 by omega)) q_r9 (c := a.toInt.toNat) (v := (x12 + (1 : Int64))) (laB (A := B + 0) (B := 1) b_x12 (by decide) (by omega))
    generalize (wr hs r9 a.toInt.toNat (.long (x12 + (1 : Int64)))) = hs at hS ⊢
    clear e_x12 e_r9 hX hln hkl hkf rkl hL hrg hT
    obtain ⟨hX, hln, hkl, hkf, rkl, hL, hrg⟩ := id hS
    have hT := hX.1
    exact t16 _ (lst_mono hS (by omega))

theorem lclr_in {g0 : GG} {bl : Nat} {xs : Nat → Int32} {l : Launch} {wp : va_W} {p : Program} {e : Env} {R : Room} {s : State} {m : MethodId} {args : Array Value} {below : List Frame} {meth : Method} {c : Code} {Q : State → Prop} {kc0 ks0 kc ks f lam KC9 KS : Nat}  {Inv : List Nat → List CE → Prop} (hI : StI KC Inv) {R0 : List Nat} {hs0 : List CE} {kf kl : Nat} (act : Act SSX TBL (gp g0 wp) CLS bl xs D_73 p l s m args meth c) (hEnd : EndN SSX TBL (gp g0 wp) CLS D_73 p l e R s m args below meth c Q kc0 ks0 f lam KC9 KS (fun kd r h2 => kd = 0 ∧ r = none ∧ LST Inv R0 hs0 kf kl 1 h2)) (hf : 0 ≤ R.frames) (hl : 0 ≤ R.locals) (hc : kc ≤ R.cells + kc0) (hsl : ks ≤ R.slots + ks0) {nd i : Int32} (i0 : 0 ≤ i.toInt) (i3 : i.toInt < 3) (K : ∀ hs : List CE, LST Inv R0 hs0 kf kl BIG hs → LapP hs kl i.toInt 3 → WpN (gp g0 wp) CLS p l e R s m args below meth c Q D_73.2.2.1 kc0 ks0 45 [some (.ref kf), some (.int nd), some (.int i), none] (hs, kc, ks) []) : ∀ (n : Nat) (j : Int32) (hs : List CE), 0 ≤ j.toInt → j.toInt + (n : Int) = 3 → LST Inv R0 hs0 kf kl BIG hs → LapP hs kl i.toInt j.toInt → WpN (gp g0 wp) CLS p l e R s m args below meth c Q D_73.2.2.1 kc0 ks0 9 [some (.ref kf), some (.int nd), some (.int i), some (.int j)] (hs, kc, ks) [] := by
  intro n
  induction n with
  | zero =>
    intro j hs j0 hj hS hP
    refine g_loadI act (gx gp_73 (w := 0x3000a02) rfl (by decide) rfl) (a := 3) (n := 10) rfl rfl rfl ?_
    refine g_constI act (gx gp_73 (w := 0x40000001c00000019000000000b01) rfl (by decide) rfl) (n := 11) (x := (3 : Int32)) (by decide) rfl ?_
    refine g_icmpGe act (gx gp_73 (w := 0x2d000e08) rfl (by decide) rfl) (tgt := 45) (n := 14) rfl rfl (fun h3 => ?_) (fun h3 => ?_)
    · simp only [i_le, show (3 : Int32).toInt = 3 from by decide] at h3
      have e9 : j.toInt = 3 := by omega
      rw [e9] at hP
      exact n_forget (d := D_73) (L2 := [some (.ref kf), some (.int nd), some (.int i), none]) (fun i v hi => by
        match i, hi with
        | 0, hi => exact hi
        | 1, hi => exact hi
        | 2, hi => exact hi
        | 3, hi => cases hi
        | i + 4, hi => cases hi) (K hs hS hP)
    · simp only [i_le, show (3 : Int32).toInt = 3 from by decide] at h3
      exfalso; omega
  | succ n ih =>
    intro j hs j0 hj hS hP
    obtain ⟨hX, hln, hkl, hkf, rkl, hL, hrg⟩ := id hS
    have hT := hX.1
    have ej : (j + (1 : Int32)).toInt = j.toInt + 1 := i_add (by show _ ≤ _ + (1 : Int); omega) (by show _ + (1 : Int) < _; omega)
    refine g_loadI act (gx gp_73 (w := 0x3000a02) rfl (by decide) rfl) (a := 3) (n := 10) rfl rfl rfl ?_
    refine g_constI act (gx gp_73 (w := 0x40000001c00000019000000000b01) rfl (by decide) rfl) (n := 11) (x := (3 : Int32)) (by decide) rfl ?_
    refine g_icmpGe act (gx gp_73 (w := 0x2d000e08) rfl (by decide) rfl) (tgt := 45) (n := 14) rfl rfl (fun h3 => ?_) (fun h3 => ?_)
    · simp only [i_le, show (3 : Int32).toInt = 3 from by decide] at h3
      exfalso; omega
    · simp only [i_le, show (3 : Int32).toInt = 3 from by decide] at h3
      refine g_loadA act (gx gp_73 (w := 0xf03) rfl (by decide) rfl) (a := 0) (n := 15) rfl rfl rfl ?_
      refine r_getf act (gx gp_73 (w := 0x3000081001204) rfl (by decide) rfl) (n := 18) (ci := 1) (j := 2) (N := 4) rfl rfl rfl (ty_shp hT hkf (by decide) rfl rfl) (by decide) (v := .ref kl) hkl ?_
      refine g_loadI act (gx gp_73 (w := 0x2001302) rfl (by decide) rfl) (a := 2) (n := 19) rfl rfl rfl ?_
      obtain ⟨r19, e_r19, q_r19⟩ := ty_ref (r2 := 31) (j := i.toInt.toNat) hT rkl (by decide) (by show _ < 3; omega) (Or.inl rfl) rfl (by decide)
      refine r_aald act (gx gp_73 (w := 0x1412) rfl (by decide) rfl) (n := 20) (N := 3) rfl (ty_shp hT rkl (by decide) rfl rfl) (by decide) (j := i.toInt.toNat) (by omega) (by omega) (v := .ref r19) e_r19 ?_
      refine g_loadI act (gx gp_73 (w := 0x3001502) rfl (by decide) rfl) (a := 3) (n := 21) rfl rfl rfl ?_
      refine g_loadI act (gx gp_73 (w := 0x2001602) rfl (by decide) rfl) (a := 2) (n := 22) rfl rfl rfl ?_
      have t38 : ∀ v : Int64, v.toInt.natAbs ≤ 1 → WpN (gp g0 wp) CLS p l e R s m args below meth c Q D_73.2.2.1 kc0 ks0 38 [some (.ref kf), some (.int nd), some (.int i), some (.int j)] (hs, kc, ks) [.long v, .int j, .ref r19] := by
        intro v hv
        refine r_last act (gx gp_73 (w := 0x2705) rfl (by decide) rfl) (n := 39) (N := 3) rfl (ty_shp hT q_r19 (by decide) rfl rfl) (j := j.toInt.toNat) (by omega) (by omega) ?_
        refine g_iinc act (gx gp_73 (w := 0x80000001000003002a09) rfl (by decide) rfl) (a := 3) (i := (1 : Int32)) (n := 42) rfl (by decide) rfl rfl (L2 := [some (.ref kf), some (.int nd), some (.int i), some (.int (j + (1 : Int32)))]) rfl ?_
        refine g_goto act (gx gp_73 (w := 0x907) rfl (by decide) rfl) (n := 9) rfl ?_
        have hP2 := lapP_wr (i := i.toInt.toNat) (j := j.toInt.toNat) hT rkl q_r19 e_r19 hv (by rw [show ((i.toInt.toNat : Nat) : Int) = i.toInt from by omega, show ((j.toInt.toNat : Nat) : Int) = j.toInt from by omega]; exact hP)
        rw [show ((i.toInt.toNat : Nat) : Int) = i.toInt from by omega, show ((j.toInt.toNat : Nat) : Int) + 1 = (j + (1 : Int32)).toInt from by omega] at hP2
        exact ih (j + (1 : Int32)) _ (by omega) (by omega) (lst_wr31 hI hS q_r19 (by unfold BIG; omega)) hP2
      refine g_loadI act (gx gp_73 (w := 0x3001702) rfl (by decide) rfl) (a := 3) (n := 23) rfl rfl rfl ?_
      refine g_icmpNe act (gx gp_73 (w := 0x25001a21) rfl (by decide) rfl) (tgt := 37) (n := 26) rfl rfl (fun h2 => ?_) (fun h2 => ?_)
      · simp only [i_eq] at h2
        refine g_constL act (gx gp_73 (w := 0x40000000000000002000000002601) rfl (by decide) rfl) (n := 38) (x := 0) (by decide) rfl ?_
        exact t38 (0 : Int64) (by decide)
      · simp only [i_eq] at h2
        refine g_loadI act (gx gp_73 (w := 0x2001b02) rfl (by decide) rfl) (a := 2) (n := 27) rfl rfl rfl ?_
        refine g_loadI act (gx gp_73 (w := 0x1001c02) rfl (by decide) rfl) (a := 1) (n := 28) rfl rfl rfl ?_
        refine g_constI act (gx gp_73 (w := 0x40000000c00000009000000001d01) rfl (by decide) rfl) (n := 29) (x := (1 : Int32)) (by decide) rfl ?_
        refine g_isub act (gx gp_73 (w := 0x1e26) rfl (by decide) rfl) (n := 30) rfl ?_
        refine g_icmpLt act (gx gp_73 (w := 0x25002120) rfl (by decide) rfl) (tgt := 37) (n := 33) rfl rfl (fun h8 => ?_) (fun h8 => ?_)
        · simp only [i_lt, show (1 : Int32).toInt = 1 from by decide] at h8
          refine g_constL act (gx gp_73 (w := 0x40000000000000002000000002601) rfl (by decide) rfl) (n := 38) (x := 0) (by decide) rfl ?_
          exact t38 (0 : Int64) (by decide)
        · simp only [i_lt, show (1 : Int32).toInt = 1 from by decide] at h8
          refine g_constL act (gx gp_73 (w := 0x4000000000000000a000000002201) rfl (by decide) rfl) (n := 34) (x := 1) (by decide) rfl ?_
          refine g_goto act (gx gp_73 (w := 0x2607) rfl (by decide) rfl) (n := 38) rfl ?_
          exact t38 (1 : Int64) (by decide)

theorem lclr_out {g0 : GG} {bl : Nat} {xs : Nat → Int32} {l : Launch} {wp : va_W} {p : Program} {e : Env} {R : Room} {s : State} {m : MethodId} {args : Array Value} {below : List Frame} {meth : Method} {c : Code} {Q : State → Prop} {kc0 ks0 kc ks f lam KC9 KS : Nat}  {Inv : List Nat → List CE → Prop} (hI : StI KC Inv) {R0 : List Nat} {hs0 : List CE} {kf kl : Nat} (act : Act SSX TBL (gp g0 wp) CLS bl xs D_73 p l s m args meth c) (hEnd : EndN SSX TBL (gp g0 wp) CLS D_73 p l e R s m args below meth c Q kc0 ks0 f lam KC9 KS (fun kd r h2 => kd = 0 ∧ r = none ∧ LST Inv R0 hs0 kf kl 1 h2)) (hf : 0 ≤ R.frames) (hl : 0 ≤ R.locals) (hc : kc ≤ R.cells + kc0) (hsl : ks ≤ R.slots + ks0) (hk1 : kc ≤ KC9) (hk2 : ks ≤ KS) {nd : Int32} : ∀ (n : Nat) (i : Int32) (hs : List CE), 0 ≤ i.toInt → i.toInt + (n : Int) = 3 → LST Inv R0 hs0 kf kl BIG hs → LapP hs kl i.toInt 0 → WpN (gp g0 wp) CLS p l e R s m args below meth c Q D_73.2.2.1 kc0 ks0 2 [some (.ref kf), some (.int nd), some (.int i), none] (hs, kc, ks) [] := by
  intro n
  induction n with
  | zero =>
    intro i hs i0 hi hS hP
    obtain ⟨hX, hln, hkl, hkf, rkl, hL, hrg⟩ := id hS
    have hT := hX.1
    refine g_loadI act (gx gp_73 (w := 0x2000302) rfl (by decide) rfl) (a := 2) (n := 3) rfl rfl rfl ?_
    refine g_constI act (gx gp_73 (w := 0x40000001c00000019000000000401) rfl (by decide) rfl) (n := 4) (x := (3 : Int32)) (by decide) rfl ?_
    refine g_icmpGe act (gx gp_73 (w := 0x33000708) rfl (by decide) rfl) (tgt := 51) (n := 7) rfl rfl (fun h3 => ?_) (fun h3 => ?_)
    · simp only [i_le, show (3 : Int32).toInt = 3 from by decide] at h3
      have e9 : i.toInt = 3 := by omega
      rw [e9] at hP
      have hP3 := hP
      exact g_retV hEnd (gx gp_73 (w := 0x18) rfl (by decide) rfl) ⟨rfl, rfl, hX, hln, hkl, hkf, rkl, lapP_end hP3, hrg⟩ hk1 hk2
    · simp only [i_le, show (3 : Int32).toInt = 3 from by decide] at h3
      exfalso; omega
  | succ n ih =>
    intro i hs i0 hi hS hP
    refine g_loadI act (gx gp_73 (w := 0x2000302) rfl (by decide) rfl) (a := 2) (n := 3) rfl rfl rfl ?_
    refine g_constI act (gx gp_73 (w := 0x40000001c00000019000000000401) rfl (by decide) rfl) (n := 4) (x := (3 : Int32)) (by decide) rfl ?_
    refine g_icmpGe act (gx gp_73 (w := 0x33000708) rfl (by decide) rfl) (tgt := 51) (n := 7) rfl rfl (fun h3 => ?_) (fun h3 => ?_)
    · simp only [i_le, show (3 : Int32).toInt = 3 from by decide] at h3
      exfalso; omega
    · simp only [i_le, show (3 : Int32).toInt = 3 from by decide] at h3
      refine g_constI act (gx gp_73 (w := 0x40000000400000001000000000801) rfl (by decide) rfl) (n := 8) (x := (0 : Int32)) (by decide) rfl ?_
      refine g_storeI act (gx gp_73 (w := 0x3000910) rfl (by decide) rfl) (a := 3) (n := 9) rfl rfl (L2 := [some (.ref kf), some (.int nd), some (.int i), some (.int (0 : Int32))]) rfl ?_
      refine lclr_in hI act hEnd hf hl hc hsl (i := i) i0 (by omega) (fun hs hS hP => ?_) 3 0 hs (by decide) (by decide) hS hP
      have ei : (i + (1 : Int32)).toInt = i.toInt + 1 := i_add (by show _ ≤ _ + (1 : Int); omega) (by show _ + (1 : Int) < _; omega)
      refine g_iinc act (gx gp_73 (w := 0x80000001000002003009) rfl (by decide) rfl) (a := 2) (i := (1 : Int32)) (n := 48) rfl (by decide) rfl rfl (L2 := [some (.ref kf), some (.int nd), some (.int (i + (1 : Int32))), none]) rfl ?_
      refine g_goto act (gx gp_73 (w := 0x207) rfl (by decide) rfl) (n := 2) rfl ?_
      exact ih (i + (1 : Int32)) _ (by omega) (by omega) hS (by rw [ei]; exact lapP_next hP)

theorem b_lclr {g0 : GG} {bl : Nat} {xs : Nat → Int32} {l : Launch} {hs : List CE} {Inv : List Nat → List CE → Prop} (hI : StI KC Inv) {R0 : List Nat} {hs0 : List CE} {kf kl : Nat} {nd : Int32} (hS : LST Inv R0 hs0 kf kl BIG hs) : BodyN SSX TBL g0 CLS bl xs l D_73 0 0 0 0 [.ref kf, .int nd] hs (fun kd r h2 => kd = 0 ∧ r = none ∧ LST Inv R0 hs0 kf kl 1 h2) := by
  intro wp p e R s m args below meth c Q kc0 ks0 kc ks act hf hl hc hsl hEnd
  show WpN (gp g0 wp) CLS p l e R s m args below meth c Q D_73.2.2.1 kc0 ks0 0 [some (.ref kf), some (.int nd), none, none] (hs, kc, ks) []
  refine g_constI act (gx gp_73 (w := 0x40000000400000001000000000101) rfl (by decide) rfl) (n := 1) (x := (0 : Int32)) (by decide) rfl ?_
  refine g_storeI act (gx gp_73 (w := 0x2000210) rfl (by decide) rfl) (a := 2) (n := 2) rfl rfl (L2 := [some (.ref kf), some (.int nd), some (.int (0 : Int32)), none]) rfl ?_
  exact lclr_out hI act hEnd (by omega) (by omega) (by omega) (by omega) (by omega) (by omega) 3 0 hs (by decide) (by decide) hS (fun a _ r _ c _ hac => absurd hac (by show ¬ ((a : Int) < 0 ∨ ((a : Int) = 0 ∧ (c : Int) < 0)); omega))


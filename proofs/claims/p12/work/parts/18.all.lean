/-! Runs of any length. -/
theorem tre_const : treeOf 1 = o_const := rfl
theorem tre_loadI : treeOf 2 = o_loadI := rfl
theorem tre_loadA : treeOf 3 = o_loadA := rfl
theorem tre_getf : treeOf 4 = o_getf := rfl
theorem tre_last : treeOf 5 = o_last := rfl
theorem tre_loadL : treeOf 6 = o_loadL := rfl
theorem tre_goto : treeOf 7 = o_goto := rfl
theorem tre_icmpGe : treeOf 8 = o_icmpGe := rfl
theorem tre_iinc : treeOf 9 = o_iinc := rfl
theorem tre_iadd : treeOf 10 = o_iadd := rfl
theorem tre_storeL : treeOf 11 = o_storeL := rfl
theorem tre_lcmp : treeOf 12 = o_lcmp := rfl
theorem tre_lald : treeOf 13 = o_lald := rfl
theorem tre_ifEq : treeOf 14 = o_ifEq := rfl
theorem tre_call : treeOf 15 = o_call := rfl
theorem tre_storeI : treeOf 16 = o_storeI := rfl
theorem tre_imul : treeOf 17 = o_imul := rfl
theorem tre_aald : treeOf 18 = o_aald := rfl
theorem tre_putf : treeOf 19 = o_putf := rfl
theorem tre_ifGe : treeOf 20 = o_ifGe := rfl
theorem tre_lmul : treeOf 21 = o_lmul := rfl
theorem tre_ldiv : treeOf 22 = o_ldiv := rfl
theorem tre_irem : treeOf 23 = o_irem := rfl
theorem tre_retV : treeOf 24 = o_retV := rfl
theorem tre_retL : treeOf 25 = o_retL := rfl
theorem tre_iald : treeOf 26 = o_iald := rfl
theorem tre_lrem : treeOf 27 = o_lrem := rfl
theorem tre_newa : treeOf 28 = o_newa := rfl
theorem tre_ifNe : treeOf 29 = o_ifNe := rfl
theorem tre_lsub : treeOf 30 = o_lsub := rfl
theorem tre_ladd : treeOf 31 = o_ladd := rfl
theorem tre_icmpLt : treeOf 32 = o_icmpLt := rfl
theorem tre_icmpNe : treeOf 33 = o_icmpNe := rfl
theorem tre_dup : treeOf 34 = o_dup := rfl
theorem tre_retZ : treeOf 35 = o_retZ := rfl
theorem tre_iast : treeOf 36 = o_iast := rfl
theorem tre_lneg : treeOf 37 = o_lneg := rfl
theorem tre_isub : treeOf 38 = o_isub := rfl
theorem tre_multi : treeOf 39 = o_multi := rfl
theorem tre_new : treeOf 40 = o_new := rfl
theorem tre_objinit : treeOf 41 = o_objinit := rfl
theorem tre_ifLt : treeOf 42 = o_ifLt := rfl
theorem tre_icmpGt : treeOf 43 = o_icmpGt := rfl
theorem tre_i2l : treeOf 44 = o_i2l := rfl
theorem tre_storeA : treeOf 45 = o_storeA := rfl
theorem tre_icmpEq : treeOf 46 = o_icmpEq := rfl
theorem tre_retI : treeOf 47 = o_retI := rfl
theorem tre_dup2 : treeOf 48 = o_dup2 := rfl
theorem tre_retA : treeOf 49 = o_retA := rfl
theorem tre_alen : treeOf 50 = o_alen := rfl
theorem tre_iand : treeOf 51 = o_iand := rfl
theorem tre_ishr : treeOf 52 = o_ishr := rfl
theorem tre_aast : treeOf 53 = o_aast := rfl
theorem tre_switch : treeOf 54 = o_switch := rfl
theorem tre_stop : treeOf 55 = o_stop := rfl
theorem tre_throw : treeOf 56 = o_throw := rfl
theorem tre_bast : treeOf 57 = o_bast := rfl
theorem tre_i2b : treeOf 58 = o_i2b := rfl
theorem tre_ishl : treeOf 59 = o_ishl := rfl
theorem tre_icmpLe : treeOf 60 = o_icmpLe := rfl
theorem tre_ifLe : treeOf 61 = o_ifLe := rfl
theorem tre_ifnonnull : treeOf 62 = o_ifnonnull := rfl
theorem tre_pop : treeOf 63 = o_pop := rfl
theorem tre_bald : treeOf 64 = o_bald := rfl
theorem tre_storeD : treeOf 65 = o_storeD := rfl
theorem tre_labs : treeOf 66 = o_labs := rfl
theorem tre_ifGt : treeOf 67 = o_ifGt := rfl
theorem tre_loadF : treeOf 68 = o_loadF := rfl
theorem tre_fcmpl : treeOf 69 = o_fcmpl := rfl
theorem tre_fdiv : treeOf 70 = o_fdiv := rfl
theorem tre_l2f : treeOf 71 = o_l2f := rfl
theorem tre_i2f : treeOf 72 = o_i2f := rfl
theorem tre_idiv : treeOf 73 = o_idiv := rfl
theorem tre_mmax : treeOf 74 = o_mmax := rfl
theorem tre_ior : treeOf 75 = o_ior := rfl
theorem tre_ineg : treeOf 76 = o_ineg := rfl
theorem tre_retD : treeOf 77 = o_retD := rfl
theorem tre_acmpeq : treeOf 78 = o_acmpeq := rfl
theorem tre_dupx1 : treeOf 79 = o_dupx1 := rfl
theorem tre_storeF : treeOf 80 = o_storeF := rfl
theorem tre_fcon : treeOf 81 = o_fcon := rfl
theorem tre_fcmpg : treeOf 82 = o_fcmpg := rfl
theorem tre_fmul : treeOf 83 = o_fmul := rfl
theorem tre_fsub : treeOf 84 = o_fsub := rfl
theorem tre_f2i : treeOf 85 = o_f2i := rfl
theorem tre_l2d : treeOf 86 = o_l2d := rfl
theorem tre_ddiv : treeOf 87 = o_ddiv := rfl
theorem tre_i2d : treeOf 88 = o_i2d := rfl
theorem tre_cast : treeOf 89 = o_cast := rfl
theorem tre_dast : treeOf 90 = o_dast := rfl
set_option maxHeartbeats 4000000 in
set_option maxRecDepth 4000 in
theorem rs_all {ss : SS} {TBL : List Cond} {g0 : GG} {cl : List vw_C} {ft : Nat → Nat → Nat} {bx bl : Nat} {xs : Nat → Int32} {mdl : Nat → Option MD} {l : Launch} (hpr : ∀ w ∈ TBL, pres w = true) (hTY : ∀ c : Nat, 32 ≤ c → c ≤ 41 → ∃ cA : ClassId, g0.2.1[c - 32]? = some (cA, aty c)) (hbx : ∀ (ws : va_W) (j : Nat), j < bl → VR g0 ws (pget bx j) (.int (xs j))) (hGPm : ∀ (u : Nat) (d : MD), mdl u = some d → GPd ss TBL cl ft mdl d (prOf u)) :
    ∀ n : Nat, RS ss TBL g0 cl ft bx bl xs (GPd ss TBL cl ft mdl) l n
  | 0 => fun wp f lam pr d p e R s m args below meth c Q kc0 ks0 pc L h S res act hGP hf hl hrun hRo hEnd => by cases hrun
  | n + 1 => by
    intro wp f lam pr d p e R s m args below meth c Q kc0 ks0 pc L h0 S res act hGP hf hl hrun hRo hEnd
    have ih := rs_all (l := l) hpr hTY hbx hGPm n
    have hrun : fc (ftc pr pc) (stw bx bl f lam pr pc L h0 (run bx bl n) (run bx bl n f lam pr) S) = some res := hrun
    rw [fc_eq] at hrun
    have K : ∀ pc' L' h' S', run bx bl n f lam pr pc' L' h' S' = some res → Wp (gp g0 wp) cl ft p l e R s m args below meth c Q d.2.2.1 kc0 ks0 res pc' L' h' S' := fun pc' L' h' S' hr => ih wp f lam pr d p e R s m args below meth c Q kc0 ks0 pc' L' h' S' res act hGP hf hl hr hRo hEnd
    have hG := hGP pc
    generalize ftc pr pc = w at hrun hG
    have hrun : br (Nat.beq w 0) none (fc (w % 256) treeOf bx bl f lam pr pc w L h0 (run bx bl n) (run bx bl n f lam pr) S) = some res := hrun
    obtain ⟨h1, h⟩ := br_n hrun
    obtain ⟨P, hP1, hP2⟩ := hG (beq_f h1)
    rw [fc_eq] at h
    by_cases q_const : w % 256 = 1
    · rw [q_const, tre_const] at h
      rw [q_const] at hP1
      obtain rfl : G_const = P := Option.some.inj hP1
      exact s_const hpr hTY hbx hGPm ih act hf hl hRo hEnd hP2 h K
    by_cases q_loadI : w % 256 = 2
    · rw [q_loadI, tre_loadI] at h
      rw [q_loadI] at hP1
      obtain rfl : G_loadI = P := Option.some.inj hP1
      exact s_loadI hpr hTY hbx hGPm ih act hf hl hRo hEnd hP2 h K
    by_cases q_loadA : w % 256 = 3
    · rw [q_loadA, tre_loadA] at h
      rw [q_loadA] at hP1
      obtain rfl : G_loadA = P := Option.some.inj hP1
      exact s_loadA hpr hTY hbx hGPm ih act hf hl hRo hEnd hP2 h K
    by_cases q_getf : w % 256 = 4
    · rw [q_getf, tre_getf] at h
      rw [q_getf] at hP1
      obtain rfl : G_getf = P := Option.some.inj hP1
      exact s_getf hpr hTY hbx hGPm ih act hf hl hRo hEnd hP2 h K
    by_cases q_last : w % 256 = 5
    · rw [q_last, tre_last] at h
      rw [q_last] at hP1
      obtain rfl : G_last = P := Option.some.inj hP1
      exact s_last hpr hTY hbx hGPm ih act hf hl hRo hEnd hP2 h K
    by_cases q_loadL : w % 256 = 6
    · rw [q_loadL, tre_loadL] at h
      rw [q_loadL] at hP1
      obtain rfl : G_loadL = P := Option.some.inj hP1
      exact s_loadL hpr hTY hbx hGPm ih act hf hl hRo hEnd hP2 h K
    by_cases q_goto : w % 256 = 7
    · rw [q_goto, tre_goto] at h
      rw [q_goto] at hP1
      obtain rfl : G_goto = P := Option.some.inj hP1
      exact s_goto hpr hTY hbx hGPm ih act hf hl hRo hEnd hP2 h K
    by_cases q_icmpGe : w % 256 = 8
    · rw [q_icmpGe, tre_icmpGe] at h
      rw [q_icmpGe] at hP1
      obtain rfl : G_icmpGe = P := Option.some.inj hP1
      exact s_icmpGe hpr hTY hbx hGPm ih act hf hl hRo hEnd hP2 h K
    by_cases q_iinc : w % 256 = 9
    · rw [q_iinc, tre_iinc] at h
      rw [q_iinc] at hP1
      obtain rfl : G_iinc = P := Option.some.inj hP1
      exact s_iinc hpr hTY hbx hGPm ih act hf hl hRo hEnd hP2 h K
    by_cases q_iadd : w % 256 = 10
    · rw [q_iadd, tre_iadd] at h
      rw [q_iadd] at hP1
      obtain rfl : G_iadd = P := Option.some.inj hP1
      exact s_iadd hpr hTY hbx hGPm ih act hf hl hRo hEnd hP2 h K
    by_cases q_storeL : w % 256 = 11
    · rw [q_storeL, tre_storeL] at h
      rw [q_storeL] at hP1
      obtain rfl : G_storeL = P := Option.some.inj hP1
      exact s_storeL hpr hTY hbx hGPm ih act hf hl hRo hEnd hP2 h K
    by_cases q_lcmp : w % 256 = 12
    · rw [q_lcmp, tre_lcmp] at h
      rw [q_lcmp] at hP1
      obtain rfl : G_lcmp = P := Option.some.inj hP1
      exact s_lcmp hpr hTY hbx hGPm ih act hf hl hRo hEnd hP2 h K
    by_cases q_lald : w % 256 = 13
    · rw [q_lald, tre_lald] at h
      rw [q_lald] at hP1
      obtain rfl : G_lald = P := Option.some.inj hP1
      exact s_lald hpr hTY hbx hGPm ih act hf hl hRo hEnd hP2 h K
    by_cases q_ifEq : w % 256 = 14
    · rw [q_ifEq, tre_ifEq] at h
      rw [q_ifEq] at hP1
      obtain rfl : G_ifEq = P := Option.some.inj hP1
      exact s_ifEq hpr hTY hbx hGPm ih act hf hl hRo hEnd hP2 h K
    by_cases q_call : w % 256 = 15
    · rw [q_call, tre_call] at h
      rw [q_call] at hP1
      obtain rfl : G_call = P := Option.some.inj hP1
      exact s_call hpr hTY hbx hGPm ih act hf hl hRo hEnd hP2 h K
    by_cases q_storeI : w % 256 = 16
    · rw [q_storeI, tre_storeI] at h
      rw [q_storeI] at hP1
      obtain rfl : G_storeI = P := Option.some.inj hP1
      exact s_storeI hpr hTY hbx hGPm ih act hf hl hRo hEnd hP2 h K
    by_cases q_imul : w % 256 = 17
    · rw [q_imul, tre_imul] at h
      rw [q_imul] at hP1
      obtain rfl : G_imul = P := Option.some.inj hP1
      exact s_imul hpr hTY hbx hGPm ih act hf hl hRo hEnd hP2 h K
    by_cases q_aald : w % 256 = 18
    · rw [q_aald, tre_aald] at h
      rw [q_aald] at hP1
      obtain rfl : G_aald = P := Option.some.inj hP1
      exact s_aald hpr hTY hbx hGPm ih act hf hl hRo hEnd hP2 h K
    by_cases q_putf : w % 256 = 19
    · rw [q_putf, tre_putf] at h
      rw [q_putf] at hP1
      obtain rfl : G_putf = P := Option.some.inj hP1
      exact s_putf hpr hTY hbx hGPm ih act hf hl hRo hEnd hP2 h K
    by_cases q_ifGe : w % 256 = 20
    · rw [q_ifGe, tre_ifGe] at h
      rw [q_ifGe] at hP1
      obtain rfl : G_ifGe = P := Option.some.inj hP1
      exact s_ifGe hpr hTY hbx hGPm ih act hf hl hRo hEnd hP2 h K
    by_cases q_lmul : w % 256 = 21
    · rw [q_lmul, tre_lmul] at h
      rw [q_lmul] at hP1
      obtain rfl : G_lmul = P := Option.some.inj hP1
      exact s_lmul hpr hTY hbx hGPm ih act hf hl hRo hEnd hP2 h K
    by_cases q_ldiv : w % 256 = 22
    · rw [q_ldiv, tre_ldiv] at h
      rw [q_ldiv] at hP1
      obtain rfl : G_ldiv = P := Option.some.inj hP1
      exact s_ldiv hpr hTY hbx hGPm ih act hf hl hRo hEnd hP2 h K
    by_cases q_irem : w % 256 = 23
    · rw [q_irem, tre_irem] at h
      rw [q_irem] at hP1
      obtain rfl : G_irem = P := Option.some.inj hP1
      exact s_irem hpr hTY hbx hGPm ih act hf hl hRo hEnd hP2 h K
    by_cases q_retV : w % 256 = 24
    · rw [q_retV, tre_retV] at h
      rw [q_retV] at hP1
      obtain rfl : G_retV = P := Option.some.inj hP1
      exact s_retV hpr hTY hbx hGPm ih act hf hl hRo hEnd hP2 h K
    by_cases q_retL : w % 256 = 25
    · rw [q_retL, tre_retL] at h
      rw [q_retL] at hP1
      obtain rfl : G_retL = P := Option.some.inj hP1
      exact s_retL hpr hTY hbx hGPm ih act hf hl hRo hEnd hP2 h K
    by_cases q_iald : w % 256 = 26
    · rw [q_iald, tre_iald] at h
      rw [q_iald] at hP1
      obtain rfl : G_iald = P := Option.some.inj hP1
      exact s_iald hpr hTY hbx hGPm ih act hf hl hRo hEnd hP2 h K
    by_cases q_lrem : w % 256 = 27
    · rw [q_lrem, tre_lrem] at h
      rw [q_lrem] at hP1
      obtain rfl : G_lrem = P := Option.some.inj hP1
      exact s_lrem hpr hTY hbx hGPm ih act hf hl hRo hEnd hP2 h K
    by_cases q_newa : w % 256 = 28
    · rw [q_newa, tre_newa] at h
      rw [q_newa] at hP1
      obtain rfl : G_newa = P := Option.some.inj hP1
      exact s_newa hpr hTY hbx hGPm ih act hf hl hRo hEnd hP2 h K
    by_cases q_ifNe : w % 256 = 29
    · rw [q_ifNe, tre_ifNe] at h
      rw [q_ifNe] at hP1
      obtain rfl : G_ifNe = P := Option.some.inj hP1
      exact s_ifNe hpr hTY hbx hGPm ih act hf hl hRo hEnd hP2 h K
    by_cases q_lsub : w % 256 = 30
    · rw [q_lsub, tre_lsub] at h
      rw [q_lsub] at hP1
      obtain rfl : G_lsub = P := Option.some.inj hP1
      exact s_lsub hpr hTY hbx hGPm ih act hf hl hRo hEnd hP2 h K
    by_cases q_ladd : w % 256 = 31
    · rw [q_ladd, tre_ladd] at h
      rw [q_ladd] at hP1
      obtain rfl : G_ladd = P := Option.some.inj hP1
      exact s_ladd hpr hTY hbx hGPm ih act hf hl hRo hEnd hP2 h K
    by_cases q_icmpLt : w % 256 = 32
    · rw [q_icmpLt, tre_icmpLt] at h
      rw [q_icmpLt] at hP1
      obtain rfl : G_icmpLt = P := Option.some.inj hP1
      exact s_icmpLt hpr hTY hbx hGPm ih act hf hl hRo hEnd hP2 h K
    by_cases q_icmpNe : w % 256 = 33
    · rw [q_icmpNe, tre_icmpNe] at h
      rw [q_icmpNe] at hP1
      obtain rfl : G_icmpNe = P := Option.some.inj hP1
      exact s_icmpNe hpr hTY hbx hGPm ih act hf hl hRo hEnd hP2 h K
    by_cases q_dup : w % 256 = 34
    · rw [q_dup, tre_dup] at h
      rw [q_dup] at hP1
      obtain rfl : G_dup = P := Option.some.inj hP1
      exact s_dup hpr hTY hbx hGPm ih act hf hl hRo hEnd hP2 h K
    by_cases q_retZ : w % 256 = 35
    · rw [q_retZ, tre_retZ] at h
      rw [q_retZ] at hP1
      obtain rfl : G_retZ = P := Option.some.inj hP1
      exact s_retZ hpr hTY hbx hGPm ih act hf hl hRo hEnd hP2 h K
    by_cases q_iast : w % 256 = 36
    · rw [q_iast, tre_iast] at h
      rw [q_iast] at hP1
      obtain rfl : G_iast = P := Option.some.inj hP1
      exact s_iast hpr hTY hbx hGPm ih act hf hl hRo hEnd hP2 h K
    by_cases q_lneg : w % 256 = 37
    · rw [q_lneg, tre_lneg] at h
      rw [q_lneg] at hP1
      obtain rfl : G_lneg = P := Option.some.inj hP1
      exact s_lneg hpr hTY hbx hGPm ih act hf hl hRo hEnd hP2 h K
    by_cases q_isub : w % 256 = 38
    · rw [q_isub, tre_isub] at h
      rw [q_isub] at hP1
      obtain rfl : G_isub = P := Option.some.inj hP1
      exact s_isub hpr hTY hbx hGPm ih act hf hl hRo hEnd hP2 h K
    by_cases q_multi : w % 256 = 39
    · rw [q_multi, tre_multi] at h
      rw [q_multi] at hP1
      obtain rfl : G_multi = P := Option.some.inj hP1
      exact s_multi hpr hTY hbx hGPm ih act hf hl hRo hEnd hP2 h K
    by_cases q_new : w % 256 = 40
    · rw [q_new, tre_new] at h
      rw [q_new] at hP1
      obtain rfl : G_new = P := Option.some.inj hP1
      exact s_new hpr hTY hbx hGPm ih act hf hl hRo hEnd hP2 h K
    by_cases q_objinit : w % 256 = 41
    · rw [q_objinit, tre_objinit] at h
      rw [q_objinit] at hP1
      obtain rfl : G_objinit = P := Option.some.inj hP1
      exact s_objinit hpr hTY hbx hGPm ih act hf hl hRo hEnd hP2 h K
    by_cases q_ifLt : w % 256 = 42
    · rw [q_ifLt, tre_ifLt] at h
      rw [q_ifLt] at hP1
      obtain rfl : G_ifLt = P := Option.some.inj hP1
      exact s_ifLt hpr hTY hbx hGPm ih act hf hl hRo hEnd hP2 h K
    by_cases q_icmpGt : w % 256 = 43
    · rw [q_icmpGt, tre_icmpGt] at h
      rw [q_icmpGt] at hP1
      obtain rfl : G_icmpGt = P := Option.some.inj hP1
      exact s_icmpGt hpr hTY hbx hGPm ih act hf hl hRo hEnd hP2 h K
    by_cases q_i2l : w % 256 = 44
    · rw [q_i2l, tre_i2l] at h
      rw [q_i2l] at hP1
      obtain rfl : G_i2l = P := Option.some.inj hP1
      exact s_i2l hpr hTY hbx hGPm ih act hf hl hRo hEnd hP2 h K
    by_cases q_storeA : w % 256 = 45
    · rw [q_storeA, tre_storeA] at h
      rw [q_storeA] at hP1
      obtain rfl : G_storeA = P := Option.some.inj hP1
      exact s_storeA hpr hTY hbx hGPm ih act hf hl hRo hEnd hP2 h K
    by_cases q_icmpEq : w % 256 = 46
    · rw [q_icmpEq, tre_icmpEq] at h
      rw [q_icmpEq] at hP1
      obtain rfl : G_icmpEq = P := Option.some.inj hP1
      exact s_icmpEq hpr hTY hbx hGPm ih act hf hl hRo hEnd hP2 h K
    by_cases q_retI : w % 256 = 47
    · rw [q_retI, tre_retI] at h
      rw [q_retI] at hP1
      obtain rfl : G_retI = P := Option.some.inj hP1
      exact s_retI hpr hTY hbx hGPm ih act hf hl hRo hEnd hP2 h K
    by_cases q_dup2 : w % 256 = 48
    · rw [q_dup2, tre_dup2] at h
      rw [q_dup2] at hP1
      obtain rfl : G_dup2 = P := Option.some.inj hP1
      exact s_dup2 hpr hTY hbx hGPm ih act hf hl hRo hEnd hP2 h K
    by_cases q_retA : w % 256 = 49
    · rw [q_retA, tre_retA] at h
      rw [q_retA] at hP1
      obtain rfl : G_retA = P := Option.some.inj hP1
      exact s_retA hpr hTY hbx hGPm ih act hf hl hRo hEnd hP2 h K
    by_cases q_alen : w % 256 = 50
    · rw [q_alen, tre_alen] at h
      rw [q_alen] at hP1
      obtain rfl : G_alen = P := Option.some.inj hP1
      exact s_alen hpr hTY hbx hGPm ih act hf hl hRo hEnd hP2 h K
    by_cases q_iand : w % 256 = 51
    · rw [q_iand, tre_iand] at h
      rw [q_iand] at hP1
      obtain rfl : G_iand = P := Option.some.inj hP1
      exact s_iand hpr hTY hbx hGPm ih act hf hl hRo hEnd hP2 h K
    by_cases q_ishr : w % 256 = 52
    · rw [q_ishr, tre_ishr] at h
      rw [q_ishr] at hP1
      obtain rfl : G_ishr = P := Option.some.inj hP1
      exact s_ishr hpr hTY hbx hGPm ih act hf hl hRo hEnd hP2 h K
    by_cases q_aast : w % 256 = 53
    · rw [q_aast, tre_aast] at h
      rw [q_aast] at hP1
      obtain rfl : G_aast = P := Option.some.inj hP1
      exact s_aast hpr hTY hbx hGPm ih act hf hl hRo hEnd hP2 h K
    by_cases q_switch : w % 256 = 54
    · rw [q_switch, tre_switch] at h
      rw [q_switch] at hP1
      obtain rfl : G_switch = P := Option.some.inj hP1
      exact s_switch hpr hTY hbx hGPm ih act hf hl hRo hEnd hP2 h K
    by_cases q_stop : w % 256 = 55
    · rw [q_stop, tre_stop] at h
      rw [q_stop] at hP1
      obtain rfl : G_stop = P := Option.some.inj hP1
      exact s_stop hpr hTY hbx hGPm ih act hf hl hRo hEnd hP2 h K
    by_cases q_throw : w % 256 = 56
    · rw [q_throw, tre_throw] at h
      rw [q_throw] at hP1
      obtain rfl : G_throw = P := Option.some.inj hP1
      exact s_throw hpr hTY hbx hGPm ih act hf hl hRo hEnd hP2 h K
    by_cases q_bast : w % 256 = 57
    · rw [q_bast, tre_bast] at h
      rw [q_bast] at hP1
      obtain rfl : G_bast = P := Option.some.inj hP1
      exact s_bast hpr hTY hbx hGPm ih act hf hl hRo hEnd hP2 h K
    by_cases q_i2b : w % 256 = 58
    · rw [q_i2b, tre_i2b] at h
      rw [q_i2b] at hP1
      obtain rfl : G_i2b = P := Option.some.inj hP1
      exact s_i2b hpr hTY hbx hGPm ih act hf hl hRo hEnd hP2 h K
    by_cases q_ishl : w % 256 = 59
    · rw [q_ishl, tre_ishl] at h
      rw [q_ishl] at hP1
      obtain rfl : G_ishl = P := Option.some.inj hP1
      exact s_ishl hpr hTY hbx hGPm ih act hf hl hRo hEnd hP2 h K
    by_cases q_icmpLe : w % 256 = 60
    · rw [q_icmpLe, tre_icmpLe] at h
      rw [q_icmpLe] at hP1
      obtain rfl : G_icmpLe = P := Option.some.inj hP1
      exact s_icmpLe hpr hTY hbx hGPm ih act hf hl hRo hEnd hP2 h K
    by_cases q_ifLe : w % 256 = 61
    · rw [q_ifLe, tre_ifLe] at h
      rw [q_ifLe] at hP1
      obtain rfl : G_ifLe = P := Option.some.inj hP1
      exact s_ifLe hpr hTY hbx hGPm ih act hf hl hRo hEnd hP2 h K
    by_cases q_ifnonnull : w % 256 = 62
    · rw [q_ifnonnull, tre_ifnonnull] at h
      rw [q_ifnonnull] at hP1
      obtain rfl : G_ifnonnull = P := Option.some.inj hP1
      exact s_ifnonnull hpr hTY hbx hGPm ih act hf hl hRo hEnd hP2 h K
    by_cases q_pop : w % 256 = 63
    · rw [q_pop, tre_pop] at h
      rw [q_pop] at hP1
      obtain rfl : G_pop = P := Option.some.inj hP1
      exact s_pop hpr hTY hbx hGPm ih act hf hl hRo hEnd hP2 h K
    by_cases q_bald : w % 256 = 64
    · rw [q_bald, tre_bald] at h
      rw [q_bald] at hP1
      obtain rfl : G_bald = P := Option.some.inj hP1
      exact s_bald hpr hTY hbx hGPm ih act hf hl hRo hEnd hP2 h K
    by_cases q_storeD : w % 256 = 65
    · rw [q_storeD, tre_storeD] at h
      rw [q_storeD] at hP1
      obtain rfl : G_storeD = P := Option.some.inj hP1
      exact s_storeD hpr hTY hbx hGPm ih act hf hl hRo hEnd hP2 h K
    by_cases q_labs : w % 256 = 66
    · rw [q_labs, tre_labs] at h
      rw [q_labs] at hP1
      obtain rfl : G_labs = P := Option.some.inj hP1
      exact s_labs hpr hTY hbx hGPm ih act hf hl hRo hEnd hP2 h K
    by_cases q_ifGt : w % 256 = 67
    · rw [q_ifGt, tre_ifGt] at h
      rw [q_ifGt] at hP1
      obtain rfl : G_ifGt = P := Option.some.inj hP1
      exact s_ifGt hpr hTY hbx hGPm ih act hf hl hRo hEnd hP2 h K
    by_cases q_loadF : w % 256 = 68
    · rw [q_loadF, tre_loadF] at h
      rw [q_loadF] at hP1
      obtain rfl : G_loadF = P := Option.some.inj hP1
      exact s_loadF hpr hTY hbx hGPm ih act hf hl hRo hEnd hP2 h K
    by_cases q_fcmpl : w % 256 = 69
    · rw [q_fcmpl, tre_fcmpl] at h
      rw [q_fcmpl] at hP1
      obtain rfl : G_fcmpl = P := Option.some.inj hP1
      exact s_fcmpl hpr hTY hbx hGPm ih act hf hl hRo hEnd hP2 h K
    by_cases q_fdiv : w % 256 = 70
    · rw [q_fdiv, tre_fdiv] at h
      rw [q_fdiv] at hP1
      obtain rfl : G_fdiv = P := Option.some.inj hP1
      exact s_fdiv hpr hTY hbx hGPm ih act hf hl hRo hEnd hP2 h K
    by_cases q_l2f : w % 256 = 71
    · rw [q_l2f, tre_l2f] at h
      rw [q_l2f] at hP1
      obtain rfl : G_l2f = P := Option.some.inj hP1
      exact s_l2f hpr hTY hbx hGPm ih act hf hl hRo hEnd hP2 h K
    by_cases q_i2f : w % 256 = 72
    · rw [q_i2f, tre_i2f] at h
      rw [q_i2f] at hP1
      obtain rfl : G_i2f = P := Option.some.inj hP1
      exact s_i2f hpr hTY hbx hGPm ih act hf hl hRo hEnd hP2 h K
    by_cases q_idiv : w % 256 = 73
    · rw [q_idiv, tre_idiv] at h
      rw [q_idiv] at hP1
      obtain rfl : G_idiv = P := Option.some.inj hP1
      exact s_idiv hpr hTY hbx hGPm ih act hf hl hRo hEnd hP2 h K
    by_cases q_mmax : w % 256 = 74
    · rw [q_mmax, tre_mmax] at h
      rw [q_mmax] at hP1
      obtain rfl : G_mmax = P := Option.some.inj hP1
      exact s_mmax hpr hTY hbx hGPm ih act hf hl hRo hEnd hP2 h K
    by_cases q_ior : w % 256 = 75
    · rw [q_ior, tre_ior] at h
      rw [q_ior] at hP1
      obtain rfl : G_ior = P := Option.some.inj hP1
      exact s_ior hpr hTY hbx hGPm ih act hf hl hRo hEnd hP2 h K
    by_cases q_ineg : w % 256 = 76
    · rw [q_ineg, tre_ineg] at h
      rw [q_ineg] at hP1
      obtain rfl : G_ineg = P := Option.some.inj hP1
      exact s_ineg hpr hTY hbx hGPm ih act hf hl hRo hEnd hP2 h K
    by_cases q_retD : w % 256 = 77
    · rw [q_retD, tre_retD] at h
      rw [q_retD] at hP1
      obtain rfl : G_retD = P := Option.some.inj hP1
      exact s_retD hpr hTY hbx hGPm ih act hf hl hRo hEnd hP2 h K
    by_cases q_acmpeq : w % 256 = 78
    · rw [q_acmpeq, tre_acmpeq] at h
      rw [q_acmpeq] at hP1
      obtain rfl : G_acmpeq = P := Option.some.inj hP1
      exact s_acmpeq hpr hTY hbx hGPm ih act hf hl hRo hEnd hP2 h K
    by_cases q_dupx1 : w % 256 = 79
    · rw [q_dupx1, tre_dupx1] at h
      rw [q_dupx1] at hP1
      obtain rfl : G_dupx1 = P := Option.some.inj hP1
      exact s_dupx1 hpr hTY hbx hGPm ih act hf hl hRo hEnd hP2 h K
    by_cases q_storeF : w % 256 = 80
    · rw [q_storeF, tre_storeF] at h
      rw [q_storeF] at hP1
      obtain rfl : G_storeF = P := Option.some.inj hP1
      exact s_storeF hpr hTY hbx hGPm ih act hf hl hRo hEnd hP2 h K
    by_cases q_fcon : w % 256 = 81
    · rw [q_fcon, tre_fcon] at h
      rw [q_fcon] at hP1
      obtain rfl : G_fcon = P := Option.some.inj hP1
      exact s_fcon hpr hTY hbx hGPm ih act hf hl hRo hEnd hP2 h K
    by_cases q_fcmpg : w % 256 = 82
    · rw [q_fcmpg, tre_fcmpg] at h
      rw [q_fcmpg] at hP1
      obtain rfl : G_fcmpg = P := Option.some.inj hP1
      exact s_fcmpg hpr hTY hbx hGPm ih act hf hl hRo hEnd hP2 h K
    by_cases q_fmul : w % 256 = 83
    · rw [q_fmul, tre_fmul] at h
      rw [q_fmul] at hP1
      obtain rfl : G_fmul = P := Option.some.inj hP1
      exact s_fmul hpr hTY hbx hGPm ih act hf hl hRo hEnd hP2 h K
    by_cases q_fsub : w % 256 = 84
    · rw [q_fsub, tre_fsub] at h
      rw [q_fsub] at hP1
      obtain rfl : G_fsub = P := Option.some.inj hP1
      exact s_fsub hpr hTY hbx hGPm ih act hf hl hRo hEnd hP2 h K
    by_cases q_f2i : w % 256 = 85
    · rw [q_f2i, tre_f2i] at h
      rw [q_f2i] at hP1
      obtain rfl : G_f2i = P := Option.some.inj hP1
      exact s_f2i hpr hTY hbx hGPm ih act hf hl hRo hEnd hP2 h K
    by_cases q_l2d : w % 256 = 86
    · rw [q_l2d, tre_l2d] at h
      rw [q_l2d] at hP1
      obtain rfl : G_l2d = P := Option.some.inj hP1
      exact s_l2d hpr hTY hbx hGPm ih act hf hl hRo hEnd hP2 h K
    by_cases q_ddiv : w % 256 = 87
    · rw [q_ddiv, tre_ddiv] at h
      rw [q_ddiv] at hP1
      obtain rfl : G_ddiv = P := Option.some.inj hP1
      exact s_ddiv hpr hTY hbx hGPm ih act hf hl hRo hEnd hP2 h K
    by_cases q_i2d : w % 256 = 88
    · rw [q_i2d, tre_i2d] at h
      rw [q_i2d] at hP1
      obtain rfl : G_i2d = P := Option.some.inj hP1
      exact s_i2d hpr hTY hbx hGPm ih act hf hl hRo hEnd hP2 h K
    by_cases q_cast : w % 256 = 89
    · rw [q_cast, tre_cast] at h
      rw [q_cast] at hP1
      obtain rfl : G_cast = P := Option.some.inj hP1
      exact s_cast hpr hTY hbx hGPm ih act hf hl hRo hEnd hP2 h K
    by_cases q_dast : w % 256 = 90
    · rw [q_dast, tre_dast] at h
      rw [q_dast] at hP1
      obtain rfl : G_dast = P := Option.some.inj hP1
      exact s_dast hpr hTY hbx hGPm ih act hf hl hRo hEnd hP2 h K
    exfalso
    have hlt : w % 256 < 91 := (List.getElem?_eq_some_iff.mp hP1).1
    have h0 : w % 256 ≠ 0 := fun q => by
      rw [q] at hP1
      obtain rfl : (fun _ _ _ _ _ _ _ _ => False) = P := Option.some.inj hP1
      exact hP2
    omega

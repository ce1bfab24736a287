/-! The engine's runs are sound: by induction on their length. -/
section SOUND
variable {ss : SS} {TBL : List Cond} {g0 : GG} {cl : List vw_C} {ft : Nat → Nat → Nat} {bx bl : Nat} {xs : Nat → Int32} {mdl : Nat → Option MD} {l : Launch} {n : Nat} {wp : va_W} {f lam pr : Nat} {d : MD} {p : Program} {e : Env} {R : Room} {s : State} {m : MethodId} {args : Array Value} {below : List Frame} {meth : Method} {c : Code} {Q : State → Prop} {kc0 ks0 pc w L : Nat} {h0 : HP} {S : Nat} {res : RES}
set_option maxHeartbeats 1000000 in
theorem s_const (hpr : ∀ w ∈ TBL, pres w = true) (hTY : ∀ c : Nat, 32 ≤ c → c ≤ 41 → ∃ cA : ClassId, g0.2.1[c - 32]? = some (cA, aty c)) (hbx : ∀ (ws : va_W) (j : Nat), j < bl → VR g0 ws (pget bx j) (.int (xs j))) (hGPm : ∀ (u : Nat) (d : MD), mdl u = some d → GPd ss TBL cl ft mdl d (prOf u)) (ih : RS ss TBL g0 cl ft bx bl xs (GPd ss TBL cl ft mdl) l n)
    (act : Act ss TBL (gp g0 wp) cl bl xs d p l s m args meth c) (hf : f ≤ R.frames) (hl : lam ≤ R.locals) (hRo : res.2.2.2.1.2.2.2.2.2.2.1 ≤ R.cells + kc0 ∧ res.2.2.2.1.2.2.2.2.2.2.2 ≤ R.slots + ks0) (hEnd : EndOK ss TBL (gp g0 wp) cl ft d p l e R s m args below meth c Q kc0 ks0 f lam res) (hP2 : G_const ss TBL cl ft mdl d pc w) (h : o_const bx bl f lam pr pc w L h0 (run bx bl n) (run bx bl n f lam pr) S = some res) (K : ∀ pc' L' h' S', run bx bl n f lam pr pc' L' h' S' = some res → Wp (gp g0 wp) cl ft p l e R s m args below meth c Q d.2.2.1 kc0 ks0 res pc' L' h' S') : Wp (gp g0 wp) cl ft p l e R s m args below meth c Q d.2.2.1 kc0 ks0 res pc L h0 S := by
    obtain ⟨hx, hb, hr, hml, hown, hts, hK, hE, hlocks, hnm, htab, htr⟩ := id act
    have hAg : ∀ q, s.heap.size ≤ q → AA (gp g0 wp) q := fun q hq => Nat.le_trans hE.2.2.2.2.2.2.2.2.2.2 hq
    rcases hP2 with ⟨i, hd, hn, hv⟩ | ⟨i, hd, hn, hv⟩ | ⟨i, hd, hn, hv⟩ | ⟨i, hd, hn, hv⟩ | ⟨hd, hn, hv⟩ | ⟨hd, hn, hv⟩ | ⟨hd, hn, hv⟩ | ⟨i, v, hd, hn, hc, hv⟩ | ⟨i, v, hd, hn, hc, hv⟩ | ⟨i, v, hd, hn, hc, hv⟩ | ⟨i, tx, hd, hn, hc, hv⟩ | ⟨i, hd, hn, hc, hv⟩
    · exact q_push (fun ws => by rw [hv]; exact VR_mkI _ _ _) (fun _ kk => lv_iconst hx hb hd rfl (by rw [hn] at kk; exact kk)) h K
    · exact q_push (fun ws => by rw [hv]; exact VR_mkI _ _ _) (fun _ kk => lv_bipush hx hb hd rfl (by rw [hn] at kk; exact kk)) h K
    · exact q_push (fun ws => by rw [hv]; exact VR_mkI _ _ _) (fun _ kk => lv_sipush hx hb hd rfl (by rw [hn] at kk; exact kk)) h K
    · exact q_push (fun ws => by rw [hv]; exact VR_mkL _ _ _) (fun _ kk => lv_lconst hx hb hd rfl (by rw [hn] at kk; exact kk)) h K
    · exact q_push (fun ws => by rw [hv]; exact VR_null _ _) (fun _ kk => lv_null hx hb hd (by rw [hn] at kk; exact kk)) h K
    · exact q_push (v := .float FP.fconst0) (fun ws => by rw [hv]; exact VR_flt _ _ FP.fconst0) (fun _ kk => lv_fconst0 hx hb hd (by rw [hn] at kk; exact kk)) h K
    · exact q_push (v := .double FP.dconst0) (fun ws => by rw [hv]; exact VR_dbl _ _ FP.dconst0) (fun _ kk => lv_dconst0 hx hb hd (by rw [hn] at kk; exact kk)) h K
    · exact q_push (fun ws => by rw [hv]; exact VR_mkI _ _ _) (fun _ kk => lv_ldc hx hb hown (hts _ hc) hd (by rw [hn] at kk; exact kk)) h K
    · exact q_push (fun ws => by rw [hv]; exact VR_mkI _ _ _) (fun _ kk => lv_ldcw hx hb hown (hts _ hc) hd (by rw [hn] at kk; exact kk)) h K
    · exact q_push (fun ws => by rw [hv]; exact VR_mkL _ _ _) (fun _ kk => lv_ldc2 hx hb hown (hts _ hc) hd (by rw [hn] at kk; exact kk)) h K
    · obtain ⟨sa, hsa⟩ := hE.str _ hc
      exact q_push (v := .ref sa) (fun ws => by rw [hv]; exact VR_any _ _ _) (fun _ kk => rx_lds hx hb hown hsa hd (by rw [hn] at kk; exact kk)) h K
    · exact q_push (v := .ref _) (fun ws => by rw [hv]; exact VR_x1 _ _) (fun hSS kk => va_gets hx hb hE.2.2.1 hSS hown (hts _ hc) (fun _ q => q) hd (by rw [hn] at kk; exact kk)) h K
set_option maxHeartbeats 1000000 in
theorem s_loadI (hpr : ∀ w ∈ TBL, pres w = true) (hTY : ∀ c : Nat, 32 ≤ c → c ≤ 41 → ∃ cA : ClassId, g0.2.1[c - 32]? = some (cA, aty c)) (hbx : ∀ (ws : va_W) (j : Nat), j < bl → VR g0 ws (pget bx j) (.int (xs j))) (hGPm : ∀ (u : Nat) (d : MD), mdl u = some d → GPd ss TBL cl ft mdl d (prOf u)) (ih : RS ss TBL g0 cl ft bx bl xs (GPd ss TBL cl ft mdl) l n)
    (act : Act ss TBL (gp g0 wp) cl bl xs d p l s m args meth c) (hf : f ≤ R.frames) (hl : lam ≤ R.locals) (hRo : res.2.2.2.1.2.2.2.2.2.2.1 ≤ R.cells + kc0 ∧ res.2.2.2.1.2.2.2.2.2.2.2 ≤ R.slots + ks0) (hEnd : EndOK ss TBL (gp g0 wp) cl ft d p l e R s m args below meth c Q kc0 ks0 f lam res) (hP2 : G_loadI ss TBL cl ft mdl d pc w) (h : o_loadI bx bl f lam pr pc w L h0 (run bx bl n) (run bx bl n f lam pr) S = some res) (K : ∀ pc' L' h' S', run bx bl n f lam pr pc' L' h' S' = some res → Wp (gp g0 wp) cl ft p l e R s m args below meth c Q d.2.2.1 kc0 ks0 res pc' L' h' S') : Wp (gp g0 wp) cl ft p l e R s m args below meth c Q d.2.2.1 kc0 ks0 res pc L h0 S := by
    obtain ⟨hx, hb, hr, hml, hown, hts, hK, hE, hlocks, hnm, htab, htr⟩ := id act
    have hAg : ∀ q, s.heap.size ≤ q → AA (gp g0 wp) q := fun q hq => Nat.le_trans hE.2.2.2.2.2.2.2.2.2.2 hq
    refine q_load (by decide +kernel) (fun hv ht hl9 kk => ?_) h K
    obtain ⟨i9, rfl, -⟩ := hv.int (isT_t ht)
    rcases hP2 with ⟨k9, hd, hk9, hn⟩ | ⟨hd, hn⟩
    · exact lv_iload_n hx hb hd hk9 hl9 (by rw [hn] at kk; exact kk)
    · exact lv_iload hx hb hd hl9 (by rw [hn] at kk; exact kk)
set_option maxHeartbeats 1000000 in
theorem s_loadA (hpr : ∀ w ∈ TBL, pres w = true) (hTY : ∀ c : Nat, 32 ≤ c → c ≤ 41 → ∃ cA : ClassId, g0.2.1[c - 32]? = some (cA, aty c)) (hbx : ∀ (ws : va_W) (j : Nat), j < bl → VR g0 ws (pget bx j) (.int (xs j))) (hGPm : ∀ (u : Nat) (d : MD), mdl u = some d → GPd ss TBL cl ft mdl d (prOf u)) (ih : RS ss TBL g0 cl ft bx bl xs (GPd ss TBL cl ft mdl) l n)
    (act : Act ss TBL (gp g0 wp) cl bl xs d p l s m args meth c) (hf : f ≤ R.frames) (hl : lam ≤ R.locals) (hRo : res.2.2.2.1.2.2.2.2.2.2.1 ≤ R.cells + kc0 ∧ res.2.2.2.1.2.2.2.2.2.2.2 ≤ R.slots + ks0) (hEnd : EndOK ss TBL (gp g0 wp) cl ft d p l e R s m args below meth c Q kc0 ks0 f lam res) (hP2 : G_loadA ss TBL cl ft mdl d pc w) (h : o_loadA bx bl f lam pr pc w L h0 (run bx bl n) (run bx bl n f lam pr) S = some res) (K : ∀ pc' L' h' S', run bx bl n f lam pr pc' L' h' S' = some res → Wp (gp g0 wp) cl ft p l e R s m args below meth c Q d.2.2.1 kc0 ks0 res pc' L' h' S') : Wp (gp g0 wp) cl ft p l e R s m args below meth c Q d.2.2.1 kc0 ks0 res pc L h0 S := by
    obtain ⟨hx, hb, hr, hml, hown, hts, hK, hE, hlocks, hnm, htab, htr⟩ := id act
    have hAg : ∀ q, s.heap.size ≤ q → AA (gp g0 wp) q := fun q hq => Nat.le_trans hE.2.2.2.2.2.2.2.2.2.2 hq
    refine q_load (by decide +kernel) (fun hv ht hl9 kk => ?_) h K
    rcases hv.refs ht with rfl | ⟨a9, rfl⟩
    · rcases hP2 with ⟨k9, hd, hk9, hn⟩ | ⟨hd, hn⟩
      · exact lv_aload_nN hx hb hd hk9 hl9 (by rw [hn] at kk; exact kk)
      · exact lv_aloadN hx hb hd hl9 (by rw [hn] at kk; exact kk)
    · rcases hP2 with ⟨k9, hd, hk9, hn⟩ | ⟨hd, hn⟩
      · exact lv_aload_n hx hb hd hk9 hl9 (by rw [hn] at kk; exact kk)
      · exact lv_aload hx hb hd hl9 (by rw [hn] at kk; exact kk)
set_option maxHeartbeats 1000000 in
theorem s_getf (hpr : ∀ w ∈ TBL, pres w = true) (hTY : ∀ c : Nat, 32 ≤ c → c ≤ 41 → ∃ cA : ClassId, g0.2.1[c - 32]? = some (cA, aty c)) (hbx : ∀ (ws : va_W) (j : Nat), j < bl → VR g0 ws (pget bx j) (.int (xs j))) (hGPm : ∀ (u : Nat) (d : MD), mdl u = some d → GPd ss TBL cl ft mdl d (prOf u)) (ih : RS ss TBL g0 cl ft bx bl xs (GPd ss TBL cl ft mdl) l n)
    (act : Act ss TBL (gp g0 wp) cl bl xs d p l s m args meth c) (hf : f ≤ R.frames) (hl : lam ≤ R.locals) (hRo : res.2.2.2.1.2.2.2.2.2.2.1 ≤ R.cells + kc0 ∧ res.2.2.2.1.2.2.2.2.2.2.2 ≤ R.slots + ks0) (hEnd : EndOK ss TBL (gp g0 wp) cl ft d p l e R s m args below meth c Q kc0 ks0 f lam res) (hP2 : G_getf ss TBL cl ft mdl d pc w) (h : o_getf bx bl f lam pr pc w L h0 (run bx bl n) (run bx bl n f lam pr) S = some res) (K : ∀ pc' L' h' S', run bx bl n f lam pr pc' L' h' S' = some res → Wp (gp g0 wp) cl ft p l e R s m args below meth c Q d.2.2.1 kc0 ks0 res pc' L' h' S') : Wp (gp g0 wp) cl ft p l e R s m args below meth c Q d.2.2.1 kc0 ks0 res pc L h0 S := by
    obtain ⟨hx, hb, hr, hml, hown, hts, hK, hE, hlocks, hnm, htab, htr⟩ := id act
    have hAg : ∀ q, s.heap.size ≤ q → AA (gp g0 wp) q := fun q hq => Nat.le_trans hE.2.2.2.2.2.2.2.2.2.2 hq
    obtain ⟨C, ref, T, N, index, hd, hn, x1, x2, x3, x4, x5, x6, x7⟩ := hP2
    exact q_getf hx hb hts x5 hown hK x1 x2 x3 x4 (hts _ x6) (fun y hy => x7.elim (fun q => q ▸ hy) (fun q => u_same (hts _ q) y hy)) hd hn h K
set_option maxHeartbeats 1000000 in
theorem s_last (hpr : ∀ w ∈ TBL, pres w = true) (hTY : ∀ c : Nat, 32 ≤ c → c ≤ 41 → ∃ cA : ClassId, g0.2.1[c - 32]? = some (cA, aty c)) (hbx : ∀ (ws : va_W) (j : Nat), j < bl → VR g0 ws (pget bx j) (.int (xs j))) (hGPm : ∀ (u : Nat) (d : MD), mdl u = some d → GPd ss TBL cl ft mdl d (prOf u)) (ih : RS ss TBL g0 cl ft bx bl xs (GPd ss TBL cl ft mdl) l n)
    (act : Act ss TBL (gp g0 wp) cl bl xs d p l s m args meth c) (hf : f ≤ R.frames) (hl : lam ≤ R.locals) (hRo : res.2.2.2.1.2.2.2.2.2.2.1 ≤ R.cells + kc0 ∧ res.2.2.2.1.2.2.2.2.2.2.2 ≤ R.slots + ks0) (hEnd : EndOK ss TBL (gp g0 wp) cl ft d p l e R s m args below meth c Q kc0 ks0 f lam res) (hP2 : G_last ss TBL cl ft mdl d pc w) (h : o_last bx bl f lam pr pc w L h0 (run bx bl n) (run bx bl n f lam pr) S = some res) (K : ∀ pc' L' h' S', run bx bl n f lam pr pc' L' h' S' = some res → Wp (gp g0 wp) cl ft p l e R s m args below meth c Q d.2.2.1 kc0 ks0 res pc' L' h' S') : Wp (gp g0 wp) cl ft p l e R s m args below meth c Q d.2.2.1 kc0 ks0 res pc L h0 S := by
    obtain ⟨hx, hb, hr, hml, hown, hts, hK, hE, hlocks, hnm, htab, htr⟩ := id act
    have hAg : ∀ q, s.heap.size ≤ q → AA (gp g0 wp) q := fun q hq => Nat.le_trans hE.2.2.2.2.2.2.2.2.2.2 hq
    obtain ⟨hd, hn⟩ := hP2
    obtain ⟨ht, h⟩ := br_s h
    exact q_last hx hb hK hd hn (isT_t ht) h K
set_option maxHeartbeats 1000000 in
theorem s_loadL (hpr : ∀ w ∈ TBL, pres w = true) (hTY : ∀ c : Nat, 32 ≤ c → c ≤ 41 → ∃ cA : ClassId, g0.2.1[c - 32]? = some (cA, aty c)) (hbx : ∀ (ws : va_W) (j : Nat), j < bl → VR g0 ws (pget bx j) (.int (xs j))) (hGPm : ∀ (u : Nat) (d : MD), mdl u = some d → GPd ss TBL cl ft mdl d (prOf u)) (ih : RS ss TBL g0 cl ft bx bl xs (GPd ss TBL cl ft mdl) l n)
    (act : Act ss TBL (gp g0 wp) cl bl xs d p l s m args meth c) (hf : f ≤ R.frames) (hl : lam ≤ R.locals) (hRo : res.2.2.2.1.2.2.2.2.2.2.1 ≤ R.cells + kc0 ∧ res.2.2.2.1.2.2.2.2.2.2.2 ≤ R.slots + ks0) (hEnd : EndOK ss TBL (gp g0 wp) cl ft d p l e R s m args below meth c Q kc0 ks0 f lam res) (hP2 : G_loadL ss TBL cl ft mdl d pc w) (h : o_loadL bx bl f lam pr pc w L h0 (run bx bl n) (run bx bl n f lam pr) S = some res) (K : ∀ pc' L' h' S', run bx bl n f lam pr pc' L' h' S' = some res → Wp (gp g0 wp) cl ft p l e R s m args below meth c Q d.2.2.1 kc0 ks0 res pc' L' h' S') : Wp (gp g0 wp) cl ft p l e R s m args below meth c Q d.2.2.1 kc0 ks0 res pc L h0 S := by
    obtain ⟨hx, hb, hr, hml, hown, hts, hK, hE, hlocks, hnm, htab, htr⟩ := id act
    have hAg : ∀ q, s.heap.size ≤ q → AA (gp g0 wp) q := fun q hq => Nat.le_trans hE.2.2.2.2.2.2.2.2.2.2 hq
    refine q_load (by decide +kernel) (fun hv ht hl9 kk => ?_) h K
    obtain ⟨i9, rfl, -⟩ := hv.long (isT_t ht)
    rcases hP2 with ⟨k9, hd, hk9, hn⟩ | ⟨hd, hn⟩
    · exact lv_lload_n hx hb hd hk9 hl9 (by rw [hn] at kk; exact kk)
    · exact lv_lload hx hb hd hl9 (by rw [hn] at kk; exact kk)
set_option maxHeartbeats 1000000 in
theorem s_goto (hpr : ∀ w ∈ TBL, pres w = true) (hTY : ∀ c : Nat, 32 ≤ c → c ≤ 41 → ∃ cA : ClassId, g0.2.1[c - 32]? = some (cA, aty c)) (hbx : ∀ (ws : va_W) (j : Nat), j < bl → VR g0 ws (pget bx j) (.int (xs j))) (hGPm : ∀ (u : Nat) (d : MD), mdl u = some d → GPd ss TBL cl ft mdl d (prOf u)) (ih : RS ss TBL g0 cl ft bx bl xs (GPd ss TBL cl ft mdl) l n)
    (act : Act ss TBL (gp g0 wp) cl bl xs d p l s m args meth c) (hf : f ≤ R.frames) (hl : lam ≤ R.locals) (hRo : res.2.2.2.1.2.2.2.2.2.2.1 ≤ R.cells + kc0 ∧ res.2.2.2.1.2.2.2.2.2.2.2 ≤ R.slots + ks0) (hEnd : EndOK ss TBL (gp g0 wp) cl ft d p l e R s m args below meth c Q kc0 ks0 f lam res) (hP2 : G_goto ss TBL cl ft mdl d pc w) (h : o_goto bx bl f lam pr pc w L h0 (run bx bl n) (run bx bl n f lam pr) S = some res) (K : ∀ pc' L' h' S', run bx bl n f lam pr pc' L' h' S' = some res → Wp (gp g0 wp) cl ft p l e R s m args below meth c Q d.2.2.1 kc0 ks0 res pc' L' h' S') : Wp (gp g0 wp) cl ft p l e R s m args below meth c Q d.2.2.1 kc0 ks0 res pc L h0 S := by
    obtain ⟨hx, hb, hr, hml, hown, hts, hK, hE, hlocks, hnm, htab, htr⟩ := id act
    have hAg : ∀ q, s.heap.size ≤ q → AA (gp g0 wp) q := fun q hq => Nat.le_trans hE.2.2.2.2.2.2.2.2.2.2 hq
    obtain ⟨off, hd, ht⟩ := hP2
    exact q_goto (fun kk => lv_goto hx hb hd ht kk) h K
set_option maxHeartbeats 1000000 in
theorem s_icmpGe (hpr : ∀ w ∈ TBL, pres w = true) (hTY : ∀ c : Nat, 32 ≤ c → c ≤ 41 → ∃ cA : ClassId, g0.2.1[c - 32]? = some (cA, aty c)) (hbx : ∀ (ws : va_W) (j : Nat), j < bl → VR g0 ws (pget bx j) (.int (xs j))) (hGPm : ∀ (u : Nat) (d : MD), mdl u = some d → GPd ss TBL cl ft mdl d (prOf u)) (ih : RS ss TBL g0 cl ft bx bl xs (GPd ss TBL cl ft mdl) l n)
    (act : Act ss TBL (gp g0 wp) cl bl xs d p l s m args meth c) (hf : f ≤ R.frames) (hl : lam ≤ R.locals) (hRo : res.2.2.2.1.2.2.2.2.2.2.1 ≤ R.cells + kc0 ∧ res.2.2.2.1.2.2.2.2.2.2.2 ≤ R.slots + ks0) (hEnd : EndOK ss TBL (gp g0 wp) cl ft d p l e R s m args below meth c Q kc0 ks0 f lam res) (hP2 : G_icmpGe ss TBL cl ft mdl d pc w) (h : o_icmpGe bx bl f lam pr pc w L h0 (run bx bl n) (run bx bl n f lam pr) S = some res) (K : ∀ pc' L' h' S', run bx bl n f lam pr pc' L' h' S' = some res → Wp (gp g0 wp) cl ft p l e R s m args below meth c Q d.2.2.1 kc0 ks0 res pc' L' h' S') : Wp (gp g0 wp) cl ft p l e R s m args below meth c Q d.2.2.1 kc0 ks0 res pc L h0 S := by
    obtain ⟨hx, hb, hr, hml, hown, hts, hK, hE, hlocks, hnm, htab, htr⟩ := id act
    have hAg : ∀ q, s.heap.size ≤ q → AA (gp g0 wp) q := fun q hq => Nat.le_trans hE.2.2.2.2.2.2.2.2.2.2 hq
    obtain ⟨off, hd, hn, ht⟩ := hP2
    exact q_icm (P := fun x y => y ≤ x) ge1_t ge0_t (fun k1 k2 => lv_icmp_ge hx hb hd ht k1 (by rw [hn] at k2; exact k2)) h K
set_option maxHeartbeats 1000000 in
theorem s_iinc (hpr : ∀ w ∈ TBL, pres w = true) (hTY : ∀ c : Nat, 32 ≤ c → c ≤ 41 → ∃ cA : ClassId, g0.2.1[c - 32]? = some (cA, aty c)) (hbx : ∀ (ws : va_W) (j : Nat), j < bl → VR g0 ws (pget bx j) (.int (xs j))) (hGPm : ∀ (u : Nat) (d : MD), mdl u = some d → GPd ss TBL cl ft mdl d (prOf u)) (ih : RS ss TBL g0 cl ft bx bl xs (GPd ss TBL cl ft mdl) l n)
    (act : Act ss TBL (gp g0 wp) cl bl xs d p l s m args meth c) (hf : f ≤ R.frames) (hl : lam ≤ R.locals) (hRo : res.2.2.2.1.2.2.2.2.2.2.1 ≤ R.cells + kc0 ∧ res.2.2.2.1.2.2.2.2.2.2.2 ≤ R.slots + ks0) (hEnd : EndOK ss TBL (gp g0 wp) cl ft d p l e R s m args below meth c Q kc0 ks0 f lam res) (hP2 : G_iinc ss TBL cl ft mdl d pc w) (h : o_iinc bx bl f lam pr pc w L h0 (run bx bl n) (run bx bl n f lam pr) S = some res) (K : ∀ pc' L' h' S', run bx bl n f lam pr pc' L' h' S' = some res → Wp (gp g0 wp) cl ft p l e R s m args below meth c Q d.2.2.1 kc0 ks0 res pc' L' h' S') : Wp (gp g0 wp) cl ft p l e R s m args below meth c Q d.2.2.1 kc0 ks0 res pc L h0 S := by
    obtain ⟨hx, hb, hr, hml, hown, hts, hK, hE, hlocks, hnm, htab, htr⟩ := id act
    have hAg : ∀ q, s.heap.size ≤ q → AA (gp g0 wp) q := fun q hq => Nat.le_trans hE.2.2.2.2.2.2.2.2.2.2 hq
    obtain ⟨hlt, i9, hd, hn, hi⟩ := hP2
    exact q_iinc rfl hi (fun hl9 hk9 hv9 kk => lv_iinc hx hb hd hl9 hk9 hv9 hlt rfl (by rw [hn] at kk; exact kk)) h K
set_option maxHeartbeats 1000000 in
theorem s_iadd (hpr : ∀ w ∈ TBL, pres w = true) (hTY : ∀ c : Nat, 32 ≤ c → c ≤ 41 → ∃ cA : ClassId, g0.2.1[c - 32]? = some (cA, aty c)) (hbx : ∀ (ws : va_W) (j : Nat), j < bl → VR g0 ws (pget bx j) (.int (xs j))) (hGPm : ∀ (u : Nat) (d : MD), mdl u = some d → GPd ss TBL cl ft mdl d (prOf u)) (ih : RS ss TBL g0 cl ft bx bl xs (GPd ss TBL cl ft mdl) l n)
    (act : Act ss TBL (gp g0 wp) cl bl xs d p l s m args meth c) (hf : f ≤ R.frames) (hl : lam ≤ R.locals) (hRo : res.2.2.2.1.2.2.2.2.2.2.1 ≤ R.cells + kc0 ∧ res.2.2.2.1.2.2.2.2.2.2.2 ≤ R.slots + ks0) (hEnd : EndOK ss TBL (gp g0 wp) cl ft d p l e R s m args below meth c Q kc0 ks0 f lam res) (hP2 : G_iadd ss TBL cl ft mdl d pc w) (h : o_iadd bx bl f lam pr pc w L h0 (run bx bl n) (run bx bl n f lam pr) S = some res) (K : ∀ pc' L' h' S', run bx bl n f lam pr pc' L' h' S' = some res → Wp (gp g0 wp) cl ft p l e R s m args below meth c Q d.2.2.1 kc0 ks0 res pc' L' h' S') : Wp (gp g0 wp) cl ft p l e R s m args below meth c Q d.2.2.1 kc0 ks0 res pc L h0 S := by
    obtain ⟨hx, hb, hr, hml, hown, hts, hK, hE, hlocks, hnm, htab, htr⟩ := id act
    have hAg : ∀ q, s.heap.size ≤ q → AA (gp g0 wp) q := fun q hq => Nat.le_trans hE.2.2.2.2.2.2.2.2.2.2 hq
    obtain ⟨hd, hn⟩ := hP2
    exact q_bin iEx_add (fun kk => lv_iadd hx hb hd (by rw [hn] at kk; exact kk)) h K
set_option maxHeartbeats 1000000 in
theorem s_storeL (hpr : ∀ w ∈ TBL, pres w = true) (hTY : ∀ c : Nat, 32 ≤ c → c ≤ 41 → ∃ cA : ClassId, g0.2.1[c - 32]? = some (cA, aty c)) (hbx : ∀ (ws : va_W) (j : Nat), j < bl → VR g0 ws (pget bx j) (.int (xs j))) (hGPm : ∀ (u : Nat) (d : MD), mdl u = some d → GPd ss TBL cl ft mdl d (prOf u)) (ih : RS ss TBL g0 cl ft bx bl xs (GPd ss TBL cl ft mdl) l n)
    (act : Act ss TBL (gp g0 wp) cl bl xs d p l s m args meth c) (hf : f ≤ R.frames) (hl : lam ≤ R.locals) (hRo : res.2.2.2.1.2.2.2.2.2.2.1 ≤ R.cells + kc0 ∧ res.2.2.2.1.2.2.2.2.2.2.2 ≤ R.slots + ks0) (hEnd : EndOK ss TBL (gp g0 wp) cl ft d p l e R s m args below meth c Q kc0 ks0 f lam res) (hP2 : G_storeL ss TBL cl ft mdl d pc w) (h : o_storeL bx bl f lam pr pc w L h0 (run bx bl n) (run bx bl n f lam pr) S = some res) (K : ∀ pc' L' h' S', run bx bl n f lam pr pc' L' h' S' = some res → Wp (gp g0 wp) cl ft p l e R s m args below meth c Q d.2.2.1 kc0 ks0 res pc' L' h' S') : Wp (gp g0 wp) cl ft p l e R s m args below meth c Q d.2.2.1 kc0 ks0 res pc L h0 S := by
    obtain ⟨hx, hb, hr, hml, hown, hts, hK, hE, hlocks, hnm, htab, htr⟩ := id act
    have hAg : ∀ q, s.heap.size ≤ q → AA (gp g0 wp) q := fun q hq => Nat.le_trans hE.2.2.2.2.2.2.2.2.2.2 hq
    obtain ⟨hlt, hP2⟩ := hP2
    obtain ⟨ht, h⟩ := br_s h
    refine q_store2 (tn1 ht (by decide)) (fun hv hl9 kk => ?_) h K
    obtain ⟨i9, rfl, -⟩ := hv.long (isT_t ht)
    rcases hP2 with ⟨k9, hd, hk9, hn⟩ | ⟨hd, hn⟩
    · exact lv_lstore_n hx hb hd hk9 hl9 hlt rfl (by rw [hn] at kk; exact kk)
    · exact lv_lstore hx hb hd hl9 hlt rfl (by rw [hn] at kk; exact kk)
set_option maxHeartbeats 1000000 in
theorem s_lcmp (hpr : ∀ w ∈ TBL, pres w = true) (hTY : ∀ c : Nat, 32 ≤ c → c ≤ 41 → ∃ cA : ClassId, g0.2.1[c - 32]? = some (cA, aty c)) (hbx : ∀ (ws : va_W) (j : Nat), j < bl → VR g0 ws (pget bx j) (.int (xs j))) (hGPm : ∀ (u : Nat) (d : MD), mdl u = some d → GPd ss TBL cl ft mdl d (prOf u)) (ih : RS ss TBL g0 cl ft bx bl xs (GPd ss TBL cl ft mdl) l n)
    (act : Act ss TBL (gp g0 wp) cl bl xs d p l s m args meth c) (hf : f ≤ R.frames) (hl : lam ≤ R.locals) (hRo : res.2.2.2.1.2.2.2.2.2.2.1 ≤ R.cells + kc0 ∧ res.2.2.2.1.2.2.2.2.2.2.2 ≤ R.slots + ks0) (hEnd : EndOK ss TBL (gp g0 wp) cl ft d p l e R s m args below meth c Q kc0 ks0 f lam res) (hP2 : G_lcmp ss TBL cl ft mdl d pc w) (h : o_lcmp bx bl f lam pr pc w L h0 (run bx bl n) (run bx bl n f lam pr) S = some res) (K : ∀ pc' L' h' S', run bx bl n f lam pr pc' L' h' S' = some res → Wp (gp g0 wp) cl ft p l e R s m args below meth c Q d.2.2.1 kc0 ks0 res pc' L' h' S') : Wp (gp g0 wp) cl ft p l e R s m args below meth c Q d.2.2.1 kc0 ks0 res pc L h0 S := by
    obtain ⟨hx, hb, hr, hml, hown, hts, hK, hE, hlocks, hnm, htab, htr⟩ := id act
    have hAg : ∀ q, s.heap.size ≤ q → AA (gp g0 wp) q := fun q hq => Nat.le_trans hE.2.2.2.2.2.2.2.2.2.2 hq
    obtain ⟨hd, hn⟩ := hP2
    exact q_lcmp (fun kk => W.lcmp hx hb hd (by rw [hn] at kk; exact kk)) h K
set_option maxHeartbeats 1000000 in
theorem s_lald (hpr : ∀ w ∈ TBL, pres w = true) (hTY : ∀ c : Nat, 32 ≤ c → c ≤ 41 → ∃ cA : ClassId, g0.2.1[c - 32]? = some (cA, aty c)) (hbx : ∀ (ws : va_W) (j : Nat), j < bl → VR g0 ws (pget bx j) (.int (xs j))) (hGPm : ∀ (u : Nat) (d : MD), mdl u = some d → GPd ss TBL cl ft mdl d (prOf u)) (ih : RS ss TBL g0 cl ft bx bl xs (GPd ss TBL cl ft mdl) l n)
    (act : Act ss TBL (gp g0 wp) cl bl xs d p l s m args meth c) (hf : f ≤ R.frames) (hl : lam ≤ R.locals) (hRo : res.2.2.2.1.2.2.2.2.2.2.1 ≤ R.cells + kc0 ∧ res.2.2.2.1.2.2.2.2.2.2.2 ≤ R.slots + ks0) (hEnd : EndOK ss TBL (gp g0 wp) cl ft d p l e R s m args below meth c Q kc0 ks0 f lam res) (hP2 : G_lald ss TBL cl ft mdl d pc w) (h : o_lald bx bl f lam pr pc w L h0 (run bx bl n) (run bx bl n f lam pr) S = some res) (K : ∀ pc' L' h' S', run bx bl n f lam pr pc' L' h' S' = some res → Wp (gp g0 wp) cl ft p l e R s m args below meth c Q d.2.2.1 kc0 ks0 res pc' L' h' S') : Wp (gp g0 wp) cl ft p l e R s m args below meth c Q d.2.2.1 kc0 ks0 res pc L h0 S := by
    obtain ⟨hx, hb, hr, hml, hown, hts, hK, hE, hlocks, hnm, htab, htr⟩ := id act
    have hAg : ∀ q, s.heap.size ≤ q → AA (gp g0 wp) q := fun q hq => Nat.le_trans hE.2.2.2.2.2.2.2.2.2.2 hq
    obtain ⟨hd, hn⟩ := hP2
    exact q_lald hx hb hK hd hn h K
set_option maxHeartbeats 1000000 in
theorem s_ifEq (hpr : ∀ w ∈ TBL, pres w = true) (hTY : ∀ c : Nat, 32 ≤ c → c ≤ 41 → ∃ cA : ClassId, g0.2.1[c - 32]? = some (cA, aty c)) (hbx : ∀ (ws : va_W) (j : Nat), j < bl → VR g0 ws (pget bx j) (.int (xs j))) (hGPm : ∀ (u : Nat) (d : MD), mdl u = some d → GPd ss TBL cl ft mdl d (prOf u)) (ih : RS ss TBL g0 cl ft bx bl xs (GPd ss TBL cl ft mdl) l n)
    (act : Act ss TBL (gp g0 wp) cl bl xs d p l s m args meth c) (hf : f ≤ R.frames) (hl : lam ≤ R.locals) (hRo : res.2.2.2.1.2.2.2.2.2.2.1 ≤ R.cells + kc0 ∧ res.2.2.2.1.2.2.2.2.2.2.2 ≤ R.slots + ks0) (hEnd : EndOK ss TBL (gp g0 wp) cl ft d p l e R s m args below meth c Q kc0 ks0 f lam res) (hP2 : G_ifEq ss TBL cl ft mdl d pc w) (h : o_ifEq bx bl f lam pr pc w L h0 (run bx bl n) (run bx bl n f lam pr) S = some res) (K : ∀ pc' L' h' S', run bx bl n f lam pr pc' L' h' S' = some res → Wp (gp g0 wp) cl ft p l e R s m args below meth c Q d.2.2.1 kc0 ks0 res pc' L' h' S') : Wp (gp g0 wp) cl ft p l e R s m args below meth c Q d.2.2.1 kc0 ks0 res pc L h0 S := by
    obtain ⟨hx, hb, hr, hml, hown, hts, hK, hE, hlocks, hnm, htab, htr⟩ := id act
    have hAg : ∀ q, s.heap.size ≤ q → AA (gp g0 wp) q := fun q hq => Nat.le_trans hE.2.2.2.2.2.2.2.2.2.2 hq
    obtain ⟨off, hd, hn, ht⟩ := hP2
    exact q_ifm (P := fun x y => x = y) eq1_t eq0_t (fun k1 k2 => lv_if_eq hx hb hd ht k1 (by rw [hn] at k2; exact k2)) h K
set_option maxHeartbeats 1000000 in
theorem s_call (hpr : ∀ w ∈ TBL, pres w = true) (hTY : ∀ c : Nat, 32 ≤ c → c ≤ 41 → ∃ cA : ClassId, g0.2.1[c - 32]? = some (cA, aty c)) (hbx : ∀ (ws : va_W) (j : Nat), j < bl → VR g0 ws (pget bx j) (.int (xs j))) (hGPm : ∀ (u : Nat) (d : MD), mdl u = some d → GPd ss TBL cl ft mdl d (prOf u)) (ih : RS ss TBL g0 cl ft bx bl xs (GPd ss TBL cl ft mdl) l n)
    (act : Act ss TBL (gp g0 wp) cl bl xs d p l s m args meth c) (hf : f ≤ R.frames) (hl : lam ≤ R.locals) (hRo : res.2.2.2.1.2.2.2.2.2.2.1 ≤ R.cells + kc0 ∧ res.2.2.2.1.2.2.2.2.2.2.2 ≤ R.slots + ks0) (hEnd : EndOK ss TBL (gp g0 wp) cl ft d p l e R s m args below meth c Q kc0 ks0 f lam res) (hP2 : G_call ss TBL cl ft mdl d pc w) (h : o_call bx bl f lam pr pc w L h0 (run bx bl n) (run bx bl n f lam pr) S = some res) (K : ∀ pc' L' h' S', run bx bl n f lam pr pc' L' h' S' = some res → Wp (gp g0 wp) cl ft p l e R s m args below meth c Q d.2.2.1 kc0 ks0 res pc' L' h' S') : Wp (gp g0 wp) cl ft p l e R s m args below meth c Q d.2.2.1 kc0 ks0 res pc L h0 S := by
    obtain ⟨hx, hb, hr, hml, hown, hts, hK, hE, hlocks, hnm, htab, htr⟩ := id act
    have hAg : ∀ q, s.heap.size ≤ q → AA (gp g0 wp) q := fun q hq => Nat.le_trans hE.2.2.2.2.2.2.2.2.2.2 hq
    exact q_call (mdl := mdl) (show RS ss TBL (gp g0 wp) cl ft bx bl xs (GPd ss TBL cl ft mdl) l n from ih) hGPm hpr act hf hl hRo hEnd hP2 h K
set_option maxHeartbeats 1000000 in
theorem s_storeI (hpr : ∀ w ∈ TBL, pres w = true) (hTY : ∀ c : Nat, 32 ≤ c → c ≤ 41 → ∃ cA : ClassId, g0.2.1[c - 32]? = some (cA, aty c)) (hbx : ∀ (ws : va_W) (j : Nat), j < bl → VR g0 ws (pget bx j) (.int (xs j))) (hGPm : ∀ (u : Nat) (d : MD), mdl u = some d → GPd ss TBL cl ft mdl d (prOf u)) (ih : RS ss TBL g0 cl ft bx bl xs (GPd ss TBL cl ft mdl) l n)
    (act : Act ss TBL (gp g0 wp) cl bl xs d p l s m args meth c) (hf : f ≤ R.frames) (hl : lam ≤ R.locals) (hRo : res.2.2.2.1.2.2.2.2.2.2.1 ≤ R.cells + kc0 ∧ res.2.2.2.1.2.2.2.2.2.2.2 ≤ R.slots + ks0) (hEnd : EndOK ss TBL (gp g0 wp) cl ft d p l e R s m args below meth c Q kc0 ks0 f lam res) (hP2 : G_storeI ss TBL cl ft mdl d pc w) (h : o_storeI bx bl f lam pr pc w L h0 (run bx bl n) (run bx bl n f lam pr) S = some res) (K : ∀ pc' L' h' S', run bx bl n f lam pr pc' L' h' S' = some res → Wp (gp g0 wp) cl ft p l e R s m args below meth c Q d.2.2.1 kc0 ks0 res pc' L' h' S') : Wp (gp g0 wp) cl ft p l e R s m args below meth c Q d.2.2.1 kc0 ks0 res pc L h0 S := by
    obtain ⟨hx, hb, hr, hml, hown, hts, hK, hE, hlocks, hnm, htab, htr⟩ := id act
    have hAg : ∀ q, s.heap.size ≤ q → AA (gp g0 wp) q := fun q hq => Nat.le_trans hE.2.2.2.2.2.2.2.2.2.2 hq
    obtain ⟨hlt, hP2⟩ := hP2
    obtain ⟨ht, h⟩ := br_s h
    refine q_store1 (tn1 ht (by decide)) (fun hv hl9 kk => ?_) h K
    obtain ⟨i9, rfl, -⟩ := hv.int (isT_t ht)
    rcases hP2 with ⟨k9, hd, hk9, hn⟩ | ⟨hd, hn⟩
    · exact lv_istore_n hx hb hd hk9 hl9 hlt rfl (by rw [hn] at kk; exact kk)
    · exact lv_istore hx hb hd hl9 hlt rfl (by rw [hn] at kk; exact kk)
set_option maxHeartbeats 1000000 in
theorem s_imul (hpr : ∀ w ∈ TBL, pres w = true) (hTY : ∀ c : Nat, 32 ≤ c → c ≤ 41 → ∃ cA : ClassId, g0.2.1[c - 32]? = some (cA, aty c)) (hbx : ∀ (ws : va_W) (j : Nat), j < bl → VR g0 ws (pget bx j) (.int (xs j))) (hGPm : ∀ (u : Nat) (d : MD), mdl u = some d → GPd ss TBL cl ft mdl d (prOf u)) (ih : RS ss TBL g0 cl ft bx bl xs (GPd ss TBL cl ft mdl) l n)
    (act : Act ss TBL (gp g0 wp) cl bl xs d p l s m args meth c) (hf : f ≤ R.frames) (hl : lam ≤ R.locals) (hRo : res.2.2.2.1.2.2.2.2.2.2.1 ≤ R.cells + kc0 ∧ res.2.2.2.1.2.2.2.2.2.2.2 ≤ R.slots + ks0) (hEnd : EndOK ss TBL (gp g0 wp) cl ft d p l e R s m args below meth c Q kc0 ks0 f lam res) (hP2 : G_imul ss TBL cl ft mdl d pc w) (h : o_imul bx bl f lam pr pc w L h0 (run bx bl n) (run bx bl n f lam pr) S = some res) (K : ∀ pc' L' h' S', run bx bl n f lam pr pc' L' h' S' = some res → Wp (gp g0 wp) cl ft p l e R s m args below meth c Q d.2.2.1 kc0 ks0 res pc' L' h' S') : Wp (gp g0 wp) cl ft p l e R s m args below meth c Q d.2.2.1 kc0 ks0 res pc L h0 S := by
    obtain ⟨hx, hb, hr, hml, hown, hts, hK, hE, hlocks, hnm, htab, htr⟩ := id act
    have hAg : ∀ q, s.heap.size ≤ q → AA (gp g0 wp) q := fun q hq => Nat.le_trans hE.2.2.2.2.2.2.2.2.2.2 hq
    obtain ⟨hd, hn⟩ := hP2
    exact q_bin iEx_mul (fun kk => lv_imul hx hb hd (by rw [hn] at kk; exact kk)) h K
set_option maxHeartbeats 1000000 in
theorem s_aald (hpr : ∀ w ∈ TBL, pres w = true) (hTY : ∀ c : Nat, 32 ≤ c → c ≤ 41 → ∃ cA : ClassId, g0.2.1[c - 32]? = some (cA, aty c)) (hbx : ∀ (ws : va_W) (j : Nat), j < bl → VR g0 ws (pget bx j) (.int (xs j))) (hGPm : ∀ (u : Nat) (d : MD), mdl u = some d → GPd ss TBL cl ft mdl d (prOf u)) (ih : RS ss TBL g0 cl ft bx bl xs (GPd ss TBL cl ft mdl) l n)
    (act : Act ss TBL (gp g0 wp) cl bl xs d p l s m args meth c) (hf : f ≤ R.frames) (hl : lam ≤ R.locals) (hRo : res.2.2.2.1.2.2.2.2.2.2.1 ≤ R.cells + kc0 ∧ res.2.2.2.1.2.2.2.2.2.2.2 ≤ R.slots + ks0) (hEnd : EndOK ss TBL (gp g0 wp) cl ft d p l e R s m args below meth c Q kc0 ks0 f lam res) (hP2 : G_aald ss TBL cl ft mdl d pc w) (h : o_aald bx bl f lam pr pc w L h0 (run bx bl n) (run bx bl n f lam pr) S = some res) (K : ∀ pc' L' h' S', run bx bl n f lam pr pc' L' h' S' = some res → Wp (gp g0 wp) cl ft p l e R s m args below meth c Q d.2.2.1 kc0 ks0 res pc' L' h' S') : Wp (gp g0 wp) cl ft p l e R s m args below meth c Q d.2.2.1 kc0 ks0 res pc L h0 S := by
    obtain ⟨hx, hb, hr, hml, hown, hts, hK, hE, hlocks, hnm, htab, htr⟩ := id act
    have hAg : ∀ q, s.heap.size ≤ q → AA (gp g0 wp) q := fun q hq => Nat.le_trans hE.2.2.2.2.2.2.2.2.2.2 hq
    obtain ⟨hd, hn⟩ := hP2
    exact q_aald hx hb hK hd hn h K
set_option maxHeartbeats 1000000 in
theorem s_putf (hpr : ∀ w ∈ TBL, pres w = true) (hTY : ∀ c : Nat, 32 ≤ c → c ≤ 41 → ∃ cA : ClassId, g0.2.1[c - 32]? = some (cA, aty c)) (hbx : ∀ (ws : va_W) (j : Nat), j < bl → VR g0 ws (pget bx j) (.int (xs j))) (hGPm : ∀ (u : Nat) (d : MD), mdl u = some d → GPd ss TBL cl ft mdl d (prOf u)) (ih : RS ss TBL g0 cl ft bx bl xs (GPd ss TBL cl ft mdl) l n)
    (act : Act ss TBL (gp g0 wp) cl bl xs d p l s m args meth c) (hf : f ≤ R.frames) (hl : lam ≤ R.locals) (hRo : res.2.2.2.1.2.2.2.2.2.2.1 ≤ R.cells + kc0 ∧ res.2.2.2.1.2.2.2.2.2.2.2 ≤ R.slots + ks0) (hEnd : EndOK ss TBL (gp g0 wp) cl ft d p l e R s m args below meth c Q kc0 ks0 f lam res) (hP2 : G_putf ss TBL cl ft mdl d pc w) (h : o_putf bx bl f lam pr pc w L h0 (run bx bl n) (run bx bl n f lam pr) S = some res) (K : ∀ pc' L' h' S', run bx bl n f lam pr pc' L' h' S' = some res → Wp (gp g0 wp) cl ft p l e R s m args below meth c Q d.2.2.1 kc0 ks0 res pc' L' h' S') : Wp (gp g0 wp) cl ft p l e R s m args below meth c Q d.2.2.1 kc0 ks0 res pc L h0 S := by
    obtain ⟨hx, hb, hr, hml, hown, hts, hK, hE, hlocks, hnm, htab, htr⟩ := id act
    have hAg : ∀ q, s.heap.size ≤ q → AA (gp g0 wp) q := fun q hq => Nat.le_trans hE.2.2.2.2.2.2.2.2.2.2 hq
    obtain ⟨C, ref, T, N, index, tyf, hd, hn, x1, x2, x3, x4, x5, x6, x7, x8, x9, xf, xt⟩ := hP2
    have h0t : tp S ≠ 0 := by
      obtain ⟨hq, -⟩ := br_s h
      obtain ⟨-, hw⟩ := an_t hq
      intro q
      rw [q] at hw
      rcases xt with ⟨y, -⟩ | ⟨y, -⟩ | ⟨y, -⟩ | ⟨y, -⟩ <;> rw [y] at hw <;> exact absurd hw (by decide +kernel)
    refine q_putf x2 (fun _ hv => Or.inr hv) (fun hw hv hP hD hSS he hlt kk => ?_) h0t h K
    obtain ⟨n1, n2⟩ := fit_v xt hw hv
    rcases xf with xf | ⟨xf, xi, xo⟩
    · exact va_put hx hb hts x5 tyf x8 x9 hown hK hP hD hSS _ he x1 _ x3 (hts _ x6) (fun y hy => x7.elim (fun q => q ▸ hy) (fun q => u_same (hts _ q) y hy)) xf (x8 _ x3) n1 n2 hlt hd (by rw [hn] at kk; exact kk)
    · exact va_putF hx hb hts x5 tyf x8 x9 hown hK hP hD hSS _ he x1 _ x3 (hts _ x6) (fun y hy => x7.elim (fun q => q ▸ hy) (fun q => u_same (hts _ q) y hy)) xf (hnm.trans xi) xo (x8 _ x3) n1 n2 hlt hd (by rw [hn] at kk; exact kk)
set_option maxHeartbeats 1000000 in
theorem s_ifGe (hpr : ∀ w ∈ TBL, pres w = true) (hTY : ∀ c : Nat, 32 ≤ c → c ≤ 41 → ∃ cA : ClassId, g0.2.1[c - 32]? = some (cA, aty c)) (hbx : ∀ (ws : va_W) (j : Nat), j < bl → VR g0 ws (pget bx j) (.int (xs j))) (hGPm : ∀ (u : Nat) (d : MD), mdl u = some d → GPd ss TBL cl ft mdl d (prOf u)) (ih : RS ss TBL g0 cl ft bx bl xs (GPd ss TBL cl ft mdl) l n)
    (act : Act ss TBL (gp g0 wp) cl bl xs d p l s m args meth c) (hf : f ≤ R.frames) (hl : lam ≤ R.locals) (hRo : res.2.2.2.1.2.2.2.2.2.2.1 ≤ R.cells + kc0 ∧ res.2.2.2.1.2.2.2.2.2.2.2 ≤ R.slots + ks0) (hEnd : EndOK ss TBL (gp g0 wp) cl ft d p l e R s m args below meth c Q kc0 ks0 f lam res) (hP2 : G_ifGe ss TBL cl ft mdl d pc w) (h : o_ifGe bx bl f lam pr pc w L h0 (run bx bl n) (run bx bl n f lam pr) S = some res) (K : ∀ pc' L' h' S', run bx bl n f lam pr pc' L' h' S' = some res → Wp (gp g0 wp) cl ft p l e R s m args below meth c Q d.2.2.1 kc0 ks0 res pc' L' h' S') : Wp (gp g0 wp) cl ft p l e R s m args below meth c Q d.2.2.1 kc0 ks0 res pc L h0 S := by
    obtain ⟨hx, hb, hr, hml, hown, hts, hK, hE, hlocks, hnm, htab, htr⟩ := id act
    have hAg : ∀ q, s.heap.size ≤ q → AA (gp g0 wp) q := fun q hq => Nat.le_trans hE.2.2.2.2.2.2.2.2.2.2 hq
    obtain ⟨off, hd, hn, ht⟩ := hP2
    exact q_ifm (P := fun x y => y ≤ x) ge1_t ge0_t (fun k1 k2 => lv_if_ge hx hb hd ht k1 (by rw [hn] at k2; exact k2)) h K
set_option maxHeartbeats 1000000 in
theorem s_lmul (hpr : ∀ w ∈ TBL, pres w = true) (hTY : ∀ c : Nat, 32 ≤ c → c ≤ 41 → ∃ cA : ClassId, g0.2.1[c - 32]? = some (cA, aty c)) (hbx : ∀ (ws : va_W) (j : Nat), j < bl → VR g0 ws (pget bx j) (.int (xs j))) (hGPm : ∀ (u : Nat) (d : MD), mdl u = some d → GPd ss TBL cl ft mdl d (prOf u)) (ih : RS ss TBL g0 cl ft bx bl xs (GPd ss TBL cl ft mdl) l n)
    (act : Act ss TBL (gp g0 wp) cl bl xs d p l s m args meth c) (hf : f ≤ R.frames) (hl : lam ≤ R.locals) (hRo : res.2.2.2.1.2.2.2.2.2.2.1 ≤ R.cells + kc0 ∧ res.2.2.2.1.2.2.2.2.2.2.2 ≤ R.slots + ks0) (hEnd : EndOK ss TBL (gp g0 wp) cl ft d p l e R s m args below meth c Q kc0 ks0 f lam res) (hP2 : G_lmul ss TBL cl ft mdl d pc w) (h : o_lmul bx bl f lam pr pc w L h0 (run bx bl n) (run bx bl n f lam pr) S = some res) (K : ∀ pc' L' h' S', run bx bl n f lam pr pc' L' h' S' = some res → Wp (gp g0 wp) cl ft p l e R s m args below meth c Q d.2.2.1 kc0 ks0 res pc' L' h' S') : Wp (gp g0 wp) cl ft p l e R s m args below meth c Q d.2.2.1 kc0 ks0 res pc L h0 S := by
    obtain ⟨hx, hb, hr, hml, hown, hts, hK, hE, hlocks, hnm, htab, htr⟩ := id act
    have hAg : ∀ q, s.heap.size ≤ q → AA (gp g0 wp) q := fun q hq => Nat.le_trans hE.2.2.2.2.2.2.2.2.2.2 hq
    obtain ⟨hd, hn⟩ := hP2
    exact q_lbn lEx_mul (fun _ kk => lv_lmul hx hb hd (by rw [hn] at kk; exact kk)) h K
set_option maxHeartbeats 1000000 in
theorem s_ldiv (hpr : ∀ w ∈ TBL, pres w = true) (hTY : ∀ c : Nat, 32 ≤ c → c ≤ 41 → ∃ cA : ClassId, g0.2.1[c - 32]? = some (cA, aty c)) (hbx : ∀ (ws : va_W) (j : Nat), j < bl → VR g0 ws (pget bx j) (.int (xs j))) (hGPm : ∀ (u : Nat) (d : MD), mdl u = some d → GPd ss TBL cl ft mdl d (prOf u)) (ih : RS ss TBL g0 cl ft bx bl xs (GPd ss TBL cl ft mdl) l n)
    (act : Act ss TBL (gp g0 wp) cl bl xs d p l s m args meth c) (hf : f ≤ R.frames) (hl : lam ≤ R.locals) (hRo : res.2.2.2.1.2.2.2.2.2.2.1 ≤ R.cells + kc0 ∧ res.2.2.2.1.2.2.2.2.2.2.2 ≤ R.slots + ks0) (hEnd : EndOK ss TBL (gp g0 wp) cl ft d p l e R s m args below meth c Q kc0 ks0 f lam res) (hP2 : G_ldiv ss TBL cl ft mdl d pc w) (h : o_ldiv bx bl f lam pr pc w L h0 (run bx bl n) (run bx bl n f lam pr) S = some res) (K : ∀ pc' L' h' S', run bx bl n f lam pr pc' L' h' S' = some res → Wp (gp g0 wp) cl ft p l e R s m args below meth c Q d.2.2.1 kc0 ks0 res pc' L' h' S') : Wp (gp g0 wp) cl ft p l e R s m args below meth c Q d.2.2.1 kc0 ks0 res pc L h0 S := by
    obtain ⟨hx, hb, hr, hml, hown, hts, hK, hE, hlocks, hnm, htab, htr⟩ := id act
    have hAg : ∀ q, s.heap.size ≤ q → AA (gp g0 wp) q := fun q hq => Nat.le_trans hE.2.2.2.2.2.2.2.2.2.2 hq
    obtain ⟨hd, hn⟩ := hP2
    exact q_ldv lEx_div (fun hne kk => lv_ldiv hx hb hd hne (by rw [hn] at kk; exact kk)) h K
set_option maxHeartbeats 1000000 in
theorem s_irem (hpr : ∀ w ∈ TBL, pres w = true) (hTY : ∀ c : Nat, 32 ≤ c → c ≤ 41 → ∃ cA : ClassId, g0.2.1[c - 32]? = some (cA, aty c)) (hbx : ∀ (ws : va_W) (j : Nat), j < bl → VR g0 ws (pget bx j) (.int (xs j))) (hGPm : ∀ (u : Nat) (d : MD), mdl u = some d → GPd ss TBL cl ft mdl d (prOf u)) (ih : RS ss TBL g0 cl ft bx bl xs (GPd ss TBL cl ft mdl) l n)
    (act : Act ss TBL (gp g0 wp) cl bl xs d p l s m args meth c) (hf : f ≤ R.frames) (hl : lam ≤ R.locals) (hRo : res.2.2.2.1.2.2.2.2.2.2.1 ≤ R.cells + kc0 ∧ res.2.2.2.1.2.2.2.2.2.2.2 ≤ R.slots + ks0) (hEnd : EndOK ss TBL (gp g0 wp) cl ft d p l e R s m args below meth c Q kc0 ks0 f lam res) (hP2 : G_irem ss TBL cl ft mdl d pc w) (h : o_irem bx bl f lam pr pc w L h0 (run bx bl n) (run bx bl n f lam pr) S = some res) (K : ∀ pc' L' h' S', run bx bl n f lam pr pc' L' h' S' = some res → Wp (gp g0 wp) cl ft p l e R s m args below meth c Q d.2.2.1 kc0 ks0 res pc' L' h' S') : Wp (gp g0 wp) cl ft p l e R s m args below meth c Q d.2.2.1 kc0 ks0 res pc L h0 S := by
    obtain ⟨hx, hb, hr, hml, hown, hts, hK, hE, hlocks, hnm, htab, htr⟩ := id act
    have hAg : ∀ q, s.heap.size ≤ q → AA (gp g0 wp) q := fun q hq => Nat.le_trans hE.2.2.2.2.2.2.2.2.2.2 hq
    obtain ⟨hd, hn⟩ := hP2
    exact q_idv iEx_rem (fun hne kk => lv_irem hx hb hd hne (by rw [hn] at kk; exact kk)) h K
set_option maxHeartbeats 1000000 in
theorem s_retV (hpr : ∀ w ∈ TBL, pres w = true) (hTY : ∀ c : Nat, 32 ≤ c → c ≤ 41 → ∃ cA : ClassId, g0.2.1[c - 32]? = some (cA, aty c)) (hbx : ∀ (ws : va_W) (j : Nat), j < bl → VR g0 ws (pget bx j) (.int (xs j))) (hGPm : ∀ (u : Nat) (d : MD), mdl u = some d → GPd ss TBL cl ft mdl d (prOf u)) (ih : RS ss TBL g0 cl ft bx bl xs (GPd ss TBL cl ft mdl) l n)
    (act : Act ss TBL (gp g0 wp) cl bl xs d p l s m args meth c) (hf : f ≤ R.frames) (hl : lam ≤ R.locals) (hRo : res.2.2.2.1.2.2.2.2.2.2.1 ≤ R.cells + kc0 ∧ res.2.2.2.1.2.2.2.2.2.2.2 ≤ R.slots + ks0) (hEnd : EndOK ss TBL (gp g0 wp) cl ft d p l e R s m args below meth c Q kc0 ks0 f lam res) (hP2 : G_retV ss TBL cl ft mdl d pc w) (h : o_retV bx bl f lam pr pc w L h0 (run bx bl n) (run bx bl n f lam pr) S = some res) (K : ∀ pc' L' h' S', run bx bl n f lam pr pc' L' h' S' = some res → Wp (gp g0 wp) cl ft p l e R s m args below meth c Q d.2.2.1 kc0 ks0 res pc' L' h' S') : Wp (gp g0 wp) cl ft p l e R s m args below meth c Q d.2.2.1 kc0 ks0 res pc L h0 S := by
    obtain ⟨hx, hb, hr, hml, hown, hts, hK, hE, hlocks, hnm, htab, htr⟩ := id act
    have hAg : ∀ q, s.heap.size ≤ q → AA (gp g0 wp) q := fun q hq => Nat.le_trans hE.2.2.2.2.2.2.2.2.2.2 hq
    obtain ⟨hd, hr9⟩ := hP2
    obtain rfl := (Option.some.inj h).symm
    exact ⟨⟨Nat.le_refl _, Nat.le_refl _⟩, hEnd.1 rfl (Or.inr (Or.inr (Or.inr (Or.inr (Or.inr ⟨hd, hr9⟩)))))⟩
set_option maxHeartbeats 1000000 in
theorem s_retL (hpr : ∀ w ∈ TBL, pres w = true) (hTY : ∀ c : Nat, 32 ≤ c → c ≤ 41 → ∃ cA : ClassId, g0.2.1[c - 32]? = some (cA, aty c)) (hbx : ∀ (ws : va_W) (j : Nat), j < bl → VR g0 ws (pget bx j) (.int (xs j))) (hGPm : ∀ (u : Nat) (d : MD), mdl u = some d → GPd ss TBL cl ft mdl d (prOf u)) (ih : RS ss TBL g0 cl ft bx bl xs (GPd ss TBL cl ft mdl) l n)
    (act : Act ss TBL (gp g0 wp) cl bl xs d p l s m args meth c) (hf : f ≤ R.frames) (hl : lam ≤ R.locals) (hRo : res.2.2.2.1.2.2.2.2.2.2.1 ≤ R.cells + kc0 ∧ res.2.2.2.1.2.2.2.2.2.2.2 ≤ R.slots + ks0) (hEnd : EndOK ss TBL (gp g0 wp) cl ft d p l e R s m args below meth c Q kc0 ks0 f lam res) (hP2 : G_retL ss TBL cl ft mdl d pc w) (h : o_retL bx bl f lam pr pc w L h0 (run bx bl n) (run bx bl n f lam pr) S = some res) (K : ∀ pc' L' h' S', run bx bl n f lam pr pc' L' h' S' = some res → Wp (gp g0 wp) cl ft p l e R s m args below meth c Q d.2.2.1 kc0 ks0 res pc' L' h' S') : Wp (gp g0 wp) cl ft p l e R s m args below meth c Q d.2.2.1 kc0 ks0 res pc L h0 S := by
    obtain ⟨hx, hb, hr, hml, hown, hts, hK, hE, hlocks, hnm, htab, htr⟩ := id act
    have hAg : ∀ q, s.heap.size ≤ q → AA (gp g0 wp) q := fun q hq => Nat.le_trans hE.2.2.2.2.2.2.2.2.2.2 hq
    obtain ⟨hd, hr9⟩ := hP2
    obtain ⟨ht, h⟩ := br_s h
    obtain rfl := (Option.some.inj h).symm
    exact ⟨⟨Nat.le_refl _, Nat.le_refl _⟩, hEnd.1 rfl (Or.inr (Or.inr (Or.inl ⟨hd, hr9, isT_t ht⟩)))⟩
set_option maxHeartbeats 1000000 in
theorem s_iald (hpr : ∀ w ∈ TBL, pres w = true) (hTY : ∀ c : Nat, 32 ≤ c → c ≤ 41 → ∃ cA : ClassId, g0.2.1[c - 32]? = some (cA, aty c)) (hbx : ∀ (ws : va_W) (j : Nat), j < bl → VR g0 ws (pget bx j) (.int (xs j))) (hGPm : ∀ (u : Nat) (d : MD), mdl u = some d → GPd ss TBL cl ft mdl d (prOf u)) (ih : RS ss TBL g0 cl ft bx bl xs (GPd ss TBL cl ft mdl) l n)
    (act : Act ss TBL (gp g0 wp) cl bl xs d p l s m args meth c) (hf : f ≤ R.frames) (hl : lam ≤ R.locals) (hRo : res.2.2.2.1.2.2.2.2.2.2.1 ≤ R.cells + kc0 ∧ res.2.2.2.1.2.2.2.2.2.2.2 ≤ R.slots + ks0) (hEnd : EndOK ss TBL (gp g0 wp) cl ft d p l e R s m args below meth c Q kc0 ks0 f lam res) (hP2 : G_iald ss TBL cl ft mdl d pc w) (h : o_iald bx bl f lam pr pc w L h0 (run bx bl n) (run bx bl n f lam pr) S = some res) (K : ∀ pc' L' h' S', run bx bl n f lam pr pc' L' h' S' = some res → Wp (gp g0 wp) cl ft p l e R s m args below meth c Q d.2.2.1 kc0 ks0 res pc' L' h' S') : Wp (gp g0 wp) cl ft p l e R s m args below meth c Q d.2.2.1 kc0 ks0 res pc L h0 S := by
    obtain ⟨hx, hb, hr, hml, hown, hts, hK, hE, hlocks, hnm, htab, htr⟩ := id act
    have hAg : ∀ q, s.heap.size ≤ q → AA (gp g0 wp) q := fun q hq => Nat.le_trans hE.2.2.2.2.2.2.2.2.2.2 hq
    obtain ⟨hd, hn⟩ := hP2
    exact q_iald rfl hx hb hK hE.2.2.2.2.2.2.1 hE.2.2.2.2.2.2.2.1 hE.2.2.2.2.2.2.2.2.1 hE.2.2.2.2.2.2.2.2.2.1 (fun ws j hj => hbx ws j hj) hd hn h K
set_option maxHeartbeats 1000000 in
theorem s_lrem (hpr : ∀ w ∈ TBL, pres w = true) (hTY : ∀ c : Nat, 32 ≤ c → c ≤ 41 → ∃ cA : ClassId, g0.2.1[c - 32]? = some (cA, aty c)) (hbx : ∀ (ws : va_W) (j : Nat), j < bl → VR g0 ws (pget bx j) (.int (xs j))) (hGPm : ∀ (u : Nat) (d : MD), mdl u = some d → GPd ss TBL cl ft mdl d (prOf u)) (ih : RS ss TBL g0 cl ft bx bl xs (GPd ss TBL cl ft mdl) l n)
    (act : Act ss TBL (gp g0 wp) cl bl xs d p l s m args meth c) (hf : f ≤ R.frames) (hl : lam ≤ R.locals) (hRo : res.2.2.2.1.2.2.2.2.2.2.1 ≤ R.cells + kc0 ∧ res.2.2.2.1.2.2.2.2.2.2.2 ≤ R.slots + ks0) (hEnd : EndOK ss TBL (gp g0 wp) cl ft d p l e R s m args below meth c Q kc0 ks0 f lam res) (hP2 : G_lrem ss TBL cl ft mdl d pc w) (h : o_lrem bx bl f lam pr pc w L h0 (run bx bl n) (run bx bl n f lam pr) S = some res) (K : ∀ pc' L' h' S', run bx bl n f lam pr pc' L' h' S' = some res → Wp (gp g0 wp) cl ft p l e R s m args below meth c Q d.2.2.1 kc0 ks0 res pc' L' h' S') : Wp (gp g0 wp) cl ft p l e R s m args below meth c Q d.2.2.1 kc0 ks0 res pc L h0 S := by
    obtain ⟨hx, hb, hr, hml, hown, hts, hK, hE, hlocks, hnm, htab, htr⟩ := id act
    have hAg : ∀ q, s.heap.size ≤ q → AA (gp g0 wp) q := fun q hq => Nat.le_trans hE.2.2.2.2.2.2.2.2.2.2 hq
    obtain ⟨hd, hn⟩ := hP2
    exact q_ldv lEx_rem (fun hne kk => lv_lrem hx hb hd hne (by rw [hn] at kk; exact kk)) h K
set_option maxHeartbeats 1000000 in
theorem s_newa (hpr : ∀ w ∈ TBL, pres w = true) (hTY : ∀ c : Nat, 32 ≤ c → c ≤ 41 → ∃ cA : ClassId, g0.2.1[c - 32]? = some (cA, aty c)) (hbx : ∀ (ws : va_W) (j : Nat), j < bl → VR g0 ws (pget bx j) (.int (xs j))) (hGPm : ∀ (u : Nat) (d : MD), mdl u = some d → GPd ss TBL cl ft mdl d (prOf u)) (ih : RS ss TBL g0 cl ft bx bl xs (GPd ss TBL cl ft mdl) l n)
    (act : Act ss TBL (gp g0 wp) cl bl xs d p l s m args meth c) (hf : f ≤ R.frames) (hl : lam ≤ R.locals) (hRo : res.2.2.2.1.2.2.2.2.2.2.1 ≤ R.cells + kc0 ∧ res.2.2.2.1.2.2.2.2.2.2.2 ≤ R.slots + ks0) (hEnd : EndOK ss TBL (gp g0 wp) cl ft d p l e R s m args below meth c Q kc0 ks0 f lam res) (hP2 : G_newa ss TBL cl ft mdl d pc w) (h : o_newa bx bl f lam pr pc w L h0 (run bx bl n) (run bx bl n f lam pr) S = some res) (K : ∀ pc' L' h' S', run bx bl n f lam pr pc' L' h' S' = some res → Wp (gp g0 wp) cl ft p l e R s m args below meth c Q d.2.2.1 kc0 ks0 res pc' L' h' S') : Wp (gp g0 wp) cl ft p l e R s m args below meth c Q d.2.2.1 kc0 ks0 res pc L h0 S := by
    obtain ⟨hx, hb, hr, hml, hown, hts, hK, hE, hlocks, hnm, htab, htr⟩ := id act
    have hAg : ∀ q, s.heap.size ≤ q → AA (gp g0 wp) q := fun q hq => Nat.le_trans hE.2.2.2.2.2.2.2.2.2.2 hq
    obtain ⟨hle, hP2⟩ := hP2
    have hge : 32 ≤ fa w := by rcases hP2 with ⟨_, _, _, _, q, _⟩ | ⟨_, _, _, _, _, q, _⟩ <;> omega
    obtain ⟨cA0, hT⟩ := hTY (fa w) hge hle
    refine q_newa hK (by omega) hT hRo (fun hP hD hSS h1 h2 h3 h4 h5 kk => ?_) h K
    rcases hP2 with ⟨a, hd, hn, ha, y1, y2, hc⟩ | ⟨index, C, hd, hn, ha, y1, hc, ho⟩
    · refine va_newa (ty := aty (fa w)) hx hb (by rw [ha]; exact hts _ hc) ha hK hP hD hSS hAg (a0 := dfa (fa w) _) (fun cA => dfa_cell y1 y2) h1 h2 (by have := cb_le y1 y2; exact Nat.le_trans (Nat.mul_le_mul (Nat.le_of_lt h3) this) (by decide)) h4 h5 hd (fun q cA H1 hK1 hP1 hD1 hS1 => ?_)
      rw [← hn]
      exact kk q cA H1 hK1 hP1 hD1 hS1
    · refine va_newq hx hb hown (hts _ hc) (va_AO.of (hts _ ho)) hK hP hD hSS hAg h1 h2 (by omega) h4 h5 hd (fun q cA H1 hK1 hP1 hD1 hS1 => ?_)
      rw [← hn]
      have e9 : ∀ N, dfa (fa w) N = (N, .inr (.inr (.inr (.inr (fun _ => none))))) := fun N => by unfold dfa; rw [if_neg (by omega), if_neg (by omega), if_pos (by omega)]
      refine kk q cA H1 (by rw [ha]; exact hK1) (by rw [e9]; exact hP1) (by rw [e9]; exact hD1) hS1
set_option maxHeartbeats 1000000 in
theorem s_ifNe (hpr : ∀ w ∈ TBL, pres w = true) (hTY : ∀ c : Nat, 32 ≤ c → c ≤ 41 → ∃ cA : ClassId, g0.2.1[c - 32]? = some (cA, aty c)) (hbx : ∀ (ws : va_W) (j : Nat), j < bl → VR g0 ws (pget bx j) (.int (xs j))) (hGPm : ∀ (u : Nat) (d : MD), mdl u = some d → GPd ss TBL cl ft mdl d (prOf u)) (ih : RS ss TBL g0 cl ft bx bl xs (GPd ss TBL cl ft mdl) l n)
    (act : Act ss TBL (gp g0 wp) cl bl xs d p l s m args meth c) (hf : f ≤ R.frames) (hl : lam ≤ R.locals) (hRo : res.2.2.2.1.2.2.2.2.2.2.1 ≤ R.cells + kc0 ∧ res.2.2.2.1.2.2.2.2.2.2.2 ≤ R.slots + ks0) (hEnd : EndOK ss TBL (gp g0 wp) cl ft d p l e R s m args below meth c Q kc0 ks0 f lam res) (hP2 : G_ifNe ss TBL cl ft mdl d pc w) (h : o_ifNe bx bl f lam pr pc w L h0 (run bx bl n) (run bx bl n f lam pr) S = some res) (K : ∀ pc' L' h' S', run bx bl n f lam pr pc' L' h' S' = some res → Wp (gp g0 wp) cl ft p l e R s m args below meth c Q d.2.2.1 kc0 ks0 res pc' L' h' S') : Wp (gp g0 wp) cl ft p l e R s m args below meth c Q d.2.2.1 kc0 ks0 res pc L h0 S := by
    obtain ⟨hx, hb, hr, hml, hown, hts, hK, hE, hlocks, hnm, htab, htr⟩ := id act
    have hAg : ∀ q, s.heap.size ≤ q → AA (gp g0 wp) q := fun q hq => Nat.le_trans hE.2.2.2.2.2.2.2.2.2.2 hq
    obtain ⟨off, hd, hn, ht⟩ := hP2
    exact q_ifm (P := fun x y => ¬ x = y) eq0_t ne0_t (fun k1 k2 => lv_if_ne hx hb hd ht k1 (fun q => by rw [hn] at k2; exact k2 (fun r => r q))) h K
set_option maxHeartbeats 1000000 in
theorem s_lsub (hpr : ∀ w ∈ TBL, pres w = true) (hTY : ∀ c : Nat, 32 ≤ c → c ≤ 41 → ∃ cA : ClassId, g0.2.1[c - 32]? = some (cA, aty c)) (hbx : ∀ (ws : va_W) (j : Nat), j < bl → VR g0 ws (pget bx j) (.int (xs j))) (hGPm : ∀ (u : Nat) (d : MD), mdl u = some d → GPd ss TBL cl ft mdl d (prOf u)) (ih : RS ss TBL g0 cl ft bx bl xs (GPd ss TBL cl ft mdl) l n)
    (act : Act ss TBL (gp g0 wp) cl bl xs d p l s m args meth c) (hf : f ≤ R.frames) (hl : lam ≤ R.locals) (hRo : res.2.2.2.1.2.2.2.2.2.2.1 ≤ R.cells + kc0 ∧ res.2.2.2.1.2.2.2.2.2.2.2 ≤ R.slots + ks0) (hEnd : EndOK ss TBL (gp g0 wp) cl ft d p l e R s m args below meth c Q kc0 ks0 f lam res) (hP2 : G_lsub ss TBL cl ft mdl d pc w) (h : o_lsub bx bl f lam pr pc w L h0 (run bx bl n) (run bx bl n f lam pr) S = some res) (K : ∀ pc' L' h' S', run bx bl n f lam pr pc' L' h' S' = some res → Wp (gp g0 wp) cl ft p l e R s m args below meth c Q d.2.2.1 kc0 ks0 res pc' L' h' S') : Wp (gp g0 wp) cl ft p l e R s m args below meth c Q d.2.2.1 kc0 ks0 res pc L h0 S := by
    obtain ⟨hx, hb, hr, hml, hown, hts, hK, hE, hlocks, hnm, htab, htr⟩ := id act
    have hAg : ∀ q, s.heap.size ≤ q → AA (gp g0 wp) q := fun q hq => Nat.le_trans hE.2.2.2.2.2.2.2.2.2.2 hq
    obtain ⟨hd, hn⟩ := hP2
    exact q_lbn lEx_sub (fun _ kk => lv_lsub hx hb hd (by rw [hn] at kk; exact kk)) h K
set_option maxHeartbeats 1000000 in
theorem s_ladd (hpr : ∀ w ∈ TBL, pres w = true) (hTY : ∀ c : Nat, 32 ≤ c → c ≤ 41 → ∃ cA : ClassId, g0.2.1[c - 32]? = some (cA, aty c)) (hbx : ∀ (ws : va_W) (j : Nat), j < bl → VR g0 ws (pget bx j) (.int (xs j))) (hGPm : ∀ (u : Nat) (d : MD), mdl u = some d → GPd ss TBL cl ft mdl d (prOf u)) (ih : RS ss TBL g0 cl ft bx bl xs (GPd ss TBL cl ft mdl) l n)
    (act : Act ss TBL (gp g0 wp) cl bl xs d p l s m args meth c) (hf : f ≤ R.frames) (hl : lam ≤ R.locals) (hRo : res.2.2.2.1.2.2.2.2.2.2.1 ≤ R.cells + kc0 ∧ res.2.2.2.1.2.2.2.2.2.2.2 ≤ R.slots + ks0) (hEnd : EndOK ss TBL (gp g0 wp) cl ft d p l e R s m args below meth c Q kc0 ks0 f lam res) (hP2 : G_ladd ss TBL cl ft mdl d pc w) (h : o_ladd bx bl f lam pr pc w L h0 (run bx bl n) (run bx bl n f lam pr) S = some res) (K : ∀ pc' L' h' S', run bx bl n f lam pr pc' L' h' S' = some res → Wp (gp g0 wp) cl ft p l e R s m args below meth c Q d.2.2.1 kc0 ks0 res pc' L' h' S') : Wp (gp g0 wp) cl ft p l e R s m args below meth c Q d.2.2.1 kc0 ks0 res pc L h0 S := by
    obtain ⟨hx, hb, hr, hml, hown, hts, hK, hE, hlocks, hnm, htab, htr⟩ := id act
    have hAg : ∀ q, s.heap.size ≤ q → AA (gp g0 wp) q := fun q hq => Nat.le_trans hE.2.2.2.2.2.2.2.2.2.2 hq
    obtain ⟨hd, hn⟩ := hP2
    exact q_lbn lEx_add (fun _ kk => lv_ladd hx hb hd (by rw [hn] at kk; exact kk)) h K
set_option maxHeartbeats 1000000 in
theorem s_icmpLt (hpr : ∀ w ∈ TBL, pres w = true) (hTY : ∀ c : Nat, 32 ≤ c → c ≤ 41 → ∃ cA : ClassId, g0.2.1[c - 32]? = some (cA, aty c)) (hbx : ∀ (ws : va_W) (j : Nat), j < bl → VR g0 ws (pget bx j) (.int (xs j))) (hGPm : ∀ (u : Nat) (d : MD), mdl u = some d → GPd ss TBL cl ft mdl d (prOf u)) (ih : RS ss TBL g0 cl ft bx bl xs (GPd ss TBL cl ft mdl) l n)
    (act : Act ss TBL (gp g0 wp) cl bl xs d p l s m args meth c) (hf : f ≤ R.frames) (hl : lam ≤ R.locals) (hRo : res.2.2.2.1.2.2.2.2.2.2.1 ≤ R.cells + kc0 ∧ res.2.2.2.1.2.2.2.2.2.2.2 ≤ R.slots + ks0) (hEnd : EndOK ss TBL (gp g0 wp) cl ft d p l e R s m args below meth c Q kc0 ks0 f lam res) (hP2 : G_icmpLt ss TBL cl ft mdl d pc w) (h : o_icmpLt bx bl f lam pr pc w L h0 (run bx bl n) (run bx bl n f lam pr) S = some res) (K : ∀ pc' L' h' S', run bx bl n f lam pr pc' L' h' S' = some res → Wp (gp g0 wp) cl ft p l e R s m args below meth c Q d.2.2.1 kc0 ks0 res pc' L' h' S') : Wp (gp g0 wp) cl ft p l e R s m args below meth c Q d.2.2.1 kc0 ks0 res pc L h0 S := by
    obtain ⟨hx, hb, hr, hml, hown, hts, hK, hE, hlocks, hnm, htab, htr⟩ := id act
    have hAg : ∀ q, s.heap.size ≤ q → AA (gp g0 wp) q := fun q hq => Nat.le_trans hE.2.2.2.2.2.2.2.2.2.2 hq
    obtain ⟨off, hd, hn, ht⟩ := hP2
    exact q_icm (P := fun x y => x < y) lt1_t lt0_t (fun k1 k2 => lv_icmp_lt hx hb hd ht k1 (by rw [hn] at k2; exact k2)) h K
set_option maxHeartbeats 1000000 in
theorem s_icmpNe (hpr : ∀ w ∈ TBL, pres w = true) (hTY : ∀ c : Nat, 32 ≤ c → c ≤ 41 → ∃ cA : ClassId, g0.2.1[c - 32]? = some (cA, aty c)) (hbx : ∀ (ws : va_W) (j : Nat), j < bl → VR g0 ws (pget bx j) (.int (xs j))) (hGPm : ∀ (u : Nat) (d : MD), mdl u = some d → GPd ss TBL cl ft mdl d (prOf u)) (ih : RS ss TBL g0 cl ft bx bl xs (GPd ss TBL cl ft mdl) l n)
    (act : Act ss TBL (gp g0 wp) cl bl xs d p l s m args meth c) (hf : f ≤ R.frames) (hl : lam ≤ R.locals) (hRo : res.2.2.2.1.2.2.2.2.2.2.1 ≤ R.cells + kc0 ∧ res.2.2.2.1.2.2.2.2.2.2.2 ≤ R.slots + ks0) (hEnd : EndOK ss TBL (gp g0 wp) cl ft d p l e R s m args below meth c Q kc0 ks0 f lam res) (hP2 : G_icmpNe ss TBL cl ft mdl d pc w) (h : o_icmpNe bx bl f lam pr pc w L h0 (run bx bl n) (run bx bl n f lam pr) S = some res) (K : ∀ pc' L' h' S', run bx bl n f lam pr pc' L' h' S' = some res → Wp (gp g0 wp) cl ft p l e R s m args below meth c Q d.2.2.1 kc0 ks0 res pc' L' h' S') : Wp (gp g0 wp) cl ft p l e R s m args below meth c Q d.2.2.1 kc0 ks0 res pc L h0 S := by
    obtain ⟨hx, hb, hr, hml, hown, hts, hK, hE, hlocks, hnm, htab, htr⟩ := id act
    have hAg : ∀ q, s.heap.size ≤ q → AA (gp g0 wp) q := fun q hq => Nat.le_trans hE.2.2.2.2.2.2.2.2.2.2 hq
    obtain ⟨off, hd, hn, ht⟩ := hP2
    exact q_icm (P := fun x y => ¬ x = y) eq0_t ne0_t (fun k1 k2 => lv_icmp_ne hx hb hd ht k1 (fun q => by rw [hn] at k2; exact k2 (fun r => r q))) h K
set_option maxHeartbeats 1000000 in
theorem s_dup (hpr : ∀ w ∈ TBL, pres w = true) (hTY : ∀ c : Nat, 32 ≤ c → c ≤ 41 → ∃ cA : ClassId, g0.2.1[c - 32]? = some (cA, aty c)) (hbx : ∀ (ws : va_W) (j : Nat), j < bl → VR g0 ws (pget bx j) (.int (xs j))) (hGPm : ∀ (u : Nat) (d : MD), mdl u = some d → GPd ss TBL cl ft mdl d (prOf u)) (ih : RS ss TBL g0 cl ft bx bl xs (GPd ss TBL cl ft mdl) l n)
    (act : Act ss TBL (gp g0 wp) cl bl xs d p l s m args meth c) (hf : f ≤ R.frames) (hl : lam ≤ R.locals) (hRo : res.2.2.2.1.2.2.2.2.2.2.1 ≤ R.cells + kc0 ∧ res.2.2.2.1.2.2.2.2.2.2.2 ≤ R.slots + ks0) (hEnd : EndOK ss TBL (gp g0 wp) cl ft d p l e R s m args below meth c Q kc0 ks0 f lam res) (hP2 : G_dup ss TBL cl ft mdl d pc w) (h : o_dup bx bl f lam pr pc w L h0 (run bx bl n) (run bx bl n f lam pr) S = some res) (K : ∀ pc' L' h' S', run bx bl n f lam pr pc' L' h' S' = some res → Wp (gp g0 wp) cl ft p l e R s m args below meth c Q d.2.2.1 kc0 ks0 res pc' L' h' S') : Wp (gp g0 wp) cl ft p l e R s m args below meth c Q d.2.2.1 kc0 ks0 res pc L h0 S := by
    obtain ⟨hx, hb, hr, hml, hown, hts, hK, hE, hlocks, hnm, htab, htr⟩ := id act
    have hAg : ∀ q, s.heap.size ≤ q → AA (gp g0 wp) q := fun q hq => Nat.le_trans hE.2.2.2.2.2.2.2.2.2.2 hq
    obtain ⟨hd, hn⟩ := hP2
    exact q_dup (fun c1 kk => lv_dup hx hb hd c1 (by rw [hn] at kk; exact kk)) h K
set_option maxHeartbeats 1000000 in
theorem s_retZ (hpr : ∀ w ∈ TBL, pres w = true) (hTY : ∀ c : Nat, 32 ≤ c → c ≤ 41 → ∃ cA : ClassId, g0.2.1[c - 32]? = some (cA, aty c)) (hbx : ∀ (ws : va_W) (j : Nat), j < bl → VR g0 ws (pget bx j) (.int (xs j))) (hGPm : ∀ (u : Nat) (d : MD), mdl u = some d → GPd ss TBL cl ft mdl d (prOf u)) (ih : RS ss TBL g0 cl ft bx bl xs (GPd ss TBL cl ft mdl) l n)
    (act : Act ss TBL (gp g0 wp) cl bl xs d p l s m args meth c) (hf : f ≤ R.frames) (hl : lam ≤ R.locals) (hRo : res.2.2.2.1.2.2.2.2.2.2.1 ≤ R.cells + kc0 ∧ res.2.2.2.1.2.2.2.2.2.2.2 ≤ R.slots + ks0) (hEnd : EndOK ss TBL (gp g0 wp) cl ft d p l e R s m args below meth c Q kc0 ks0 f lam res) (hP2 : G_retZ ss TBL cl ft mdl d pc w) (h : o_retZ bx bl f lam pr pc w L h0 (run bx bl n) (run bx bl n f lam pr) S = some res) (K : ∀ pc' L' h' S', run bx bl n f lam pr pc' L' h' S' = some res → Wp (gp g0 wp) cl ft p l e R s m args below meth c Q d.2.2.1 kc0 ks0 res pc' L' h' S') : Wp (gp g0 wp) cl ft p l e R s m args below meth c Q d.2.2.1 kc0 ks0 res pc L h0 S := by
    obtain ⟨hx, hb, hr, hml, hown, hts, hK, hE, hlocks, hnm, htab, htr⟩ := id act
    have hAg : ∀ q, s.heap.size ≤ q → AA (gp g0 wp) q := fun q hq => Nat.le_trans hE.2.2.2.2.2.2.2.2.2.2 hq
    obtain ⟨hd, hr9⟩ := hP2
    obtain ⟨ht, h⟩ := br_s h
    obtain rfl := (Option.some.inj h).symm
    exact ⟨⟨Nat.le_refl _, Nat.le_refl _⟩, hEnd.1 rfl (Or.inr (Or.inl ⟨hd, hr9, (orr_t ht).elim (fun q => Or.inl (beq_t q)) (fun q => Or.inr (beq_t q))⟩))⟩
set_option maxHeartbeats 1000000 in
theorem s_iast (hpr : ∀ w ∈ TBL, pres w = true) (hTY : ∀ c : Nat, 32 ≤ c → c ≤ 41 → ∃ cA : ClassId, g0.2.1[c - 32]? = some (cA, aty c)) (hbx : ∀ (ws : va_W) (j : Nat), j < bl → VR g0 ws (pget bx j) (.int (xs j))) (hGPm : ∀ (u : Nat) (d : MD), mdl u = some d → GPd ss TBL cl ft mdl d (prOf u)) (ih : RS ss TBL g0 cl ft bx bl xs (GPd ss TBL cl ft mdl) l n)
    (act : Act ss TBL (gp g0 wp) cl bl xs d p l s m args meth c) (hf : f ≤ R.frames) (hl : lam ≤ R.locals) (hRo : res.2.2.2.1.2.2.2.2.2.2.1 ≤ R.cells + kc0 ∧ res.2.2.2.1.2.2.2.2.2.2.2 ≤ R.slots + ks0) (hEnd : EndOK ss TBL (gp g0 wp) cl ft d p l e R s m args below meth c Q kc0 ks0 f lam res) (hP2 : G_iast ss TBL cl ft mdl d pc w) (h : o_iast bx bl f lam pr pc w L h0 (run bx bl n) (run bx bl n f lam pr) S = some res) (K : ∀ pc' L' h' S', run bx bl n f lam pr pc' L' h' S' = some res → Wp (gp g0 wp) cl ft p l e R s m args below meth c Q d.2.2.1 kc0 ks0 res pc' L' h' S') : Wp (gp g0 wp) cl ft p l e R s m args below meth c Q d.2.2.1 kc0 ks0 res pc L h0 S := by
    obtain ⟨hx, hb, hr, hml, hown, hts, hK, hE, hlocks, hnm, htab, htr⟩ := id act
    have hAg : ∀ q, s.heap.size ≤ q → AA (gp g0 wp) q := fun q hq => Nat.le_trans hE.2.2.2.2.2.2.2.2.2.2 hq
    obtain ⟨hd, hn⟩ := hP2
    obtain ⟨ht, h⟩ := br_s h
    exact q_iast hx hb hK hd hn (isT_t ht) h K
set_option maxHeartbeats 1000000 in
theorem s_lneg (hpr : ∀ w ∈ TBL, pres w = true) (hTY : ∀ c : Nat, 32 ≤ c → c ≤ 41 → ∃ cA : ClassId, g0.2.1[c - 32]? = some (cA, aty c)) (hbx : ∀ (ws : va_W) (j : Nat), j < bl → VR g0 ws (pget bx j) (.int (xs j))) (hGPm : ∀ (u : Nat) (d : MD), mdl u = some d → GPd ss TBL cl ft mdl d (prOf u)) (ih : RS ss TBL g0 cl ft bx bl xs (GPd ss TBL cl ft mdl) l n)
    (act : Act ss TBL (gp g0 wp) cl bl xs d p l s m args meth c) (hf : f ≤ R.frames) (hl : lam ≤ R.locals) (hRo : res.2.2.2.1.2.2.2.2.2.2.1 ≤ R.cells + kc0 ∧ res.2.2.2.1.2.2.2.2.2.2.2 ≤ R.slots + ks0) (hEnd : EndOK ss TBL (gp g0 wp) cl ft d p l e R s m args below meth c Q kc0 ks0 f lam res) (hP2 : G_lneg ss TBL cl ft mdl d pc w) (h : o_lneg bx bl f lam pr pc w L h0 (run bx bl n) (run bx bl n f lam pr) S = some res) (K : ∀ pc' L' h' S', run bx bl n f lam pr pc' L' h' S' = some res → Wp (gp g0 wp) cl ft p l e R s m args below meth c Q d.2.2.1 kc0 ks0 res pc' L' h' S') : Wp (gp g0 wp) cl ft p l e R s m args below meth c Q d.2.2.1 kc0 ks0 res pc L h0 S := by
    obtain ⟨hx, hb, hr, hml, hown, hts, hK, hE, hlocks, hnm, htab, htr⟩ := id act
    have hAg : ∀ q, s.heap.size ≤ q → AA (gp g0 wp) q := fun q hq => Nat.le_trans hE.2.2.2.2.2.2.2.2.2.2 hq
    obtain ⟨hd, hn⟩ := hP2
    exact q_lneg (fun kk => lv_lneg hx hb hd (by rw [hn] at kk; exact kk)) h K
set_option maxHeartbeats 1000000 in
theorem s_isub (hpr : ∀ w ∈ TBL, pres w = true) (hTY : ∀ c : Nat, 32 ≤ c → c ≤ 41 → ∃ cA : ClassId, g0.2.1[c - 32]? = some (cA, aty c)) (hbx : ∀ (ws : va_W) (j : Nat), j < bl → VR g0 ws (pget bx j) (.int (xs j))) (hGPm : ∀ (u : Nat) (d : MD), mdl u = some d → GPd ss TBL cl ft mdl d (prOf u)) (ih : RS ss TBL g0 cl ft bx bl xs (GPd ss TBL cl ft mdl) l n)
    (act : Act ss TBL (gp g0 wp) cl bl xs d p l s m args meth c) (hf : f ≤ R.frames) (hl : lam ≤ R.locals) (hRo : res.2.2.2.1.2.2.2.2.2.2.1 ≤ R.cells + kc0 ∧ res.2.2.2.1.2.2.2.2.2.2.2 ≤ R.slots + ks0) (hEnd : EndOK ss TBL (gp g0 wp) cl ft d p l e R s m args below meth c Q kc0 ks0 f lam res) (hP2 : G_isub ss TBL cl ft mdl d pc w) (h : o_isub bx bl f lam pr pc w L h0 (run bx bl n) (run bx bl n f lam pr) S = some res) (K : ∀ pc' L' h' S', run bx bl n f lam pr pc' L' h' S' = some res → Wp (gp g0 wp) cl ft p l e R s m args below meth c Q d.2.2.1 kc0 ks0 res pc' L' h' S') : Wp (gp g0 wp) cl ft p l e R s m args below meth c Q d.2.2.1 kc0 ks0 res pc L h0 S := by
    obtain ⟨hx, hb, hr, hml, hown, hts, hK, hE, hlocks, hnm, htab, htr⟩ := id act
    have hAg : ∀ q, s.heap.size ≤ q → AA (gp g0 wp) q := fun q hq => Nat.le_trans hE.2.2.2.2.2.2.2.2.2.2 hq
    obtain ⟨hd, hn⟩ := hP2
    exact q_bin iEx_sub (fun kk => lv_isub hx hb hd (by rw [hn] at kk; exact kk)) h K
set_option maxHeartbeats 1000000 in
theorem s_multi (hpr : ∀ w ∈ TBL, pres w = true) (hTY : ∀ c : Nat, 32 ≤ c → c ≤ 41 → ∃ cA : ClassId, g0.2.1[c - 32]? = some (cA, aty c)) (hbx : ∀ (ws : va_W) (j : Nat), j < bl → VR g0 ws (pget bx j) (.int (xs j))) (hGPm : ∀ (u : Nat) (d : MD), mdl u = some d → GPd ss TBL cl ft mdl d (prOf u)) (ih : RS ss TBL g0 cl ft bx bl xs (GPd ss TBL cl ft mdl) l n)
    (act : Act ss TBL (gp g0 wp) cl bl xs d p l s m args meth c) (hf : f ≤ R.frames) (hl : lam ≤ R.locals) (hRo : res.2.2.2.1.2.2.2.2.2.2.1 ≤ R.cells + kc0 ∧ res.2.2.2.1.2.2.2.2.2.2.2 ≤ R.slots + ks0) (hEnd : EndOK ss TBL (gp g0 wp) cl ft d p l e R s m args below meth c Q kc0 ks0 f lam res) (hP2 : G_multi ss TBL cl ft mdl d pc w) (h : o_multi bx bl f lam pr pc w L h0 (run bx bl n) (run bx bl n f lam pr) S = some res) (K : ∀ pc' L' h' S', run bx bl n f lam pr pc' L' h' S' = some res → Wp (gp g0 wp) cl ft p l e R s m args below meth c Q d.2.2.1 kc0 ks0 res pc' L' h' S') : Wp (gp g0 wp) cl ft p l e R s m args below meth c Q d.2.2.1 kc0 ks0 res pc L h0 S := by
    obtain ⟨hx, hb, hr, hml, hown, hts, hK, hE, hlocks, hnm, htab, htr⟩ := id act
    have hAg : ∀ q, s.heap.size ≤ q → AA (gp g0 wp) q := fun q hq => Nat.le_trans hE.2.2.2.2.2.2.2.2.2.2 hq
    obtain ⟨index, ty, hd, hn, hk, x1, x2, x3⟩ := hP2
    obtain ⟨cA0, hT⟩ := hTY (fa w) (by rcases hk with q | q <;> omega) (by rcases hk with q | q <;> omega)
    obtain ⟨cy, hTR⟩ := hTY (fb w) (by rcases hk with q | q <;> omega) (by rcases hk with q | q <;> omega)
    refine q_multi hK (by rcases hk with q | q <;> omega) (by rcases hk with q | q <;> omega) hT hTR hRo (fun {ws9 i1 i2 N9 M9 H9 locs9 ce9 sl9 ls9 st9} hP hD hSS h1 h2 h3 h4 h5 h6 h7 h8 kk => ?_) h K
    have hra := (hK.2 _ _ hTR).2
    have e1 : aty (fa w) = .array ty := by rcases hk with ⟨rfl, q, -⟩ | ⟨rfl, q, -⟩ <;> rw [q] <;> rfl
    refine va_mna (X := ws9) (L := []) (f := fun _ => .inr (0, [])) (z := dfa (fb w) M9) (cy := cy) (ty := ty) hx hb hown (hts _ x1) (show va_AOA ty s from hts _ x2) (hts _ x3) ?_ hK (by rw [show va_pl [] (fun _ => (.inr (0, []) : va_E)) = [] from rfl, List.append_nil]; exact hP) (by rw [show va_pl [] (fun _ => (.inr (0, []) : va_E)) = [] from rfl, List.append_nil]; exact hD) hSS hAg h1 h2 h3 h4 (by omega) ?_ (by omega) ?_ ?_ h7 h8 ?_ hd (fun q r cA H1 _ _ hK1 hP1 hD1 hS1 => ?_)
    · rcases hk with ⟨rfl, -, q⟩ | ⟨rfl, -, q⟩ <;> rw [q] at hra <;> exact hra
    · rcases hk with ⟨rfl, -, -⟩ | ⟨rfl, -, -⟩
      · show _ * 4 ≤ _; omega
      · show _ * 8 ≤ _; omega
    · rcases hk with ⟨rfl, -, -⟩ | ⟨rfl, -, -⟩ <;> rfl
    · rcases hk with ⟨rfl, -, -⟩ | ⟨rfl, -, -⟩ <;> decide
    · intro c9
      rcases hk with ⟨rfl, -, q⟩ | ⟨rfl, -, q⟩ <;> rw [q] <;> exact arrV_new _ _ _
    · rw [← hn]
      have e2 : ∀ (X : va_W) (N M : Nat), (X ++ [(q, .inl (cA, N, .inr (.inr (.inr (.inr (fun i => if i < N then some (r i) else none))))))]) ++ va_pl ([] ++ (List.range N).map r) (vr_up (fun _ => .inr (0, [])) ((List.range N).map r) (.inl (cy, dfa (fb w) M))) = X ++ (q, ouA cA N r N) :: rwA cy (dfa (fb w) M) r N := fun X N M => by
        rw [List.append_assoc]
        congr 1
        show (q, ouA cA N r N) :: va_pl ((List.range N).map r) _ = _
        congr 1
        unfold va_pl rwA
        rw [List.map_map]
        apply List.map_congr_left
        intro i hi
        show (r i, vr_up _ _ _ (r i)) = _
        rw [vr_up_in (List.mem_map_of_mem hi)]
      rw [e2] at hP1 hD1
      rw [← e1] at hK1
      exact kk q r cA H1 hK1 hP1 hD1 hS1
set_option maxHeartbeats 1000000 in
theorem s_new (hpr : ∀ w ∈ TBL, pres w = true) (hTY : ∀ c : Nat, 32 ≤ c → c ≤ 41 → ∃ cA : ClassId, g0.2.1[c - 32]? = some (cA, aty c)) (hbx : ∀ (ws : va_W) (j : Nat), j < bl → VR g0 ws (pget bx j) (.int (xs j))) (hGPm : ∀ (u : Nat) (d : MD), mdl u = some d → GPd ss TBL cl ft mdl d (prOf u)) (ih : RS ss TBL g0 cl ft bx bl xs (GPd ss TBL cl ft mdl) l n)
    (act : Act ss TBL (gp g0 wp) cl bl xs d p l s m args meth c) (hf : f ≤ R.frames) (hl : lam ≤ R.locals) (hRo : res.2.2.2.1.2.2.2.2.2.2.1 ≤ R.cells + kc0 ∧ res.2.2.2.1.2.2.2.2.2.2.2 ≤ R.slots + ks0) (hEnd : EndOK ss TBL (gp g0 wp) cl ft d p l e R s m args below meth c Q kc0 ks0 f lam res) (hP2 : G_new ss TBL cl ft mdl d pc w) (h : o_new bx bl f lam pr pc w L h0 (run bx bl n) (run bx bl n f lam pr) S = some res) (K : ∀ pc' L' h' S', run bx bl n f lam pr pc' L' h' S' = some res → Wp (gp g0 wp) cl ft p l e R s m args below meth c Q d.2.2.1 kc0 ks0 res pc' L' h' S') : Wp (gp g0 wp) cl ft p l e R s m args below meth c Q d.2.2.1 kc0 ks0 res pc L h0 S := by
    obtain ⟨hx, hb, hr, hml, hown, hts, hK, hE, hlocks, hnm, htab, htr⟩ := id act
    have hAg : ∀ q, s.heap.size ≤ q → AA (gp g0 wp) q := fun q hq => Nat.le_trans hE.2.2.2.2.2.2.2.2.2.2 hq
    obtain ⟨C, T, N, index, tyf, hd, hn, x1, x2, x3, x4, x5, x6, x7, x8, x9⟩ := hP2
    exact q_new hx hb hts x4 tyf x5 hown (hts _ x7) (hts _ x8) (hts _ x9) hK hAg x1 x2 x3 x6 hRo hd hn h K
set_option maxHeartbeats 1000000 in
theorem s_objinit (hpr : ∀ w ∈ TBL, pres w = true) (hTY : ∀ c : Nat, 32 ≤ c → c ≤ 41 → ∃ cA : ClassId, g0.2.1[c - 32]? = some (cA, aty c)) (hbx : ∀ (ws : va_W) (j : Nat), j < bl → VR g0 ws (pget bx j) (.int (xs j))) (hGPm : ∀ (u : Nat) (d : MD), mdl u = some d → GPd ss TBL cl ft mdl d (prOf u)) (ih : RS ss TBL g0 cl ft bx bl xs (GPd ss TBL cl ft mdl) l n)
    (act : Act ss TBL (gp g0 wp) cl bl xs d p l s m args meth c) (hf : f ≤ R.frames) (hl : lam ≤ R.locals) (hRo : res.2.2.2.1.2.2.2.2.2.2.1 ≤ R.cells + kc0 ∧ res.2.2.2.1.2.2.2.2.2.2.2 ≤ R.slots + ks0) (hEnd : EndOK ss TBL (gp g0 wp) cl ft d p l e R s m args below meth c Q kc0 ks0 f lam res) (hP2 : G_objinit ss TBL cl ft mdl d pc w) (h : o_objinit bx bl f lam pr pc w L h0 (run bx bl n) (run bx bl n f lam pr) S = some res) (K : ∀ pc' L' h' S', run bx bl n f lam pr pc' L' h' S' = some res → Wp (gp g0 wp) cl ft p l e R s m args below meth c Q d.2.2.1 kc0 ks0 res pc' L' h' S') : Wp (gp g0 wp) cl ft p l e R s m args below meth c Q d.2.2.1 kc0 ks0 res pc L h0 S := by
    obtain ⟨hx, hb, hr, hml, hown, hts, hK, hE, hlocks, hnm, htab, htr⟩ := id act
    have hAg : ∀ q, s.heap.size ≤ q → AA (gp g0 wp) q := fun q hq => Nat.le_trans hE.2.2.2.2.2.2.2.2.2.2 hq
    obtain ⟨index, hd, hn, x1, x2, x3⟩ := hP2
    refine q_objinit hf hl (fun hsz h1 h2 kk => ?_) h K
    refine W.objInit hx hb hown (hts _ x1) (hts _ x2) (hts _ x3) rfl (hsz.trans hml.symm) rfl hd h1 (by have := h2; show 2 * 0 + _ + 12 ≤ _; omega) ?_
    rw [hn] at kk
    exact kk
set_option maxHeartbeats 1000000 in
theorem s_ifLt (hpr : ∀ w ∈ TBL, pres w = true) (hTY : ∀ c : Nat, 32 ≤ c → c ≤ 41 → ∃ cA : ClassId, g0.2.1[c - 32]? = some (cA, aty c)) (hbx : ∀ (ws : va_W) (j : Nat), j < bl → VR g0 ws (pget bx j) (.int (xs j))) (hGPm : ∀ (u : Nat) (d : MD), mdl u = some d → GPd ss TBL cl ft mdl d (prOf u)) (ih : RS ss TBL g0 cl ft bx bl xs (GPd ss TBL cl ft mdl) l n)
    (act : Act ss TBL (gp g0 wp) cl bl xs d p l s m args meth c) (hf : f ≤ R.frames) (hl : lam ≤ R.locals) (hRo : res.2.2.2.1.2.2.2.2.2.2.1 ≤ R.cells + kc0 ∧ res.2.2.2.1.2.2.2.2.2.2.2 ≤ R.slots + ks0) (hEnd : EndOK ss TBL (gp g0 wp) cl ft d p l e R s m args below meth c Q kc0 ks0 f lam res) (hP2 : G_ifLt ss TBL cl ft mdl d pc w) (h : o_ifLt bx bl f lam pr pc w L h0 (run bx bl n) (run bx bl n f lam pr) S = some res) (K : ∀ pc' L' h' S', run bx bl n f lam pr pc' L' h' S' = some res → Wp (gp g0 wp) cl ft p l e R s m args below meth c Q d.2.2.1 kc0 ks0 res pc' L' h' S') : Wp (gp g0 wp) cl ft p l e R s m args below meth c Q d.2.2.1 kc0 ks0 res pc L h0 S := by
    obtain ⟨hx, hb, hr, hml, hown, hts, hK, hE, hlocks, hnm, htab, htr⟩ := id act
    have hAg : ∀ q, s.heap.size ≤ q → AA (gp g0 wp) q := fun q hq => Nat.le_trans hE.2.2.2.2.2.2.2.2.2.2 hq
    obtain ⟨off, hd, hn, ht⟩ := hP2
    exact q_ifm (P := fun x y => x < y) lt1_t lt0_t (fun k1 k2 => lv_if_lt hx hb hd ht k1 (by rw [hn] at k2; exact k2)) h K
set_option maxHeartbeats 1000000 in
theorem s_icmpGt (hpr : ∀ w ∈ TBL, pres w = true) (hTY : ∀ c : Nat, 32 ≤ c → c ≤ 41 → ∃ cA : ClassId, g0.2.1[c - 32]? = some (cA, aty c)) (hbx : ∀ (ws : va_W) (j : Nat), j < bl → VR g0 ws (pget bx j) (.int (xs j))) (hGPm : ∀ (u : Nat) (d : MD), mdl u = some d → GPd ss TBL cl ft mdl d (prOf u)) (ih : RS ss TBL g0 cl ft bx bl xs (GPd ss TBL cl ft mdl) l n)
    (act : Act ss TBL (gp g0 wp) cl bl xs d p l s m args meth c) (hf : f ≤ R.frames) (hl : lam ≤ R.locals) (hRo : res.2.2.2.1.2.2.2.2.2.2.1 ≤ R.cells + kc0 ∧ res.2.2.2.1.2.2.2.2.2.2.2 ≤ R.slots + ks0) (hEnd : EndOK ss TBL (gp g0 wp) cl ft d p l e R s m args below meth c Q kc0 ks0 f lam res) (hP2 : G_icmpGt ss TBL cl ft mdl d pc w) (h : o_icmpGt bx bl f lam pr pc w L h0 (run bx bl n) (run bx bl n f lam pr) S = some res) (K : ∀ pc' L' h' S', run bx bl n f lam pr pc' L' h' S' = some res → Wp (gp g0 wp) cl ft p l e R s m args below meth c Q d.2.2.1 kc0 ks0 res pc' L' h' S') : Wp (gp g0 wp) cl ft p l e R s m args below meth c Q d.2.2.1 kc0 ks0 res pc L h0 S := by
    obtain ⟨hx, hb, hr, hml, hown, hts, hK, hE, hlocks, hnm, htab, htr⟩ := id act
    have hAg : ∀ q, s.heap.size ≤ q → AA (gp g0 wp) q := fun q hq => Nat.le_trans hE.2.2.2.2.2.2.2.2.2.2 hq
    obtain ⟨off, hd, hn, ht⟩ := hP2
    exact q_icm (P := fun x y => y < x) gt1_t gt0_t (fun k1 k2 => lv_icmp_gt hx hb hd ht k1 (by rw [hn] at k2; exact k2)) h K
set_option maxHeartbeats 1000000 in
theorem s_i2l (hpr : ∀ w ∈ TBL, pres w = true) (hTY : ∀ c : Nat, 32 ≤ c → c ≤ 41 → ∃ cA : ClassId, g0.2.1[c - 32]? = some (cA, aty c)) (hbx : ∀ (ws : va_W) (j : Nat), j < bl → VR g0 ws (pget bx j) (.int (xs j))) (hGPm : ∀ (u : Nat) (d : MD), mdl u = some d → GPd ss TBL cl ft mdl d (prOf u)) (ih : RS ss TBL g0 cl ft bx bl xs (GPd ss TBL cl ft mdl) l n)
    (act : Act ss TBL (gp g0 wp) cl bl xs d p l s m args meth c) (hf : f ≤ R.frames) (hl : lam ≤ R.locals) (hRo : res.2.2.2.1.2.2.2.2.2.2.1 ≤ R.cells + kc0 ∧ res.2.2.2.1.2.2.2.2.2.2.2 ≤ R.slots + ks0) (hEnd : EndOK ss TBL (gp g0 wp) cl ft d p l e R s m args below meth c Q kc0 ks0 f lam res) (hP2 : G_i2l ss TBL cl ft mdl d pc w) (h : o_i2l bx bl f lam pr pc w L h0 (run bx bl n) (run bx bl n f lam pr) S = some res) (K : ∀ pc' L' h' S', run bx bl n f lam pr pc' L' h' S' = some res → Wp (gp g0 wp) cl ft p l e R s m args below meth c Q d.2.2.1 kc0 ks0 res pc' L' h' S') : Wp (gp g0 wp) cl ft p l e R s m args below meth c Q d.2.2.1 kc0 ks0 res pc L h0 S := by
    obtain ⟨hx, hb, hr, hml, hown, hts, hK, hE, hlocks, hnm, htab, htr⟩ := id act
    have hAg : ∀ q, s.heap.size ≤ q → AA (gp g0 wp) q := fun q hq => Nat.le_trans hE.2.2.2.2.2.2.2.2.2.2 hq
    obtain ⟨hd, hn⟩ := hP2
    exact q_i2l (fun kk => lv_i2l hx hb hd rfl (by rw [hn] at kk; exact kk)) h K
set_option maxHeartbeats 1000000 in
theorem s_storeA (hpr : ∀ w ∈ TBL, pres w = true) (hTY : ∀ c : Nat, 32 ≤ c → c ≤ 41 → ∃ cA : ClassId, g0.2.1[c - 32]? = some (cA, aty c)) (hbx : ∀ (ws : va_W) (j : Nat), j < bl → VR g0 ws (pget bx j) (.int (xs j))) (hGPm : ∀ (u : Nat) (d : MD), mdl u = some d → GPd ss TBL cl ft mdl d (prOf u)) (ih : RS ss TBL g0 cl ft bx bl xs (GPd ss TBL cl ft mdl) l n)
    (act : Act ss TBL (gp g0 wp) cl bl xs d p l s m args meth c) (hf : f ≤ R.frames) (hl : lam ≤ R.locals) (hRo : res.2.2.2.1.2.2.2.2.2.2.1 ≤ R.cells + kc0 ∧ res.2.2.2.1.2.2.2.2.2.2.2 ≤ R.slots + ks0) (hEnd : EndOK ss TBL (gp g0 wp) cl ft d p l e R s m args below meth c Q kc0 ks0 f lam res) (hP2 : G_storeA ss TBL cl ft mdl d pc w) (h : o_storeA bx bl f lam pr pc w L h0 (run bx bl n) (run bx bl n f lam pr) S = some res) (K : ∀ pc' L' h' S', run bx bl n f lam pr pc' L' h' S' = some res → Wp (gp g0 wp) cl ft p l e R s m args below meth c Q d.2.2.1 kc0 ks0 res pc' L' h' S') : Wp (gp g0 wp) cl ft p l e R s m args below meth c Q d.2.2.1 kc0 ks0 res pc L h0 S := by
    obtain ⟨hx, hb, hr, hml, hown, hts, hK, hE, hlocks, hnm, htab, htr⟩ := id act
    have hAg : ∀ q, s.heap.size ≤ q → AA (gp g0 wp) q := fun q hq => Nat.le_trans hE.2.2.2.2.2.2.2.2.2.2 hq
    obtain ⟨hlt, hP2⟩ := hP2
    obtain ⟨ht, h⟩ := br_s h
    refine q_store1 (isA_n ht) (fun hv hl9 kk => ?_) h K
    rcases hv.refs ht with rfl | ⟨a9, rfl⟩
    · rcases hP2 with ⟨k9, hd, hk9, hn⟩ | ⟨hd, hn⟩
      · exact lv_astore_nN hx hb hd hk9 hl9 hlt rfl (by rw [hn] at kk; exact kk)
      · exact lv_astoreN hx hb hd hl9 hlt rfl (by rw [hn] at kk; exact kk)
    · rcases hP2 with ⟨k9, hd, hk9, hn⟩ | ⟨hd, hn⟩
      · exact lv_astore_n hx hb hd hk9 hl9 hlt rfl (by rw [hn] at kk; exact kk)
      · exact lv_astore hx hb hd hl9 hlt rfl (by rw [hn] at kk; exact kk)
set_option maxHeartbeats 1000000 in
theorem s_icmpEq (hpr : ∀ w ∈ TBL, pres w = true) (hTY : ∀ c : Nat, 32 ≤ c → c ≤ 41 → ∃ cA : ClassId, g0.2.1[c - 32]? = some (cA, aty c)) (hbx : ∀ (ws : va_W) (j : Nat), j < bl → VR g0 ws (pget bx j) (.int (xs j))) (hGPm : ∀ (u : Nat) (d : MD), mdl u = some d → GPd ss TBL cl ft mdl d (prOf u)) (ih : RS ss TBL g0 cl ft bx bl xs (GPd ss TBL cl ft mdl) l n)
    (act : Act ss TBL (gp g0 wp) cl bl xs d p l s m args meth c) (hf : f ≤ R.frames) (hl : lam ≤ R.locals) (hRo : res.2.2.2.1.2.2.2.2.2.2.1 ≤ R.cells + kc0 ∧ res.2.2.2.1.2.2.2.2.2.2.2 ≤ R.slots + ks0) (hEnd : EndOK ss TBL (gp g0 wp) cl ft d p l e R s m args below meth c Q kc0 ks0 f lam res) (hP2 : G_icmpEq ss TBL cl ft mdl d pc w) (h : o_icmpEq bx bl f lam pr pc w L h0 (run bx bl n) (run bx bl n f lam pr) S = some res) (K : ∀ pc' L' h' S', run bx bl n f lam pr pc' L' h' S' = some res → Wp (gp g0 wp) cl ft p l e R s m args below meth c Q d.2.2.1 kc0 ks0 res pc' L' h' S') : Wp (gp g0 wp) cl ft p l e R s m args below meth c Q d.2.2.1 kc0 ks0 res pc L h0 S := by
    obtain ⟨hx, hb, hr, hml, hown, hts, hK, hE, hlocks, hnm, htab, htr⟩ := id act
    have hAg : ∀ q, s.heap.size ≤ q → AA (gp g0 wp) q := fun q hq => Nat.le_trans hE.2.2.2.2.2.2.2.2.2.2 hq
    obtain ⟨off, hd, hn, ht⟩ := hP2
    exact q_icm (P := fun x y => x = y) eq1_t eq0_t (fun k1 k2 => lv_icmp_eq hx hb hd ht k1 (by rw [hn] at k2; exact k2)) h K
set_option maxHeartbeats 1000000 in
theorem s_retI (hpr : ∀ w ∈ TBL, pres w = true) (hTY : ∀ c : Nat, 32 ≤ c → c ≤ 41 → ∃ cA : ClassId, g0.2.1[c - 32]? = some (cA, aty c)) (hbx : ∀ (ws : va_W) (j : Nat), j < bl → VR g0 ws (pget bx j) (.int (xs j))) (hGPm : ∀ (u : Nat) (d : MD), mdl u = some d → GPd ss TBL cl ft mdl d (prOf u)) (ih : RS ss TBL g0 cl ft bx bl xs (GPd ss TBL cl ft mdl) l n)
    (act : Act ss TBL (gp g0 wp) cl bl xs d p l s m args meth c) (hf : f ≤ R.frames) (hl : lam ≤ R.locals) (hRo : res.2.2.2.1.2.2.2.2.2.2.1 ≤ R.cells + kc0 ∧ res.2.2.2.1.2.2.2.2.2.2.2 ≤ R.slots + ks0) (hEnd : EndOK ss TBL (gp g0 wp) cl ft d p l e R s m args below meth c Q kc0 ks0 f lam res) (hP2 : G_retI ss TBL cl ft mdl d pc w) (h : o_retI bx bl f lam pr pc w L h0 (run bx bl n) (run bx bl n f lam pr) S = some res) (K : ∀ pc' L' h' S', run bx bl n f lam pr pc' L' h' S' = some res → Wp (gp g0 wp) cl ft p l e R s m args below meth c Q d.2.2.1 kc0 ks0 res pc' L' h' S') : Wp (gp g0 wp) cl ft p l e R s m args below meth c Q d.2.2.1 kc0 ks0 res pc L h0 S := by
    obtain ⟨hx, hb, hr, hml, hown, hts, hK, hE, hlocks, hnm, htab, htr⟩ := id act
    have hAg : ∀ q, s.heap.size ≤ q → AA (gp g0 wp) q := fun q hq => Nat.le_trans hE.2.2.2.2.2.2.2.2.2.2 hq
    obtain ⟨hd, hr9⟩ := hP2
    obtain ⟨ht, h⟩ := br_s h
    obtain rfl := (Option.some.inj h).symm
    exact ⟨⟨Nat.le_refl _, Nat.le_refl _⟩, hEnd.1 rfl (Or.inl ⟨hd, hr9, isT_t ht⟩)⟩
set_option maxHeartbeats 1000000 in
theorem s_dup2 (hpr : ∀ w ∈ TBL, pres w = true) (hTY : ∀ c : Nat, 32 ≤ c → c ≤ 41 → ∃ cA : ClassId, g0.2.1[c - 32]? = some (cA, aty c)) (hbx : ∀ (ws : va_W) (j : Nat), j < bl → VR g0 ws (pget bx j) (.int (xs j))) (hGPm : ∀ (u : Nat) (d : MD), mdl u = some d → GPd ss TBL cl ft mdl d (prOf u)) (ih : RS ss TBL g0 cl ft bx bl xs (GPd ss TBL cl ft mdl) l n)
    (act : Act ss TBL (gp g0 wp) cl bl xs d p l s m args meth c) (hf : f ≤ R.frames) (hl : lam ≤ R.locals) (hRo : res.2.2.2.1.2.2.2.2.2.2.1 ≤ R.cells + kc0 ∧ res.2.2.2.1.2.2.2.2.2.2.2 ≤ R.slots + ks0) (hEnd : EndOK ss TBL (gp g0 wp) cl ft d p l e R s m args below meth c Q kc0 ks0 f lam res) (hP2 : G_dup2 ss TBL cl ft mdl d pc w) (h : o_dup2 bx bl f lam pr pc w L h0 (run bx bl n) (run bx bl n f lam pr) S = some res) (K : ∀ pc' L' h' S', run bx bl n f lam pr pc' L' h' S' = some res → Wp (gp g0 wp) cl ft p l e R s m args below meth c Q d.2.2.1 kc0 ks0 res pc' L' h' S') : Wp (gp g0 wp) cl ft p l e R s m args below meth c Q d.2.2.1 kc0 ks0 res pc L h0 S := by
    obtain ⟨hx, hb, hr, hml, hown, hts, hK, hE, hlocks, hnm, htab, htr⟩ := id act
    have hAg : ∀ q, s.heap.size ≤ q → AA (gp g0 wp) q := fun q hq => Nat.le_trans hE.2.2.2.2.2.2.2.2.2.2 hq
    obtain ⟨hd, hn⟩ := hP2
    exact q_dup2 (fun c1 c2 kk => lv_dup2_11 hx hb hd c1 c2 (by rw [hn] at kk; exact kk)) h K
set_option maxHeartbeats 1000000 in
theorem s_retA (hpr : ∀ w ∈ TBL, pres w = true) (hTY : ∀ c : Nat, 32 ≤ c → c ≤ 41 → ∃ cA : ClassId, g0.2.1[c - 32]? = some (cA, aty c)) (hbx : ∀ (ws : va_W) (j : Nat), j < bl → VR g0 ws (pget bx j) (.int (xs j))) (hGPm : ∀ (u : Nat) (d : MD), mdl u = some d → GPd ss TBL cl ft mdl d (prOf u)) (ih : RS ss TBL g0 cl ft bx bl xs (GPd ss TBL cl ft mdl) l n)
    (act : Act ss TBL (gp g0 wp) cl bl xs d p l s m args meth c) (hf : f ≤ R.frames) (hl : lam ≤ R.locals) (hRo : res.2.2.2.1.2.2.2.2.2.2.1 ≤ R.cells + kc0 ∧ res.2.2.2.1.2.2.2.2.2.2.2 ≤ R.slots + ks0) (hEnd : EndOK ss TBL (gp g0 wp) cl ft d p l e R s m args below meth c Q kc0 ks0 f lam res) (hP2 : G_retA ss TBL cl ft mdl d pc w) (h : o_retA bx bl f lam pr pc w L h0 (run bx bl n) (run bx bl n f lam pr) S = some res) (K : ∀ pc' L' h' S', run bx bl n f lam pr pc' L' h' S' = some res → Wp (gp g0 wp) cl ft p l e R s m args below meth c Q d.2.2.1 kc0 ks0 res pc' L' h' S') : Wp (gp g0 wp) cl ft p l e R s m args below meth c Q d.2.2.1 kc0 ks0 res pc L h0 S := by
    obtain ⟨hx, hb, hr, hml, hown, hts, hK, hE, hlocks, hnm, htab, htr⟩ := id act
    have hAg : ∀ q, s.heap.size ≤ q → AA (gp g0 wp) q := fun q hq => Nat.le_trans hE.2.2.2.2.2.2.2.2.2.2 hq
    obtain ⟨hd, hr9⟩ := hP2
    obtain ⟨ht, h⟩ := br_s h
    obtain rfl := (Option.some.inj h).symm
    exact ⟨⟨Nat.le_refl _, Nat.le_refl _⟩, hEnd.1 rfl (Or.inr (Or.inr (Or.inr (Or.inr (Or.inl ⟨hd, hr9, ht⟩)))))⟩
set_option maxHeartbeats 1000000 in
theorem s_alen (hpr : ∀ w ∈ TBL, pres w = true) (hTY : ∀ c : Nat, 32 ≤ c → c ≤ 41 → ∃ cA : ClassId, g0.2.1[c - 32]? = some (cA, aty c)) (hbx : ∀ (ws : va_W) (j : Nat), j < bl → VR g0 ws (pget bx j) (.int (xs j))) (hGPm : ∀ (u : Nat) (d : MD), mdl u = some d → GPd ss TBL cl ft mdl d (prOf u)) (ih : RS ss TBL g0 cl ft bx bl xs (GPd ss TBL cl ft mdl) l n)
    (act : Act ss TBL (gp g0 wp) cl bl xs d p l s m args meth c) (hf : f ≤ R.frames) (hl : lam ≤ R.locals) (hRo : res.2.2.2.1.2.2.2.2.2.2.1 ≤ R.cells + kc0 ∧ res.2.2.2.1.2.2.2.2.2.2.2 ≤ R.slots + ks0) (hEnd : EndOK ss TBL (gp g0 wp) cl ft d p l e R s m args below meth c Q kc0 ks0 f lam res) (hP2 : G_alen ss TBL cl ft mdl d pc w) (h : o_alen bx bl f lam pr pc w L h0 (run bx bl n) (run bx bl n f lam pr) S = some res) (K : ∀ pc' L' h' S', run bx bl n f lam pr pc' L' h' S' = some res → Wp (gp g0 wp) cl ft p l e R s m args below meth c Q d.2.2.1 kc0 ks0 res pc' L' h' S') : Wp (gp g0 wp) cl ft p l e R s m args below meth c Q d.2.2.1 kc0 ks0 res pc L h0 S := by
    obtain ⟨hx, hb, hr, hml, hown, hts, hK, hE, hlocks, hnm, htab, htr⟩ := id act
    have hAg : ∀ q, s.heap.size ≤ q → AA (gp g0 wp) q := fun q hq => Nat.le_trans hE.2.2.2.2.2.2.2.2.2.2 hq
    obtain ⟨hd, hn⟩ := hP2
    exact q_alen rfl hx hb hK hE.2.2.2.2.2.2.1 hE.2.2.2.2.2.2.2.1 hE.2.2.2.2.2.2.2.2.1 hE.2.2.2.2.2.2.2.2.2.1 hE.2.2.2.1 hd hn h K
set_option maxHeartbeats 1000000 in
theorem s_iand (hpr : ∀ w ∈ TBL, pres w = true) (hTY : ∀ c : Nat, 32 ≤ c → c ≤ 41 → ∃ cA : ClassId, g0.2.1[c - 32]? = some (cA, aty c)) (hbx : ∀ (ws : va_W) (j : Nat), j < bl → VR g0 ws (pget bx j) (.int (xs j))) (hGPm : ∀ (u : Nat) (d : MD), mdl u = some d → GPd ss TBL cl ft mdl d (prOf u)) (ih : RS ss TBL g0 cl ft bx bl xs (GPd ss TBL cl ft mdl) l n)
    (act : Act ss TBL (gp g0 wp) cl bl xs d p l s m args meth c) (hf : f ≤ R.frames) (hl : lam ≤ R.locals) (hRo : res.2.2.2.1.2.2.2.2.2.2.1 ≤ R.cells + kc0 ∧ res.2.2.2.1.2.2.2.2.2.2.2 ≤ R.slots + ks0) (hEnd : EndOK ss TBL (gp g0 wp) cl ft d p l e R s m args below meth c Q kc0 ks0 f lam res) (hP2 : G_iand ss TBL cl ft mdl d pc w) (h : o_iand bx bl f lam pr pc w L h0 (run bx bl n) (run bx bl n f lam pr) S = some res) (K : ∀ pc' L' h' S', run bx bl n f lam pr pc' L' h' S' = some res → Wp (gp g0 wp) cl ft p l e R s m args below meth c Q d.2.2.1 kc0 ks0 res pc' L' h' S') : Wp (gp g0 wp) cl ft p l e R s m args below meth c Q d.2.2.1 kc0 ks0 res pc L h0 S := by
    obtain ⟨hx, hb, hr, hml, hown, hts, hK, hE, hlocks, hnm, htab, htr⟩ := id act
    have hAg : ∀ q, s.heap.size ≤ q → AA (gp g0 wp) q := fun q hq => Nat.le_trans hE.2.2.2.2.2.2.2.2.2.2 hq
    obtain ⟨hd, hn⟩ := hP2
    exact q_iand (fun kk => lv_iand hx hb hd (by rw [hn] at kk; exact kk)) h K
set_option maxHeartbeats 1000000 in
theorem s_ishr (hpr : ∀ w ∈ TBL, pres w = true) (hTY : ∀ c : Nat, 32 ≤ c → c ≤ 41 → ∃ cA : ClassId, g0.2.1[c - 32]? = some (cA, aty c)) (hbx : ∀ (ws : va_W) (j : Nat), j < bl → VR g0 ws (pget bx j) (.int (xs j))) (hGPm : ∀ (u : Nat) (d : MD), mdl u = some d → GPd ss TBL cl ft mdl d (prOf u)) (ih : RS ss TBL g0 cl ft bx bl xs (GPd ss TBL cl ft mdl) l n)
    (act : Act ss TBL (gp g0 wp) cl bl xs d p l s m args meth c) (hf : f ≤ R.frames) (hl : lam ≤ R.locals) (hRo : res.2.2.2.1.2.2.2.2.2.2.1 ≤ R.cells + kc0 ∧ res.2.2.2.1.2.2.2.2.2.2.2 ≤ R.slots + ks0) (hEnd : EndOK ss TBL (gp g0 wp) cl ft d p l e R s m args below meth c Q kc0 ks0 f lam res) (hP2 : G_ishr ss TBL cl ft mdl d pc w) (h : o_ishr bx bl f lam pr pc w L h0 (run bx bl n) (run bx bl n f lam pr) S = some res) (K : ∀ pc' L' h' S', run bx bl n f lam pr pc' L' h' S' = some res → Wp (gp g0 wp) cl ft p l e R s m args below meth c Q d.2.2.1 kc0 ks0 res pc' L' h' S') : Wp (gp g0 wp) cl ft p l e R s m args below meth c Q d.2.2.1 kc0 ks0 res pc L h0 S := by
    obtain ⟨hx, hb, hr, hml, hown, hts, hK, hE, hlocks, hnm, htab, htr⟩ := id act
    have hAg : ∀ q, s.heap.size ≤ q → AA (gp g0 wp) q := fun q hq => Nat.le_trans hE.2.2.2.2.2.2.2.2.2.2 hq
    obtain ⟨hd, hn⟩ := hP2
    exact q_bin iEx_shr (fun kk => lv_ishr hx hb hd (by rw [hn] at kk; exact kk)) h K
set_option maxHeartbeats 1000000 in
theorem s_aast (hpr : ∀ w ∈ TBL, pres w = true) (hTY : ∀ c : Nat, 32 ≤ c → c ≤ 41 → ∃ cA : ClassId, g0.2.1[c - 32]? = some (cA, aty c)) (hbx : ∀ (ws : va_W) (j : Nat), j < bl → VR g0 ws (pget bx j) (.int (xs j))) (hGPm : ∀ (u : Nat) (d : MD), mdl u = some d → GPd ss TBL cl ft mdl d (prOf u)) (ih : RS ss TBL g0 cl ft bx bl xs (GPd ss TBL cl ft mdl) l n)
    (act : Act ss TBL (gp g0 wp) cl bl xs d p l s m args meth c) (hf : f ≤ R.frames) (hl : lam ≤ R.locals) (hRo : res.2.2.2.1.2.2.2.2.2.2.1 ≤ R.cells + kc0 ∧ res.2.2.2.1.2.2.2.2.2.2.2 ≤ R.slots + ks0) (hEnd : EndOK ss TBL (gp g0 wp) cl ft d p l e R s m args below meth c Q kc0 ks0 f lam res) (hP2 : G_aast ss TBL cl ft mdl d pc w) (h : o_aast bx bl f lam pr pc w L h0 (run bx bl n) (run bx bl n f lam pr) S = some res) (K : ∀ pc' L' h' S', run bx bl n f lam pr pc' L' h' S' = some res → Wp (gp g0 wp) cl ft p l e R s m args below meth c Q d.2.2.1 kc0 ks0 res pc' L' h' S') : Wp (gp g0 wp) cl ft p l e R s m args below meth c Q d.2.2.1 kc0 ks0 res pc L h0 S := by
    obtain ⟨hx, hb, hr, hml, hown, hts, hK, hE, hlocks, hnm, htab, htr⟩ := id act
    have hAg : ∀ q, s.heap.size ≤ q → AA (gp g0 wp) q := fun q hq => Nat.le_trans hE.2.2.2.2.2.2.2.2.2.2 hq
    obtain ⟨hd, hn, rc8, rc3, rc2, x1, x2, x3, x4, x5, x6⟩ := hP2
    rcases br_o h with ⟨ht, h⟩ | ⟨-, h⟩
    · exact q_aastN hx hb hK hd hn (isT_t ht) h K
    · obtain ⟨ht, h⟩ := br_s h
      exact q_aastR hx hb hK hd hn (isT_t ht) x1 (va_Nw.of rfl (hts _ x2)) x3 x4 x5 x6 h K
set_option maxHeartbeats 1000000 in
theorem s_switch (hpr : ∀ w ∈ TBL, pres w = true) (hTY : ∀ c : Nat, 32 ≤ c → c ≤ 41 → ∃ cA : ClassId, g0.2.1[c - 32]? = some (cA, aty c)) (hbx : ∀ (ws : va_W) (j : Nat), j < bl → VR g0 ws (pget bx j) (.int (xs j))) (hGPm : ∀ (u : Nat) (d : MD), mdl u = some d → GPd ss TBL cl ft mdl d (prOf u)) (ih : RS ss TBL g0 cl ft bx bl xs (GPd ss TBL cl ft mdl) l n)
    (act : Act ss TBL (gp g0 wp) cl bl xs d p l s m args meth c) (hf : f ≤ R.frames) (hl : lam ≤ R.locals) (hRo : res.2.2.2.1.2.2.2.2.2.2.1 ≤ R.cells + kc0 ∧ res.2.2.2.1.2.2.2.2.2.2.2 ≤ R.slots + ks0) (hEnd : EndOK ss TBL (gp g0 wp) cl ft d p l e R s m args below meth c Q kc0 ks0 f lam res) (hP2 : G_switch ss TBL cl ft mdl d pc w) (h : o_switch bx bl f lam pr pc w L h0 (run bx bl n) (run bx bl n f lam pr) S = some res) (K : ∀ pc' L' h' S', run bx bl n f lam pr pc' L' h' S' = some res → Wp (gp g0 wp) cl ft p l e R s m args below meth c Q d.2.2.1 kc0 ks0 res pc' L' h' S') : Wp (gp g0 wp) cl ft p l e R s m args below meth c Q d.2.2.1 kc0 ks0 res pc L h0 S := by
    obtain ⟨hx, hb, hr, hml, hown, hts, hK, hE, hlocks, hnm, htab, htr⟩ := id act
    have hAg : ∀ q, s.heap.size ≤ q → AA (gp g0 wp) q := fun q hq => Nat.le_trans hE.2.2.2.2.2.2.2.2.2.2 hq
    obtain ⟨dflt, lo, hi, offs, len, hd, x1, x2, x3, x4⟩ := hP2
    have h : fc (swb (fb w)) (sw2 w L S h0 (run bx bl n f lam pr)) = some res := h
    rw [fc_eq] at h
    refine q_switch (dflt := dflt) x1 x2 (fun ho kk => lv_tableOut hx hb hd ho x3 kk) (fun h1 h2 hj hlt kk => ?_) h K
    obtain ⟨off, o1, o2⟩ := x4 _ hlt
    exact lv_tableIn hx hb hd h1 h2 (by rw [hj, Int.toNat_natCast]; exact o1) o2 kk
set_option maxHeartbeats 1000000 in
theorem s_stop (hpr : ∀ w ∈ TBL, pres w = true) (hTY : ∀ c : Nat, 32 ≤ c → c ≤ 41 → ∃ cA : ClassId, g0.2.1[c - 32]? = some (cA, aty c)) (hbx : ∀ (ws : va_W) (j : Nat), j < bl → VR g0 ws (pget bx j) (.int (xs j))) (hGPm : ∀ (u : Nat) (d : MD), mdl u = some d → GPd ss TBL cl ft mdl d (prOf u)) (ih : RS ss TBL g0 cl ft bx bl xs (GPd ss TBL cl ft mdl) l n)
    (act : Act ss TBL (gp g0 wp) cl bl xs d p l s m args meth c) (hf : f ≤ R.frames) (hl : lam ≤ R.locals) (hRo : res.2.2.2.1.2.2.2.2.2.2.1 ≤ R.cells + kc0 ∧ res.2.2.2.1.2.2.2.2.2.2.2 ≤ R.slots + ks0) (hEnd : EndOK ss TBL (gp g0 wp) cl ft d p l e R s m args below meth c Q kc0 ks0 f lam res) (hP2 : G_stop ss TBL cl ft mdl d pc w) (h : o_stop bx bl f lam pr pc w L h0 (run bx bl n) (run bx bl n f lam pr) S = some res) (K : ∀ pc' L' h' S', run bx bl n f lam pr pc' L' h' S' = some res → Wp (gp g0 wp) cl ft p l e R s m args below meth c Q d.2.2.1 kc0 ks0 res pc' L' h' S') : Wp (gp g0 wp) cl ft p l e R s m args below meth c Q d.2.2.1 kc0 ks0 res pc L h0 S := by
    obtain ⟨hx, hb, hr, hml, hown, hts, hK, hE, hlocks, hnm, htab, htr⟩ := id act
    have hAg : ∀ q, s.heap.size ≤ q → AA (gp g0 wp) q := fun q hq => Nat.le_trans hE.2.2.2.2.2.2.2.2.2.2 hq
    obtain rfl := (Option.some.inj h).symm
    exact ⟨⟨Nat.le_refl _, Nat.le_refl _⟩, hEnd.2.2.1 rfl⟩
set_option maxHeartbeats 1000000 in
theorem s_throw (hpr : ∀ w ∈ TBL, pres w = true) (hTY : ∀ c : Nat, 32 ≤ c → c ≤ 41 → ∃ cA : ClassId, g0.2.1[c - 32]? = some (cA, aty c)) (hbx : ∀ (ws : va_W) (j : Nat), j < bl → VR g0 ws (pget bx j) (.int (xs j))) (hGPm : ∀ (u : Nat) (d : MD), mdl u = some d → GPd ss TBL cl ft mdl d (prOf u)) (ih : RS ss TBL g0 cl ft bx bl xs (GPd ss TBL cl ft mdl) l n)
    (act : Act ss TBL (gp g0 wp) cl bl xs d p l s m args meth c) (hf : f ≤ R.frames) (hl : lam ≤ R.locals) (hRo : res.2.2.2.1.2.2.2.2.2.2.1 ≤ R.cells + kc0 ∧ res.2.2.2.1.2.2.2.2.2.2.2 ≤ R.slots + ks0) (hEnd : EndOK ss TBL (gp g0 wp) cl ft d p l e R s m args below meth c Q kc0 ks0 f lam res) (hP2 : G_throw ss TBL cl ft mdl d pc w) (h : o_throw bx bl f lam pr pc w L h0 (run bx bl n) (run bx bl n f lam pr) S = some res) (K : ∀ pc' L' h' S', run bx bl n f lam pr pc' L' h' S' = some res → Wp (gp g0 wp) cl ft p l e R s m args below meth c Q d.2.2.1 kc0 ks0 res pc' L' h' S') : Wp (gp g0 wp) cl ft p l e R s m args below meth c Q d.2.2.1 kc0 ks0 res pc L h0 S := by
    obtain ⟨hx, hb, hr, hml, hown, hts, hK, hE, hlocks, hnm, htab, htr⟩ := id act
    have hAg : ∀ q, s.heap.size ≤ q → AA (gp g0 wp) q := fun q hq => Nat.le_trans hE.2.2.2.2.2.2.2.2.2.2 hq
    obtain ⟨hle, hP2⟩ := hP2
    obtain ⟨hq, h⟩ := br_s h
    obtain ⟨a1, hq⟩ := an_t hq
    obtain ⟨a2, a3⟩ := an_t hq
    have a1 := beq_t a1
    have a2 := ble_t a2
    have a3 := ble_t a3
    obtain rfl := (Option.some.inj h).symm
    exact ⟨⟨Nat.le_refl _, Nat.le_refl _⟩, hEnd.2.1 (show 1 ≤ fa w + 1 by omega) (show fa w + 1 ≤ 4 by omega) (by show ThrOK ss TBL d pc (excN (fa w + 1 - 1)); rw [Nat.add_sub_cancel]; exact hP2) a1 a2 a3⟩
set_option maxHeartbeats 1000000 in
theorem s_bast (hpr : ∀ w ∈ TBL, pres w = true) (hTY : ∀ c : Nat, 32 ≤ c → c ≤ 41 → ∃ cA : ClassId, g0.2.1[c - 32]? = some (cA, aty c)) (hbx : ∀ (ws : va_W) (j : Nat), j < bl → VR g0 ws (pget bx j) (.int (xs j))) (hGPm : ∀ (u : Nat) (d : MD), mdl u = some d → GPd ss TBL cl ft mdl d (prOf u)) (ih : RS ss TBL g0 cl ft bx bl xs (GPd ss TBL cl ft mdl) l n)
    (act : Act ss TBL (gp g0 wp) cl bl xs d p l s m args meth c) (hf : f ≤ R.frames) (hl : lam ≤ R.locals) (hRo : res.2.2.2.1.2.2.2.2.2.2.1 ≤ R.cells + kc0 ∧ res.2.2.2.1.2.2.2.2.2.2.2 ≤ R.slots + ks0) (hEnd : EndOK ss TBL (gp g0 wp) cl ft d p l e R s m args below meth c Q kc0 ks0 f lam res) (hP2 : G_bast ss TBL cl ft mdl d pc w) (h : o_bast bx bl f lam pr pc w L h0 (run bx bl n) (run bx bl n f lam pr) S = some res) (K : ∀ pc' L' h' S', run bx bl n f lam pr pc' L' h' S' = some res → Wp (gp g0 wp) cl ft p l e R s m args below meth c Q d.2.2.1 kc0 ks0 res pc' L' h' S') : Wp (gp g0 wp) cl ft p l e R s m args below meth c Q d.2.2.1 kc0 ks0 res pc L h0 S := by
    obtain ⟨hx, hb, hr, hml, hown, hts, hK, hE, hlocks, hnm, htab, htr⟩ := id act
    have hAg : ∀ q, s.heap.size ≤ q → AA (gp g0 wp) q := fun q hq => Nat.le_trans hE.2.2.2.2.2.2.2.2.2.2 hq
    obtain ⟨hd, hn⟩ := hP2
    rcases br_o h with ⟨ht, h⟩ | ⟨-, h⟩
    · exact q_bastZ hx hb hK hd hn ((orr_t ht).elim (fun q => Or.inl (beq_t q)) (fun q => Or.inr (beq_t q))) h K
    · obtain ⟨ht, h⟩ := br_s h
      exact q_bastB hx hb hK hd hn (isT_t ht) h K
set_option maxHeartbeats 1000000 in
theorem s_i2b (hpr : ∀ w ∈ TBL, pres w = true) (hTY : ∀ c : Nat, 32 ≤ c → c ≤ 41 → ∃ cA : ClassId, g0.2.1[c - 32]? = some (cA, aty c)) (hbx : ∀ (ws : va_W) (j : Nat), j < bl → VR g0 ws (pget bx j) (.int (xs j))) (hGPm : ∀ (u : Nat) (d : MD), mdl u = some d → GPd ss TBL cl ft mdl d (prOf u)) (ih : RS ss TBL g0 cl ft bx bl xs (GPd ss TBL cl ft mdl) l n)
    (act : Act ss TBL (gp g0 wp) cl bl xs d p l s m args meth c) (hf : f ≤ R.frames) (hl : lam ≤ R.locals) (hRo : res.2.2.2.1.2.2.2.2.2.2.1 ≤ R.cells + kc0 ∧ res.2.2.2.1.2.2.2.2.2.2.2 ≤ R.slots + ks0) (hEnd : EndOK ss TBL (gp g0 wp) cl ft d p l e R s m args below meth c Q kc0 ks0 f lam res) (hP2 : G_i2b ss TBL cl ft mdl d pc w) (h : o_i2b bx bl f lam pr pc w L h0 (run bx bl n) (run bx bl n f lam pr) S = some res) (K : ∀ pc' L' h' S', run bx bl n f lam pr pc' L' h' S' = some res → Wp (gp g0 wp) cl ft p l e R s m args below meth c Q d.2.2.1 kc0 ks0 res pc' L' h' S') : Wp (gp g0 wp) cl ft p l e R s m args below meth c Q d.2.2.1 kc0 ks0 res pc L h0 S := by
    obtain ⟨hx, hb, hr, hml, hown, hts, hK, hE, hlocks, hnm, htab, htr⟩ := id act
    have hAg : ∀ q, s.heap.size ≤ q → AA (gp g0 wp) q := fun q hq => Nat.le_trans hE.2.2.2.2.2.2.2.2.2.2 hq
    obtain ⟨hd, hn⟩ := hP2
    exact q_una iEx_i2b (fun kk => lv_i2b hx hb hd rfl (by rw [hn] at kk; exact kk)) h K
set_option maxHeartbeats 1000000 in
theorem s_ishl (hpr : ∀ w ∈ TBL, pres w = true) (hTY : ∀ c : Nat, 32 ≤ c → c ≤ 41 → ∃ cA : ClassId, g0.2.1[c - 32]? = some (cA, aty c)) (hbx : ∀ (ws : va_W) (j : Nat), j < bl → VR g0 ws (pget bx j) (.int (xs j))) (hGPm : ∀ (u : Nat) (d : MD), mdl u = some d → GPd ss TBL cl ft mdl d (prOf u)) (ih : RS ss TBL g0 cl ft bx bl xs (GPd ss TBL cl ft mdl) l n)
    (act : Act ss TBL (gp g0 wp) cl bl xs d p l s m args meth c) (hf : f ≤ R.frames) (hl : lam ≤ R.locals) (hRo : res.2.2.2.1.2.2.2.2.2.2.1 ≤ R.cells + kc0 ∧ res.2.2.2.1.2.2.2.2.2.2.2 ≤ R.slots + ks0) (hEnd : EndOK ss TBL (gp g0 wp) cl ft d p l e R s m args below meth c Q kc0 ks0 f lam res) (hP2 : G_ishl ss TBL cl ft mdl d pc w) (h : o_ishl bx bl f lam pr pc w L h0 (run bx bl n) (run bx bl n f lam pr) S = some res) (K : ∀ pc' L' h' S', run bx bl n f lam pr pc' L' h' S' = some res → Wp (gp g0 wp) cl ft p l e R s m args below meth c Q d.2.2.1 kc0 ks0 res pc' L' h' S') : Wp (gp g0 wp) cl ft p l e R s m args below meth c Q d.2.2.1 kc0 ks0 res pc L h0 S := by
    obtain ⟨hx, hb, hr, hml, hown, hts, hK, hE, hlocks, hnm, htab, htr⟩ := id act
    have hAg : ∀ q, s.heap.size ≤ q → AA (gp g0 wp) q := fun q hq => Nat.le_trans hE.2.2.2.2.2.2.2.2.2.2 hq
    obtain ⟨hd, hn⟩ := hP2
    exact q_bin iEx_shl (fun kk => lv_ishl hx hb hd (by rw [hn] at kk; exact kk)) h K
set_option maxHeartbeats 1000000 in
theorem s_icmpLe (hpr : ∀ w ∈ TBL, pres w = true) (hTY : ∀ c : Nat, 32 ≤ c → c ≤ 41 → ∃ cA : ClassId, g0.2.1[c - 32]? = some (cA, aty c)) (hbx : ∀ (ws : va_W) (j : Nat), j < bl → VR g0 ws (pget bx j) (.int (xs j))) (hGPm : ∀ (u : Nat) (d : MD), mdl u = some d → GPd ss TBL cl ft mdl d (prOf u)) (ih : RS ss TBL g0 cl ft bx bl xs (GPd ss TBL cl ft mdl) l n)
    (act : Act ss TBL (gp g0 wp) cl bl xs d p l s m args meth c) (hf : f ≤ R.frames) (hl : lam ≤ R.locals) (hRo : res.2.2.2.1.2.2.2.2.2.2.1 ≤ R.cells + kc0 ∧ res.2.2.2.1.2.2.2.2.2.2.2 ≤ R.slots + ks0) (hEnd : EndOK ss TBL (gp g0 wp) cl ft d p l e R s m args below meth c Q kc0 ks0 f lam res) (hP2 : G_icmpLe ss TBL cl ft mdl d pc w) (h : o_icmpLe bx bl f lam pr pc w L h0 (run bx bl n) (run bx bl n f lam pr) S = some res) (K : ∀ pc' L' h' S', run bx bl n f lam pr pc' L' h' S' = some res → Wp (gp g0 wp) cl ft p l e R s m args below meth c Q d.2.2.1 kc0 ks0 res pc' L' h' S') : Wp (gp g0 wp) cl ft p l e R s m args below meth c Q d.2.2.1 kc0 ks0 res pc L h0 S := by
    obtain ⟨hx, hb, hr, hml, hown, hts, hK, hE, hlocks, hnm, htab, htr⟩ := id act
    have hAg : ∀ q, s.heap.size ≤ q → AA (gp g0 wp) q := fun q hq => Nat.le_trans hE.2.2.2.2.2.2.2.2.2.2 hq
    obtain ⟨off, hd, hn, ht⟩ := hP2
    exact q_icm (P := fun x y => x ≤ y) le1_t le0_t (fun k1 k2 => lv_icmp_le hx hb hd ht k1 (by rw [hn] at k2; exact k2)) h K
set_option maxHeartbeats 1000000 in
theorem s_ifLe (hpr : ∀ w ∈ TBL, pres w = true) (hTY : ∀ c : Nat, 32 ≤ c → c ≤ 41 → ∃ cA : ClassId, g0.2.1[c - 32]? = some (cA, aty c)) (hbx : ∀ (ws : va_W) (j : Nat), j < bl → VR g0 ws (pget bx j) (.int (xs j))) (hGPm : ∀ (u : Nat) (d : MD), mdl u = some d → GPd ss TBL cl ft mdl d (prOf u)) (ih : RS ss TBL g0 cl ft bx bl xs (GPd ss TBL cl ft mdl) l n)
    (act : Act ss TBL (gp g0 wp) cl bl xs d p l s m args meth c) (hf : f ≤ R.frames) (hl : lam ≤ R.locals) (hRo : res.2.2.2.1.2.2.2.2.2.2.1 ≤ R.cells + kc0 ∧ res.2.2.2.1.2.2.2.2.2.2.2 ≤ R.slots + ks0) (hEnd : EndOK ss TBL (gp g0 wp) cl ft d p l e R s m args below meth c Q kc0 ks0 f lam res) (hP2 : G_ifLe ss TBL cl ft mdl d pc w) (h : o_ifLe bx bl f lam pr pc w L h0 (run bx bl n) (run bx bl n f lam pr) S = some res) (K : ∀ pc' L' h' S', run bx bl n f lam pr pc' L' h' S' = some res → Wp (gp g0 wp) cl ft p l e R s m args below meth c Q d.2.2.1 kc0 ks0 res pc' L' h' S') : Wp (gp g0 wp) cl ft p l e R s m args below meth c Q d.2.2.1 kc0 ks0 res pc L h0 S := by
    obtain ⟨hx, hb, hr, hml, hown, hts, hK, hE, hlocks, hnm, htab, htr⟩ := id act
    have hAg : ∀ q, s.heap.size ≤ q → AA (gp g0 wp) q := fun q hq => Nat.le_trans hE.2.2.2.2.2.2.2.2.2.2 hq
    obtain ⟨off, hd, hn, ht⟩ := hP2
    exact q_ifm (P := fun x y => x ≤ y) le1_t le0_t (fun k1 k2 => lv_if_le hx hb hd ht k1 (by rw [hn] at k2; exact k2)) h K
set_option maxHeartbeats 1000000 in
theorem s_ifnonnull (hpr : ∀ w ∈ TBL, pres w = true) (hTY : ∀ c : Nat, 32 ≤ c → c ≤ 41 → ∃ cA : ClassId, g0.2.1[c - 32]? = some (cA, aty c)) (hbx : ∀ (ws : va_W) (j : Nat), j < bl → VR g0 ws (pget bx j) (.int (xs j))) (hGPm : ∀ (u : Nat) (d : MD), mdl u = some d → GPd ss TBL cl ft mdl d (prOf u)) (ih : RS ss TBL g0 cl ft bx bl xs (GPd ss TBL cl ft mdl) l n)
    (act : Act ss TBL (gp g0 wp) cl bl xs d p l s m args meth c) (hf : f ≤ R.frames) (hl : lam ≤ R.locals) (hRo : res.2.2.2.1.2.2.2.2.2.2.1 ≤ R.cells + kc0 ∧ res.2.2.2.1.2.2.2.2.2.2.2 ≤ R.slots + ks0) (hEnd : EndOK ss TBL (gp g0 wp) cl ft d p l e R s m args below meth c Q kc0 ks0 f lam res) (hP2 : G_ifnonnull ss TBL cl ft mdl d pc w) (h : o_ifnonnull bx bl f lam pr pc w L h0 (run bx bl n) (run bx bl n f lam pr) S = some res) (K : ∀ pc' L' h' S', run bx bl n f lam pr pc' L' h' S' = some res → Wp (gp g0 wp) cl ft p l e R s m args below meth c Q d.2.2.1 kc0 ks0 res pc' L' h' S') : Wp (gp g0 wp) cl ft p l e R s m args below meth c Q d.2.2.1 kc0 ks0 res pc L h0 S := by
    obtain ⟨hx, hb, hr, hml, hown, hts, hK, hE, hlocks, hnm, htab, htr⟩ := id act
    have hAg : ∀ q, s.heap.size ≤ q → AA (gp g0 wp) q := fun q hq => Nat.le_trans hE.2.2.2.2.2.2.2.2.2.2 hq
    obtain ⟨off, hd, hn, ht⟩ := hP2
    exact q_ifnn (fun kk => lv_ifnonnull hx hb hd ht kk) (fun kk => lv_ifnonnullN hx hb hd (by rw [hn] at kk; exact kk)) h K
set_option maxHeartbeats 1000000 in
theorem s_pop (hpr : ∀ w ∈ TBL, pres w = true) (hTY : ∀ c : Nat, 32 ≤ c → c ≤ 41 → ∃ cA : ClassId, g0.2.1[c - 32]? = some (cA, aty c)) (hbx : ∀ (ws : va_W) (j : Nat), j < bl → VR g0 ws (pget bx j) (.int (xs j))) (hGPm : ∀ (u : Nat) (d : MD), mdl u = some d → GPd ss TBL cl ft mdl d (prOf u)) (ih : RS ss TBL g0 cl ft bx bl xs (GPd ss TBL cl ft mdl) l n)
    (act : Act ss TBL (gp g0 wp) cl bl xs d p l s m args meth c) (hf : f ≤ R.frames) (hl : lam ≤ R.locals) (hRo : res.2.2.2.1.2.2.2.2.2.2.1 ≤ R.cells + kc0 ∧ res.2.2.2.1.2.2.2.2.2.2.2 ≤ R.slots + ks0) (hEnd : EndOK ss TBL (gp g0 wp) cl ft d p l e R s m args below meth c Q kc0 ks0 f lam res) (hP2 : G_pop ss TBL cl ft mdl d pc w) (h : o_pop bx bl f lam pr pc w L h0 (run bx bl n) (run bx bl n f lam pr) S = some res) (K : ∀ pc' L' h' S', run bx bl n f lam pr pc' L' h' S' = some res → Wp (gp g0 wp) cl ft p l e R s m args below meth c Q d.2.2.1 kc0 ks0 res pc' L' h' S') : Wp (gp g0 wp) cl ft p l e R s m args below meth c Q d.2.2.1 kc0 ks0 res pc L h0 S := by
    obtain ⟨hx, hb, hr, hml, hown, hts, hK, hE, hlocks, hnm, htab, htr⟩ := id act
    have hAg : ∀ q, s.heap.size ≤ q → AA (gp g0 wp) q := fun q hq => Nat.le_trans hE.2.2.2.2.2.2.2.2.2.2 hq
    obtain ⟨hd, hn⟩ := hP2
    exact q_pop (fun c1 kk => lv_pop hx hb hd c1 (by rw [hn] at kk; exact kk)) h K
set_option maxHeartbeats 1000000 in
theorem s_bald (hpr : ∀ w ∈ TBL, pres w = true) (hTY : ∀ c : Nat, 32 ≤ c → c ≤ 41 → ∃ cA : ClassId, g0.2.1[c - 32]? = some (cA, aty c)) (hbx : ∀ (ws : va_W) (j : Nat), j < bl → VR g0 ws (pget bx j) (.int (xs j))) (hGPm : ∀ (u : Nat) (d : MD), mdl u = some d → GPd ss TBL cl ft mdl d (prOf u)) (ih : RS ss TBL g0 cl ft bx bl xs (GPd ss TBL cl ft mdl) l n)
    (act : Act ss TBL (gp g0 wp) cl bl xs d p l s m args meth c) (hf : f ≤ R.frames) (hl : lam ≤ R.locals) (hRo : res.2.2.2.1.2.2.2.2.2.2.1 ≤ R.cells + kc0 ∧ res.2.2.2.1.2.2.2.2.2.2.2 ≤ R.slots + ks0) (hEnd : EndOK ss TBL (gp g0 wp) cl ft d p l e R s m args below meth c Q kc0 ks0 f lam res) (hP2 : G_bald ss TBL cl ft mdl d pc w) (h : o_bald bx bl f lam pr pc w L h0 (run bx bl n) (run bx bl n f lam pr) S = some res) (K : ∀ pc' L' h' S', run bx bl n f lam pr pc' L' h' S' = some res → Wp (gp g0 wp) cl ft p l e R s m args below meth c Q d.2.2.1 kc0 ks0 res pc' L' h' S') : Wp (gp g0 wp) cl ft p l e R s m args below meth c Q d.2.2.1 kc0 ks0 res pc L h0 S := by
    obtain ⟨hx, hb, hr, hml, hown, hts, hK, hE, hlocks, hnm, htab, htr⟩ := id act
    have hAg : ∀ q, s.heap.size ≤ q → AA (gp g0 wp) q := fun q hq => Nat.le_trans hE.2.2.2.2.2.2.2.2.2.2 hq
    obtain ⟨hd, hn⟩ := hP2
    exact q_bald hx hb hK hd hn h K
set_option maxHeartbeats 1000000 in
theorem s_storeD (hpr : ∀ w ∈ TBL, pres w = true) (hTY : ∀ c : Nat, 32 ≤ c → c ≤ 41 → ∃ cA : ClassId, g0.2.1[c - 32]? = some (cA, aty c)) (hbx : ∀ (ws : va_W) (j : Nat), j < bl → VR g0 ws (pget bx j) (.int (xs j))) (hGPm : ∀ (u : Nat) (d : MD), mdl u = some d → GPd ss TBL cl ft mdl d (prOf u)) (ih : RS ss TBL g0 cl ft bx bl xs (GPd ss TBL cl ft mdl) l n)
    (act : Act ss TBL (gp g0 wp) cl bl xs d p l s m args meth c) (hf : f ≤ R.frames) (hl : lam ≤ R.locals) (hRo : res.2.2.2.1.2.2.2.2.2.2.1 ≤ R.cells + kc0 ∧ res.2.2.2.1.2.2.2.2.2.2.2 ≤ R.slots + ks0) (hEnd : EndOK ss TBL (gp g0 wp) cl ft d p l e R s m args below meth c Q kc0 ks0 f lam res) (hP2 : G_storeD ss TBL cl ft mdl d pc w) (h : o_storeD bx bl f lam pr pc w L h0 (run bx bl n) (run bx bl n f lam pr) S = some res) (K : ∀ pc' L' h' S', run bx bl n f lam pr pc' L' h' S' = some res → Wp (gp g0 wp) cl ft p l e R s m args below meth c Q d.2.2.1 kc0 ks0 res pc' L' h' S') : Wp (gp g0 wp) cl ft p l e R s m args below meth c Q d.2.2.1 kc0 ks0 res pc L h0 S := by
    obtain ⟨hx, hb, hr, hml, hown, hts, hK, hE, hlocks, hnm, htab, htr⟩ := id act
    have hAg : ∀ q, s.heap.size ≤ q → AA (gp g0 wp) q := fun q hq => Nat.le_trans hE.2.2.2.2.2.2.2.2.2.2 hq
    obtain ⟨hlt, hP2⟩ := hP2
    obtain ⟨ht, h⟩ := br_s h
    refine q_store2 (tn1 ht (by decide)) (fun hv hl9 kk => ?_) h K
    obtain rfl := hv.dbl (isT_t ht)
    rcases hP2 with ⟨k9, hd, hk9, hn⟩ | ⟨hd, hn⟩
    · exact lv_dstore_n hx hb hd hk9 hl9 hlt rfl (by rw [hn] at kk; exact kk)
    · exact lv_dstore hx hb hd hl9 hlt rfl (by rw [hn] at kk; exact kk)
set_option maxHeartbeats 1000000 in
theorem s_labs (hpr : ∀ w ∈ TBL, pres w = true) (hTY : ∀ c : Nat, 32 ≤ c → c ≤ 41 → ∃ cA : ClassId, g0.2.1[c - 32]? = some (cA, aty c)) (hbx : ∀ (ws : va_W) (j : Nat), j < bl → VR g0 ws (pget bx j) (.int (xs j))) (hGPm : ∀ (u : Nat) (d : MD), mdl u = some d → GPd ss TBL cl ft mdl d (prOf u)) (ih : RS ss TBL g0 cl ft bx bl xs (GPd ss TBL cl ft mdl) l n)
    (act : Act ss TBL (gp g0 wp) cl bl xs d p l s m args meth c) (hf : f ≤ R.frames) (hl : lam ≤ R.locals) (hRo : res.2.2.2.1.2.2.2.2.2.2.1 ≤ R.cells + kc0 ∧ res.2.2.2.1.2.2.2.2.2.2.2 ≤ R.slots + ks0) (hEnd : EndOK ss TBL (gp g0 wp) cl ft d p l e R s m args below meth c Q kc0 ks0 f lam res) (hP2 : G_labs ss TBL cl ft mdl d pc w) (h : o_labs bx bl f lam pr pc w L h0 (run bx bl n) (run bx bl n f lam pr) S = some res) (K : ∀ pc' L' h' S', run bx bl n f lam pr pc' L' h' S' = some res → Wp (gp g0 wp) cl ft p l e R s m args below meth c Q d.2.2.1 kc0 ks0 res pc' L' h' S') : Wp (gp g0 wp) cl ft p l e R s m args below meth c Q d.2.2.1 kc0 ks0 res pc L h0 S := by
    obtain ⟨hx, hb, hr, hml, hown, hts, hK, hE, hlocks, hnm, htab, htr⟩ := id act
    have hAg : ∀ q, s.heap.size ≤ q → AA (gp g0 wp) q := fun q hq => Nat.le_trans hE.2.2.2.2.2.2.2.2.2.2 hq
    obtain ⟨index, hd, hn, x1, x2, x3, x4⟩ := hP2
    exact q_labs hRo (fun hsz hcat hc9 hs9 hf9 hl9 kk => va_mabs_long hx hb (hml.trans hsz.symm) hown (hts _ x1) (hts _ x2) (hts _ x3) (hts _ x4) (by omega) (by omega) hc9 hs9 hd (by rw [hn] at kk; exact kk)) h K
set_option maxHeartbeats 1000000 in
theorem s_ifGt (hpr : ∀ w ∈ TBL, pres w = true) (hTY : ∀ c : Nat, 32 ≤ c → c ≤ 41 → ∃ cA : ClassId, g0.2.1[c - 32]? = some (cA, aty c)) (hbx : ∀ (ws : va_W) (j : Nat), j < bl → VR g0 ws (pget bx j) (.int (xs j))) (hGPm : ∀ (u : Nat) (d : MD), mdl u = some d → GPd ss TBL cl ft mdl d (prOf u)) (ih : RS ss TBL g0 cl ft bx bl xs (GPd ss TBL cl ft mdl) l n)
    (act : Act ss TBL (gp g0 wp) cl bl xs d p l s m args meth c) (hf : f ≤ R.frames) (hl : lam ≤ R.locals) (hRo : res.2.2.2.1.2.2.2.2.2.2.1 ≤ R.cells + kc0 ∧ res.2.2.2.1.2.2.2.2.2.2.2 ≤ R.slots + ks0) (hEnd : EndOK ss TBL (gp g0 wp) cl ft d p l e R s m args below meth c Q kc0 ks0 f lam res) (hP2 : G_ifGt ss TBL cl ft mdl d pc w) (h : o_ifGt bx bl f lam pr pc w L h0 (run bx bl n) (run bx bl n f lam pr) S = some res) (K : ∀ pc' L' h' S', run bx bl n f lam pr pc' L' h' S' = some res → Wp (gp g0 wp) cl ft p l e R s m args below meth c Q d.2.2.1 kc0 ks0 res pc' L' h' S') : Wp (gp g0 wp) cl ft p l e R s m args below meth c Q d.2.2.1 kc0 ks0 res pc L h0 S := by
    obtain ⟨hx, hb, hr, hml, hown, hts, hK, hE, hlocks, hnm, htab, htr⟩ := id act
    have hAg : ∀ q, s.heap.size ≤ q → AA (gp g0 wp) q := fun q hq => Nat.le_trans hE.2.2.2.2.2.2.2.2.2.2 hq
    obtain ⟨off, hd, hn, ht⟩ := hP2
    exact q_ifm (P := fun x y => y < x) gt1_t gt0_t (fun k1 k2 => lv_if_gt hx hb hd ht k1 (by rw [hn] at k2; exact k2)) h K
set_option maxHeartbeats 1000000 in
theorem s_loadF (hpr : ∀ w ∈ TBL, pres w = true) (hTY : ∀ c : Nat, 32 ≤ c → c ≤ 41 → ∃ cA : ClassId, g0.2.1[c - 32]? = some (cA, aty c)) (hbx : ∀ (ws : va_W) (j : Nat), j < bl → VR g0 ws (pget bx j) (.int (xs j))) (hGPm : ∀ (u : Nat) (d : MD), mdl u = some d → GPd ss TBL cl ft mdl d (prOf u)) (ih : RS ss TBL g0 cl ft bx bl xs (GPd ss TBL cl ft mdl) l n)
    (act : Act ss TBL (gp g0 wp) cl bl xs d p l s m args meth c) (hf : f ≤ R.frames) (hl : lam ≤ R.locals) (hRo : res.2.2.2.1.2.2.2.2.2.2.1 ≤ R.cells + kc0 ∧ res.2.2.2.1.2.2.2.2.2.2.2 ≤ R.slots + ks0) (hEnd : EndOK ss TBL (gp g0 wp) cl ft d p l e R s m args below meth c Q kc0 ks0 f lam res) (hP2 : G_loadF ss TBL cl ft mdl d pc w) (h : o_loadF bx bl f lam pr pc w L h0 (run bx bl n) (run bx bl n f lam pr) S = some res) (K : ∀ pc' L' h' S', run bx bl n f lam pr pc' L' h' S' = some res → Wp (gp g0 wp) cl ft p l e R s m args below meth c Q d.2.2.1 kc0 ks0 res pc' L' h' S') : Wp (gp g0 wp) cl ft p l e R s m args below meth c Q d.2.2.1 kc0 ks0 res pc L h0 S := by
    obtain ⟨hx, hb, hr, hml, hown, hts, hK, hE, hlocks, hnm, htab, htr⟩ := id act
    have hAg : ∀ q, s.heap.size ≤ q → AA (gp g0 wp) q := fun q hq => Nat.le_trans hE.2.2.2.2.2.2.2.2.2.2 hq
    refine q_load (by decide +kernel) (fun hv ht hl9 kk => ?_) h K
    obtain rfl := hv.flt (isT_t ht)
    rcases hP2 with ⟨k9, hd, hk9, hn⟩ | ⟨hd, hn⟩
    · exact lv_fload_n hx hb hd hk9 hl9 (by rw [hn] at kk; exact kk)
    · exact lv_fload hx hb hd hl9 (by rw [hn] at kk; exact kk)
set_option maxHeartbeats 1000000 in
theorem s_fcmpl (hpr : ∀ w ∈ TBL, pres w = true) (hTY : ∀ c : Nat, 32 ≤ c → c ≤ 41 → ∃ cA : ClassId, g0.2.1[c - 32]? = some (cA, aty c)) (hbx : ∀ (ws : va_W) (j : Nat), j < bl → VR g0 ws (pget bx j) (.int (xs j))) (hGPm : ∀ (u : Nat) (d : MD), mdl u = some d → GPd ss TBL cl ft mdl d (prOf u)) (ih : RS ss TBL g0 cl ft bx bl xs (GPd ss TBL cl ft mdl) l n)
    (act : Act ss TBL (gp g0 wp) cl bl xs d p l s m args meth c) (hf : f ≤ R.frames) (hl : lam ≤ R.locals) (hRo : res.2.2.2.1.2.2.2.2.2.2.1 ≤ R.cells + kc0 ∧ res.2.2.2.1.2.2.2.2.2.2.2 ≤ R.slots + ks0) (hEnd : EndOK ss TBL (gp g0 wp) cl ft d p l e R s m args below meth c Q kc0 ks0 f lam res) (hP2 : G_fcmpl ss TBL cl ft mdl d pc w) (h : o_fcmpl bx bl f lam pr pc w L h0 (run bx bl n) (run bx bl n f lam pr) S = some res) (K : ∀ pc' L' h' S', run bx bl n f lam pr pc' L' h' S' = some res → Wp (gp g0 wp) cl ft p l e R s m args below meth c Q d.2.2.1 kc0 ks0 res pc' L' h' S') : Wp (gp g0 wp) cl ft p l e R s m args below meth c Q d.2.2.1 kc0 ks0 res pc L h0 S := by
    obtain ⟨hx, hb, hr, hml, hown, hts, hK, hE, hlocks, hnm, htab, htr⟩ := id act
    have hAg : ∀ q, s.heap.size ≤ q → AA (gp g0 wp) q := fun q hq => Nat.le_trans hE.2.2.2.2.2.2.2.2.2.2 hq
    obtain ⟨hd, hn⟩ := hP2
    exact q_fcmpl (fun kk => lv_fcmp hx hb hd (by rw [hn] at kk; exact kk)) h K
set_option maxHeartbeats 1000000 in
theorem s_fdiv (hpr : ∀ w ∈ TBL, pres w = true) (hTY : ∀ c : Nat, 32 ≤ c → c ≤ 41 → ∃ cA : ClassId, g0.2.1[c - 32]? = some (cA, aty c)) (hbx : ∀ (ws : va_W) (j : Nat), j < bl → VR g0 ws (pget bx j) (.int (xs j))) (hGPm : ∀ (u : Nat) (d : MD), mdl u = some d → GPd ss TBL cl ft mdl d (prOf u)) (ih : RS ss TBL g0 cl ft bx bl xs (GPd ss TBL cl ft mdl) l n)
    (act : Act ss TBL (gp g0 wp) cl bl xs d p l s m args meth c) (hf : f ≤ R.frames) (hl : lam ≤ R.locals) (hRo : res.2.2.2.1.2.2.2.2.2.2.1 ≤ R.cells + kc0 ∧ res.2.2.2.1.2.2.2.2.2.2.2 ≤ R.slots + ks0) (hEnd : EndOK ss TBL (gp g0 wp) cl ft d p l e R s m args below meth c Q kc0 ks0 f lam res) (hP2 : G_fdiv ss TBL cl ft mdl d pc w) (h : o_fdiv bx bl f lam pr pc w L h0 (run bx bl n) (run bx bl n f lam pr) S = some res) (K : ∀ pc' L' h' S', run bx bl n f lam pr pc' L' h' S' = some res → Wp (gp g0 wp) cl ft p l e R s m args below meth c Q d.2.2.1 kc0 ks0 res pc' L' h' S') : Wp (gp g0 wp) cl ft p l e R s m args below meth c Q d.2.2.1 kc0 ks0 res pc L h0 S := by
    obtain ⟨hx, hb, hr, hml, hown, hts, hK, hE, hlocks, hnm, htab, htr⟩ := id act
    have hAg : ∀ q, s.heap.size ≤ q → AA (gp g0 wp) q := fun q hq => Nat.le_trans hE.2.2.2.2.2.2.2.2.2.2 hq
    obtain ⟨hd, hn⟩ := hP2
    exact q_fdiv (fun hne kk => lv_fdiv hx hb hd hne (by rw [hn] at kk; exact kk)) h K
set_option maxHeartbeats 1000000 in
theorem s_l2f (hpr : ∀ w ∈ TBL, pres w = true) (hTY : ∀ c : Nat, 32 ≤ c → c ≤ 41 → ∃ cA : ClassId, g0.2.1[c - 32]? = some (cA, aty c)) (hbx : ∀ (ws : va_W) (j : Nat), j < bl → VR g0 ws (pget bx j) (.int (xs j))) (hGPm : ∀ (u : Nat) (d : MD), mdl u = some d → GPd ss TBL cl ft mdl d (prOf u)) (ih : RS ss TBL g0 cl ft bx bl xs (GPd ss TBL cl ft mdl) l n)
    (act : Act ss TBL (gp g0 wp) cl bl xs d p l s m args meth c) (hf : f ≤ R.frames) (hl : lam ≤ R.locals) (hRo : res.2.2.2.1.2.2.2.2.2.2.1 ≤ R.cells + kc0 ∧ res.2.2.2.1.2.2.2.2.2.2.2 ≤ R.slots + ks0) (hEnd : EndOK ss TBL (gp g0 wp) cl ft d p l e R s m args below meth c Q kc0 ks0 f lam res) (hP2 : G_l2f ss TBL cl ft mdl d pc w) (h : o_l2f bx bl f lam pr pc w L h0 (run bx bl n) (run bx bl n f lam pr) S = some res) (K : ∀ pc' L' h' S', run bx bl n f lam pr pc' L' h' S' = some res → Wp (gp g0 wp) cl ft p l e R s m args below meth c Q d.2.2.1 kc0 ks0 res pc' L' h' S') : Wp (gp g0 wp) cl ft p l e R s m args below meth c Q d.2.2.1 kc0 ks0 res pc L h0 S := by
    obtain ⟨hx, hb, hr, hml, hown, hts, hK, hE, hlocks, hnm, htab, htr⟩ := id act
    have hAg : ∀ q, s.heap.size ≤ q → AA (gp g0 wp) q := fun q hq => Nat.le_trans hE.2.2.2.2.2.2.2.2.2.2 hq
    obtain ⟨hd, hn⟩ := hP2
    exact q_l2f (fun kk => lv_l2f hx hb hd (by rw [hn] at kk; exact kk)) h K
set_option maxHeartbeats 1000000 in
theorem s_i2f (hpr : ∀ w ∈ TBL, pres w = true) (hTY : ∀ c : Nat, 32 ≤ c → c ≤ 41 → ∃ cA : ClassId, g0.2.1[c - 32]? = some (cA, aty c)) (hbx : ∀ (ws : va_W) (j : Nat), j < bl → VR g0 ws (pget bx j) (.int (xs j))) (hGPm : ∀ (u : Nat) (d : MD), mdl u = some d → GPd ss TBL cl ft mdl d (prOf u)) (ih : RS ss TBL g0 cl ft bx bl xs (GPd ss TBL cl ft mdl) l n)
    (act : Act ss TBL (gp g0 wp) cl bl xs d p l s m args meth c) (hf : f ≤ R.frames) (hl : lam ≤ R.locals) (hRo : res.2.2.2.1.2.2.2.2.2.2.1 ≤ R.cells + kc0 ∧ res.2.2.2.1.2.2.2.2.2.2.2 ≤ R.slots + ks0) (hEnd : EndOK ss TBL (gp g0 wp) cl ft d p l e R s m args below meth c Q kc0 ks0 f lam res) (hP2 : G_i2f ss TBL cl ft mdl d pc w) (h : o_i2f bx bl f lam pr pc w L h0 (run bx bl n) (run bx bl n f lam pr) S = some res) (K : ∀ pc' L' h' S', run bx bl n f lam pr pc' L' h' S' = some res → Wp (gp g0 wp) cl ft p l e R s m args below meth c Q d.2.2.1 kc0 ks0 res pc' L' h' S') : Wp (gp g0 wp) cl ft p l e R s m args below meth c Q d.2.2.1 kc0 ks0 res pc L h0 S := by
    obtain ⟨hx, hb, hr, hml, hown, hts, hK, hE, hlocks, hnm, htab, htr⟩ := id act
    have hAg : ∀ q, s.heap.size ≤ q → AA (gp g0 wp) q := fun q hq => Nat.le_trans hE.2.2.2.2.2.2.2.2.2.2 hq
    obtain ⟨hd, hn⟩ := hP2
    exact q_i2f (fun kk => lv_i2f hx hb hd (by rw [hn] at kk; exact kk)) h K
set_option maxHeartbeats 1000000 in
theorem s_idiv (hpr : ∀ w ∈ TBL, pres w = true) (hTY : ∀ c : Nat, 32 ≤ c → c ≤ 41 → ∃ cA : ClassId, g0.2.1[c - 32]? = some (cA, aty c)) (hbx : ∀ (ws : va_W) (j : Nat), j < bl → VR g0 ws (pget bx j) (.int (xs j))) (hGPm : ∀ (u : Nat) (d : MD), mdl u = some d → GPd ss TBL cl ft mdl d (prOf u)) (ih : RS ss TBL g0 cl ft bx bl xs (GPd ss TBL cl ft mdl) l n)
    (act : Act ss TBL (gp g0 wp) cl bl xs d p l s m args meth c) (hf : f ≤ R.frames) (hl : lam ≤ R.locals) (hRo : res.2.2.2.1.2.2.2.2.2.2.1 ≤ R.cells + kc0 ∧ res.2.2.2.1.2.2.2.2.2.2.2 ≤ R.slots + ks0) (hEnd : EndOK ss TBL (gp g0 wp) cl ft d p l e R s m args below meth c Q kc0 ks0 f lam res) (hP2 : G_idiv ss TBL cl ft mdl d pc w) (h : o_idiv bx bl f lam pr pc w L h0 (run bx bl n) (run bx bl n f lam pr) S = some res) (K : ∀ pc' L' h' S', run bx bl n f lam pr pc' L' h' S' = some res → Wp (gp g0 wp) cl ft p l e R s m args below meth c Q d.2.2.1 kc0 ks0 res pc' L' h' S') : Wp (gp g0 wp) cl ft p l e R s m args below meth c Q d.2.2.1 kc0 ks0 res pc L h0 S := by
    obtain ⟨hx, hb, hr, hml, hown, hts, hK, hE, hlocks, hnm, htab, htr⟩ := id act
    have hAg : ∀ q, s.heap.size ≤ q → AA (gp g0 wp) q := fun q hq => Nat.le_trans hE.2.2.2.2.2.2.2.2.2.2 hq
    obtain ⟨hd, hn⟩ := hP2
    exact q_idv iEx_div (fun hne kk => lv_idiv hx hb hd hne (by rw [hn] at kk; exact kk)) h K
set_option maxHeartbeats 1000000 in
theorem s_mmax (hpr : ∀ w ∈ TBL, pres w = true) (hTY : ∀ c : Nat, 32 ≤ c → c ≤ 41 → ∃ cA : ClassId, g0.2.1[c - 32]? = some (cA, aty c)) (hbx : ∀ (ws : va_W) (j : Nat), j < bl → VR g0 ws (pget bx j) (.int (xs j))) (hGPm : ∀ (u : Nat) (d : MD), mdl u = some d → GPd ss TBL cl ft mdl d (prOf u)) (ih : RS ss TBL g0 cl ft bx bl xs (GPd ss TBL cl ft mdl) l n)
    (act : Act ss TBL (gp g0 wp) cl bl xs d p l s m args meth c) (hf : f ≤ R.frames) (hl : lam ≤ R.locals) (hRo : res.2.2.2.1.2.2.2.2.2.2.1 ≤ R.cells + kc0 ∧ res.2.2.2.1.2.2.2.2.2.2.2 ≤ R.slots + ks0) (hEnd : EndOK ss TBL (gp g0 wp) cl ft d p l e R s m args below meth c Q kc0 ks0 f lam res) (hP2 : G_mmax ss TBL cl ft mdl d pc w) (h : o_mmax bx bl f lam pr pc w L h0 (run bx bl n) (run bx bl n f lam pr) S = some res) (K : ∀ pc' L' h' S', run bx bl n f lam pr pc' L' h' S' = some res → Wp (gp g0 wp) cl ft p l e R s m args below meth c Q d.2.2.1 kc0 ks0 res pc' L' h' S') : Wp (gp g0 wp) cl ft p l e R s m args below meth c Q d.2.2.1 kc0 ks0 res pc L h0 S := by
    obtain ⟨hx, hb, hr, hml, hown, hts, hK, hE, hlocks, hnm, htab, htr⟩ := id act
    have hAg : ∀ q, s.heap.size ≤ q → AA (gp g0 wp) q := fun q hq => Nat.le_trans hE.2.2.2.2.2.2.2.2.2.2 hq
    obtain ⟨index, hd, hn, x1, x2, x3, x4⟩ := hP2
    exact q_mmax hRo (fun hsz hcat hc9 hs9 hf9 hl9 kk => va_mmax hx hb (hml.trans hsz.symm) hown (hts _ x1) (hts _ x2) (hts _ x3) (hts _ x4) (by omega) (by omega) hc9 hs9 hd (by rw [hn] at kk; exact kk)) h K
set_option maxHeartbeats 1000000 in
theorem s_ior (hpr : ∀ w ∈ TBL, pres w = true) (hTY : ∀ c : Nat, 32 ≤ c → c ≤ 41 → ∃ cA : ClassId, g0.2.1[c - 32]? = some (cA, aty c)) (hbx : ∀ (ws : va_W) (j : Nat), j < bl → VR g0 ws (pget bx j) (.int (xs j))) (hGPm : ∀ (u : Nat) (d : MD), mdl u = some d → GPd ss TBL cl ft mdl d (prOf u)) (ih : RS ss TBL g0 cl ft bx bl xs (GPd ss TBL cl ft mdl) l n)
    (act : Act ss TBL (gp g0 wp) cl bl xs d p l s m args meth c) (hf : f ≤ R.frames) (hl : lam ≤ R.locals) (hRo : res.2.2.2.1.2.2.2.2.2.2.1 ≤ R.cells + kc0 ∧ res.2.2.2.1.2.2.2.2.2.2.2 ≤ R.slots + ks0) (hEnd : EndOK ss TBL (gp g0 wp) cl ft d p l e R s m args below meth c Q kc0 ks0 f lam res) (hP2 : G_ior ss TBL cl ft mdl d pc w) (h : o_ior bx bl f lam pr pc w L h0 (run bx bl n) (run bx bl n f lam pr) S = some res) (K : ∀ pc' L' h' S', run bx bl n f lam pr pc' L' h' S' = some res → Wp (gp g0 wp) cl ft p l e R s m args below meth c Q d.2.2.1 kc0 ks0 res pc' L' h' S') : Wp (gp g0 wp) cl ft p l e R s m args below meth c Q d.2.2.1 kc0 ks0 res pc L h0 S := by
    obtain ⟨hx, hb, hr, hml, hown, hts, hK, hE, hlocks, hnm, htab, htr⟩ := id act
    have hAg : ∀ q, s.heap.size ≤ q → AA (gp g0 wp) q := fun q hq => Nat.le_trans hE.2.2.2.2.2.2.2.2.2.2 hq
    obtain ⟨hd, hn⟩ := hP2
    exact q_bin iEx_or (fun kk => lv_ior hx hb hd (by rw [hn] at kk; exact kk)) h K
set_option maxHeartbeats 1000000 in
theorem s_ineg (hpr : ∀ w ∈ TBL, pres w = true) (hTY : ∀ c : Nat, 32 ≤ c → c ≤ 41 → ∃ cA : ClassId, g0.2.1[c - 32]? = some (cA, aty c)) (hbx : ∀ (ws : va_W) (j : Nat), j < bl → VR g0 ws (pget bx j) (.int (xs j))) (hGPm : ∀ (u : Nat) (d : MD), mdl u = some d → GPd ss TBL cl ft mdl d (prOf u)) (ih : RS ss TBL g0 cl ft bx bl xs (GPd ss TBL cl ft mdl) l n)
    (act : Act ss TBL (gp g0 wp) cl bl xs d p l s m args meth c) (hf : f ≤ R.frames) (hl : lam ≤ R.locals) (hRo : res.2.2.2.1.2.2.2.2.2.2.1 ≤ R.cells + kc0 ∧ res.2.2.2.1.2.2.2.2.2.2.2 ≤ R.slots + ks0) (hEnd : EndOK ss TBL (gp g0 wp) cl ft d p l e R s m args below meth c Q kc0 ks0 f lam res) (hP2 : G_ineg ss TBL cl ft mdl d pc w) (h : o_ineg bx bl f lam pr pc w L h0 (run bx bl n) (run bx bl n f lam pr) S = some res) (K : ∀ pc' L' h' S', run bx bl n f lam pr pc' L' h' S' = some res → Wp (gp g0 wp) cl ft p l e R s m args below meth c Q d.2.2.1 kc0 ks0 res pc' L' h' S') : Wp (gp g0 wp) cl ft p l e R s m args below meth c Q d.2.2.1 kc0 ks0 res pc L h0 S := by
    obtain ⟨hx, hb, hr, hml, hown, hts, hK, hE, hlocks, hnm, htab, htr⟩ := id act
    have hAg : ∀ q, s.heap.size ≤ q → AA (gp g0 wp) q := fun q hq => Nat.le_trans hE.2.2.2.2.2.2.2.2.2.2 hq
    obtain ⟨hd, hn⟩ := hP2
    exact q_una iEx_neg (fun kk => lv_ineg hx hb hd (by rw [hn] at kk; exact kk)) h K
set_option maxHeartbeats 1000000 in
theorem s_retD (hpr : ∀ w ∈ TBL, pres w = true) (hTY : ∀ c : Nat, 32 ≤ c → c ≤ 41 → ∃ cA : ClassId, g0.2.1[c - 32]? = some (cA, aty c)) (hbx : ∀ (ws : va_W) (j : Nat), j < bl → VR g0 ws (pget bx j) (.int (xs j))) (hGPm : ∀ (u : Nat) (d : MD), mdl u = some d → GPd ss TBL cl ft mdl d (prOf u)) (ih : RS ss TBL g0 cl ft bx bl xs (GPd ss TBL cl ft mdl) l n)
    (act : Act ss TBL (gp g0 wp) cl bl xs d p l s m args meth c) (hf : f ≤ R.frames) (hl : lam ≤ R.locals) (hRo : res.2.2.2.1.2.2.2.2.2.2.1 ≤ R.cells + kc0 ∧ res.2.2.2.1.2.2.2.2.2.2.2 ≤ R.slots + ks0) (hEnd : EndOK ss TBL (gp g0 wp) cl ft d p l e R s m args below meth c Q kc0 ks0 f lam res) (hP2 : G_retD ss TBL cl ft mdl d pc w) (h : o_retD bx bl f lam pr pc w L h0 (run bx bl n) (run bx bl n f lam pr) S = some res) (K : ∀ pc' L' h' S', run bx bl n f lam pr pc' L' h' S' = some res → Wp (gp g0 wp) cl ft p l e R s m args below meth c Q d.2.2.1 kc0 ks0 res pc' L' h' S') : Wp (gp g0 wp) cl ft p l e R s m args below meth c Q d.2.2.1 kc0 ks0 res pc L h0 S := by
    obtain ⟨hx, hb, hr, hml, hown, hts, hK, hE, hlocks, hnm, htab, htr⟩ := id act
    have hAg : ∀ q, s.heap.size ≤ q → AA (gp g0 wp) q := fun q hq => Nat.le_trans hE.2.2.2.2.2.2.2.2.2.2 hq
    obtain ⟨hd, hr9⟩ := hP2
    obtain ⟨ht, h⟩ := br_s h
    obtain rfl := (Option.some.inj h).symm
    exact ⟨⟨Nat.le_refl _, Nat.le_refl _⟩, hEnd.1 rfl (Or.inr (Or.inr (Or.inr (Or.inl ⟨hd, hr9, isT_t ht⟩))))⟩
set_option maxHeartbeats 1000000 in
theorem s_acmpeq (hpr : ∀ w ∈ TBL, pres w = true) (hTY : ∀ c : Nat, 32 ≤ c → c ≤ 41 → ∃ cA : ClassId, g0.2.1[c - 32]? = some (cA, aty c)) (hbx : ∀ (ws : va_W) (j : Nat), j < bl → VR g0 ws (pget bx j) (.int (xs j))) (hGPm : ∀ (u : Nat) (d : MD), mdl u = some d → GPd ss TBL cl ft mdl d (prOf u)) (ih : RS ss TBL g0 cl ft bx bl xs (GPd ss TBL cl ft mdl) l n)
    (act : Act ss TBL (gp g0 wp) cl bl xs d p l s m args meth c) (hf : f ≤ R.frames) (hl : lam ≤ R.locals) (hRo : res.2.2.2.1.2.2.2.2.2.2.1 ≤ R.cells + kc0 ∧ res.2.2.2.1.2.2.2.2.2.2.2 ≤ R.slots + ks0) (hEnd : EndOK ss TBL (gp g0 wp) cl ft d p l e R s m args below meth c Q kc0 ks0 f lam res) (hP2 : G_acmpeq ss TBL cl ft mdl d pc w) (h : o_acmpeq bx bl f lam pr pc w L h0 (run bx bl n) (run bx bl n f lam pr) S = some res) (K : ∀ pc' L' h' S', run bx bl n f lam pr pc' L' h' S' = some res → Wp (gp g0 wp) cl ft p l e R s m args below meth c Q d.2.2.1 kc0 ks0 res pc' L' h' S') : Wp (gp g0 wp) cl ft p l e R s m args below meth c Q d.2.2.1 kc0 ks0 res pc L h0 S := by
    obtain ⟨hx, hb, hr, hml, hown, hts, hK, hE, hlocks, hnm, htab, htr⟩ := id act
    have hAg : ∀ q, s.heap.size ≤ q → AA (gp g0 wp) q := fun q hq => Nat.le_trans hE.2.2.2.2.2.2.2.2.2.2 hq
    obtain ⟨off, hd, ht⟩ := hP2
    exact q_acmp (fun kk => lv_acmp_eq (rx := some _) (ry := some _) hx hb hd ht (fun _ => kk) (fun q => absurd rfl q)) h K
set_option maxHeartbeats 1000000 in
theorem s_dupx1 (hpr : ∀ w ∈ TBL, pres w = true) (hTY : ∀ c : Nat, 32 ≤ c → c ≤ 41 → ∃ cA : ClassId, g0.2.1[c - 32]? = some (cA, aty c)) (hbx : ∀ (ws : va_W) (j : Nat), j < bl → VR g0 ws (pget bx j) (.int (xs j))) (hGPm : ∀ (u : Nat) (d : MD), mdl u = some d → GPd ss TBL cl ft mdl d (prOf u)) (ih : RS ss TBL g0 cl ft bx bl xs (GPd ss TBL cl ft mdl) l n)
    (act : Act ss TBL (gp g0 wp) cl bl xs d p l s m args meth c) (hf : f ≤ R.frames) (hl : lam ≤ R.locals) (hRo : res.2.2.2.1.2.2.2.2.2.2.1 ≤ R.cells + kc0 ∧ res.2.2.2.1.2.2.2.2.2.2.2 ≤ R.slots + ks0) (hEnd : EndOK ss TBL (gp g0 wp) cl ft d p l e R s m args below meth c Q kc0 ks0 f lam res) (hP2 : G_dupx1 ss TBL cl ft mdl d pc w) (h : o_dupx1 bx bl f lam pr pc w L h0 (run bx bl n) (run bx bl n f lam pr) S = some res) (K : ∀ pc' L' h' S', run bx bl n f lam pr pc' L' h' S' = some res → Wp (gp g0 wp) cl ft p l e R s m args below meth c Q d.2.2.1 kc0 ks0 res pc' L' h' S') : Wp (gp g0 wp) cl ft p l e R s m args below meth c Q d.2.2.1 kc0 ks0 res pc L h0 S := by
    obtain ⟨hx, hb, hr, hml, hown, hts, hK, hE, hlocks, hnm, htab, htr⟩ := id act
    have hAg : ∀ q, s.heap.size ≤ q → AA (gp g0 wp) q := fun q hq => Nat.le_trans hE.2.2.2.2.2.2.2.2.2.2 hq
    obtain ⟨hd, hn⟩ := hP2
    exact q_dupx1 (fun c1 c2 kk => lv_dup_x1 hx hb hd c1 c2 (by rw [hn] at kk; exact kk)) h K
set_option maxHeartbeats 1000000 in
theorem s_storeF (hpr : ∀ w ∈ TBL, pres w = true) (hTY : ∀ c : Nat, 32 ≤ c → c ≤ 41 → ∃ cA : ClassId, g0.2.1[c - 32]? = some (cA, aty c)) (hbx : ∀ (ws : va_W) (j : Nat), j < bl → VR g0 ws (pget bx j) (.int (xs j))) (hGPm : ∀ (u : Nat) (d : MD), mdl u = some d → GPd ss TBL cl ft mdl d (prOf u)) (ih : RS ss TBL g0 cl ft bx bl xs (GPd ss TBL cl ft mdl) l n)
    (act : Act ss TBL (gp g0 wp) cl bl xs d p l s m args meth c) (hf : f ≤ R.frames) (hl : lam ≤ R.locals) (hRo : res.2.2.2.1.2.2.2.2.2.2.1 ≤ R.cells + kc0 ∧ res.2.2.2.1.2.2.2.2.2.2.2 ≤ R.slots + ks0) (hEnd : EndOK ss TBL (gp g0 wp) cl ft d p l e R s m args below meth c Q kc0 ks0 f lam res) (hP2 : G_storeF ss TBL cl ft mdl d pc w) (h : o_storeF bx bl f lam pr pc w L h0 (run bx bl n) (run bx bl n f lam pr) S = some res) (K : ∀ pc' L' h' S', run bx bl n f lam pr pc' L' h' S' = some res → Wp (gp g0 wp) cl ft p l e R s m args below meth c Q d.2.2.1 kc0 ks0 res pc' L' h' S') : Wp (gp g0 wp) cl ft p l e R s m args below meth c Q d.2.2.1 kc0 ks0 res pc L h0 S := by
    obtain ⟨hx, hb, hr, hml, hown, hts, hK, hE, hlocks, hnm, htab, htr⟩ := id act
    have hAg : ∀ q, s.heap.size ≤ q → AA (gp g0 wp) q := fun q hq => Nat.le_trans hE.2.2.2.2.2.2.2.2.2.2 hq
    cases h
set_option maxHeartbeats 1000000 in
theorem s_fcon (hpr : ∀ w ∈ TBL, pres w = true) (hTY : ∀ c : Nat, 32 ≤ c → c ≤ 41 → ∃ cA : ClassId, g0.2.1[c - 32]? = some (cA, aty c)) (hbx : ∀ (ws : va_W) (j : Nat), j < bl → VR g0 ws (pget bx j) (.int (xs j))) (hGPm : ∀ (u : Nat) (d : MD), mdl u = some d → GPd ss TBL cl ft mdl d (prOf u)) (ih : RS ss TBL g0 cl ft bx bl xs (GPd ss TBL cl ft mdl) l n)
    (act : Act ss TBL (gp g0 wp) cl bl xs d p l s m args meth c) (hf : f ≤ R.frames) (hl : lam ≤ R.locals) (hRo : res.2.2.2.1.2.2.2.2.2.2.1 ≤ R.cells + kc0 ∧ res.2.2.2.1.2.2.2.2.2.2.2 ≤ R.slots + ks0) (hEnd : EndOK ss TBL (gp g0 wp) cl ft d p l e R s m args below meth c Q kc0 ks0 f lam res) (hP2 : G_fcon ss TBL cl ft mdl d pc w) (h : o_fcon bx bl f lam pr pc w L h0 (run bx bl n) (run bx bl n f lam pr) S = some res) (K : ∀ pc' L' h' S', run bx bl n f lam pr pc' L' h' S' = some res → Wp (gp g0 wp) cl ft p l e R s m args below meth c Q d.2.2.1 kc0 ks0 res pc' L' h' S') : Wp (gp g0 wp) cl ft p l e R s m args below meth c Q d.2.2.1 kc0 ks0 res pc L h0 S := by
    obtain ⟨hx, hb, hr, hml, hown, hts, hK, hE, hlocks, hnm, htab, htr⟩ := id act
    have hAg : ∀ q, s.heap.size ≤ q → AA (gp g0 wp) q := fun q hq => Nat.le_trans hE.2.2.2.2.2.2.2.2.2.2 hq
    cases h
set_option maxHeartbeats 1000000 in
theorem s_fcmpg (hpr : ∀ w ∈ TBL, pres w = true) (hTY : ∀ c : Nat, 32 ≤ c → c ≤ 41 → ∃ cA : ClassId, g0.2.1[c - 32]? = some (cA, aty c)) (hbx : ∀ (ws : va_W) (j : Nat), j < bl → VR g0 ws (pget bx j) (.int (xs j))) (hGPm : ∀ (u : Nat) (d : MD), mdl u = some d → GPd ss TBL cl ft mdl d (prOf u)) (ih : RS ss TBL g0 cl ft bx bl xs (GPd ss TBL cl ft mdl) l n)
    (act : Act ss TBL (gp g0 wp) cl bl xs d p l s m args meth c) (hf : f ≤ R.frames) (hl : lam ≤ R.locals) (hRo : res.2.2.2.1.2.2.2.2.2.2.1 ≤ R.cells + kc0 ∧ res.2.2.2.1.2.2.2.2.2.2.2 ≤ R.slots + ks0) (hEnd : EndOK ss TBL (gp g0 wp) cl ft d p l e R s m args below meth c Q kc0 ks0 f lam res) (hP2 : G_fcmpg ss TBL cl ft mdl d pc w) (h : o_fcmpg bx bl f lam pr pc w L h0 (run bx bl n) (run bx bl n f lam pr) S = some res) (K : ∀ pc' L' h' S', run bx bl n f lam pr pc' L' h' S' = some res → Wp (gp g0 wp) cl ft p l e R s m args below meth c Q d.2.2.1 kc0 ks0 res pc' L' h' S') : Wp (gp g0 wp) cl ft p l e R s m args below meth c Q d.2.2.1 kc0 ks0 res pc L h0 S := by
    obtain ⟨hx, hb, hr, hml, hown, hts, hK, hE, hlocks, hnm, htab, htr⟩ := id act
    have hAg : ∀ q, s.heap.size ≤ q → AA (gp g0 wp) q := fun q hq => Nat.le_trans hE.2.2.2.2.2.2.2.2.2.2 hq
    obtain ⟨hd, hn⟩ := hP2
    cases h
set_option maxHeartbeats 1000000 in
theorem s_fmul (hpr : ∀ w ∈ TBL, pres w = true) (hTY : ∀ c : Nat, 32 ≤ c → c ≤ 41 → ∃ cA : ClassId, g0.2.1[c - 32]? = some (cA, aty c)) (hbx : ∀ (ws : va_W) (j : Nat), j < bl → VR g0 ws (pget bx j) (.int (xs j))) (hGPm : ∀ (u : Nat) (d : MD), mdl u = some d → GPd ss TBL cl ft mdl d (prOf u)) (ih : RS ss TBL g0 cl ft bx bl xs (GPd ss TBL cl ft mdl) l n)
    (act : Act ss TBL (gp g0 wp) cl bl xs d p l s m args meth c) (hf : f ≤ R.frames) (hl : lam ≤ R.locals) (hRo : res.2.2.2.1.2.2.2.2.2.2.1 ≤ R.cells + kc0 ∧ res.2.2.2.1.2.2.2.2.2.2.2 ≤ R.slots + ks0) (hEnd : EndOK ss TBL (gp g0 wp) cl ft d p l e R s m args below meth c Q kc0 ks0 f lam res) (hP2 : G_fmul ss TBL cl ft mdl d pc w) (h : o_fmul bx bl f lam pr pc w L h0 (run bx bl n) (run bx bl n f lam pr) S = some res) (K : ∀ pc' L' h' S', run bx bl n f lam pr pc' L' h' S' = some res → Wp (gp g0 wp) cl ft p l e R s m args below meth c Q d.2.2.1 kc0 ks0 res pc' L' h' S') : Wp (gp g0 wp) cl ft p l e R s m args below meth c Q d.2.2.1 kc0 ks0 res pc L h0 S := by
    obtain ⟨hx, hb, hr, hml, hown, hts, hK, hE, hlocks, hnm, htab, htr⟩ := id act
    have hAg : ∀ q, s.heap.size ≤ q → AA (gp g0 wp) q := fun q hq => Nat.le_trans hE.2.2.2.2.2.2.2.2.2.2 hq
    obtain ⟨hd, hn⟩ := hP2
    cases h
set_option maxHeartbeats 1000000 in
theorem s_fsub (hpr : ∀ w ∈ TBL, pres w = true) (hTY : ∀ c : Nat, 32 ≤ c → c ≤ 41 → ∃ cA : ClassId, g0.2.1[c - 32]? = some (cA, aty c)) (hbx : ∀ (ws : va_W) (j : Nat), j < bl → VR g0 ws (pget bx j) (.int (xs j))) (hGPm : ∀ (u : Nat) (d : MD), mdl u = some d → GPd ss TBL cl ft mdl d (prOf u)) (ih : RS ss TBL g0 cl ft bx bl xs (GPd ss TBL cl ft mdl) l n)
    (act : Act ss TBL (gp g0 wp) cl bl xs d p l s m args meth c) (hf : f ≤ R.frames) (hl : lam ≤ R.locals) (hRo : res.2.2.2.1.2.2.2.2.2.2.1 ≤ R.cells + kc0 ∧ res.2.2.2.1.2.2.2.2.2.2.2 ≤ R.slots + ks0) (hEnd : EndOK ss TBL (gp g0 wp) cl ft d p l e R s m args below meth c Q kc0 ks0 f lam res) (hP2 : G_fsub ss TBL cl ft mdl d pc w) (h : o_fsub bx bl f lam pr pc w L h0 (run bx bl n) (run bx bl n f lam pr) S = some res) (K : ∀ pc' L' h' S', run bx bl n f lam pr pc' L' h' S' = some res → Wp (gp g0 wp) cl ft p l e R s m args below meth c Q d.2.2.1 kc0 ks0 res pc' L' h' S') : Wp (gp g0 wp) cl ft p l e R s m args below meth c Q d.2.2.1 kc0 ks0 res pc L h0 S := by
    obtain ⟨hx, hb, hr, hml, hown, hts, hK, hE, hlocks, hnm, htab, htr⟩ := id act
    have hAg : ∀ q, s.heap.size ≤ q → AA (gp g0 wp) q := fun q hq => Nat.le_trans hE.2.2.2.2.2.2.2.2.2.2 hq
    obtain ⟨hd, hn⟩ := hP2
    cases h
set_option maxHeartbeats 1000000 in
theorem s_f2i (hpr : ∀ w ∈ TBL, pres w = true) (hTY : ∀ c : Nat, 32 ≤ c → c ≤ 41 → ∃ cA : ClassId, g0.2.1[c - 32]? = some (cA, aty c)) (hbx : ∀ (ws : va_W) (j : Nat), j < bl → VR g0 ws (pget bx j) (.int (xs j))) (hGPm : ∀ (u : Nat) (d : MD), mdl u = some d → GPd ss TBL cl ft mdl d (prOf u)) (ih : RS ss TBL g0 cl ft bx bl xs (GPd ss TBL cl ft mdl) l n)
    (act : Act ss TBL (gp g0 wp) cl bl xs d p l s m args meth c) (hf : f ≤ R.frames) (hl : lam ≤ R.locals) (hRo : res.2.2.2.1.2.2.2.2.2.2.1 ≤ R.cells + kc0 ∧ res.2.2.2.1.2.2.2.2.2.2.2 ≤ R.slots + ks0) (hEnd : EndOK ss TBL (gp g0 wp) cl ft d p l e R s m args below meth c Q kc0 ks0 f lam res) (hP2 : G_f2i ss TBL cl ft mdl d pc w) (h : o_f2i bx bl f lam pr pc w L h0 (run bx bl n) (run bx bl n f lam pr) S = some res) (K : ∀ pc' L' h' S', run bx bl n f lam pr pc' L' h' S' = some res → Wp (gp g0 wp) cl ft p l e R s m args below meth c Q d.2.2.1 kc0 ks0 res pc' L' h' S') : Wp (gp g0 wp) cl ft p l e R s m args below meth c Q d.2.2.1 kc0 ks0 res pc L h0 S := by
    obtain ⟨hx, hb, hr, hml, hown, hts, hK, hE, hlocks, hnm, htab, htr⟩ := id act
    have hAg : ∀ q, s.heap.size ≤ q → AA (gp g0 wp) q := fun q hq => Nat.le_trans hE.2.2.2.2.2.2.2.2.2.2 hq
    obtain ⟨hd, hn⟩ := hP2
    cases h
set_option maxHeartbeats 1000000 in
theorem s_l2d (hpr : ∀ w ∈ TBL, pres w = true) (hTY : ∀ c : Nat, 32 ≤ c → c ≤ 41 → ∃ cA : ClassId, g0.2.1[c - 32]? = some (cA, aty c)) (hbx : ∀ (ws : va_W) (j : Nat), j < bl → VR g0 ws (pget bx j) (.int (xs j))) (hGPm : ∀ (u : Nat) (d : MD), mdl u = some d → GPd ss TBL cl ft mdl d (prOf u)) (ih : RS ss TBL g0 cl ft bx bl xs (GPd ss TBL cl ft mdl) l n)
    (act : Act ss TBL (gp g0 wp) cl bl xs d p l s m args meth c) (hf : f ≤ R.frames) (hl : lam ≤ R.locals) (hRo : res.2.2.2.1.2.2.2.2.2.2.1 ≤ R.cells + kc0 ∧ res.2.2.2.1.2.2.2.2.2.2.2 ≤ R.slots + ks0) (hEnd : EndOK ss TBL (gp g0 wp) cl ft d p l e R s m args below meth c Q kc0 ks0 f lam res) (hP2 : G_l2d ss TBL cl ft mdl d pc w) (h : o_l2d bx bl f lam pr pc w L h0 (run bx bl n) (run bx bl n f lam pr) S = some res) (K : ∀ pc' L' h' S', run bx bl n f lam pr pc' L' h' S' = some res → Wp (gp g0 wp) cl ft p l e R s m args below meth c Q d.2.2.1 kc0 ks0 res pc' L' h' S') : Wp (gp g0 wp) cl ft p l e R s m args below meth c Q d.2.2.1 kc0 ks0 res pc L h0 S := by
    obtain ⟨hx, hb, hr, hml, hown, hts, hK, hE, hlocks, hnm, htab, htr⟩ := id act
    have hAg : ∀ q, s.heap.size ≤ q → AA (gp g0 wp) q := fun q hq => Nat.le_trans hE.2.2.2.2.2.2.2.2.2.2 hq
    obtain ⟨hd, hn⟩ := hP2
    cases h
set_option maxHeartbeats 1000000 in
theorem s_ddiv (hpr : ∀ w ∈ TBL, pres w = true) (hTY : ∀ c : Nat, 32 ≤ c → c ≤ 41 → ∃ cA : ClassId, g0.2.1[c - 32]? = some (cA, aty c)) (hbx : ∀ (ws : va_W) (j : Nat), j < bl → VR g0 ws (pget bx j) (.int (xs j))) (hGPm : ∀ (u : Nat) (d : MD), mdl u = some d → GPd ss TBL cl ft mdl d (prOf u)) (ih : RS ss TBL g0 cl ft bx bl xs (GPd ss TBL cl ft mdl) l n)
    (act : Act ss TBL (gp g0 wp) cl bl xs d p l s m args meth c) (hf : f ≤ R.frames) (hl : lam ≤ R.locals) (hRo : res.2.2.2.1.2.2.2.2.2.2.1 ≤ R.cells + kc0 ∧ res.2.2.2.1.2.2.2.2.2.2.2 ≤ R.slots + ks0) (hEnd : EndOK ss TBL (gp g0 wp) cl ft d p l e R s m args below meth c Q kc0 ks0 f lam res) (hP2 : G_ddiv ss TBL cl ft mdl d pc w) (h : o_ddiv bx bl f lam pr pc w L h0 (run bx bl n) (run bx bl n f lam pr) S = some res) (K : ∀ pc' L' h' S', run bx bl n f lam pr pc' L' h' S' = some res → Wp (gp g0 wp) cl ft p l e R s m args below meth c Q d.2.2.1 kc0 ks0 res pc' L' h' S') : Wp (gp g0 wp) cl ft p l e R s m args below meth c Q d.2.2.1 kc0 ks0 res pc L h0 S := by
    obtain ⟨hx, hb, hr, hml, hown, hts, hK, hE, hlocks, hnm, htab, htr⟩ := id act
    have hAg : ∀ q, s.heap.size ≤ q → AA (gp g0 wp) q := fun q hq => Nat.le_trans hE.2.2.2.2.2.2.2.2.2.2 hq
    obtain ⟨hd, hn⟩ := hP2
    cases h
set_option maxHeartbeats 1000000 in
theorem s_i2d (hpr : ∀ w ∈ TBL, pres w = true) (hTY : ∀ c : Nat, 32 ≤ c → c ≤ 41 → ∃ cA : ClassId, g0.2.1[c - 32]? = some (cA, aty c)) (hbx : ∀ (ws : va_W) (j : Nat), j < bl → VR g0 ws (pget bx j) (.int (xs j))) (hGPm : ∀ (u : Nat) (d : MD), mdl u = some d → GPd ss TBL cl ft mdl d (prOf u)) (ih : RS ss TBL g0 cl ft bx bl xs (GPd ss TBL cl ft mdl) l n)
    (act : Act ss TBL (gp g0 wp) cl bl xs d p l s m args meth c) (hf : f ≤ R.frames) (hl : lam ≤ R.locals) (hRo : res.2.2.2.1.2.2.2.2.2.2.1 ≤ R.cells + kc0 ∧ res.2.2.2.1.2.2.2.2.2.2.2 ≤ R.slots + ks0) (hEnd : EndOK ss TBL (gp g0 wp) cl ft d p l e R s m args below meth c Q kc0 ks0 f lam res) (hP2 : G_i2d ss TBL cl ft mdl d pc w) (h : o_i2d bx bl f lam pr pc w L h0 (run bx bl n) (run bx bl n f lam pr) S = some res) (K : ∀ pc' L' h' S', run bx bl n f lam pr pc' L' h' S' = some res → Wp (gp g0 wp) cl ft p l e R s m args below meth c Q d.2.2.1 kc0 ks0 res pc' L' h' S') : Wp (gp g0 wp) cl ft p l e R s m args below meth c Q d.2.2.1 kc0 ks0 res pc L h0 S := by
    obtain ⟨hx, hb, hr, hml, hown, hts, hK, hE, hlocks, hnm, htab, htr⟩ := id act
    have hAg : ∀ q, s.heap.size ≤ q → AA (gp g0 wp) q := fun q hq => Nat.le_trans hE.2.2.2.2.2.2.2.2.2.2 hq
    obtain ⟨hd, hn⟩ := hP2
    cases h
set_option maxHeartbeats 1000000 in
theorem s_cast (hpr : ∀ w ∈ TBL, pres w = true) (hTY : ∀ c : Nat, 32 ≤ c → c ≤ 41 → ∃ cA : ClassId, g0.2.1[c - 32]? = some (cA, aty c)) (hbx : ∀ (ws : va_W) (j : Nat), j < bl → VR g0 ws (pget bx j) (.int (xs j))) (hGPm : ∀ (u : Nat) (d : MD), mdl u = some d → GPd ss TBL cl ft mdl d (prOf u)) (ih : RS ss TBL g0 cl ft bx bl xs (GPd ss TBL cl ft mdl) l n)
    (act : Act ss TBL (gp g0 wp) cl bl xs d p l s m args meth c) (hf : f ≤ R.frames) (hl : lam ≤ R.locals) (hRo : res.2.2.2.1.2.2.2.2.2.2.1 ≤ R.cells + kc0 ∧ res.2.2.2.1.2.2.2.2.2.2.2 ≤ R.slots + ks0) (hEnd : EndOK ss TBL (gp g0 wp) cl ft d p l e R s m args below meth c Q kc0 ks0 f lam res) (hP2 : G_cast ss TBL cl ft mdl d pc w) (h : o_cast bx bl f lam pr pc w L h0 (run bx bl n) (run bx bl n f lam pr) S = some res) (K : ∀ pc' L' h' S', run bx bl n f lam pr pc' L' h' S' = some res → Wp (gp g0 wp) cl ft p l e R s m args below meth c Q d.2.2.1 kc0 ks0 res pc' L' h' S') : Wp (gp g0 wp) cl ft p l e R s m args below meth c Q d.2.2.1 kc0 ks0 res pc L h0 S := by
    obtain ⟨hx, hb, hr, hml, hown, hts, hK, hE, hlocks, hnm, htab, htr⟩ := id act
    have hAg : ∀ q, s.heap.size ≤ q → AA (gp g0 wp) q := fun q hq => Nat.le_trans hE.2.2.2.2.2.2.2.2.2.2 hq
    cases h
set_option maxHeartbeats 1000000 in
theorem s_dast (hpr : ∀ w ∈ TBL, pres w = true) (hTY : ∀ c : Nat, 32 ≤ c → c ≤ 41 → ∃ cA : ClassId, g0.2.1[c - 32]? = some (cA, aty c)) (hbx : ∀ (ws : va_W) (j : Nat), j < bl → VR g0 ws (pget bx j) (.int (xs j))) (hGPm : ∀ (u : Nat) (d : MD), mdl u = some d → GPd ss TBL cl ft mdl d (prOf u)) (ih : RS ss TBL g0 cl ft bx bl xs (GPd ss TBL cl ft mdl) l n)
    (act : Act ss TBL (gp g0 wp) cl bl xs d p l s m args meth c) (hf : f ≤ R.frames) (hl : lam ≤ R.locals) (hRo : res.2.2.2.1.2.2.2.2.2.2.1 ≤ R.cells + kc0 ∧ res.2.2.2.1.2.2.2.2.2.2.2 ≤ R.slots + ks0) (hEnd : EndOK ss TBL (gp g0 wp) cl ft d p l e R s m args below meth c Q kc0 ks0 f lam res) (hP2 : G_dast ss TBL cl ft mdl d pc w) (h : o_dast bx bl f lam pr pc w L h0 (run bx bl n) (run bx bl n f lam pr) S = some res) (K : ∀ pc' L' h' S', run bx bl n f lam pr pc' L' h' S' = some res → Wp (gp g0 wp) cl ft p l e R s m args below meth c Q d.2.2.1 kc0 ks0 res pc' L' h' S') : Wp (gp g0 wp) cl ft p l e R s m args below meth c Q d.2.2.1 kc0 ks0 res pc L h0 S := by
    obtain ⟨hx, hb, hr, hml, hown, hts, hK, hE, hlocks, hnm, htab, htr⟩ := id act
    have hAg : ∀ q, s.heap.size ≤ q → AA (gp g0 wp) q := fun q hq => Nat.le_trans hE.2.2.2.2.2.2.2.2.2.2 hq
    obtain ⟨hd, hn⟩ := hP2
    cases h
end SOUND

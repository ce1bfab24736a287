/-! The law, for every script. -/
def BXT : Nat := 0x7fffffff80000000107fffffff80000000107fffffff80000000107fffffff80000000107fffffff80000000107fffffff800000001000000000000000000
theorem bt_0 : okl BXT 0 20000 = true := by decide +kernel
theorem bt_1 : okl BXT 1 20000 = true := by decide +kernel
theorem bt_2 : okl BXT 2 20000 = true := by decide +kernel
theorem bt_3 : okl BXT 3 20000 = true := by decide +kernel
theorem bt_4 : okl BXT 4 20000 = true := by decide +kernel
theorem bt_5 : okl BXT 5 20000 = true := by decide +kernel
theorem vrT {xs : Nat → Int32} {L : Nat} (hL : L < 6) : ∀ (g : GG) (ws : va_W) (j : Nat), j < L → VR g ws (pget BXT j) (.int (xs j)) := by
  intro g ws j hj
  have e : pget BXT j = 1 + 8 * (0 + 4294967296 * 4294967295) := by
    rcases (show j = 0 ∨ j = 1 ∨ j = 2 ∨ j = 3 ∨ j = 4 by omega) with rfl | rfl | rfl | rfl | rfl <;> decide +kernel
  have := iEx_lt (xs j)
  rw [e]
  exact VR_iv (by decide) (by decide) (by omega) (by omega)
theorem low_k (x : Int32) : ∃ k : Nat, k < 64 ∧ iEx (x &&& 63) = k + 2147483648 := by
  have h : (x &&& 63).toBitVec.toNat ≤ 63 := by
    rw [Int32.toBitVec_and, BitVec.toNat_and]
    exact Nat.le_trans Nat.and_le_right (by decide)
  refine ⟨(x &&& 63).toBitVec.toNat, by omega, ?_⟩
  show ((x &&& 63).toBitVec.toNat + 2147483648) % 4294967296 = _
  omega
theorem cov_all (xs : Nat → Int32) : Cov xs := by
  obtain ⟨k, hk, h⟩ := low_k (xs 0)
  match k, hk, h with
  | 0, _, h => exact cov_0 h
  | 1, _, h => exact cov_1 h
  | 2, _, h => exact cov_2 h
  | 3, _, h => exact cov_3 h
  | 4, _, h => exact cov_4 h
  | 5, _, h => exact cov_5 h
  | 6, _, h => exact cov_6 h
  | 7, _, h => exact cov_7 h
  | 8, _, h => exact cov_8 h
  | 9, _, h => exact cov_9 h
  | 10, _, h => exact cov_10 h
  | 11, _, h => exact cov_11 h
  | 12, _, h => exact cov_12 h
  | 13, _, h => exact cov_13 h
  | 14, _, h => exact cov_14 h
  | 15, _, h => exact cov_15 h
  | 16, _, h => exact cov_16 h
  | 17, _, h => exact cov_17 h
  | 18, _, h => exact cov_18 h
  | 19, _, h => exact cov_19 h
  | 20, _, h => exact cov_20 h
  | 21, _, h => exact cov_21 h
  | 22, _, h => exact cov_22 h
  | 23, _, h => exact cov_23 h
  | 24, _, h => exact cov_24 h
  | 25, _, h => exact cov_25 h
  | 26, _, h => exact cov_26 h
  | 27, _, h => exact cov_27 h
  | 28, _, h => exact cov_28 h
  | 29, _, h => exact cov_29 h
  | 30, _, h => exact cov_30 h
  | 31, _, h => exact cov_31 h
  | 32, _, h => exact cov_32 h
  | 33, _, h => exact cov_33 h
  | 34, _, h => exact cov_34 h
  | 35, _, h => exact cov_35 h
  | 36, _, h => exact cov_36 h
  | 37, _, h => exact cov_37 h
  | 38, _, h => exact cov_38 h
  | 39, _, h => exact cov_39 h
  | 40, _, h => exact cov_40 h
  | 41, _, h => exact cov_41 h
  | 42, _, h => exact cov_42 h
  | 43, _, h => exact cov_43 h
  | 44, _, h => exact cov_44 h
  | 45, _, h => exact cov_45 h
  | 46, _, h => exact cov_46 h
  | 47, _, h => exact cov_47 h
  | 48, _, h => exact cov_48 h
  | 49, _, h => exact cov_49 h
  | 50, _, h => exact cov_50 h
  | 51, _, h => exact cov_51 h
  | 52, _, h => exact cov_52 h
  | 53, _, h => exact cov_53 h
  | 54, _, h => exact cov_54 h
  | 55, _, h => exact cov_55 h
  | 56, _, h => exact cov_56 h
  | 57, _, h => exact cov_57 h
  | 58, _, h => exact cov_58 h
  | 59, _, h => exact cov_59 h
  | 60, _, h => exact cov_60 h
  | 61, _, h => exact cov_61 h
  | 62, _, h => exact cov_62 h
  | 63, _, h => exact cov_63 h
  | n + 64, hk, _ => exact absurd hk (by omega)
set_option maxHeartbeats 1000000 in
theorem whole_start {p : Program} {e : Env} {s : State} {m : MethodId} {below : List Frame} {meth : Method} {c : Code} (l : Launch) (hflags : l.flags = flags0) {b L : Nat} {xs : Nat → Int32} (hL : L ≤ 6) (C0 : lw_At p s m meth c b L xs) : W p l e room_1 s m #[Value.ref b] below meth c s.heap [] 0 0 (lw_Z below #[Value.ref b] s) (entryFrame m ([Value.ref b] : List Value).toArray 9) := by
  by_cases h6 : L = 6
  · subst h6
    obtain ⟨bx, h1, h2⟩ := cov_all xs
    exact law_of gp_0 l hflags hL C0 h1 h2
  · rcases (show L = 0 ∨ L = 1 ∨ L = 2 ∨ L = 3 ∨ L = 4 ∨ L = 5 by omega) with rfl | rfl | rfl | rfl | rfl | rfl
    · exact law_of gp_0 l hflags hL C0 (vrT (by decide)) bt_0
    · exact law_of gp_0 l hflags hL C0 (vrT (by decide)) bt_1
    · exact law_of gp_0 l hflags hL C0 (vrT (by decide)) bt_2
    · exact law_of gp_0 l hflags hL C0 (vrT (by decide)) bt_3
    · exact law_of gp_0 l hflags hL C0 (vrT (by decide)) bt_4
    · exact law_of gp_0 l hflags hL C0 (vrT (by decide)) bt_5
set_option maxHeartbeats 4000000 in
theorem lw_walk (l : Launch) (hflags : l.flags = flags0) (b : Addr) (xs : List Int32) : MetFree l x (headSpec (Jvm.Cond.code x code maxLocals ret :: tables_1) room_1) (lw_P b xs) (fun _ _ _ _ _ => True) lw_Q := by
  refine MetFree.of_bodyS (code := code) (maxLocals := maxLocals) (ret := ret) (by decide) ?_ ?_
  · intro args s m h hn
    obtain ⟨meth, c, h1, h2, h3, h4, h5, h6, -, -⟩ := Cond.code_spec hn (atoms_spec (ws := Jvm.Cond.code x code maxLocals ret :: tables_1) h _ List.mem_cons_self)
    exact ⟨meth, c, h1, h2, h3, h4, h5, h6⟩
  · intro p e s m args below meth c s₁ B hml0 hP _
    obtain ⟨rfl, hx, hbd, hgv⟩ := hP
    obtain ⟨scr, harrAt, hlist, hof, hsmall⟩ := hx
    obtain ⟨hcb, hkn, -, -⟩ := State.arrayAt?_spec harrAt
    have hown : s.vm.findClass R_law = some m.cls := findClass_of_methodNamed B.named
    have hts0 : ∀ c ∈ (Jvm.Cond.code x code maxLocals ret :: tables_1), c.before #[Value.ref b] s = true := atoms_spec (ws := Jvm.Cond.code x code maxLocals ret :: tables_1) B.pre
    have hts : ∀ w ∈ lw_tbl, w.before #[Value.ref b] s = true := k2_hts_sels lw_privs (fun w hw => hts0 w (List.mem_cons_of_mem _ hw)) lw_privs_ok
    have hml : c.maxLocals = 9 := B.maxLocals_eq (hts0 _ List.mem_cons_self)
    have htab9 : c.exceptionTable.toList = [] := by
      obtain ⟨meth9, c9, h1, h2, -, -, -, -, h7, -⟩ := Cond.code_spec B.named (hts0 _ List.mem_cons_self)
      cases Option.some.inj (h1.symm.trans B.method)
      cases Option.some.inj (h2.symm.trans (Stand.of_body B).code)
      rw [Array.isEmpty_iff.mp h7]
    have X₀ : Stand p l e room_1 s m #[Value.ref b] below meth c s₁ [] 0 0 := Stand.of_body B
    have hh0 : s₁.heap = s.heap := by rw [B.state]; rfl
    have hsz : scr.slots.size = xs.length := by rw [← Array.length_toList, hlist, List.length_map]
    have hval : ∀ j : Nat, j < xs.length → scr.slots[j]? = some (.int (xs.getD j 0)) := fun j hj => by
      rw [← Array.getElem?_toList, hlist]
      simp [hj]
    have hbl : b < s.heap.size := (Array.getElem?_eq_some_iff.mp hcb).1
    have hX : va_X b xs.length (fun j => xs.getD j 0) s s.heap := ⟨scr, hcb, hof, hkn, hsz, hval⟩
    have K : W p l e room_1 s m #[Value.ref b] below meth c s₁.heap [] 0 0 (lw_Z below #[Value.ref b] s) (entryFrame m ([Value.ref b] : List Value).toArray 9) := by
      rw [hh0]
      exact whole_start l hflags hbd ⟨B.exec, B.bytes, B.returns, hml, hown, hts, hX, hbl, B.notSynchronized, hgv, (name_of_methodNamed B.named B.method).1, htab9⟩
    obtain ⟨t, a1, o, b1, b2, b3⟩ := K s₁ rfl X₀
    exact ⟨t, o, a1, b1, b2, b3⟩
theorem lw_pre_spec {args : Array Value} {s : State} (h : (Jvm.Cond.and given_1 narrow_1).before args s = true) (hr : rest_1_c.before args s = true) : ∃ (b : Addr) (xs : List Int32), lw_P b xs args s := by
  have hs := flat_of_before _ h
  have hq := flat_of_before _ hr
  have hc : (Cond.count 1).before args s = true := hs _ (by decide +kernel)
  have harr : (Cond.arrayOf (.arg 0) .int).before args s = true := hs _ (by decide +kernel)
  have hle : (Cond.le (.length (.arg 0)) (.int 6)).before args s = true := hs _ (by decide +kernel)
  have hlen : (Cond.isInt (.length (.arg 0))).before args s = true := hq _ (by decide +kernel)
  have hall : (Cond.all (.arg 0) (.isInt (.elem (.arg 0) (.index 0)))).before args s = true := hq _ (by decide +kernel)
  obtain ⟨b, xs, hb, hx⟩ := State.ints_of_pre rfl harr hlen hall
  have hsm : xs.length < 2 ^ 31 := hx.choose_spec.2.2.2
  have hev : (Term.length (.arg 0)).eval args s none [] s = some (.int xs.length.toInt32) := hx.length_eval hb
  have hv := Cond.le_ints hev (show (Term.int 6).eval args s none [] s = some (.int 6) from rfl)
  have hd : xs.length.toInt32 ≤ 6 := by
    simpa [Cond.before, Cond.holds, hv] using hle
  have hN : xs.length ≤ 6 := (Int32.ofNat_le_ofNat hsm (by decide)).mp (show Int32.ofNat xs.length ≤ Int32.ofNat 6 from hd)
  exact ⟨b, xs, Cond.one_arg hc (show args[0]? = some (.ref b) from hb), hx, hN, h⟩
theorem lw_comes (l : Launch) (hflags : l.flags = flags0) : Comes l x (Jvm.Cond.code x code maxLocals ret :: tables_1) room_1 (fun tb e args s => Calls_1 tb e args s ∧ rest_1 tb e args s ∧ Pre_1 tb e args s)
    (fun _ _ args s o t => lw_Q args s o t) := by
  intro p e ha hc hk s m args below hf hfit hheap happ hpre
  obtain ⟨b, xs, hP⟩ := lw_pre_spec hpre.2.2 hpre.2.1
  obtain ⟨k, o, h1, h2, h3, hQ⟩ := lw_walk l hflags b xs p e ha hc hk s m args below hf ((Spec.applies_iff_loose hf).mp happ).1 hP trivial
  exact ⟨k, o, h1, h2, h3, hQ⟩
theorem lw_frame {s t : State} {o : Outcome} {args : Array Value} (h : State.butDraws s t lw_cs (fun t1 => Framed s o t1 [] 600002 7302232)) :
    State.butDraws s t [Jvm.Choice.named "NaN.bits"] (fun t1 => Framed s o t1 (fieldLocs frame_1_writes args s ++ arrayLocs frame_1_arrays args s ++ staticLocs frame_1_statics s) 600002 7302232) := h
theorem lw_limb (L : Cond) (hL : ∀ (args : Array Value) (s t : State), L.after args s (.returned (some (.int 1))) t = true) :
    ArmFor flags0 classFile x code maxLocals ret World_1 tables_1 room_1 Calls_1 rest_1 Pre_1
      (fun tb e a s o t => postC L tb e a s o t ∧ State.butDraws s t [Jvm.Choice.named "NaN.bits"] (fun t1 => Framed s o t1 (fieldLocs frame_1_writes a s ++ arrayLocs frame_1_arrays a s ++ staticLocs frame_1_statics s) 600002 7302232)) := by
  intro l hflags _ _ p e ha hc hk s m args below hf hfit hheap happ hpre
  obtain ⟨k, o, h1, h2, h3, rfl, hF⟩ := lw_comes l hflags p e ha hc hk s m args below hf hfit hheap happ hpre
  exact ⟨k, _, h1, h2, h3, hL args s _, lw_frame hF⟩
theorem i_vc : Claimed_1_1 ∧ Claimed_1_2 := ⟨lw_limb limb_1_1 (fun args s t => by simp [limb_1_1, Cond.after, Cond.holds, Cond.value]), lw_limb limb_1_2 (fun args s t => Cond.after_iff.mpr (by
  first | (rw [show limb_1_2 = Cond.eq .result (.int 1) from rfl, Cond.eq_ints (x := 1) (y := 1) rfl rfl]; simp; done) | (simp [limb_1_2, Cond.value, Term.eval]; done)))⟩

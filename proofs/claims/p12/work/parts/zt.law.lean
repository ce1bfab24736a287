/-! The law, from its entry. -/
def lw_P (b : Addr) (xs : List Int32) (args : Array Value) (s : State) : Prop := args = #[.ref b] ∧ s.IntsAt b xs ∧ xs.length ≤ 3072 ∧ (Jvm.Cond.and given_1 narrow_1).before args s = true
/-- what a walk over the start with the record d0 says of its end, said of the start itself -/
theorem lw_closed {s t : State} {o : Outcome} {d0 : Drawn} {L : List Loc} {k n : Nat} (hd0 : s.drawn.sameBut d0 lw_cs) (hv : ∃ v, o = .returned v) (hW : (s.setDrawn d0).WarmedH t.vm) (hs : (s.setDrawn d0).sameButNew ({ t with vm := s.vm } : State) L k n) : State.butDraws s t lw_cs (fun t1 => Framed s o t1 L k n) := by
  have h2 : t.drawn = d0 := congrArg State.drawn hs.1
  refine ⟨⟨hv, hW, State.sameButNew.setDrawn hs s.drawn⟩, ?_, by decide⟩
  rw [h2]
  exact hd0
def lw_Q (_ : Array Value) (s : State) (o : Outcome) (t : State) : Prop := o = .returned (some (.int 1)) ∧ State.butDraws s t lw_cs (fun t1 => Framed s o t1 [] 638008 7182079)
def lw_Z (below : List Frame) (a : Array Value) (s : State) : State → Prop := fun t => ∃ o, t.status = .running ∧ Ended t below o ∧ lw_Q a s o t
/-- the law's own end, with 1 on the stack, nothing written that was there before, its room as the claim has it; d0: the record of draws at this point (at the entry s.drawn: begin with 'refine W.base ?_' and 'have hd0 := Drawn.sameBut.refl s.drawn lw_cs') -/
theorem lw_ret {p : Program} {l : Launch} {e : Env} {s : State} {m : MethodId} {below : List Frame} {meth : Method} {c : Code} {b : Nat} {d0 : Drawn} (hd0 : s.drawn.sameBut d0 lw_cs) (hx : p.tables.exec = Jvm.exec) (hb : c.code = code) (hr : meth.sig.returnType = ret) (hlocks : meth.locks = false) {pc : Nat} {H : Heap} {ls : Array Slot} (hdg : decode code pc = .ok (.ireturn, 1)) : W p l e room_1 (s.setDrawn d0) m #[Value.ref b] below meth c H [] 638008 7182079 (lw_Z below #[Value.ref b] s) (F0 m pc ls [.int 1]) := by
  intro T hT X
  obtain ⟨fs, hret, hrun, hended, hW, hframe⟩ := X.leave (v := some (.int 1)) (hlocks := hlocks) (fun h => by rw [hr] at h; cases h)
  have hmeth' : T.vm.method? m = some meth := X.method'
  refine ⟨T.setFrames fs, ?_, .returned (some (.int 1)), hrun, hended, rfl, lw_closed hd0 ⟨_, rfl⟩ hW hframe⟩
  jvm_step X.here [X.here.top, hx, hb, hdg, hmeth', hr, ret, narrow_b1]
  (try refine ⟨rfl, ?_⟩); (try refine ⟨rfl, ?_⟩)
  first | (intro acts; rw [hret _ acts rfl rfl rfl]) | rw [hret _ _ rfl rfl rfl]
  exact Steps.refl _
theorem pget_0 (i : Nat) : pget 0 i = 0 := by
  unfold pget
  show (0 >>> _) % _ = 0
  rw [Nat.zero_shiftRight]
theorem H0_lay : Lay H0 := by
  refine ⟨by decide, by decide, by decide, fun a h => absurd h (Nat.not_lt_zero a), fun a b h => absurd h (Nat.not_lt_zero a), fun o _ => ?_⟩
  show br (Nat.ble 65536 o) (pget 0 (Nat.sub o 65536)) (pget 0 o) = 0
  rw [pget_0, pget_0]
  cases Nat.ble 65536 o <;> rfl
theorem L0_at (i : Nat) (h : pget L0 i ≠ 0) : i = 0 := by
  cases i with
  | zero => rfl
  | succ k =>
    exfalso
    apply h
    unfold pget L0
    show (108614429106001839915031 >>> (72 + 72 * (k + 1))) % 4722366482869645213696 = 0
    rw [show 72 + 72 * (k + 1) = 144 + 72 * k by omega, Nat.shiftRight_add, show 108614429106001839915031 >>> 144 = 0 by decide, Nat.zero_shiftRight]
theorem room_S : RS0.2.2.2.1.2.2.2.2.2.2.1 ≤ room_1.cells + 0 ∧ RS0.2.2.2.1.2.2.2.2.2.2.2 ≤ room_1.slots + 0 := by
  have h := cnt_S
  unfold HS at h
  have r1 : 2000 ≤ room_1.cells + 0 := by decide +kernel
  have r2 : 100000 ≤ room_1.slots + 0 := by decide +kernel
  exact ⟨Nat.le_trans h.1 r1, Nat.le_trans h.2 r2⟩
theorem D0_code : D_0.2.1 = code := rfl
theorem ret_int {d : MD} {pc : Nat} {S : List Value} (hR : RetN d pc S (some (.int 1))) : decode d.2.1 pc = .ok (.ireturn, 1) ∧ S = [.int 1] := by
  rcases hR with ⟨q1, -, x, h, q2⟩ | ⟨q1, -, x, -, h, q2⟩ | ⟨-, -, x, -, q2⟩ | ⟨-, -, x, -, q2⟩ | ⟨-, -, v, q1, -, q2⟩ | ⟨-, -, -, q2⟩
  · have e : (1 : Int32) = x := Value.int.inj (Option.some.inj q2)
    rw [← e] at h
    exact ⟨q1, h⟩
  · have e : (1 : Int32) = x := Value.int.inj (Option.some.inj q2)
    rw [← e] at h
    exact ⟨q1, h⟩
  · exact absurd (Option.some.inj q2) (fun z => by cases z)
  · exact absurd (Option.some.inj q2) (fun z => by cases z)
  · have e := Option.some.inj q2
    rw [← e] at q1
    rcases q1 with q1 | ⟨k, q1⟩
    · exact absurd q1 (fun z => by cases z)
    · exact absurd q1 (fun z => by cases z)
  · exact absurd q2 (fun z => by cases z)
theorem tyg_of {g : GG} (h : ∀ c : Nat, 32 ≤ c → c ≤ 41 → ∃ cA : ClassId, g.2.1[c - 32]? = some (cA, aty c)) : TYg g := h
set_option maxHeartbeats 4000000 in
theorem law_of {p : Program} {e : Env} {s : State} {m : MethodId} {below : List Frame} {meth : Method} {c : Code} (l : Launch) (hflags : l.flags = flags0) {b L : Nat} {xs : Nat → Int32} (hL : L ≤ 3072) (C0 : lw_At p s m meth c b L xs) : W p l e room_1 s m #[Value.ref b] below meth c s.heap [] 0 0 (lw_Z below #[Value.ref b] s) (entryFrame m ([Value.ref b] : List Value).toArray 9) := by
  obtain ⟨hx, hb, hr, hml, hown, hts, hX, hbl, hlocks, hg, hnm, htab⟩ := C0
  have htr : l.stackTraces = false := by
    unfold Launch.stackTraces
    rw [hflags]
    decide +kernel
  have htT : ∀ w ∈ TBL, w.before #[Value.ref b] s = true := fun w hw => hts w (List.mem_filter.mp hw).1
  obtain ⟨D0, tys, hK0, hTY⟩ := k_of htT
  obtain ⟨x1, ad, hE⟩ := ext_of hts hX hbl hg hL D0 tys
  have hK := va_K_ad hK0 ad
  generalize hD9 : ((D0.1, fun c => if c = 1000 then ad else D0.2 c) : va_G) = D at hE hK
  have act : Act SSX TBL (gp (D, tys, x1, b, s.heap.size, []) []) CLS L xs D_0 p l s m #[Value.ref b] meth c := ⟨hx, hb, hr, hml, hown, htT, hK, hE, hlocks, hnm, htab, htr⟩
  have hTYg : TYg ((D, tys, x1, b, s.heap.size, []) : GG) := tyg_of hTY
  have fin : ∀ (ls : Array Slot) (H : Heap) (pc : Nat), decode code pc = .ok (.ireturn, 1) → W p l e room_1 s m #[Value.ref b] below meth c H [] 638008 7182079 (lw_Z below #[Value.ref b] s) (F0 m pc ls [.int 1]) := fun ls H pc hd => lw_ret (d0 := s.drawn) (Drawn.sameBut.refl s.drawn lw_cs) hx hb hr hlocks hd
  have hEnd : EndN SSX TBL (gp (D, tys, x1, b, s.heap.size, []) []) CLS D_0 p l e room_1 s m #[Value.ref b] below meth c (lw_Z below #[Value.ref b] s) 0 0 15 616 638008 7182079 PE := by
    refine ⟨fun pc L2 h S r hR hPE hkc hks => ?_, fun pc x L2 h hx3 _ hPE => ?_, fun pc x L2 h S _ hx3 hPE => ?_⟩
    · obtain ⟨-, rfl⟩ := hPE
      have hS := ret_int hR
      rw [D0_code] at hS
      obtain ⟨hd, rfl⟩ := hS
      intro ls st H locs cells slots r
      obtain ⟨ws, hLR, ⟨v', st', rfl, hv, hst, -⟩, hH, hP, hD, hSS, hc1, hc2⟩ := r
      have hv : v' = .int 1 := hv
      subst hv
      subst hst
      refine va_forget (fun q hq => hSS.2.2 q hq) ?_
      exact fun T hT X => fin ls H pc hd T hT (stand_widen X (by omega) (by omega))
    · exact absurd hPE.1 (by omega)
    · exact absurd hPE.1 (by omega)
  have loop := law_loop (R := room_1) (kc0 := 0) (ks0 := 0) hTYg act hEnd (by decide) (by decide) (by decide) (by decide) hL (Nat.le_refl _) (Nat.le_refl _) 513 0 hsS R0S (fun _ => 0) 0 (ivI (rdS 54 1)) (ivI (rdS 54 2)) HS.2.2.2.2.2.2.1 HS.2.2.2.2.2.2.2 0 none none none rfl (by decide) li_S pt_S rfl
  have key := rs_all (ss := SSX) (TBL := TBL) (g0 := (D, tys, x1, b, s.heap.size, [])) (cl := CLS) (ft := ftX) (bx := BXT) (bl := L) (xs := xs) (mdl := mdx) (l := l) tb_pres hTY (fun ws j hj => bx_vr hL _ ws j hj) gpm 20000 [] 15 616 P_0s D_0 p e room_1 s m #[Value.ref b] below meth c (lw_Z below #[Value.ref b] s) 0 0 0 L0 H0 0 RS0 act gp_0s (by decide) (by decide) (run_s L) room_S ?_
  · rw [lg_entry_eq]
    have hl0 := lv_entry [Value.ref b] (n := 9) (show 1 ≤ 9 by decide)
    refine key.2 _ _ _ _ _ _ ⟨[], ⟨_, hl0, fun i hi => ?_⟩, ⟨by decide, wsle.rf []⟩, ⟨rfl, by decide, (fun a q h => by cases h), H0_lay⟩, (fun k q h => by cases h), ⟨(fun i j p q h => by cases h), (fun k q h => by cases h)⟩, va_S.rf, rfl, rfl⟩
    have := L0_at i hi
    subst this
    refine ⟨.ref b, by simp [lv_args], ?_⟩
    rw [show pget L0 0 = 23 by decide]
    exact ⟨by decide, by simp [gp]⟩
  · obtain ⟨k1, k2, k3⟩ := pc_S
    refine ⟨fun q => absurd (k1.symm.trans q) (by decide), fun q1 q2 => absurd (k1 ▸ q2) (by decide), fun _ ls st H locs cells slots r => ?_, fun q => absurd (k1 ▸ q) (by decide)⟩
    rw [k2]
    exact loop _ _ _ _ _ _ (rl_n okh_S k3 lv_S r)

/-! The law for a box of scripts. -/
def lw_P (b : Addr) (xs : List Int32) (args : Array Value) (s : State) : Prop := args = #[.ref b] ∧ s.IntsAt b xs ∧ xs.length ≤ 6 ∧ (Jvm.Cond.and given_1 narrow_1).before args s = true
/-- what a walk over the start with the record d0 says of its end, said of the start itself -/
theorem lw_closed {s t : State} {o : Outcome} {d0 : Drawn} {L : List Loc} {k n : Nat} (hd0 : s.drawn.sameBut d0 lw_cs) (hv : ∃ v, o = .returned v) (hW : (s.setDrawn d0).WarmedH t.vm) (hs : (s.setDrawn d0).sameButNew ({ t with vm := s.vm } : State) L k n) : State.butDraws s t lw_cs (fun t1 => Framed s o t1 L k n) := by
  have h2 : t.drawn = d0 := congrArg State.drawn hs.1
  refine ⟨⟨hv, hW, State.sameButNew.setDrawn hs s.drawn⟩, ?_, by decide⟩
  rw [h2]
  exact hd0
def lw_Q (_ : Array Value) (s : State) (o : Outcome) (t : State) : Prop := o = .returned (some (.int 1)) ∧ State.butDraws s t lw_cs (fun t1 => Framed s o t1 [] 600002 7302232)
def lw_Z (below : List Frame) (a : Array Value) (s : State) : State → Prop := fun t => ∃ o, t.status = .running ∧ Ended t below o ∧ lw_Q a s o t
/-- the law's own end, with 1 on the stack, nothing written that was there before, its room as the claim has it; d0: the record of draws at this point (at the entry s.drawn: begin with 'refine W.base ?_' and 'have hd0 := Drawn.sameBut.refl s.drawn lw_cs') -/
theorem lw_ret {p : Program} {l : Launch} {e : Env} {s : State} {m : MethodId} {below : List Frame} {meth : Method} {c : Code} {b : Nat} {d0 : Drawn} (hd0 : s.drawn.sameBut d0 lw_cs) (hx : p.tables.exec = Jvm.exec) (hb : c.code = code) (hr : meth.sig.returnType = ret) (hlocks : meth.locks = false) {pc : Nat} {H : Heap} {ls : Array Slot} (hdg : decode code pc = .ok (.ireturn, 1)) : W p l e room_1 (s.setDrawn d0) m #[Value.ref b] below meth c H [] 600002 7302232 (lw_Z below #[Value.ref b] s) (F0 m pc ls [.int 1]) := by
  intro T hT X
  obtain ⟨fs, hret, hrun, hended, hW, hframe⟩ := X.leave (v := some (.int 1)) (hlocks := hlocks) (fun h => by rw [hr] at h; cases h)
  have hmeth' : T.vm.method? m = some meth := X.method'
  refine ⟨T.setFrames fs, ?_, .returned (some (.int 1)), hrun, hended, rfl, lw_closed hd0 ⟨_, rfl⟩ hW hframe⟩
  jvm_step X.here [X.here.top, hx, hb, hdg, hmeth', hr, ret, narrow_b1]
  (try refine ⟨rfl, ?_⟩); (try refine ⟨rfl, ?_⟩)
  first | (intro acts; rw [hret _ acts rfl rfl rfl]) | rw [hret _ _ rfl rfl rfl]
  exact Steps.refl _
def L0 : Nat := 108614429106001839915031
def H0 : HP := (0, 0, 0, 0, 0, 65536, 0, 0)
noncomputable def okr (r : RES) : Bool := Nat.beq r.1 8 && Nat.beq r.2.1 2826 && Nat.beq (tp r.2.2.2.2) (mkI 2147483649) && Nat.beq (dt (r1 r.2.2.2.2)) 0 && Nat.ble r.2.2.2.1.2.2.2.2.2.2.1 600002 && Nat.ble r.2.2.2.1.2.2.2.2.2.2.2 7302232
noncomputable def okl (bx bl n : Nat) : Bool := Option.rec (motive := fun _ => Bool) false okr (run bx bl n 15 616 P_0 0 L0 H0 0)
theorem pget_0 (i : Nat) : pget 0 i = 0 := by
  unfold pget
  show (0 >>> _) % _ = 0
  rw [Nat.zero_shiftRight]
theorem H0_lay : Lay H0 := by
  refine ⟨by decide, by decide, by decide, fun a h => absurd h (Nat.not_lt_zero a), fun a b h => absurd h (Nat.not_lt_zero a), fun o _ => ?_⟩
  show br (Nat.ble 65536 o) (pget 0 (Nat.sub o 65536)) (pget 0 o) = 0
  rw [pget_0, pget_0]
  cases Nat.ble 65536 o <;> rfl
theorem L0_at (i : Nat) (h : pget L0 i ≠ 0) : i = 0 := by
  cases i with
  | zero => rfl
  | succ k =>
    exfalso
    apply h
    unfold pget L0
    show (108614429106001839915031 >>> (72 + 72 * (k + 1))) % 4722366482869645213696 = 0
    rw [show 72 + 72 * (k + 1) = 144 + 72 * k by omega, Nat.shiftRight_add, show 108614429106001839915031 >>> 144 = 0 by decide, Nat.zero_shiftRight]
set_option maxHeartbeats 2000000 in
theorem law_of {p : Program} {e : Env} {s : State} {m : MethodId} {below : List Frame} {meth : Method} {c : Code} (hgp : GPd SSX TBL CLS ftX mdx D_0 P_0) (l : Launch) (hflags : l.flags = flags0) {b L : Nat} {xs : Nat → Int32} (hL : L ≤ 6) (C0 : lw_At p s m meth c b L xs) {bx n : Nat} (hbx : ∀ (g : GG) (ws : va_W) (j : Nat), j < L → VR g ws (pget bx j) (.int (xs j))) (hok : okl bx L n = true) : W p l e room_1 s m #[Value.ref b] below meth c s.heap [] 0 0 (lw_Z below #[Value.ref b] s) (entryFrame m ([Value.ref b] : List Value).toArray 9) := by
  obtain ⟨hx, hb, hr, hml, hown, hts, hX, hbl, hlocks, hg, hnm, htab⟩ := C0
  have htr : l.stackTraces = false := by
    unfold Launch.stackTraces
    rw [hflags]
    decide +kernel
  have htT : ∀ w ∈ TBL, w.before #[Value.ref b] s = true := fun w hw => hts w (List.mem_filter.mp hw).1
  obtain ⟨D, tys, hK, hTY⟩ := k_of htT
  obtain ⟨x1, hE⟩ := ext_of hts hX hbl hg hL D tys
  have act : Act SSX TBL (gp (D, tys, x1, b, s.heap.size, []) []) CLS L xs D_0 p l s m #[Value.ref b] meth c := ⟨hx, hb, hr, hml, hown, htT, hK, hE, hlocks, hnm, htab, htr⟩
  unfold okl at hok
  cases hrun : run bx L n 15 616 P_0 0 L0 H0 0 with
  | none => rw [hrun] at hok; cases hok
  | some res =>
    rw [hrun] at hok
    have hok : okr res = true := hok
    unfold okr at hok
    simp only [Bool.and_eq_true] at hok
    obtain ⟨⟨⟨⟨⟨k1, k2⟩, k3⟩, k4⟩, k5⟩, k6⟩ := hok
    have k1 := Nat.eq_of_beq_eq_true k1
    have k2 := Nat.eq_of_beq_eq_true k2
    have k3 := Nat.eq_of_beq_eq_true k3
    have k4 := Nat.eq_of_beq_eq_true k4
    have k5 := Nat.le_of_ble_eq_true k5
    have k6 := Nat.le_of_ble_eq_true k6
    have key := rs_all (ss := SSX) (TBL := TBL) (g0 := (D, tys, x1, b, s.heap.size, [])) (cl := CLS) (ft := ftX) (bx := bx) (bl := L) (xs := xs) (mdl := mdx) (l := l) tb_pres hTY (fun ws j hj => hbx _ ws j hj) gpm n [] 15 616 P_0 D_0 p e room_1 s m #[Value.ref b] below meth c (lw_Z below #[Value.ref b] s) 0 0 0 L0 H0 0 res act hgp (by decide) (by decide) hrun ⟨by show _ ≤ 600002 + 0; omega, by show _ ≤ 7302232 + 0; omega⟩ ?_
    · rw [lg_entry_eq]
      have hl0 := lv_entry [Value.ref b] (n := 9) (show 1 ≤ 9 by decide)
      refine key.2 _ _ _ _ _ _ ⟨[], ⟨_, hl0, fun i hi => ?_⟩, ⟨by decide, wsle.rf []⟩, ⟨rfl, by decide, (fun a q h => by cases h), H0_lay⟩, (fun k q h => by cases h), ⟨(fun i j p q h => by cases h), (fun k q h => by cases h)⟩, va_S.rf, rfl, rfl⟩
      have := L0_at i hi
      subst this
      refine ⟨.ref b, by simp [lv_args], ?_⟩
      rw [show pget L0 0 = 23 by decide]
      exact ⟨by decide, by simp [gp]⟩
    · refine ⟨fun q => by omega, fun q1 q2 => by omega, fun _ ls st H locs cells slots r => ?_, fun q => by omega⟩
      obtain ⟨ws', hL', hS', hH', hP', hD', hSS, hc1, hc2⟩ := r
      obtain ⟨v, st', rfl, hv, hS2⟩ := hS'.pop (by rw [k3]; decide)
      rw [k3] at hv
      obtain ⟨i, rfl, ei⟩ := hv.sint (by decide) (by decide)
      have e1 : i = 1 := iEx_inj.mp (by rw [ei]; decide)
      subst e1
      have hst : st' = [] := by
        cases st' with
        | nil => rfl
        | cons u st2 =>
          have hu : VR (gp (D, tys, x1, b, s.heap.size, []) []) ws' (dt (r1 res.2.2.2.2) % WB) u := hS2.1
          rw [k4] at hu
          exact absurd rfl hu.ne
      subst hst
      rw [k2]
      refine va_forget (fun q hq => hSS.2.2 q hq) ?_
      have fin : W p l e room_1 s m #[Value.ref b] below meth c H [] 600002 7302232 (lw_Z below #[Value.ref b] s) (F0 m 2826 ls [.int 1]) := lw_ret (d0 := s.drawn) (Drawn.sameBut.refl s.drawn lw_cs) hx hb hr hlocks (by decide +kernel)
      exact fun T hT X => fin T hT (stand_widen X (by omega) (by omega))

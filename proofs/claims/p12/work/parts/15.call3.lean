/-! A call, and what follows it. -/
section CALL3
variable {ss : SS} {TBL : List Cond} {g : GG} {cl : List vw_C} {ft : Nat → Nat → Nat} {bx bl : Nat} {xs : Nat → Int32} {GP : MD → Nat → Prop} {l : Launch}
variable {p : Program} {e : Env} {R : Room} {s : State} {m : MethodId} {args : Array Value} {below : List Frame} {meth : Method} {c : Code} {Q : State → Prop} {kc0 ks0 : Nat} {res : RES} {pc w L : Nat} {h0 : HP} {S : Nat} {k : KK}
theorem HR_bump {ws : va_W} {h h' : HP} (hH : HR g ft ws h) (e1 : h'.1 = h.1) (e2 : h'.2.1 = h.2.1) (e3 : h'.2.2.1 = h.2.2.1) (e4 : h'.2.2.2.1 = h.2.2.2.1) (e5 : h'.2.2.2.2.1 = h.2.2.2.2.1) (e6 : h'.2.2.2.2.2.1 = h.2.2.2.2.2.1) : HR g ft ws h' := by
  have eg : ∀ x, hget h' x = hget h x := fun x => by unfold hget; rw [e1, e2]
  have em : ∀ x, mrw h' x = mrw h x := fun x => by unfold mrw; rw [e3]
  obtain ⟨h1, h2, h3, l1, l2, l3, l4, l5, l6⟩ := hH
  refine ⟨by rw [e4]; exact h1, by rw [e4]; exact h2, fun a q hq => ?_, by rw [e5]; exact l1, by rw [e6]; exact l2, by rw [e3, e4]; exact l3, fun a ha => ?_, fun a b ha hb hab => ?_, fun o ho => ?_⟩
  · rw [em]; exact (h3 a q hq).keep (wsle.rf ws) (fun j _ => eg _)
  · rw [em, e5, e6]; rw [e4] at ha; exact l4 a ha
  · rw [em, em]; rw [e4] at ha hb; exact l5 a b ha hb hab
  · rw [eg]; rw [e5, e6] at ho; exact l6 o ho
set_option maxHeartbeats 2000000 in
theorem q_call {n f lam : Nat} {mdl : Nat → Option MD} {d : MD} (hRS : RS ss TBL g cl ft bx bl xs GP l n) (hGPm : ∀ (u : Nat) (d : MD), mdl u = some d → GP d (prOf u)) (hpr : ∀ w ∈ TBL, pres w = true) (act : Act ss TBL g cl bl xs d p l s m args meth c) (hf : f ≤ R.frames) (hl : lam ≤ R.locals) (hRo : res.2.2.2.1.2.2.2.2.2.2.1 ≤ R.cells + kc0 ∧ res.2.2.2.1.2.2.2.2.2.2.2 ≤ R.slots + ks0)
    (hEnd : EndOK ss TBL g cl ft d p l e R s m args below meth c Q kc0 ks0 f lam res) (hok : CallOK ss TBL cl mdl d pc w)
    (h : takeA (Nat.mod (fb w) 16) (Nat.mod (Nat.div (fb w) 16) 64) S 0 (cal2 f lam pc w L h0 (run bx bl n) k) = some res)
    (K : ∀ pc' L' h' S', k pc' L' h' S' = some res → Wp g cl ft p l e R s m args below meth c Q d.2.2.1 kc0 ks0 res pc' L' h' S') : Wp g cl ft p l e R s m args below meth c Q d.2.2.1 kc0 ks0 res pc L h0 S := by
  obtain ⟨d', c1, c2, c3, c4, c5, c6, c7, c8⟩ := hok
  obtain ⟨L2, r, hk, hh⟩ := takeA_s (g := g) _ _ S 0 (show takeA (Nat.mod (fb w) 16) (Nat.mod (Nat.div (fb w) 16) 64) S (0 * 2 ^ (72 * Nat.mod (Nat.div (fb w) 16) 64)) (cal2 f lam pc w L h0 (run bx bl n) k) = some res by rw [Nat.zero_mul]; exact h)
  have hk : br (an (Nat.ble 1 f) (an (Nat.ble (Nat.add (Nat.mod (Nat.div (fb w) 1024) 256) 19) lam) (an (catk 9 r 0) (rcv h0 (fb w) (pget L2 0))))) (fc (Nat.sub f 1) (fun f => fc (Nat.sub lam (Nat.add (Nat.mod (Nat.div (fb w) 1024) 256) 19)) (fun lam => fc (prOf (fa w)) (fun pr => cal3 pc w L r h0 k (run bx bl n f lam pr 0 L2 h0 0))))) none = some res := hk
  obtain ⟨hq, hk⟩ := br_s hk
  obtain ⟨f1, hq⟩ := an_t hq
  obtain ⟨f2, hq⟩ := an_t hq
  obtain ⟨f3, f4⟩ := an_t hq
  have f1 := ble_t f1
  have f2 : fb w / 1024 % 256 + 19 ≤ lam := ble_t f2
  rw [c3] at f2
  rw [fc_eq, fc_eq, fc_eq] at hk
  have hk : cal3 pc w L r h0 k (run bx bl n (f - 1) (lam - (fb w / 1024 % 256 + 19)) (prOf (fa w)) 0 L2 h0 0) = some res := hk
  rw [c3] at hk
  cases hrun : run bx bl n (f - 1) (lam - (d'.2.2.1 + 19)) (prOf (fa w)) 0 L2 h0 0 with
  | none => rw [hrun] at hk; cases hk
  | some r' =>
    rw [hrun] at hk
    have hk : br (mono h0 r'.2.2.2.1) (after pc (nxt w) (fb w) L r k r') none = some res := hk
    obtain ⟨hmo, hk⟩ := br_s hk
    obtain ⟨hm1, hm2⟩ := an_t hmo
    have hm1 : h0.2.2.2.2.2.2.1 ≤ r'.2.2.2.1.2.2.2.2.2.2.1 := ble_t hm1
    have hm2 : h0.2.2.2.2.2.2.2 ≤ r'.2.2.2.1.2.2.2.2.2.2.2 := ble_t hm2
    -- the engine's own continuations
    have fin : (r'.1 = 0 ∧ (d'.2.2.2.1 = none → r'.2.2.2.2 = 0 ∧ k (nxt w) L r'.2.2.2.1 r = some res) ∧ (d'.2.2.2.1 ≠ none → dt (r1 r'.2.2.2.2) = 0 ∧ k (nxt w) L r'.2.2.2.1 (pu (tp r'.2.2.2.2) r) = some res)) ∨
        (r'.1 ≠ 0 ∧ d'.2.2.2.2 = [] ∧ ((1 ≤ r'.1 ∧ r'.1 ≤ 4) ∨ 16 ≤ r'.1) ∧ ∃ h3 : HP, h3.1 = r'.2.2.2.1.1 ∧ h3.2.1 = r'.2.2.2.1.2.1 ∧ h3.2.2.1 = r'.2.2.2.1.2.2.1 ∧ h3.2.2.2.1 = r'.2.2.2.1.2.2.2.1 ∧ h3.2.2.2.2.1 = r'.2.2.2.1.2.2.2.2.1 ∧ h3.2.2.2.2.2.1 = r'.2.2.2.1.2.2.2.2.2.1 ∧ h3.2.2.2.2.2.2.1 = kEnd r' ∧ h3.2.2.2.2.2.2.2 = sEnd r' ∧ exNo r'.1 ≤ 3 ∧
          (((fb w >>> (20 + 12 * exNo r'.1)) % 4096 ≠ 0 ∧ k ((fb w >>> (20 + 12 * exNo r'.1)) % 4096) L h3 33056565380087516495879 = some res) ∨ res = (16 + exNo r'.1, pc, L, h3, r))) := by
      obtain ⟨kd, pc', L', hq2, S2⟩ := r'
      have hk : af2 pc (nxt w) (fb w) L r k kd hq2 S2 = some res := hk
      rcases br_o hk with ⟨h1, h2⟩ | ⟨h1, h2⟩
      · have h1 := beq_t h1
        refine Or.inl ⟨h1, fun hn0 => ?_, fun hn0 => ?_⟩
        · have hb0 : Nat.beq (Nat.mod (Nat.div (fb w) 262144) 2) 1 = false := by
            cases hz : Nat.beq (Nat.mod (Nat.div (fb w) 262144) 2) 1 with
            | false => rfl
            | true => exact absurd hn0 (c5.mp (beq_t hz))
          have h2 : br (Nat.beq (Nat.mod (Nat.div (fb w) 262144) 2) 1) (br (Nat.beq (dt (r1 S2)) 0) (fc (pu (tp S2) r) (k (nxt w) L hq2)) none) (br (Nat.beq S2 0) (k (nxt w) L hq2 r) none) = some res := h2
          rw [hb0, br_false] at h2
          obtain ⟨h3, h4⟩ := br_s h2
          exact ⟨beq_t h3, h4⟩
        · have hb1 : Nat.beq (Nat.mod (Nat.div (fb w) 262144) 2) 1 = true := by
            have : Nat.mod (Nat.div (fb w) 262144) 2 = 1 := c5.mpr hn0
            rw [this]; rfl
          have h2 : br (Nat.beq (Nat.mod (Nat.div (fb w) 262144) 2) 1) (br (Nat.beq (dt (r1 S2)) 0) (fc (pu (tp S2) r) (k (nxt w) L hq2)) none) (br (Nat.beq S2 0) (k (nxt w) L hq2 r) none) = some res := h2
          rw [hb1, br_true] at h2
          obtain ⟨h3, h4⟩ := br_s h2
          exact ⟨beq_t h3, h4⟩
      · have h1 := beq_f h1
        obtain ⟨h3, h2⟩ := br_n h2
        have hh0 : d'.2.2.2.2 = [] := by
          by_cases q : d'.2.2.2.2 = []
          · exact q
          · exact absurd (c8 q) (beq_f h3)
        refine Or.inr ⟨h1, hh0, ?_⟩
        rcases br_o h2 with ⟨h4, h5⟩ | ⟨h4, h5⟩
        · have h4 := ble_t h4
          have ex : exNo kd = kd - 16 := by unfold exNo; rw [if_pos h4]
          obtain ⟨he9, h5⟩ := br_s (show br (Nat.ble (kd - 16) 3) _ none = some res from h5)
          have he9 := ble_t he9
          have h5 : fc (Nat.mod (Nat.shiftRight (fb w) (Nat.add 20 (Nat.mul 12 (kd - 16)))) 4096) (fun hd => br (Nat.beq hd 0) (some (Nat.add 16 (kd - 16), pc, L, hq2, r)) (k hd L hq2 33056565380087516495879)) = some res := h5
          rw [fc_eq] at h5
          refine ⟨Or.inr h4, hq2, rfl, rfl, rfl, rfl, rfl, rfl, by unfold kEnd; rw [if_neg (by show ¬ (1 ≤ kd ∧ kd ≤ 4); omega)], by unfold sEnd; rw [if_neg (by show ¬ (1 ≤ kd ∧ kd ≤ 4); omega)], by show exNo kd ≤ 3; rw [ex]; exact he9, ?_⟩
          show ((fb w >>> (20 + 12 * exNo kd)) % 4096 ≠ 0 ∧ _) ∨ _
          rw [ex]
          rcases br_o h5 with ⟨h6, h7⟩ | ⟨h6, h7⟩
          · exact Or.inr (Option.some.inj h7).symm
          · exact Or.inl ⟨beq_f h6, h7⟩
        · have h4 := ble_f h4
          obtain ⟨h8, h5⟩ := br_s h5
          have h8 := ble_t h8
          have ex : exNo kd = kd - 1 := by unfold exNo; rw [if_neg (by omega)]
          obtain ⟨x1, x2, x3, x4, x5, x6, x7, x8⟩ := hq2
          obtain ⟨he9, h5⟩ := br_s (show br (Nat.ble (kd - 1) 3) _ none = some res from h5)
          have he9 := ble_t he9
          have h5 : fc (Nat.mod (Nat.shiftRight (fb w) (Nat.add 20 (Nat.mul 12 (kd - 1)))) 4096) (fun hd => br (Nat.beq hd 0) (some (Nat.add 16 (kd - 1), pc, L, (x1, x2, x3, x4, x5, x6, x7 + 1, x8 + 6), r)) (k hd L (x1, x2, x3, x4, x5, x6, x7 + 1, x8 + 6) 33056565380087516495879)) = some res := h5
          rw [fc_eq] at h5
          refine ⟨Or.inl ⟨by show 1 ≤ kd; omega, h8⟩, (x1, x2, x3, x4, x5, x6, x7 + 1, x8 + 6), rfl, rfl, rfl, rfl, rfl, rfl, by unfold kEnd; rw [if_pos (by show 1 ≤ kd ∧ kd ≤ 4; omega)], by unfold sEnd; rw [if_pos (by show 1 ≤ kd ∧ kd ≤ 4; omega)], by show exNo kd ≤ 3; rw [ex]; exact he9, ?_⟩
          show ((fb w >>> (20 + 12 * exNo kd)) % 4096 ≠ 0 ∧ _) ∨ _
          rw [ex]
          rcases br_o h5 with ⟨h6, h7⟩ | ⟨h6, h7⟩
          · exact Or.inr (Option.some.inj h7).symm
          · exact Or.inl ⟨beq_f h6, h7⟩
    have k1 : r'.2.2.2.1.2.2.2.2.2.2.1 ≤ kEnd r' := by unfold kEnd; split <;> omega
    have s1 : r'.2.2.2.1.2.2.2.2.2.2.2 ≤ sEnd r' := by unfold sEnd; split <;> omega
    have kz : r'.1 = 0 → kEnd r' = r'.2.2.2.1.2.2.2.2.2.2.1 ∧ sEnd r' = r'.2.2.2.1.2.2.2.2.2.2.2 := fun q => by
      unfold kEnd sEnd; rw [if_neg (by omega), if_neg (by omega)]; exact ⟨rfl, rfl⟩
    have cnt : kEnd r' ≤ res.2.2.2.1.2.2.2.2.2.2.1 ∧ sEnd r' ≤ res.2.2.2.1.2.2.2.2.2.2.2 := by
      rcases fin with ⟨z0, z1, z2⟩ | ⟨z0, zh, z1, h3, -, -, -, -, -, -, e7, e8, -, z2 | z2⟩
      · obtain ⟨u1, u2⟩ := kz z0
        by_cases hn0 : d'.2.2.2.1 = none
        · have := (K _ _ _ _ (z1 hn0).2).1; omega
        · have := (K _ _ _ _ (z2 hn0).2).1; omega
      · have := (K _ _ _ _ z2.2).1; omega
      · subst z2; show kEnd r' ≤ h3.2.2.2.2.2.2.1 ∧ sEnd r' ≤ h3.2.2.2.2.2.2.2; omega
    refine ⟨by omega, fun ls st H locs cells slots rl => ?_⟩
    obtain ⟨ws, hL, hS, hH, hP, hD, hSS, hc1, hc2⟩ := rl
    obtain ⟨vs, rest, rfl, v2, v3, v4, v5⟩ := hh ws st [] hS (fun x hx => by rw [Nat.zero_mul] at hx; exact absurd (show pget (mk 0) x = 0 by rw [pget_mk, Nat.zero_div]; rfl) hx)
    rw [List.append_nil] at v4
    have act' := act
    obtain ⟨hx, hb, hr, hml, hown, hts, hK, hE, hlocks, hnm, htab, htr⟩ := act'
    have hcat := catk_sum 9 v3 f3
    rw [Nat.zero_add] at hcat
    have hM := met_of (n := n) (f := f - 1) (lam := lam - (d'.2.2.1 + 19)) (ws := ws) (vs := vs) hRS (hGPm _ _ c1) hrun (by rcases fin with z | z; exact Or.inl z.1; exact Or.inr z.2.2.1) (fun q => by rcases fin with z | z; exact z.1; exact absurd z.2.1 q) ⟨hm1, hm2⟩ (fun z0 => by
      rcases fin with z | z
      · exact ⟨fun q => (z.2.1 q).1, fun q => (z.2.2 q).1⟩
      · exact absurd z0 z.1) hH hD v4 (by rw [v5]; exact c4) c2.1 htr
    have hRun := run_of (R := R) (e := e) (below := below) (cells := cells) (slots := slots) (rest := rest) (ls := ls) act hpr c2 hM hP hSS hH v4 v2 f4 (by omega) (by omega) hL.size hcat (by omega)
    intro T hT X
    rcases hRun T hT X with ⟨v, st₀, t, T', L9, g0, X', hL9, e1, e2, hq, stp⟩ | ⟨q, st₀, t, T', L9, E, ce, g0, X', hL9, e1, e2, hq, hce, hcv, hcl, stp⟩
    · obtain ⟨hF, z0, ws', v', ev, hle, hH', hD', hP', hv'⟩ := hq
      cases ev
      obtain ⟨-, -, hS2⟩ := vx_keep g0 e1 hSS (fun _ _ h => h) (fun _ h => h) hL9 hF
      rcases fin with ⟨-, z1, z2⟩ | ⟨zz, -⟩
      · obtain ⟨u1, u2⟩ := kz z0
        rcases hv' with ⟨hn0, rfl⟩ | ⟨hn0, x, rfl, hxv⟩
        · obtain ⟨K1, K2⟩ := K _ _ _ _ (z1 hn0).2
          obtain ⟨t2, a1, b1⟩ := K2 ls rest T'.heap (locs ++ L9) _ _ ⟨ws', hL.mono hle, v3.mono hle, hH', by rw [e1]; exact hP', hD', hS2, by omega, by omega⟩ T' rfl X'
          refine ⟨t2, stp t2 ?_, b1⟩
          rw [c6] at a1
          exact a1
        · obtain ⟨K1, K2⟩ := K _ _ _ _ (z2 hn0).2
          obtain ⟨t2, a1, b1⟩ := K2 ls (x :: rest) T'.heap (locs ++ L9) _ _ ⟨ws', hL.mono hle, (v3.mono hle).push hxv, hH', by rw [e1]; exact hP', hD', hS2, by omega, by omega⟩ T' rfl X'
          refine ⟨t2, stp t2 ?_, b1⟩
          rw [c6] at a1
          exact a1
      · exact absurd z0 zz
    · obtain ⟨hF, zn, rfl, ws', hle, hH', hD', hP'⟩ := hq
      obtain ⟨-, -, hS2⟩ := vx_keep g0 e1 hSS (fun _ _ h => h) (fun _ h => h) hL9 hF
      have hce' : T'.heap[q]? = some ce := by rw [e1]; exact hce
      rcases fin with ⟨z0, -⟩ | ⟨-, zh, z1, h3, y1, y2, y3, y4, y5, y6, y7, y8, y9, z2⟩
      · exact absurd z0 zn
      · have hH3 := HR_bump hH' y1 y2 y3 y4 y5 y6
        have tl : vx_W p l e R s m args below meth c T'.heap (locs ++ L9) (cells + (kEnd r' - h0.2.2.2.2.2.2.1)) (slots + (sEnd r' - h0.2.2.2.2.2.2.2)) Q (F0 m pc ls rest) q := by
          rcases z2 with ⟨z2, z3⟩ | z2
          · obtain ⟨pre, x, suf, nm, t1, t2, t3, t4, t5, t6, t7⟩ := c7 _ y9 z2
            obtain ⟨K1, K2⟩ := K _ _ _ _ z3
            refine vx_catch hown pre x suf (htab.trans t1) (fun z hz => ?_) t3 t4 (hts _ t5) (hts _ t6) hce' hcv hcl ?_
            · rcases t7 z hz with q9 | ⟨q9, nm9, w1, w2⟩
              · exact Or.inl q9
              · exact Or.inr ⟨q9, nm9, hts _ w1, hE.2.2.2.2.2.1 _ w2⟩
            · rw [t2]
              refine K2 ls [.ref q] T'.heap (locs ++ L9) _ _ ⟨ws', hL.mono hle, ?_, hH3, by rw [e1]; exact hP', hD', hS2, by omega, by omega⟩
              have hnil : SR g ws' 0 [] := ⟨by decide, hS.pins.tr hle⟩
              have := hnil.push (VR_any g ws' q)
              exact this
          · have hE4 := hEnd.2.2.2
            subst z2
            exact hE4 (by show 16 ≤ 16 + _; omega) ls rest T'.heap (locs ++ L9) _ _ q ce ⟨ws', hL.mono hle, v3.mono hle, hH3, by rw [e1]; exact hP', hD', hS2, by show _ = h3.2.2.2.2.2.2.1; omega, by show _ = h3.2.2.2.2.2.2.2; omega⟩ hce' hcv (by rw [show (16 + exNo r'.1 : Nat) - 16 = exNo r'.1 by omega]; exact hcl)
        obtain ⟨t2, a1, b1⟩ := tl T' rfl X'
        exact ⟨t2, stp.trans a1, b1⟩
end CALL3

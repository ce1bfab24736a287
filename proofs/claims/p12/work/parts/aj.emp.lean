/-! The static empty array of the library's lists. -/
section NEMP
variable {ss : SS} {TBL : List Cond} {g : GG} {cl : List vw_C} {ft : Nat → Nat → Nat} {mdl : Nat → Option MD} {bl : Nat} {xs : Nat → Int32} {d : MD} {p : Program} {l : Launch} {e : Env} {R : Room} {s : State} {m : MethodId} {args : Array Value} {below : List Frame} {meth : Method} {c : Code} {Q : State → Prop} {kc0 ks0 pc n w : Nat} {L : LN} {h : HN} {S : List Value}
theorem vn_emp {ws : va_W} {hc : List CE} (hH : HNR g ws hc) {v : Value} (h0 : VN g ws (.ref 7000000000002) v) : v = .ref g.2.2.1 := by
  rcases h0 with ⟨a, e1, h1, -⟩ | ⟨q, -⟩ | ⟨-, q⟩ | ⟨q, -⟩
  · exact absurd (Nat.lt_trans (List.getElem?_eq_some_iff.mp h1).1 (by rw [hH.1]; exact Nat.lt_trans hH.2.1 (by decide : 7000000000001 < 7000000000002))) (Nat.lt_irrefl _)
  · exact absurd q (by decide)
  · exact q
  · exact absurd q (by decide)
theorem n_elen (act : Act ss TBL g cl bl xs d p l s m args meth c) (hG : G_alen ss TBL cl ft mdl d pc w) (hn : nxt w = n) (K : WpN g cl p l e R s m args below meth c Q d.2.2.1 kc0 ks0 n L h (.int 0 :: S)) : WpN g cl p l e R s m args below meth c Q d.2.2.1 kc0 ks0 pc L h (.ref 7000000000002 :: S) := by
  obtain ⟨hx, hb, hr, hml, hown, hts, hK, hE, hlocks, hnm, htab, htr⟩ := act
  obtain ⟨hd, hn9⟩ := hG
  subst hn
  intro ls st H locs cells slots r
  obtain ⟨ws, hL, ⟨v0, st0, rfl, h0, hS⟩, hH, hP, hD, hSS, hc1, hc2⟩ := r
  have h0 := vn_emp hH h0
  subst h0
  obtain ⟨cell, ty, q1, q2, q3, q4⟩ := hE.2.2.2.1
  refine W.alen (n := 0) hx hb (by rw [hSS.2.1 _ (Array.getElem?_eq_some_iff.mp q1).1 q4]; exact q1) q2 (by rw [q3]; decide) rfl rfl hd ?_
  show W p l e R s m args below meth c H locs cells slots Q (F0 m (pc + 1) ls (.int 0 :: st0))
  rw [← hn9]
  exact K _ _ _ _ _ _ ⟨ws, hL, SRN.push hS (show VN g ws (.int 0) _ from rfl), hH, hP, hD, hSS, hc1, hc2⟩
theorem n_aeq (act : Act ss TBL g cl bl xs d p l s m args meth c) (hG : G_acmpeq ss TBL cl ft mdl d pc w) {tgt : Nat} (ht : fa w = tgt) (K : WpN g cl p l e R s m args below meth c Q d.2.2.1 kc0 ks0 tgt L h S) : WpN g cl p l e R s m args below meth c Q d.2.2.1 kc0 ks0 pc L h (.ref 7000000000002 :: .ref 7000000000002 :: S) := by
  obtain ⟨hx, hb, hr, hml, hown, hts, hK, hE, hlocks, hnm, htab, htr⟩ := act
  obtain ⟨off, hd, ht9⟩ := hG
  subst ht
  intro ls st H locs cells slots r
  obtain ⟨ws, hL, ⟨v0, st0, rfl, h0, v1, st1, rfl, h1, hS⟩, hH, hP, hD, hSS, hc1, hc2⟩ := r
  have h0 := vn_emp hH h0
  have h1 := vn_emp hH h1
  subst h0
  subst h1
  exact lv_acmp_eq (rx := some g.2.2.1) (ry := some g.2.2.1) hx hb hd ht9 (fun _ => K _ _ _ _ _ _ ⟨ws, hL, hS, hH, hP, hD, hSS, hc1, hc2⟩) (fun q => absurd rfl q)
end NEMP

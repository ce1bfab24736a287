/-! The laid tableau is a system as Bland's argument takes it. -/
theorem spec_c {fac : Nat → Rat} {tl dm lm em cp : Nat → Int} {nn ng nl : Nat} {o : Int} (i : Nat) : (i < ng ∧ specS fac tl dm lm em cp nn ng nl o i = (fun g => if g = i then 1 else 0, ((cp i : Int) : Rat))) ∨ (ng ≤ i ∧ i < ng + (fl o nl).length ∧ ∃ x ∈ fl o nl, (fl o nl)[i - ng]? = some x ∧ specS fac tl dm lm em cp nn ng nl o i = flowS fac tl dm lm em nn ng x) ∨ (ng + (fl o nl).length ≤ i ∧ (fl o nl)[i - ng]? = none ∧ specS fac tl dm lm em cp nn ng nl o i = (fun g => if g < ng then 1 else 0, ((dsum dm nn : Int) : Rat))) := by
  unfold specS
  by_cases z : i < ng
  · rw [if_pos z]; exact Or.inl ⟨z, rfl⟩
  · rw [if_neg z]
    cases hx : (fl o nl)[i - ng]? with
    | none =>
      refine Or.inr (Or.inr ⟨?_, rfl, rfl⟩)
      have := List.getElem?_eq_none_iff.mp hx
      omega
    | some x =>
      refine Or.inr (Or.inl ⟨by omega, ?_, x, List.mem_of_getElem? hx, rfl, rfl⟩)
      have := (List.getElem?_eq_some_iff.mp hx).1
      omega
theorem ic_nn {x : Int} (h : 0 ≤ x) : ¬ ((x : Int) : Rat) < 0 := by
  have : (0 : Rat) ≤ ((x : Int) : Rat) := ic_le.mpr h
  grind
theorem sg_abs {x : Rat} {B : Nat} (h : Ab ((B : Nat) : Rat) x) : 0 ≤ sgR x * x ∧ sgR x * x ≤ ((B : Nat) : Rat) := by
  obtain ⟨h1, h2⟩ := h
  generalize ((B : Nat) : Rat) = b at *
  rcases sgR_sq x with ⟨e, q⟩ | ⟨e, q⟩
  · rw [e]; constructor <;> grind
  · rw [e]; constructor <;> grind
section SYS3
variable {tl dm lm em cp : Nat → Int} {nl n ng : Nat} {ou : Int} {fac ct : Nat → Rat} {T : Nat → Rat} {bz : Nat → Int}
theorem flow_I (h : Laid tl dm lm em cp nl n ng ou fac) {x : Nat × Nat × Int} (hx : x ∈ fl ou nl) : (0 < tA tl nl n (btO ou x.2.1) ∧ tA tl nl n (btO ou x.2.1) ≤ 16 ∧ tA tl nl n (btO ou x.2.1) ∣ lamA tl nl n ou) ∧ (∀ j, j < 4 → IsI ((tA tl nl n (btO ou x.2.1) : Rat) * fac (24 * x.2.1 + 4 * x.1 + j)) ∧ Ab 1 (fac (24 * x.2.1 + 4 * x.1 + j))) ∧ (∀ m, m ≤ n → ((tA tl nl n (btO ou x.2.1) : Nat) : Rat) * fac (24 * x.2.1 + 4 * x.1 + m) = ((rwc (rwL tl nl n (btO ou x.2.1) x.1) m : Int) : Rat)) ∧ (∀ m, (rwc (rwL tl nl n (btO ou x.2.1) x.1) m).natAbs ≤ tA tl nl n (btO ou x.2.1)) ∧ InP (poolL tl nl n ou) (rwL tl nl n (btO ou x.2.1) x.1) := by
  obtain ⟨m1, m2, m3, m4⟩ := fl_mem hx
  obtain ⟨hG, -, -, -, -, -, -, f0, f1⟩ := h
  have hl := lam_ok hG
  obtain ⟨hn1, hn3, h6, hN, hC, ho⟩ := hG
  by_cases z : x.2.1 = 0
  · have eb : btO ou x.2.1 = -1 := if_pos z
    have hb : (x.1 : Int) ≠ -1 := by omega
    rw [eb, z]
    obtain ⟨-, -, -, -, e4⟩ := net_el hN hn1 hn3 h6 hC
    refine ⟨⟨hl.2.2.2.2.1, hl.2.2.2.2.2.1, hl.2.2.1⟩, fun j hj => ?_, fun m hm => ?_, row_le hN hn3 m1 hb e4, ?_⟩
    · rw [f0 _ (by omega)]
      exact facG_b hN hn1 hn3 h6 hC (by omega)
    · rw [f0 _ (by omega)]
      exact fac_t (lo := 0) hN hn1 hn3 h6 hC m1 hb hm
    · unfold poolL
      rcases row_in hN hn3 m1 hb with q | q
      · exact Or.inl (List.mem_append.mpr (Or.inl (List.mem_append.mpr (Or.inl q))))
      · exact Or.inr (List.mem_append.mpr (Or.inl (List.mem_append.mpr (Or.inl q))))
  · have z1 : x.2.1 = 1 := by omega
    have eb : btO ou x.2.1 = ou := if_neg z
    obtain ⟨o1, o2⟩ := m4 z1
    have hC2 := (ho.resolve_left o1).2.2
    rw [eb, z1]
    obtain ⟨-, -, -, -, e4⟩ := net_el hN hn1 hn3 h6 hC2
    refine ⟨⟨(hl.2.2.2.2.2.2 o1).1, (hl.2.2.2.2.2.2 o1).2, hl.2.2.2.1 o1⟩, fun j hj => ?_, fun m hm => ?_, row_le hN hn3 m1 o2 e4, ?_⟩
    · rw [f1 o1 _ (by omega) (by omega)]
      exact facG_b hN hn1 hn3 h6 hC2 (by omega)
    · rw [f1 o1 _ (by omega) (by omega)]
      exact fac_t (lo := 24) hN hn1 hn3 h6 hC2 m1 o2 hm
    · unfold poolL
      rw [if_neg o1]
      rcases row_in hN hn3 m1 o2 with q | q
      · exact Or.inl (List.mem_append.mpr (Or.inl (List.mem_append.mpr (Or.inr q))))
      · exact Or.inr (List.mem_append.mpr (Or.inl (List.mem_append.mpr (Or.inr q))))
theorem mul_pm {a b : Int} (h : a = 1 ∨ a = -1) (g : b = 1 ∨ b = -1) : a * b = 1 ∨ a * b = -1 := by
  rcases h with rfl | rfl <;> rcases g with rfl | rfl <;> decide
theorem abs_pm {a : Int} (h : a = 1 ∨ a = -1) (c : Int) : (a * c).natAbs = c.natAbs := by
  rcases h with rfl | rfl
  · rw [Int.one_mul]
  · rw [show -1 * c = -c by omega, Int.natAbs_neg]
theorem FF_pl (h : Laid tl dm lm em cp nl n ng ou fac) {N : Nat} (S : Nat → RS9) (hN : N = ng + (fl ou nl).length + 1) {a : I3} (ha : Pl N ng (FF tl nl n ng ou S) a) : InP (poolL tl nl n ou) a := by
  have hE : ∀ a ∈ E4, InP (poolL tl nl n ou) a := fun a q => Or.inl (List.mem_append.mpr (Or.inr q))
  rcases ha with ⟨i, i1, i2, rfl⟩ | rfl | rfl | rfl | rfl
  · have hlt : i - ng < (fl ou nl).length := by omega
    have hx : (fl ou nl)[i - ng]? = some ((fl ou nl)[i - ng]) := List.getElem?_eq_getElem hlt
    generalize (fl ou nl)[i - ng] = x at hx
    have hm := List.mem_of_getElem? hx
    have hf := (flow_I h hm).2.2.2.2
    have hs := mul_pm (sgI_v (S i).2) (fl_mem hm).2.2.1
    have e : ∀ m, FF tl nl n ng ou S i m = sgI (S i).2 * x.2.2 * rwc (rwL tl nl n (btO ou x.2.1) x.1) m := fun m => by
      unfold FF
      rw [if_neg (by omega), hx]
    unfold frow
    rw [e, e, e]
    generalize rwL tl nl n (btO ou x.2.1) x.1 = y at *
    have hy : InP (poolL tl nl n ou) y := hf
    rcases hs with q | q
    · rw [q, Int.one_mul, Int.one_mul, Int.one_mul]
      exact hy
    · rw [q, show ∀ z : Int, -1 * z = -z from fun z => by omega, show ∀ z : Int, -1 * z = -z from fun z => by omega, show ∀ z : Int, -1 * z = -z from fun z => by omega]
      show InP _ (ng3 y)
      rcases hy with q | q
      · exact Or.inr (by rw [ng3_ng]; exact q)
      · exact Or.inl q
  · exact hE _ (by decide)
  · exact hE _ (by decide)
  · exact hE _ (by decide)
  · exact hE _ (by decide)
theorem sys_t (h : Laid tl dm lm em cp nl n ng ou fac) {cost : Nat → Int} (hcost : ∀ g, 0 ≤ cost g ∧ cost g ≤ 99) (hct : ∀ g, g < ng → ct g = ((cost g : Int) : Rat)) (hT : TIf T bz (ng + (fl ou nl).length) (specS fac tl dm lm em cp (n + 1) ng nl ou) ng ct) :
    Sys (ng + (fl ou nl).length + 1) ng (fun g => (tl (17 + g)).toNat) (FF tl nl n ng ou (specS fac tl dm lm em cp (n + 1) ng nl ou)) (tauF tl nl n ng ou) (fun i => sgR (specS fac tl dm lm em cp (n + 1) ng nl ou i).2) (fun i => sgR (specS fac tl dm lm em cp (n + 1) ng nl ou i).2 * (specS fac tl dm lm em cp (n + 1) ng nl ou i).2) (lamA tl nl n ou) cost (rowT T) (golT T) (fun i => (bz i).toNat) := by
  have hF := laid_F h
  have hlam := lam_ok h.1
  have h0 := h
  obtain ⟨hG, h5, hat, hdm, hlm, hem, hcp, f0, f1⟩ := h
  obtain ⟨hn1, hn3, h6, hN, hC, ho⟩ := hG
  obtain ⟨t1, t2, t3, t4, t5, t6, t7⟩ := hT
  have hsm := fun i => specS_sm (nn := n + 1) (nl := nl) (by omega) h6 (fun g hg => ⟨(hat g hg).1, by have := (hat g hg).2; omega⟩) hdm hlm hem hcp hF.1 hF.2 i
  have hds := dsum_b hdm (n + 1)
  have hlen := fl_le (o := ou) nl
  have hlen2 : (fl ou nl).length ≤ 22 := by
    rcases ho with q | q
    · have := hlen.2.1 q; omega
    · have := hlen.2.2 q.1 q.2.1; omega
  have hsp := fun i => spec_c (fac := fac) (tl := tl) (dm := dm) (lm := lm) (em := em) (cp := cp) (nn := n + 1) (ng := ng) (nl := nl) (o := ou) i
  generalize hSS : specS fac tl dm lm em cp (n + 1) ng nl ou = S at *
  have hnn : ∀ i, i < ng ∨ ng + (fl ou nl).length ≤ i → ¬ (S i).2 < 0 := fun i hi => by
    rcases hsp i with ⟨a, e⟩ | ⟨a, b, -⟩ | ⟨a, -, e⟩
    · rw [e]; exact ic_nn (hcp i).1
    · omega
    · rw [e]; exact ic_nn hds.1
  have hsg1 : ∀ i, i < ng ∨ ng + (fl ou nl).length ≤ i → sgR (S i).2 = 1 := fun i hi => if_neg (hnn i hi)
  have hfx : ∀ i, ng ≤ i → i < ng + (fl ou nl).length → ∃ x ∈ fl ou nl, (fl ou nl)[i - ng]? = some x ∧ S i = flowS fac tl dm lm em (n + 1) ng x := fun i h1 h2 => by
    rcases hsp i with ⟨a, -⟩ | ⟨-, -, q⟩ | ⟨a, -⟩
    · omega
    · exact q
    · omega
  have hrow : ∀ v i, i < ng + (fl ou nl).length → rowv (rowT T) (fun i => (bz i).toNat) v i = sgR (S i).2 * (smq (fun g => (S i).1 g * v g) 5 + v (5 + i) + (S i).2 * v 34) + (if 100 ≤ (bz i).toNat then v (bz i).toNat else 0) := fun v i hi => by
    unfold rowv
    rw [smq_cong (fun j hj => by show rowT T i j * v j = rowS (S i) i j * v j; rw [show rowT T i j = rowS (S i) i j from t1 i j hi hj]), smq_rowS _ _ (by omega)]
  have hrowN : ∀ v, rowv (rowT T) (fun i => (bz i).toNat) v (ng + (fl ou nl).length) = smq v ng + ((dsum dm (n + 1) : Int) : Rat) * v 34 + v (100 + (ng + (fl ou nl).length)) := fun v => by
    unfold rowv
    rw [smq_cong (fun j hj => by show rowT T (ng + (fl ou nl).length) j * v j = opn (S (ng + (fl ou nl).length)) j * v j; rw [show rowT T (ng + (fl ou nl).length) j = opn (S (ng + (fl ou nl).length)) j from t2 j hj]), smq_opn]
    rcases hsp (ng + (fl ou nl).length) with ⟨a, -⟩ | ⟨-, b, -⟩ | ⟨a, -, e⟩
    · omega
    · omega
    · have e7 : (bz (ng + (fl ou nl).length)).toNat = 100 + (ng + (fl ou nl).length) := by rw [t7]; omega
      show _ + (if 100 ≤ (bz (ng + (fl ou nl).length)).toNat then v (bz (ng + (fl ou nl).length)).toNat else 0) = _
      rw [e, e7, if_pos (by omega)]
      congr 2
      rw [show (5 : Nat) = ng + (5 - ng) by omega, smq_ext (5 - ng) (fun g q1 q2 => by show (if g < ng then (1 : Rat) else 0) * v g = 0; rw [if_neg (by omega)]; grind)]
      exact smq_cong (fun g hg => by show (if g < ng then (1 : Rat) else 0) * v g = v g; rw [if_pos hg]; grind)
  have hb : ∀ i, i < ng + (fl ou nl).length → (bz i).toNat = if (S i).2 < 0 then 100 + i else 5 + i := fun i hi => by
    rw [t6 i hi]
    split <;> omega
  have hsd : ∀ i, 0 ≤ sgR (S i).2 * (S i).2 ∧ sgR (S i).2 * (S i).2 ≤ ((101000 : Nat) : Rat) := fun i => sg_abs (hsm i).2.2.1
  refine ⟨⟨h5, by omega, by omega, hlam.1⟩, fun g hg => ?_, fun i => ?_, fun i => ?_, fun i m => ?_, fun i i1 i2 => ?_, fun i hi => ?_, ?_, fun v i hi => ?_, fun v i i1 i2 => ?_, fun v => ?_, fun i => ?_, fun i hi => if_pos hi, ?_, fun i => ⟨(hsd i).1, (hsd i).2⟩, fun i hi => ?_, fun i hi => ?_, fun v => ?_, fun v => ?_, fun v k k2 k7 => ?_, hcost, ?_⟩
  · have := hat g hg
    show (tl (17 + g)).toNat < 4
    omega
  · unfold FF
    split
    · rfl
    · split
      · exact Int.mul_zero _
      · rfl
  · unfold tauF
    split
    · exact ⟨by decide, by decide, Nat.one_dvd _⟩
    · split
      · next x hx => exact (flow_I h0 (List.mem_of_getElem? hx)).1
      · exact ⟨by decide, by decide, Nat.one_dvd _⟩
  · unfold FF tauF
    split
    · exact Nat.zero_le _
    · split
      · next x hx =>
        rw [abs_pm (mul_pm (sgI_v _) (fl_mem (List.mem_of_getElem? hx)).2.2.1)]
        exact (flow_I h0 (List.mem_of_getElem? hx)).2.2.2.1 m
      · exact Nat.zero_le _
  · have := hb i (by omega)
    rcases sgR_sq (S i).2 with ⟨e, q⟩ | ⟨e, q⟩
    · rw [if_neg q] at this; exact Or.inl ⟨e, this⟩
    · rw [if_pos q] at this; exact Or.inr ⟨e, this⟩
  · have := hb i (by omega)
    rw [if_neg (hnn i (Or.inl hi))] at this
    exact this
  · show (bz (ng + (fl ou nl).length)).toNat = _
    rw [t7]
    omega
  · rw [hrow v i (by omega)]
    have e1 := hsg1 i (Or.inl hi)
    have e2 := hb i (by omega)
    rw [if_neg (hnn i (Or.inl hi))] at e2
    rw [if_neg (by omega), e1]
    rcases hsp i with ⟨-, e⟩ | ⟨a, -⟩ | ⟨a, -⟩
    · have e3 : smq (fun g => (S i).1 g * v g) 5 = v i := by
        rw [e, smq_cong (g := fun g => if i = g then v g else 0) (fun g hg => by
          show (if g = i then (1 : Rat) else 0) * v g = _
          by_cases z : g = i
          · rw [if_pos z, if_pos z.symm]; grind
          · rw [if_neg z, if_neg (fun q => z q.symm)]; grind), smq_single (fun g => v g) i 5, if_pos (by omega)]
      rw [e3]
      grind
    · omega
    · omega
  · rw [hrow v i (by omega)]
    obtain ⟨x, hx, hx2, e⟩ := hfx i i1 (by omega)
    have hfl := flow_I h0 hx
    have et : tauF tl nl n ng ou i = tA tl nl n (btO ou x.2.1) := by unfold tauF; rw [if_neg (by omega), hx2]
    have ef : ∀ m, FF tl nl n ng ou S i m = sgI (S i).2 * x.2.2 * rwc (rwL tl nl n (btO ou x.2.1) x.1) m := fun m => by unfold FF; rw [if_neg (by omega), hx2]
    have es : smq (fun g => ((FF tl nl n ng ou S i ((tl (17 + g)).toNat) : Int) : Rat) * v g) ng = ((tA tl nl n (btO ou x.2.1) : Nat) : Rat) * (sgR (S i).2 * smq (fun g => (S i).1 g * v g) ng) := by
      rw [← smq_mul, ← smq_mul]
      refine smq_cong (fun g hg => ?_)
      have ha := hat g hg
      have e9 : (S i).1 g = ((x.2.2 : Int) : Rat) * fac (24 * x.2.1 + 4 * x.1 + (tl (17 + g)).toNat) := by
        rw [e]
        show (if g < ng then cfn fac tl x.2.2 (24 * x.2.1 + 4 * x.1) g else 0) = _
        rw [if_pos hg]
        rfl
      rw [ef, Rat.intCast_mul, Rat.intCast_mul, sgI_c, ← hfl.2.2.1 _ (by omega), e9]
      grind
    have e5 : smq (fun g => (S i).1 g * v g) 5 = smq (fun g => (S i).1 g * v g) ng := by
      rw [show (5 : Nat) = ng + (5 - ng) by omega]
      refine smq_ext (5 - ng) (fun g q1 q2 => ?_)
      rw [e]
      show (if g < ng then cfn fac tl x.2.2 (24 * x.2.1 + 4 * x.1) g else 0) * v g = 0
      rw [if_neg (by omega)]
      grind
    have hq : ((tA tl nl n (btO ou x.2.1) : Nat) : Rat) ≠ 0 := natQ_ne hfl.1.1
    show _ = smq (fun g => ((FF tl nl n ng ou S i ((tl (17 + g)).toNat) : Int) : Rat) * v g) ng / ((tauF tl nl n ng ou i : Nat) : Rat) + sgR (S i).2 * v (5 + i) + sgR (S i).2 * (S i).2 * v 34 + (if 100 ≤ (bz i).toNat then v (bz i).toNat else 0)
    rw [es, et, e5, Rat.div_def]
    have hc := Rat.mul_inv_cancel _ hq
    generalize ((tA tl nl n (btO ou x.2.1) : Nat) : Rat) = t at *
    generalize smq (fun g => (S i).1 g * v g) ng = y at *
    rw [show t * (sgR (S i).2 * y) * t⁻¹ = (t * t⁻¹) * (sgR (S i).2 * y) by grind, hc]
    grind
  · show rowv (rowT T) (fun i => (bz i).toNat) v (ng + (fl ou nl).length) = _
    rw [hrowN v]
    show _ = smq v ng + sgR (S (ng + (fl ou nl).length)).2 * (S (ng + (fl ou nl).length)).2 * v 34 + v (100 + (ng + (fl ou nl).length))
    rw [hsg1 _ (Or.inr (Nat.le_refl _))]
    rcases hsp (ng + (fl ou nl).length) with ⟨a, -⟩ | ⟨-, b, -⟩ | ⟨a, -, e⟩
    · omega
    · omega
    · rw [e]; grind
  · have hsI : IsI (sgR (S i).2) := by rw [← sgI_c]; exact IsI.int _
    show IsI (((tauF tl nl n ng ou i : Nat) : Rat) * (sgR (S i).2 * (S i).2))
    rcases hsp i with ⟨a, e⟩ | ⟨a, b, x, hx, hx2, e⟩ | ⟨a, hx2, e⟩
    · rw [e]
      refine (IsI.int (tauF tl nl n ng ou i : Int)).mul (IsI.mul ?_ (IsI.int _))
      rw [← sgI_c]; exact IsI.int _
    · have hfl := flow_I h0 hx
      have et : tauF tl nl n ng ou i = tA tl nl n (btO ou x.2.1) := by unfold tauF; rw [if_neg (by omega), hx2]
      have hs := sdn_ok (lm := if x.2.1 = 0 then lm x.1 else em x.1) (fl_mem hx).2.2.1 hfl.2.1 hdm (n + 1) (by omega)
      rw [et, show ((tA tl nl n (btO ou x.2.1) : Nat) : Rat) * (sgR (S i).2 * (S i).2) = sgR (S i).2 * (((tA tl nl n (btO ou x.2.1) : Nat) : Rat) * (S i).2) by grind]
      refine hsI.mul ?_
      rw [e]
      exact hs.1
    · rw [e]
      refine (IsI.int (tauF tl nl n ng ou i : Int)).mul (IsI.mul ?_ (IsI.int _))
      rw [← sgI_c]; exact IsI.int _
  · show tauF tl nl n ng ou (ng + (fl ou nl).length) = 1
    unfold tauF
    rw [if_neg (by omega), Nat.add_sub_cancel_left, List.getElem?_eq_none (Nat.le_refl _)]
  · show sgR (S i).2 * (S i).2 ≤ 200
    rw [hsg1 i (Or.inl hi)]
    rcases hsp i with ⟨a, e⟩ | ⟨a, -⟩ | ⟨a, -⟩
    · rw [e]
      have : ((cp i : Int) : Rat) ≤ ((200 : Int) : Rat) := ic_le.mpr (hcp i).2
      have e9 : ((200 : Int) : Rat) = 200 := rfl
      rw [e9] at this
      show 1 * ((cp i : Int) : Rat) ≤ 200
      grind
    · omega
    · omega
  · show sgR (S i).2 * (S i).2 ≤ 1000
    by_cases z : i < ng + (fl ou nl).length
    · have e2 := hb i z
      have hi : 100 ≤ (bz i).toNat := hi
      by_cases q : (S i).2 < 0
      · exact (sg_abs ((hsm i).2.2.2 q)).2
      · rw [if_neg q] at e2; omega
    · rw [hsg1 i (Or.inr (by omega))]
      rcases hsp i with ⟨a, -⟩ | ⟨-, b, -⟩ | ⟨a, -, e⟩
      · omega
      · omega
      · rw [e]
        have : ((dsum dm (n + 1) : Int) : Rat) ≤ ((1000 : Int) : Rat) := ic_le.mpr (by omega)
        have e9 : ((1000 : Int) : Rat) = 1000 := rfl
        rw [e9] at this
        show 1 * ((dsum dm (n + 1) : Int) : Rat) ≤ 1000
        grind
  · have e1 : gol (golT T) v 0 = smq (fun j => -(smq (fun i => if (S i).2 < 0 then rowS (S i) i j else 0) (ng + (fl ou nl).length) + opn (S (ng + (fl ou nl).length)) j) * v j) 35 := smq_cong (fun j hj => by rw [show golT T 0 j = _ from t3 j hj])
    rw [e1, smq_cong (g := fun j => (-1) * (smq (fun i => if (S i).2 < 0 then rowS (S i) i j else 0) (ng + (fl ou nl).length) * v j + opn (S (ng + (fl ou nl).length)) j * v j)) (fun j _ => by grind), smq_mul, smq_add, smq_swap]
    show _ = -(smq _ (ng + (fl ou nl).length) + (if 100 ≤ (bz (ng + (fl ou nl).length)).toNat then rowv (rowT T) (fun i => (bz i).toNat) v (ng + (fl ou nl).length) - v (bz (ng + (fl ou nl).length)).toNat else 0))
    have e7 : (bz (ng + (fl ou nl).length)).toNat = 100 + (ng + (fl ou nl).length) := by rw [t7]; omega
    have e8 : rowv (rowT T) (fun i => (bz i).toNat) v (ng + (fl ou nl).length) = smq (fun j => opn (S (ng + (fl ou nl).length)) j * v j) 35 + v (100 + (ng + (fl ou nl).length)) := by
      unfold rowv
      rw [smq_cong (fun j hj => by show rowT T (ng + (fl ou nl).length) j * v j = opn (S (ng + (fl ou nl).length)) j * v j; rw [show rowT T (ng + (fl ou nl).length) j = opn (S (ng + (fl ou nl).length)) j from t2 j hj])]
      show _ + (if 100 ≤ (bz (ng + (fl ou nl).length)).toNat then v (bz (ng + (fl ou nl).length)).toNat else 0) = _
      rw [e7, if_pos (by omega)]
    rw [e7, if_pos (by omega), e8]
    have e9 : smq (fun i => smq (fun j => (if (S i).2 < 0 then rowS (S i) i j else 0) * v j) 35) (ng + (fl ou nl).length) = smq (fun i => if 100 ≤ (bz i).toNat then rowv (rowT T) (fun i => (bz i).toNat) v i - v (bz i).toNat else 0) (ng + (fl ou nl).length) := smq_cong (fun i hi => by
      have e2 := hb i hi
      by_cases q : (S i).2 < 0
      · rw [if_pos q] at e2
        rw [e2, if_pos (by omega)]
        unfold rowv
        show _ = smq (fun j => rowT T i j * v j) 35 + (if 100 ≤ (bz i).toNat then v (bz i).toNat else 0) - v (100 + i)
        rw [e2, if_pos (by omega), smq_cong (f := fun j => rowT T i j * v j) (g := fun j => (if (S i).2 < 0 then rowS (S i) i j else 0) * v j) (fun j hj => by rw [if_pos q, show rowT T i j = rowS (S i) i j from t1 i j hi hj])]
        grind
      · rw [if_neg q] at e2
        rw [e2, if_neg (by omega)]
        exact smq_zero (fun j _ => by rw [if_neg q]; grind))
    rw [e9]
    grind
  · have e1 : gol (golT T) v 1 = smq (fun j => if j < ng then ((cost j : Int) : Rat) * v j else 0) 35 := smq_cong (fun j hj => by
      rw [show golT T 1 j = _ from t4 j hj]
      by_cases z : j < ng
      · rw [if_pos z, if_pos z, hct j z]
      · rw [if_neg z, if_neg z]; grind)
    rw [e1, show (35 : Nat) = ng + (35 - ng) by omega, smq_ext (35 - ng) (fun g q1 q2 => if_neg (by omega))]
    exact smq_cong (fun j hj => if_pos hj)
  · have e1 : gol (golT T) v k = smq (fun j => if k - 2 = j then (if k - 2 < ng then v j else 0) else 0) 35 := smq_cong (fun j hj => by
      have := t5 (k - 2) j (by omega) hj
      rw [show 35 * (32 + (k - 2)) + j = 35 * (30 + k) + j by omega] at this
      rw [show golT T k j = _ from this]
      by_cases z : k - 2 = j
      · rw [if_pos z]
        by_cases z2 : k - 2 < ng
        · rw [if_pos ⟨z.symm, z2⟩, if_pos z2]; grind
        · rw [if_neg (fun q => z2 q.2), if_neg z2]; grind
      · rw [if_neg (fun q => z q.1.symm), if_neg z]; grind)
    rw [e1, smq_single (fun j => if k - 2 < ng then v j else 0) (k - 2) 35, if_pos (by omega)]
  · obtain ⟨S9, -, hp⟩ := net_pool h0.1
    obtain ⟨p1, p2⟩ := inP_t hp
    refine ⟨fun a b c ha hb hc => ?_, fun a b ha hb => ?_⟩
    · have := dok_t (p2 a b c (FF_pl h0 S rfl ha) (FF_pl h0 S rfl hb) (FF_pl h0 S rfl hc))
      exact ⟨this.1, this.2.1⟩
    · exact p1 a b (FF_pl h0 S rfl ha) (FF_pl h0 S rfl hb)
end SYS3
